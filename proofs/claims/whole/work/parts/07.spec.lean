/-! ===== the house as numbers: what each call answers (t: which exception, 0 none; r: the answer; n: the state behind it) ===== -/
def sIn (v l m : Int) : Int := if l ≤ v ∧ v ≤ m then 1 else 0
theorem sIn_01 (v l m : Int) : sIn v l m = 0 ∨ sIn v l m = 1 := by unfold sIn; split; exact Or.inr rfl; exact Or.inl rfl
theorem sIn_1 {v l m : Int} (h : l ≤ v ∧ v ≤ m) : sIn v l m = 1 := if_pos h
theorem sIn_0 {v l m : Int} (h : ¬ (l ≤ v ∧ v ≤ m)) : sIn v l m = 0 := if_neg h
def sOr (x y : Int) : Int := (jI x ||| jI y).toInt
def sBit (t : Int) : Int := (jI 1 <<< (jI t &&& 31)).toInt
/-- 1 if the set has the member k -/
def sHas (set k : Int) : Int := if (jI set >>> (jI k &&& 31)) &&& jI 1 = jI 1 then 1 else 0
def sPlay (s : Sg) (t : Int) : Int := if s 2 t = 0 then 1 else if s 2 t = 2 ∧ s 0 0 - s 3 t < 30 then 1 else 0
/-- the seconds of the first n spans of a tape -/
def sLenTo (s : Sg) (t : Int) : Nat → Int
  | 0 => 0
  | n + 1 => sLenTo s t n + (s 10 (20 * t + n) - s 9 (20 * t + n))
def sLen (s : Sg) (t : Int) : Int := sLenTo s t (s 7 t).toNat
def sTakesTo (s : Sg) (t : Int) : Nat → Int
  | 0 => 0
  | n + 1 => sOr (sTakesTo s t n) (sBit (s 8 (20 * t + n)))
def sTakes (s : Sg) (t : Int) : Int := sTakesTo s t (s 7 t).toNat
/-- how many of the first n spans have a second from f to u -/
def sSpansTo (s : Sg) (t f u : Int) : Nat → Int
  | 0 => 0
  | n + 1 => sSpansTo s t f u n + (if sLenTo s t n < u ∧ f < sLenTo s t (n + 1) then 1 else 0)
def sSpans (s : Sg) (t f u : Int) : Int := sSpansTo s t f u (s 7 t).toNat
/-- a span at the end of the tape that is made -/
def sPuts (s : Sg) (take f u : Int) : Sg :=
  let T := s 1 0
  let p := 20 * T + s 7 T
  sU (sU (sU (sU s 8 p take) 9 p f) 10 p u) 7 T (s 7 T + 1)
def sSecTo (s : Sg) (side artist : Int) : Nat → Int
  | 0 => 0
  | n + 1 => sSecTo s side artist n + (if artist = -1 ∨ artist = n then s 14 (6 * side + n) else 0)
/-- the seconds of an artist on a side, -1: of all -/
def sSec (s : Sg) (side artist : Int) : Int := sSecTo s side artist 6
def sDue (s : Sg) (sale artist many : Int) : Int := many * s 34 (6 * sale + artist) * sSec s (s 32 sale / 12) artist / (100 * sSec s (s 32 sale / 12) (-1))
def sDiscsTo (s : Sg) (st : Int) : Nat → Int
  | 0 => 0
  | n + 1 => sDiscsTo s st n + (if s 23 n = st then 1 else 0)
/-- how many discs a stamper's are -/
def sDiscs (s : Sg) (st : Int) : Int := sDiscsTo s st (s 22 0).toNat
def sNoise (s : Sg) (d p : Int) : Int := 5 * s 25 (8 * d + p) + s 24 d * (p + 1) / 16
def sNeed (st : Int) : Int := if st % 12 = 0 then -1 else if st % 12 % 4 = 0 then st - 4 else st - 1
def sNamed (s : Sg) (side mother number : Int) : Int := if (0 ≤ side ∧ side ≤ s 13 0 - 1) ∧ (0 ≤ mother ∧ mother ≤ 2) ∧ (0 ≤ number ∧ number ≤ 3) then 1 else 0
def sSt (side mother number : Int) : Int := 12 * side + 4 * mother + number
/-- the set has members, and none but discs that there are -/
def sAre (s : Sg) (set : Int) : Int := if ¬ set = 0 ∧ jI set &&& (jI (sBit (s 22 0) - 1) ^^^ jI (-1)) = 0 then 1 else 0
/-- the side of the last member below n, -1 without -/
def sSideTo (s : Sg) (set : Int) : Nat → Int
  | 0 => -1
  | n + 1 => if sHas set n = 1 then s 23 n / 12 else sSideTo s set n
/-- 1 as long as the members below n are of one side -/
def sOneTo (s : Sg) (set : Int) : Nat → Int
  | 0 => 1
  | n + 1 => if sHas set n = 1 then (if sOneTo s set n = 0 then 0 else if sSideTo s set n = -1 ∨ sSideTo s set n = s 23 n / 12 then 1 else 0) else sOneTo s set n
def sOne (s : Sg) (set : Int) : Int := sOneTo s set (s 22 0).toNat
theorem sOneTo_01 (s : Sg) (set : Int) (n : Nat) : sOneTo s set n = 0 ∨ sOneTo s set n = 1 := by
  induction n with
  | zero => exact Or.inr rfl
  | succ n ih => unfold sOneTo; split; split; exact Or.inl rfl; split; exact Or.inr rfl; exact Or.inl rfl; exact ih
/-- the member below n with the least noise, the lowest of several; -1 without -/
def sJoinTo (s : Sg) (set p : Int) : Nat → Int
  | 0 => -1
  | n + 1 => if sHas set n = 1 ∧ (sJoinTo s set p n = -1 ∨ sNoise s n p < sNoise s (sJoinTo s set p n) p) then (n : Int) else sJoinTo s set p n
def sJoin (s : Sg) (set p : Int) : Int := sJoinTo s set p (s 22 0).toNat
theorem sJoinTo_in (s : Sg) (set p : Int) (n : Nat) : -1 ≤ sJoinTo s set p n ∧ sJoinTo s set p n < n ∨ (n = 0 ∧ sJoinTo s set p n = -1) := by
  induction n with
  | zero => exact Or.inr ⟨rfl, rfl⟩
  | succ n ih => left; unfold sJoinTo; split <;> omega
def sProgTo (s : Sg) : Nat → Int
  | 0 => 3 * (s 11 0 - 1)
  | n + 1 => sProgTo s n + sLen s (s 12 n)
def sPlaysTo (s : Sg) : Nat → Int
  | 0 => 1
  | n + 1 => if sPlaysTo s n = 0 then 0 else sPlay s (s 12 n)
theorem sPlay_01 (s : Sg) (t : Int) : sPlay s t = 0 ∨ sPlay s t = 1 := by
  unfold sPlay; split; exact Or.inr rfl; split; exact Or.inr rfl; exact Or.inl rfl
theorem sPlaysTo_01 (s : Sg) (n : Nat) : sPlaysTo s n = 0 ∨ sPlaysTo s n = 1 := by
  induction n with
  | zero => exact Or.inr rfl
  | succ n ih => unfold sPlaysTo; split; exact Or.inl rfl; exact sPlay_01 _ _
def sCanCut (s : Sg) (level : Int) : Int := if 0 < s 11 0 ∧ sPlaysTo s (s 11 0).toNat = 1 ∧ sProgTo s (s 11 0).toNat ≤ 1500 - 150 * level ∧ s 13 0 < 10 then 1 else 0
def sMakes (s : Sg) (g v : Int) : Sg := sU (sU (sU (sU s 2 (s 1 0) 0) 4 (s 1 0) g) 5 (s 1 0) v) 1 0 (s 1 0 + 1)
def jW (x : Int) : Int := (jI x).toInt
theorem jW_eq (x : Int) : jI (jW x) = jI x := (jI_of (jI x)).symm
theorem jW_rng (x : Int) : -2147483648 ≤ jW x ∧ jW x ≤ 2147483647 := jI_rng _
/-- an account's change as discs are taken off a sale -/
def sOffTo (s : Sg) (sale many : Int) : Nat → Sg
  | 0 => s
  | n + 1 => sU (sOffTo s sale many n) 36 n (jW (s 36 n + (sDue s sale n (s 33 sale - many) - sDue s sale n (s 33 sale))))
def sOff (s : Sg) (sale many : Int) : Sg := sU (sOffTo s sale many 6) 33 sale (s 33 sale - many)
theorem sHas_1 {set k : Int} (h : (jI set >>> (jI k &&& 31)) &&& jI 1 = jI 1) : sHas set k = 1 := if_pos h
theorem sHas_0 {set k : Int} (h : ¬ (jI set >>> (jI k &&& 31)) &&& jI 1 = jI 1) : ¬ sHas set k = 1 := by unfold sHas; rw [if_neg h]; decide
theorem sOffTo_n {s : Sg} {sale many : Int} {k : Nat} (hk : k ≠ 36) (n : Nat) : sOffTo s sale many n k = s k := by
  induction n with
  | zero => rfl
  | succ n ih => unfold sOffTo; rw [sU_n hk, ih]
theorem sOffTo_i {s : Sg} {sale many i : Int} (n : Nat) (hi : (n : Int) ≤ i) : sOffTo s sale many n 36 i = s 36 i := by
  induction n with
  | zero => rfl
  | succ n ih => unfold sOffTo; rw [sU_i (by omega), ih (by omega)]
theorem sSec_c {s s' : Sg} (h : s' 14 = s 14) : sSec s' = sSec s := by
  funext d q
  have key : ∀ n, sSecTo s' d q n = sSecTo s d q n := by
    intro n
    induction n with
    | zero => rfl
    | succ n ih => unfold sSecTo; rw [ih, h]
  exact key 6
theorem sDue_c {s s' : Sg} (h : s' 14 = s 14) (h2 : s' 34 = s 34) (h3 : s' 32 = s 32) : sDue s' = sDue s := by
  funext d q m
  unfold sDue
  rw [sSec_c h, h2, h3]
def sFi (f b : Int) : Int := if b < f then f else b
def sLa (u e : Int) : Int := if u < e then u else e
/-- the copying of a part of a tape, span by span -/
def sCopyTo (s : Sg) (t f u : Int) : Nat → Sg
  | 0 => s
  | n + 1 => if sFi f (sLenTo s t n) < sLa u (sLenTo s t (n + 1)) then
      sPuts (sCopyTo s t f u n) (s 8 (20 * t + n)) (s 9 (20 * t + n) + sFi f (sLenTo s t n) - sLenTo s t n) (s 9 (20 * t + n) + sLa u (sLenTo s t (n + 1)) - sLenTo s t n)
    else sCopyTo s t f u n
def sCopy (s : Sg) (t f u : Int) : Sg := sCopyTo s t f u (s 7 t).toNat
theorem sPuts_n {s : Sg} {x y z : Int} {k : Nat} (h : k ≠ 7 ∧ k ≠ 8 ∧ k ≠ 9 ∧ k ≠ 10) : sPuts s x y z k = s k := by
  unfold sPuts
  rw [sU_n h.1, sU_n h.2.2.2, sU_n h.2.2.1, sU_n h.2.1]
theorem sPuts_7 {s : Sg} {x y z : Int} : sPuts s x y z 7 = ju (s 7) (s 1 0) (s 7 (s 1 0) + 1) := rfl
theorem sPuts_8 {s : Sg} {x y z : Int} : sPuts s x y z 8 = ju (s 8) (20 * s 1 0 + s 7 (s 1 0)) x := rfl
theorem sPuts_9 {s : Sg} {x y z : Int} : sPuts s x y z 9 = ju (s 9) (20 * s 1 0 + s 7 (s 1 0)) y := rfl
theorem sPuts_10 {s : Sg} {x y z : Int} : sPuts s x y z 10 = ju (s 10) (20 * s 1 0 + s 7 (s 1 0)) z := rfl
theorem sCopyTo_n {s : Sg} {t f u : Int} {k : Nat} (h : k ≠ 7 ∧ k ≠ 8 ∧ k ≠ 9 ∧ k ≠ 10) (n : Nat) : sCopyTo s t f u n k = s k := by
  induction n with
  | zero => rfl
  | succ n ih =>
    unfold sCopyTo
    split
    · rw [sPuts_n h, ih]
    · exact ih
/-- only the new tape's cells change -/
theorem sCopyTo_7 {s : Sg} {t f u i : Int} (n : Nat) (h : i ≠ s 1 0) : sCopyTo s t f u n 7 i = s 7 i := by
  induction n with
  | zero => rfl
  | succ n ih =>
    unfold sCopyTo
    split
    · rw [sPuts_7, sCopyTo_n (k := 1) (by decide), ju_n h, ih]
    · exact ih
theorem sCopyTo_T {s : Sg} {t f u : Int} (hlt : ∀ j : Nat, (j : Int) < s 7 t → sLenTo s t j < sLenTo s t (j + 1)) (hfu : f < u) (n : Nat) (hn : (n : Int) ≤ s 7 t) : sCopyTo s t f u n 7 (s 1 0) = s 7 (s 1 0) + sSpansTo s t f u n := by
  induction n with
  | zero => unfold sCopyTo sSpansTo; omega
  | succ n ih =>
    have h1 := hlt n (by omega)
    have h2 := ih (by omega)
    unfold sCopyTo sSpansTo
    by_cases hc : sLenTo s t n < u ∧ f < sLenTo s t (n + 1)
    · rw [if_pos (by unfold sFi sLa; split <;> split <;> omega), if_pos hc, sPuts_7, sCopyTo_n (k := 1) (by decide), ju_s, h2]
      omega
    · rw [if_neg (by unfold sFi sLa; split <;> split <;> omega), if_neg hc, h2]
      omega
theorem sSpansTo_in (s : Sg) (t f u : Int) (n : Nat) : 0 ≤ sSpansTo s t f u n ∧ sSpansTo s t f u n ≤ n := by
  induction n with
  | zero => exact ⟨Int.le_refl _, Int.le_refl _⟩
  | succ n ih => unfold sSpansTo; split <;> omega
theorem sSpansTo_mono (s : Sg) (t f u : Int) {n m : Nat} (h : n ≤ m) : sSpansTo s t f u n ≤ sSpansTo s t f u m := by
  induction m with
  | zero => rw [show n = 0 by omega]; exact Int.le_refl _
  | succ m ih =>
    by_cases hm : n = m + 1
    · rw [hm]; exact Int.le_refl _
    · have := ih (by omega)
      show _ ≤ sSpansTo s t f u m + _
      split <;> omega
theorem sCopyTo_c {s : Sg} {t f u i : Int} {k : Nat} (hk : k = 8 ∨ k = 9 ∨ k = 10) (h7 : 0 ≤ s 7 (s 1 0)) (hlt : ∀ j : Nat, (j : Int) < s 7 t → sLenTo s t j < sLenTo s t (j + 1)) (hfu : f < u) (n : Nat) (hn : (n : Int) ≤ s 7 t) (h : i < 20 * s 1 0 + s 7 (s 1 0)) : sCopyTo s t f u n k i = s k i := by
  induction n with
  | zero => rfl
  | succ n ih =>
    have e := ih (by omega)
    have e2 := sCopyTo_T hlt hfu n (by omega)
    have e3 := (sSpansTo_in s t f u n).1
    unfold sCopyTo
    split
    · have hne : i ≠ 20 * sCopyTo s t f u n 1 0 + sCopyTo s t f u n 7 (sCopyTo s t f u n 1 0) := by
        rw [sCopyTo_n (k := 1) (by decide), e2]; omega
      rcases hk with rfl | rfl | rfl
      · rw [sPuts_8, ju_n hne, e]
      · rw [sPuts_9, ju_n hne, e]
      · rw [sPuts_10, ju_n hne, e]
    · exact e
theorem sLenTo_c {s s' : Sg} {t : Int} (n : Nat) (h9 : ∀ j : Nat, j < n → s' 9 (20 * t + j) = s 9 (20 * t + j)) (h10 : ∀ j : Nat, j < n → s' 10 (20 * t + j) = s 10 (20 * t + j)) : sLenTo s' t n = sLenTo s t n := by
  induction n with
  | zero => rfl
  | succ n ih => unfold sLenTo; rw [ih (fun j hj => h9 j (by omega)) (fun j hj => h10 j (by omega)), h9 n (by omega), h10 n (by omega)]
