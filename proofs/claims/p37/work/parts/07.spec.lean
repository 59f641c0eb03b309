/-! ===== the house as numbers: what each call answers (t: which exception, 0 none; r: the answer; n: the state behind it) ===== -/
def sIn (v l m : Int) : Int := if l ≤ v ∧ v ≤ m then 1 else 0
theorem sIn_01 (v l m : Int) : sIn v l m = 0 ∨ sIn v l m = 1 := by unfold sIn; split; exact Or.inr rfl; exact Or.inl rfl
theorem sIn_1 {v l m : Int} (h : l ≤ v ∧ v ≤ m) : sIn v l m = 1 := if_pos h
theorem sIn_0 {v l m : Int} (h : ¬ (l ≤ v ∧ v ≤ m)) : sIn v l m = 0 := if_neg h
def sOr (x y : Int) : Int := (jI x ||| jI y).toInt
def sBit (t : Int) : Int := (jI 1 <<< (jI t &&& 31)).toInt
/-- 1 if the set has the member k -/
def sHas (set k : Int) : Int := if (jI set >>> (jI k &&& 31)) &&& jI 1 = jI 1 then 1 else 0
def sPlay (s : Sg) (t : Int) : Int := if s 2 t = 0 then 1 else if s 2 t = 2 ∧ s 0 0 - s 3 t < 30 then 1 else 0
/-- the seconds of the first n spans of a tape -/
def sLenTo (s : Sg) (t : Int) : Nat → Int
  | 0 => 0
  | n + 1 => sLenTo s t n + (s 10 (20 * t + n) - s 9 (20 * t + n))
def sLen (s : Sg) (t : Int) : Int := sLenTo s t (s 7 t).toNat
def sTakesTo (s : Sg) (t : Int) : Nat → Int
  | 0 => 0
  | n + 1 => sOr (sTakesTo s t n) (sBit (s 8 (20 * t + n)))
def sTakes (s : Sg) (t : Int) : Int := sTakesTo s t (s 7 t).toNat
/-- how many of the first n spans have a second from f to u -/
def sSpansTo (s : Sg) (t f u : Int) : Nat → Int
  | 0 => 0
  | n + 1 => sSpansTo s t f u n + (if sLenTo s t n < u ∧ f < sLenTo s t (n + 1) then 1 else 0)
def sSpans (s : Sg) (t f u : Int) : Int := sSpansTo s t f u (s 7 t).toNat
/-- a span at the end of the tape that is made -/
def sPuts (s : Sg) (take f u : Int) : Sg :=
  let T := s 1 0
  let p := 20 * T + s 7 T
  sU (sU (sU (sU s 8 p take) 9 p f) 10 p u) 7 T (s 7 T + 1)
def sSecTo (s : Sg) (side artist : Int) : Nat → Int
  | 0 => 0
  | n + 1 => sSecTo s side artist n + (if artist = -1 ∨ artist = n then s 14 (6 * side + n) else 0)
/-- the seconds of an artist on a side, -1: of all -/
def sSec (s : Sg) (side artist : Int) : Int := sSecTo s side artist 6
def sDue (s : Sg) (sale artist many : Int) : Int := many * s 34 (6 * sale + artist) * sSec s (s 32 sale / 12) artist / (100 * sSec s (s 32 sale / 12) (-1))
def sDiscsTo (s : Sg) (st : Int) : Nat → Int
  | 0 => 0
  | n + 1 => sDiscsTo s st n + (if s 23 n = st then 1 else 0)
/-- how many discs a stamper's are -/
def sDiscs (s : Sg) (st : Int) : Int := sDiscsTo s st (s 22 0).toNat
def sNoise (s : Sg) (d p : Int) : Int := 5 * s 25 (8 * d + p) + s 24 d * (p + 1) / 16
def sNeed (st : Int) : Int := if st % 12 = 0 then -1 else if st % 12 % 4 = 0 then st - 4 else st - 1
def sNamed (s : Sg) (side mother number : Int) : Int := if (0 ≤ side ∧ side ≤ s 13 0 - 1) ∧ (0 ≤ mother ∧ mother ≤ 2) ∧ (0 ≤ number ∧ number ≤ 3) then 1 else 0
def sSt (side mother number : Int) : Int := 12 * side + 4 * mother + number
/-- the set has members, and none but discs that there are -/
def sAre (s : Sg) (set : Int) : Int := if ¬ set = 0 ∧ jI set &&& (jI (sBit (s 22 0) - 1) ^^^ jI (-1)) = 0 then 1 else 0
/-- the side of the last member below n, -1 without -/
def sSideTo (s : Sg) (set : Int) : Nat → Int
  | 0 => -1
  | n + 1 => if sHas set n = 1 then s 23 n / 12 else sSideTo s set n
/-- 1 as long as the members below n are of one side -/
def sOneTo (s : Sg) (set : Int) : Nat → Int
  | 0 => 1
  | n + 1 => if sHas set n = 1 then (if sOneTo s set n = 0 then 0 else if sSideTo s set n = -1 ∨ sSideTo s set n = s 23 n / 12 then 1 else 0) else sOneTo s set n
def sOne (s : Sg) (set : Int) : Int := sOneTo s set (s 22 0).toNat
theorem sOneTo_01 (s : Sg) (set : Int) (n : Nat) : sOneTo s set n = 0 ∨ sOneTo s set n = 1 := by
  induction n with
  | zero => exact Or.inr rfl
  | succ n ih => unfold sOneTo; split; split; exact Or.inl rfl; split; exact Or.inr rfl; exact Or.inl rfl; exact ih
/-- the member below n with the least noise, the lowest of several; -1 without -/
def sJoinTo (s : Sg) (set p : Int) : Nat → Int
  | 0 => -1
  | n + 1 => if sHas set n = 1 ∧ (sJoinTo s set p n = -1 ∨ sNoise s n p < sNoise s (sJoinTo s set p n) p) then (n : Int) else sJoinTo s set p n
def sJoin (s : Sg) (set p : Int) : Int := sJoinTo s set p (s 22 0).toNat
theorem sJoinTo_in (s : Sg) (set p : Int) (n : Nat) : -1 ≤ sJoinTo s set p n ∧ sJoinTo s set p n < n ∨ (n = 0 ∧ sJoinTo s set p n = -1) := by
  induction n with
  | zero => exact Or.inr ⟨rfl, rfl⟩
  | succ n ih => left; unfold sJoinTo; split <;> omega
def sProgTo (s : Sg) : Nat → Int
  | 0 => 3 * (s 11 0 - 1)
  | n + 1 => sProgTo s n + sLen s (s 12 n)
def sPlaysTo (s : Sg) : Nat → Int
  | 0 => 1
  | n + 1 => if sPlaysTo s n = 0 then 0 else sPlay s (s 12 n)
theorem sPlay_01 (s : Sg) (t : Int) : sPlay s t = 0 ∨ sPlay s t = 1 := by
  unfold sPlay; split; exact Or.inr rfl; split; exact Or.inr rfl; exact Or.inl rfl
theorem sPlaysTo_01 (s : Sg) (n : Nat) : sPlaysTo s n = 0 ∨ sPlaysTo s n = 1 := by
  induction n with
  | zero => exact Or.inr rfl
  | succ n ih => unfold sPlaysTo; split; exact Or.inl rfl; exact sPlay_01 _ _
def sCanCut (s : Sg) (level : Int) : Int := if 0 < s 11 0 ∧ sPlaysTo s (s 11 0).toNat = 1 ∧ sProgTo s (s 11 0).toNat ≤ 1500 - 150 * level ∧ s 13 0 < 10 then 1 else 0
def sMakes (s : Sg) (g v : Int) : Sg := sU (sU (sU (sU s 2 (s 1 0) 0) 4 (s 1 0) g) 5 (s 1 0) v) 1 0 (s 1 0 + 1)
def jW (x : Int) : Int := (jI x).toInt
theorem jW_eq (x : Int) : jI (jW x) = jI x := (jI_of (jI x)).symm
theorem jW_rng (x : Int) : -2147483648 ≤ jW x ∧ jW x ≤ 2147483647 := jI_rng _
/-- an account's change as discs are taken off a sale -/
def sOffTo (s : Sg) (sale many : Int) : Nat → Sg
  | 0 => s
  | n + 1 => sU (sOffTo s sale many n) 36 n (jW (s 36 n + (sDue s sale n (s 33 sale - many) - sDue s sale n (s 33 sale))))
def sOff (s : Sg) (sale many : Int) : Sg := sU (sOffTo s sale many 6) 33 sale (s 33 sale - many)
theorem sHas_1 {set k : Int} (h : (jI set >>> (jI k &&& 31)) &&& jI 1 = jI 1) : sHas set k = 1 := if_pos h
theorem sHas_0 {set k : Int} (h : ¬ (jI set >>> (jI k &&& 31)) &&& jI 1 = jI 1) : ¬ sHas set k = 1 := by unfold sHas; rw [if_neg h]; decide
theorem sOffTo_n {s : Sg} {sale many : Int} {k : Nat} (hk : k ≠ 36) (n : Nat) : sOffTo s sale many n k = s k := by
  induction n with
  | zero => rfl
  | succ n ih => unfold sOffTo; rw [sU_n hk, ih]
theorem sOffTo_i {s : Sg} {sale many i : Int} (n : Nat) (hi : (n : Int) ≤ i) : sOffTo s sale many n 36 i = s 36 i := by
  induction n with
  | zero => rfl
  | succ n ih => unfold sOffTo; rw [sU_i (by omega), ih (by omega)]
theorem sSec_c {s s' : Sg} (h : s' 14 = s 14) : sSec s' = sSec s := by
  funext d q
  have key : ∀ n, sSecTo s' d q n = sSecTo s d q n := by
    intro n
    induction n with
    | zero => rfl
    | succ n ih => unfold sSecTo; rw [ih, h]
  exact key 6
theorem sDue_c {s s' : Sg} (h : s' 14 = s 14) (h2 : s' 34 = s 34) (h3 : s' 32 = s 32) : sDue s' = sDue s := by
  funext d q m
  unfold sDue
  rw [sSec_c h, h2, h3]
def sFi (f b : Int) : Int := if b < f then f else b
def sLa (u e : Int) : Int := if u < e then u else e
/-- the copying of a part of a tape, span by span -/
def sCopyTo (s : Sg) (t f u : Int) : Nat → Sg
  | 0 => s
  | n + 1 => if sFi f (sLenTo s t n) < sLa u (sLenTo s t (n + 1)) then
      sPuts (sCopyTo s t f u n) (s 8 (20 * t + n)) (s 9 (20 * t + n) + sFi f (sLenTo s t n) - sLenTo s t n) (s 9 (20 * t + n) + sLa u (sLenTo s t (n + 1)) - sLenTo s t n)
    else sCopyTo s t f u n
def sCopy (s : Sg) (t f u : Int) : Sg := sCopyTo s t f u (s 7 t).toNat
theorem sPuts_n {s : Sg} {x y z : Int} {k : Nat} (h : k ≠ 7 ∧ k ≠ 8 ∧ k ≠ 9 ∧ k ≠ 10) : sPuts s x y z k = s k := by
  unfold sPuts
  rw [sU_n h.1, sU_n h.2.2.2, sU_n h.2.2.1, sU_n h.2.1]
theorem sPuts_7 {s : Sg} {x y z : Int} : sPuts s x y z 7 = ju (s 7) (s 1 0) (s 7 (s 1 0) + 1) := rfl
theorem sPuts_8 {s : Sg} {x y z : Int} : sPuts s x y z 8 = ju (s 8) (20 * s 1 0 + s 7 (s 1 0)) x := rfl
theorem sPuts_9 {s : Sg} {x y z : Int} : sPuts s x y z 9 = ju (s 9) (20 * s 1 0 + s 7 (s 1 0)) y := rfl
theorem sPuts_10 {s : Sg} {x y z : Int} : sPuts s x y z 10 = ju (s 10) (20 * s 1 0 + s 7 (s 1 0)) z := rfl
theorem sCopyTo_n {s : Sg} {t f u : Int} {k : Nat} (h : k ≠ 7 ∧ k ≠ 8 ∧ k ≠ 9 ∧ k ≠ 10) (n : Nat) : sCopyTo s t f u n k = s k := by
  induction n with
  | zero => rfl
  | succ n ih =>
    unfold sCopyTo
    split
    · rw [sPuts_n h, ih]
    · exact ih
/-- only the new tape's cells change -/
theorem sCopyTo_7 {s : Sg} {t f u i : Int} (n : Nat) (h : i ≠ s 1 0) : sCopyTo s t f u n 7 i = s 7 i := by
  induction n with
  | zero => rfl
  | succ n ih =>
    unfold sCopyTo
    split
    · rw [sPuts_7, sCopyTo_n (k := 1) (by decide), ju_n h, ih]
    · exact ih
theorem sCopyTo_T {s : Sg} {t f u : Int} (hlt : ∀ j : Nat, (j : Int) < s 7 t → sLenTo s t j < sLenTo s t (j + 1)) (hfu : f < u) (n : Nat) (hn : (n : Int) ≤ s 7 t) : sCopyTo s t f u n 7 (s 1 0) = s 7 (s 1 0) + sSpansTo s t f u n := by
  induction n with
  | zero => unfold sCopyTo sSpansTo; omega
  | succ n ih =>
    have h1 := hlt n (by omega)
    have h2 := ih (by omega)
    unfold sCopyTo sSpansTo
    by_cases hc : sLenTo s t n < u ∧ f < sLenTo s t (n + 1)
    · rw [if_pos (by unfold sFi sLa; split <;> split <;> omega), if_pos hc, sPuts_7, sCopyTo_n (k := 1) (by decide), ju_s, h2]
      omega
    · rw [if_neg (by unfold sFi sLa; split <;> split <;> omega), if_neg hc, h2]
      omega
theorem sSpansTo_in (s : Sg) (t f u : Int) (n : Nat) : 0 ≤ sSpansTo s t f u n ∧ sSpansTo s t f u n ≤ n := by
  induction n with
  | zero => exact ⟨Int.le_refl _, Int.le_refl _⟩
  | succ n ih => unfold sSpansTo; split <;> omega
theorem sSpansTo_mono (s : Sg) (t f u : Int) {n m : Nat} (h : n ≤ m) : sSpansTo s t f u n ≤ sSpansTo s t f u m := by
  induction m with
  | zero => rw [show n = 0 by omega]; exact Int.le_refl _
  | succ m ih =>
    by_cases hm : n = m + 1
    · rw [hm]; exact Int.le_refl _
    · have := ih (by omega)
      show _ ≤ sSpansTo s t f u m + _
      split <;> omega
theorem sCopyTo_c {s : Sg} {t f u i : Int} {k : Nat} (hk : k = 8 ∨ k = 9 ∨ k = 10) (h7 : 0 ≤ s 7 (s 1 0)) (hlt : ∀ j : Nat, (j : Int) < s 7 t → sLenTo s t j < sLenTo s t (j + 1)) (hfu : f < u) (n : Nat) (hn : (n : Int) ≤ s 7 t) (h : i < 20 * s 1 0 + s 7 (s 1 0)) : sCopyTo s t f u n k i = s k i := by
  induction n with
  | zero => rfl
  | succ n ih =>
    have e := ih (by omega)
    have e2 := sCopyTo_T hlt hfu n (by omega)
    have e3 := (sSpansTo_in s t f u n).1
    unfold sCopyTo
    split
    · have hne : i ≠ 20 * sCopyTo s t f u n 1 0 + sCopyTo s t f u n 7 (sCopyTo s t f u n 1 0) := by
        rw [sCopyTo_n (k := 1) (by decide), e2]; omega
      rcases hk with rfl | rfl | rfl
      · rw [sPuts_8, ju_n hne, e]
      · rw [sPuts_9, ju_n hne, e]
      · rw [sPuts_10, ju_n hne, e]
    · exact e
theorem sLenTo_c {s s' : Sg} {t : Int} (n : Nat) (h9 : ∀ j : Nat, j < n → s' 9 (20 * t + j) = s 9 (20 * t + j)) (h10 : ∀ j : Nat, j < n → s' 10 (20 * t + j) = s 10 (20 * t + j)) : sLenTo s' t n = sLenTo s t n := by
  induction n with
  | zero => rfl
  | succ n ih => unfold sLenTo; rw [ih (fun j hj => h9 j (by omega)) (fun j hj => h10 j (by omega)), h9 n (by omega), h10 n (by omega)]
theorem sTakes_c {s s' : Sg} (h7 : s' 7 = s 7) (h8 : s' 8 = s 8) : sTakes s' = sTakes s := by
  funext t
  have key : ∀ n, sTakesTo s' t n = sTakesTo s t n := by
    intro n
    induction n with
    | zero => rfl
    | succ n ih => unfold sTakesTo; rw [ih, h8]
  unfold sTakes
  rw [key, h7]
theorem sLen_c {s s' : Sg} (h7 : s' 7 = s 7) (h9 : s' 9 = s 9) (h10 : s' 10 = s 10) : sLen s' = sLen s := by
  funext t
  unfold sLen
  rw [sLenTo_c _ (fun j _ => by rw [h9]) (fun j _ => by rw [h10]), h7]
theorem sDiscs_c {s s' : Sg} (h22 : s' 22 = s 22) (h23 : s' 23 = s 23) : sDiscs s' = sDiscs s := by
  funext k
  have key : ∀ n, sDiscsTo s' k n = sDiscsTo s k n := by
    intro n
    induction n with
    | zero => rfl
    | succ n ih => unfold sDiscsTo; rw [ih, h23]
  unfold sDiscs
  rw [key, h22]
/-! what holds of the house at any time; c: how many calls there were -/
def sI1 (s : Sg) : Prop := (0 ≤ s 0 0 ∧ s 0 0 ≤ 9999) ∧ (0 ≤ s 1 0 ∧ s 1 0 ≤ 30) ∧
  (∀ t : Int, 0 ≤ t → t < s 1 0 → (0 ≤ s 2 t ∧ s 2 t ≤ 3) ∧ (0 ≤ s 3 t ∧ s 3 t ≤ 9999) ∧ (0 ≤ s 4 t ∧ s 4 t ≤ t) ∧ (0 ≤ s 5 t ∧ s 5 t ≤ 3) ∧ (-1 ≤ s 6 t ∧ s 6 t ≤ 5) ∧ (1 ≤ s 7 t ∧ s 7 t ≤ 20)) ∧
  (∀ t : Int, s 1 0 ≤ t → t < 30 → s 7 t = 0 ∧ s 3 t = 0) ∧
  (∀ t j : Int, 0 ≤ t → t < s 1 0 → 0 ≤ j → j < s 7 t → (0 ≤ s 8 (20 * t + j) ∧ s 8 (20 * t + j) ≤ t ∧ 0 ≤ s 6 (s 8 (20 * t + j))) ∧ (0 ≤ s 9 (20 * t + j) ∧ s 9 (20 * t + j) < s 10 (20 * t + j) ∧ s 10 (20 * t + j) ≤ 900))
def sI2 (s : Sg) : Prop := (0 ≤ s 11 0 ∧ s 11 0 ≤ 6) ∧ ∀ j : Int, 0 ≤ j → j < s 11 0 → 0 ≤ s 12 j ∧ s 12 j < s 1 0
def sI3 (s : Sg) : Prop := (0 ≤ s 13 0 ∧ s 13 0 ≤ 10) ∧ (∀ d q : Int, 0 ≤ d → d < s 13 0 → 0 ≤ q → q < 6 → 0 ≤ s 14 (6 * d + q)) ∧ (∀ d : Int, 0 ≤ d → d < s 13 0 → 1 ≤ sSec s d (-1) ∧ sSec s d (-1) ≤ 1500) ∧ (∀ i : Int, 6 * s 13 0 ≤ i → i < 60 → s 14 i = 0) ∧ (∀ d : Int, s 13 0 ≤ d → d < 10 → s 15 d = 0)
def sI4 (s : Sg) : Prop := (∀ k : Int, 0 ≤ k → k < 120 → (-1 ≤ s 16 k ∧ s 16 k ≤ 9999) ∧ (0 ≤ s 17 k ∧ s 17 k ≤ 500) ∧ (0 ≤ s 19 k ∧ s 19 k ≤ s 18 k ∧ s 18 k ≤ s 17 k) ∧ (-1 ≤ s 20 k ∧ s 20 k ≤ 9999) ∧ (-1 ≤ s 21 k ∧ s 21 k ≤ 9999) ∧ (s 16 k = -1 → s 17 k = 0 ∧ s 20 k = -1 ∧ s 21 k = -1) ∧ (12 * s 13 0 ≤ k → s 16 k = -1) ∧ (s 20 k = -1 ↔ s 17 k = 0)) ∧ (∀ k : Int, 0 ≤ k → k < 120 → sDiscs s k ≤ s 18 k - s 19 k)
def sI5 (s : Sg) (c : Int) : Prop := (0 ≤ s 22 0 ∧ s 22 0 ≤ 20) ∧ (∀ d : Int, 0 ≤ d → d < 20 → 0 ≤ s 24 d ∧ s 24 d ≤ 150 * c) ∧ (∀ i : Int, 0 ≤ i → i < 160 → 0 ≤ s 25 i ∧ s 25 i ≤ c) ∧ (∀ d : Int, 0 ≤ d → d < s 22 0 → 0 ≤ s 23 d ∧ s 23 d < 12 * s 13 0) ∧ (∀ d : Int, s 22 0 ≤ d → d < 20 → s 24 d = 0) ∧ (∀ i : Int, 8 * s 22 0 ≤ i → i < 160 → s 25 i = 0)
def sI6 (s : Sg) : Prop := (s 26 0 = 0 ∨ s 26 0 = 1) ∧ (∀ p : Int, 0 ≤ p → p < 8 → 0 ≤ s 27 p ∧ s 27 p ≤ 1000000) ∧ (0 ≤ s 28 0 ∧ s 28 0 ≤ 20) ∧ ∀ j : Int, 0 ≤ j → j < s 28 0 → (0 ≤ s 29 j ∧ s 29 j < 8) ∧ (0 ≤ s 30 j ∧ s 30 j ≤ 1000000)
def sI7 (s : Sg) : Prop := (0 ≤ s 31 0 ∧ s 31 0 ≤ 100) ∧ (∀ j : Int, 0 ≤ j → j < s 31 0 → (0 ≤ s 32 j ∧ s 32 j < 12 * s 13 0) ∧ (0 ≤ s 33 j ∧ s 33 j ≤ 500)) ∧ (∀ i : Int, 0 ≤ i → i < 600 → 0 ≤ s 34 i ∧ s 34 i ≤ 9999) ∧ ∀ q : Int, 0 ≤ q → q < 6 → 0 ≤ s 35 q ∧ s 35 q ≤ 9999
def sInv (s : Sg) (c : Int) : Prop := sI1 s ∧ sI2 s ∧ sI3 s ∧ sI4 s ∧ sI5 s c ∧ sI6 s ∧ sI7 s ∧ (0 ≤ c ∧ c ≤ 512)
theorem sPlay_r (s : Sg) (t : Int) : -2147483648 ≤ sPlay s t ∧ sPlay s t ≤ 2147483647 := by rcases sPlay_01 s t with h | h <;> omega
theorem sOne_01 (s : Sg) (q : Int) : sOne s q = 0 ∨ sOne s q = 1 := sOneTo_01 _ _ _
theorem sOne_r (s : Sg) (q : Int) : -2147483648 ≤ sOne s q ∧ sOne s q ≤ 2147483647 := by rcases sOne_01 s q with h | h <;> omega
/-! the calls: tapes -/
def t_session (s : Sg) (artist seconds vault : Int) : Int := if ¬ ((0 ≤ artist ∧ artist ≤ 5) ∧ (0 ≤ vault ∧ vault ≤ 3)) then 1 else if ¬ (1 ≤ seconds ∧ seconds ≤ 900) then 2 else if s 1 0 = 30 then 3 else 0
def n_session (s : Sg) (artist seconds vault : Int) : Sg := if t_session s artist seconds vault = 0 then sMakes (sPuts (sU (sU s 37 0 0) 6 (s 1 0) artist) (s 1 0) 0 seconds) 0 vault else sU s 37 0 (t_session s artist seconds vault)
def r_session (s : Sg) (artist seconds vault : Int) : Int := if t_session s artist seconds vault = 0 then s 1 0 else 0
def t_tape (s : Sg) (tape v : Int) : Int := if ¬ (0 ≤ tape ∧ tape ≤ s 1 0 - 1) then 1 else if s 2 tape = v then 0 else 2
def n_shed (s : Sg) (tape : Int) : Sg := if t_tape s tape 0 = 0 then sU (sU s 37 0 0) 2 tape 1 else sU s 37 0 (t_tape s tape 0)
def n_bake (s : Sg) (tape : Int) : Sg := if t_tape s tape 1 = 0 then sU (sU (sU s 37 0 0) 2 tape 2) 3 tape (s 0 0) else sU s 37 0 (t_tape s tape 1)
def r_bake (s : Sg) (tape : Int) : Int := if t_tape s tape 1 = 0 then s 0 0 + 30 else 0
def t_vault (v : Int) : Int := if 0 ≤ v ∧ v ≤ 3 then 0 else 1
def sFire (s : Sg) (v : Int) : Nat → Sg
  | 0 => sU s 37 0 0
  | n + 1 => if s 5 n = v ∧ ¬ s 2 n = 3 then sU (sFire s v n) 2 n 3 else sFire s v n
def sFireN (s : Sg) (v : Int) : Nat → Int
  | 0 => 0
  | n + 1 => sFireN s v n + (if s 5 n = v ∧ ¬ s 2 n = 3 then 1 else 0)
def n_fire (s : Sg) (v : Int) : Sg := if t_vault v = 0 then sFire s v (s 1 0).toNat else sU s 37 0 1
def r_fire (s : Sg) (v : Int) : Int := if t_vault v = 0 then sFireN s v (s 1 0).toNat else 0
theorem sFire_n {s : Sg} {v : Int} {k : Nat} (hk : k ≠ 2 ∧ k ≠ 37) (n : Nat) : sFire s v n k = s k := by
  induction n with
  | zero => unfold sFire; rw [sU_n hk.2]
  | succ n ih => unfold sFire; split; rw [sU_n hk.1, ih]; exact ih
theorem sFire_2 {s : Sg} {v i : Int} (n : Nat) (hi : (n : Int) ≤ i) : sFire s v n 2 i = s 2 i := by
  induction n with
  | zero => rfl
  | succ n ih => unfold sFire; split; rw [sU_i (by omega), ih (by omega)]; exact ih (by omega)
def t_tapeIs (s : Sg) (tape what : Int) : Int := if ¬ (0 ≤ tape ∧ tape ≤ s 1 0 - 1) then 1 else if 0 ≤ what ∧ what ≤ 5 then 0 else 2
def r_tapeIs (s : Sg) (tape what : Int) : Int := if t_tapeIs s tape what = 0 then (if what = 0 then s 2 tape else if what = 1 then sPlay s tape else if what = 2 then sLen s tape else if what = 3 then s 4 tape else if what = 4 then s 5 tape else s 7 tape) else 0
def t_heard (s : Sg) (tape second : Int) : Int := if ¬ (0 ≤ tape ∧ tape ≤ s 1 0 - 1) then 1 else if second < 0 then 2 else 0
/-- the second heard, from the span j on, n spans to go -/
def sHeard (s : Sg) (t x : Int) : Nat → Nat → Int
  | 0, _ => -1
  | n + 1, j => if x < sLenTo s t (j + 1) then 1000 * s 8 (20 * t + j) + s 9 (20 * t + j) + x - sLenTo s t j else sHeard s t x n (j + 1)
def r_heard (s : Sg) (tape second : Int) : Int := if t_heard s tape second = 0 then sHeard s tape second (s 7 tape).toNat 0 else 0
def t_is (s : Sg) (tape : Int) : Int := if 0 ≤ tape ∧ tape ≤ s 1 0 - 1 then 0 else 1
def r_takes (s : Sg) (tape : Int) : Int := if t_is s tape = 0 then sTakes s tape else 0
def t_isLost (s : Sg) (take : Int) : Int := if (0 ≤ take ∧ take ≤ s 1 0 - 1) ∧ ¬ s 6 take = -1 then 0 else 1
def sKeptT (s : Sg) (x : Int) : Nat → Int
  | 0 => 0
  | n + 1 => if sKeptT s x n = 0 then (if ¬ s 2 n = 3 ∧ sHas (sTakes s n) x = 1 then 1 else 0) else 1
def sKeptS (s : Sg) (x b : Int) : Nat → Int
  | 0 => b
  | n + 1 => if sKeptS s x b n = 0 then (if s 19 n < s 18 n ∧ sHas (s 15 ((n : Int) / 12)) x = 1 then 1 else 0) else 1
theorem sKeptT_01 (s : Sg) (x : Int) (n : Nat) : sKeptT s x n = 0 ∨ sKeptT s x n = 1 := by
  induction n with
  | zero => exact Or.inl rfl
  | succ n ih => unfold sKeptT; split; split; exact Or.inr rfl; exact Or.inl rfl; exact Or.inr rfl
theorem sKeptS_01 (s : Sg) (x b : Int) (hb : b = 0 ∨ b = 1) (n : Nat) : sKeptS s x b n = 0 ∨ sKeptS s x b n = 1 := by
  induction n with
  | zero => exact hb
  | succ n ih => unfold sKeptS; split; split; exact Or.inr rfl; exact Or.inl rfl; exact Or.inr rfl
def r_isLost (s : Sg) (take : Int) : Int := if t_isLost s take = 0 then (if sKeptS s take (sKeptT s take (s 1 0).toNat) (12 * s 13 0).toNat = 0 then 1 else 0) else 0
/-! sides and pressings -/
def t_add (s : Sg) (tape : Int) : Int := if ¬ (0 ≤ tape ∧ tape ≤ s 1 0 - 1) then 1 else if sPlay s tape = 0 ∨ s 11 0 = 6 then 2 else 0
def n_add (s : Sg) (tape : Int) : Sg := if t_add s tape = 0 then sU (sU (sU s 37 0 0) 12 (s 11 0) tape) 11 0 (s 11 0 + 1) else sU s 37 0 (t_add s tape)
def r_add (s : Sg) (tape : Int) : Int := if t_add s tape = 0 then s 11 0 + 1 else 0
def n_clear (s : Sg) : Sg := sU (sU s 37 0 0) 11 0 0
def n_takes (s : Sg) (tape : Int) : Sg := sU s 37 0 (t_is s tape)
def n_tapeIs (s : Sg) (tape what : Int) : Sg := sU s 37 0 (t_tapeIs s tape what)
def n_heard (s : Sg) (tape second : Int) : Sg := sU s 37 0 (t_heard s tape second)
def n_isLost (s : Sg) (take : Int) : Sg := sU s 37 0 (t_isLost s take)
/-! sides, pressings, sales -/
def t_seconds (s : Sg) (d q : Int) : Int := if (0 ≤ d ∧ d ≤ s 13 0 - 1) ∧ (-1 ≤ q ∧ q ≤ 5) then 0 else 1
def n_seconds (s : Sg) (d q : Int) : Sg := sU s 37 0 (t_seconds s d q)
def r_seconds (s : Sg) (d q : Int) : Int := if t_seconds s d q = 0 then sSec s d q else 0
abbrev sNm (s : Sg) (d m n : Int) : Prop := (0 ≤ d ∧ d ≤ s 13 0 - 1) ∧ (0 ≤ m ∧ m ≤ 2) ∧ (0 ≤ n ∧ n ≤ 3)
def t_stamper (s : Sg) (d m n : Int) : Int := if ¬ sNm s d m n then 1 else if s 16 (sSt d m n) = -1 ∧ (sNeed (sSt d m n) = -1 ∨ ¬ s 16 (sNeed (sSt d m n)) = -1) then 0 else 2
def n_stamper (s : Sg) (d m n : Int) : Sg := if t_stamper s d m n = 0 then sU (sU s 37 0 0) 16 (sSt d m n) (s 0 0) else sU s 37 0 (t_stamper s d m n)
def sMadeTo (s : Sg) (d : Int) : Nat → Int
  | 0 => 0
  | j + 1 => sMadeTo s d j + (if s 16 (12 * d + j) = -1 then 0 else 1)
def r_stamper (s : Sg) (d m n : Int) : Int := if t_stamper s d m n = 0 then sMadeTo (n_stamper s d m n) d 12 else 0
def t_press (s : Sg) (d m n x : Int) : Int := if ¬ sNm s d m n then 1 else if ¬ (1 ≤ x ∧ x ≤ 500) then 2 else if s 16 (sSt d m n) = -1 ∨ 500 < s 17 (sSt d m n) + x then 3 else 0
def n_press (s : Sg) (d m n x : Int) : Sg := if t_press s d m n x = 0 then sU (sU (sU (sU s 37 0 0) 17 (sSt d m n) (s 17 (sSt d m n) + x)) 20 (sSt d m n) (if s 20 (sSt d m n) = -1 then s 0 0 else s 20 (sSt d m n))) 21 (sSt d m n) (s 0 0) else sU s 37 0 (t_press s d m n x)
def r_press (s : Sg) (d m n x : Int) : Int := if t_press s d m n x = 0 then s 17 (sSt d m n) + x else 0
def t_stamperIs (s : Sg) (d m n w : Int) : Int := if ¬ sNm s d m n then 1 else if 0 ≤ w ∧ w ≤ 4 then 0 else 2
def n_stamperIs (s : Sg) (d m n w : Int) : Sg := sU s 37 0 (t_stamperIs s d m n w)
def r_stamperIs (s : Sg) (d m n w : Int) : Int := if t_stamperIs s d m n w = 0 then (if w = 0 then s 16 (sSt d m n) else if w = 1 then s 17 (sSt d m n) else if w = 2 then s 18 (sSt d m n) - s 19 (sSt d m n) else if w = 3 then s 20 (sSt d m n) else s 21 (sSt d m n)) else 0
def t_sell (s : Sg) (d m n x : Int) : Int := if ¬ sNm s d m n then 1 else if ¬ (1 ≤ x ∧ x ≤ 500) then 2 else if s 17 (sSt d m n) - s 18 (sSt d m n) < x ∨ s 31 0 = 100 then 3 else 0
def sSellTo (s : Sg) (k x : Int) : Nat → Sg
  | 0 => sU (sU (sU (sU s 37 0 0) 18 k (s 18 k + x)) 32 (s 31 0) k) 33 (s 31 0) x
  | q + 1 => sU (sU (sSellTo s k x q) 34 (6 * s 31 0 + q) (s 35 q)) 36 q (jW (s 36 q + x * s 35 q * sSec s (k / 12) q / (100 * sSec s (k / 12) (-1))))
def n_sell (s : Sg) (d m n x : Int) : Sg := if t_sell s d m n x = 0 then sU (sSellTo s (sSt d m n) x 6) 31 0 (s 31 0 + 1) else sU s 37 0 (t_sell s d m n x)
def r_sell (s : Sg) (d m n x : Int) : Int := if t_sell s d m n x = 0 then s 18 (sSt d m n) + x - s 19 (sSt d m n) else 0
def t_back (s : Sg) (d m n x : Int) : Int := if ¬ sNm s d m n then 1 else if ¬ (1 ≤ x ∧ x ≤ 500) then 2 else if s 18 (sSt d m n) - s 19 (sSt d m n) - sDiscs s (sSt d m n) < x then 3 else 0
/-- how many are still to come back, the latest j sales looked at -/
def sBackR (s : Sg) (k x : Int) : Nat → Int
  | 0 => x
  | j + 1 => if s 32 (s 31 0 - 1 - j) = k then sBackR s k x j - (if s 33 (s 31 0 - 1 - j) < sBackR s k x j then s 33 (s 31 0 - 1 - j) else sBackR s k x j) else sBackR s k x j
def sBackS (s : Sg) (k x : Int) : Nat → Sg
  | 0 => sU s 37 0 0
  | j + 1 => if s 32 (s 31 0 - 1 - j) = k then sOff (sBackS s k x j) (s 31 0 - 1 - j) (if s 33 (s 31 0 - 1 - j) < sBackR s k x j then s 33 (s 31 0 - 1 - j) else sBackR s k x j) else sBackS s k x j
def n_back (s : Sg) (d m n x : Int) : Sg := if t_back s d m n x = 0 then sU (sBackS s (sSt d m n) x (s 31 0).toNat) 19 (sSt d m n) (s 19 (sSt d m n) + x) else sU s 37 0 (t_back s d m n x)
def r_back (s : Sg) (d m n x : Int) : Int := if t_back s d m n x = 0 then s 18 (sSt d m n) - (s 19 (sSt d m n) + x) else 0
def sCutIn (s S : Sg) (t : Int) : Nat → Sg
  | 0 => S
  | j + 1 => sU (sCutIn s S t j) 14 (6 * s 13 0 + s 6 (s 8 (20 * t + j))) (sCutIn s S t j 14 (6 * s 13 0 + s 6 (s 8 (20 * t + j))) + (s 10 (20 * t + j) - s 9 (20 * t + j)))
def sCutTo (s : Sg) : Nat → Sg
  | 0 => sU s 37 0 0
  | n + 1 => sCutIn s (sU (sCutTo s n) 15 (s 13 0) (sOr (sCutTo s n 15 (s 13 0)) (sTakes s (s 12 n)))) (s 12 n) (s 7 (s 12 n)).toNat
def t_cut (s : Sg) (l : Int) : Int := if ¬ (1 ≤ l ∧ l ≤ 5) then 1 else if sCanCut s l = 1 then 0 else 2
def n_cut (s : Sg) (l : Int) : Sg := if t_cut s l = 0 then sU (sU (sCutTo s (s 11 0).toNat) 11 0 0) 13 0 (s 13 0 + 1) else sU s 37 0 (t_cut s l)
def r_cut (s : Sg) (l : Int) : Int := if t_cut s l = 0 then s 13 0 else 0
/-! discs, files -/
def t_disc (s : Sg) (d m n : Int) : Int := if ¬ sNm s d m n then 1 else if sDiscs s (sSt d m n) = s 18 (sSt d m n) - s 19 (sSt d m n) ∨ s 22 0 = 20 then 2 else 0
def n_disc (s : Sg) (d m n : Int) : Sg := if t_disc s d m n = 0 then sU (sU (sU s 37 0 0) 23 (s 22 0) (sSt d m n)) 22 0 (s 22 0 + 1) else sU s 37 0 (t_disc s d m n)
def r_disc (s : Sg) (d m n : Int) : Int := if t_disc s d m n = 0 then s 22 0 else 0
def t_play (s : Sg) (d n x : Int) : Int := if ¬ (0 ≤ d ∧ d ≤ s 22 0 - 1) then 1 else if (1 ≤ n ∧ n ≤ 3) ∧ (1 ≤ x ∧ x ≤ 50) then 0 else 2
def n_play (s : Sg) (d n x : Int) : Sg := if t_play s d n x = 0 then sU (sU s 37 0 0) 24 d (s 24 d + n * x) else sU s 37 0 (t_play s d n x)
def r_play (s : Sg) (d n x : Int) : Int := if t_play s d n x = 0 then s 24 d + n * x else 0
def t_scr (s : Sg) (d p : Int) : Int := if (0 ≤ d ∧ d ≤ s 22 0 - 1) ∧ (0 ≤ p ∧ p ≤ 7) then 0 else 1
def n_scratch (s : Sg) (d p : Int) : Sg := if t_scr s d p = 0 then sU (sU s 37 0 0) 25 (8 * d + p) (s 25 (8 * d + p) + 1) else sU s 37 0 (t_scr s d p)
def r_scratch (s : Sg) (d p : Int) : Int := if t_scr s d p = 0 then sNoise (n_scratch s d p) d p else 0
def n_noise (s : Sg) (d p : Int) : Sg := sU s 37 0 (t_scr s d p)
def r_noise (s : Sg) (d p : Int) : Int := if t_scr s d p = 0 then sNoise s d p else 0
def t_grade (s : Sg) (d : Int) : Int := if 0 ≤ d ∧ d ≤ s 22 0 - 1 then 0 else 1
def n_grade (s : Sg) (d : Int) : Sg := sU s 37 0 (t_grade s d)
def sNoises (s : Sg) (d : Int) : Nat → Int
  | 0 => 0
  | p + 1 => sNoises s d p + sNoise s d p
def sGrade (x : Int) : Int := if x = 0 then 0 else if x < 20 then 1 else if x < 80 then 2 else if x < 200 then 3 else 4
def r_grade (s : Sg) (d : Int) : Int := if t_grade s d = 0 then sGrade (sNoises s d 8) else 0
def t_join (s : Sg) (q p : Int) : Int := if ¬ (0 ≤ p ∧ p ≤ 7) then 1 else if sAre s q = 0 then 2 else if sOne s q = 0 then 3 else 0
def n_join (s : Sg) (q p : Int) : Sg := sU s 37 0 (t_join s q p)
def r_join (s : Sg) (q p : Int) : Int := if t_join s q p = 0 then sJoin s q p else 0
def t_file (s : Sg) (q : Int) : Int := if sAre s q = 0 then 1 else if sOne s q = 0 then 2 else 0
def sFileTo (s : Sg) (q : Int) : Nat → Sg
  | 0 => sU s 37 0 0
  | p + 1 => sU (sFileTo s q p) 27 p (sNoise s (sJoin s q p) p)
def sFileN (s : Sg) (q : Int) : Nat → Int
  | 0 => 0
  | p + 1 => sFileN s q p + sNoise s (sJoin s q p) p
def n_file (s : Sg) (q : Int) : Sg := if t_file s q = 0 then sU (sU (sFileTo s q 8) 26 0 1) 28 0 0 else sU s 37 0 (t_file s q)
def r_file (s : Sg) (q : Int) : Int := if t_file s q = 0 then sFileN s q 8 else 0
def t_repair (s : Sg) (p : Int) : Int := if ¬ (0 ≤ p ∧ p ≤ 7) then 1 else if s 26 0 = 0 ∨ s 28 0 = 20 then 2 else 0
def n_repair (s : Sg) (p : Int) : Sg := if t_repair s p = 0 then sU (sU (sU (sU (sU s 37 0 0) 29 (s 28 0) p) 30 (s 28 0) (s 27 p)) 28 0 (s 28 0 + 1)) 27 p (s 27 p / 2) else sU s 37 0 (t_repair s p)
def r_repair (s : Sg) (p : Int) : Int := if t_repair s p = 0 then s 27 p / 2 else 0
def t_undo (s : Sg) : Int := if s 28 0 = 0 then 1 else 0
def n_undo (s : Sg) : Sg := if t_undo s = 0 then sU (sU (sU s 37 0 0) 28 0 (s 28 0 - 1)) 27 (s 29 (s 28 0 - 1)) (s 30 (s 28 0 - 1)) else sU s 37 0 (t_undo s)
def r_undo (s : Sg) : Int := if t_undo s = 0 then s 29 (s 28 0 - 1) else 0
def t_part (p : Int) : Int := if 0 ≤ p ∧ p ≤ 7 then 0 else 1
def n_fileIs (s : Sg) (p : Int) : Sg := sU s 37 0 (t_part p)
def r_fileIs (s : Sg) (p : Int) : Int := if t_part p = 0 then (if s 26 0 = 0 then -1 else s 27 p) else 0
/-! royalties -/
def t_contract (a x y : Int) : Int := if ¬ (0 ≤ a ∧ a ≤ 5) then 1 else if (0 ≤ x ∧ x ≤ 9999) ∧ (0 ≤ y ∧ y ≤ 999999) then 0 else 2
def n_contract (s : Sg) (a x y : Int) : Sg := if t_contract a x y = 0 then sU (sU (sU s 37 0 0) 35 a x) 36 a (jW (s 36 a - y)) else sU s 37 0 (t_contract a x y)
def r_contract (s : Sg) (a x y : Int) : Int := if t_contract a x y = 0 then jW (s 36 a - y) else 0
def t_artist (a : Int) : Int := if 0 ≤ a ∧ a ≤ 5 then 0 else 1
def n_account (s : Sg) (a : Int) : Sg := sU s 37 0 (t_artist a)
def r_account (s : Sg) (a : Int) : Int := if t_artist a = 0 then s 36 a else 0
def n_payOut (s : Sg) (a : Int) : Sg := if t_artist a = 0 then sU (sU s 37 0 0) 36 a (s 36 a - (if 0 < s 36 a then s 36 a else 0)) else sU s 37 0 (t_artist a)
def r_payOut (s : Sg) (a : Int) : Int := if t_artist a = 0 then (if 0 < s 36 a then s 36 a else 0) else 0
def t_pass (s : Sg) (x : Int) : Int := if ¬ (1 ≤ x ∧ x ≤ 999) then 1 else if 9999 < s 0 0 + x then 2 else 0
def n_pass (s : Sg) (x : Int) : Sg := if t_pass s x = 0 then sU (sU s 37 0 0) 0 0 (s 0 0 + x) else sU s 37 0 (t_pass s x)
def r_pass (s : Sg) (x : Int) : Int := if t_pass s x = 0 then s 0 0 + x else 0
theorem jW_id {x : Int} (h : jR x) : jW x = x := jI_toInt h.1 h.2
theorem sDiscs_0 (s : Sg) (k : Int) : 0 ≤ sDiscs s k := by
  unfold sDiscs
  generalize (s 22 0).toNat = n
  induction n with
  | zero => exact Int.le_refl _
  | succ n ih => unfold sDiscsTo; split <;> omega
theorem sNoise_c {s s' : Sg} (h24 : s' 24 = s 24) (h25 : s' 25 = s 25) : sNoise s' = sNoise s := by
  funext d p
  unfold sNoise
  rw [h24, h25]
theorem sJoin_c {s s' : Sg} {q p : Int} (h22 : s' 22 = s 22) (h23 : s' 23 = s 23) (h24 : s' 24 = s 24) (h25 : s' 25 = s 25) : sJoin s' q p = sJoin s q p := by
  have key : ∀ n, sJoinTo s' q p n = sJoinTo s q p n := by
    intro n
    induction n with
    | zero => rfl
    | succ n ih => unfold sJoinTo; rw [ih, sNoise_c h24 h25]
  unfold sJoin
  rw [key, h22]
theorem sFileTo_n {s : Sg} {q : Int} {k : Nat} (hk : k ≠ 27 ∧ k ≠ 37) (n : Nat) : sFileTo s q n k = s k := by
  induction n with
  | zero => unfold sFileTo; rw [sU_n hk.2]
  | succ n ih => unfold sFileTo; rw [sU_n hk.1, ih]
/-! ===== Int32 by its bits: bt x i ===== -/
def bt (x : Int32) (i : Nat) : Bool := x.toBitVec.getLsbD i
theorem b_ext {x y : Int32} (h : ∀ i, i < 32 → bt x i = bt y i) : x = y := Int32.toBitVec_inj.mp (BitVec.eq_of_getLsbD_eq (fun i hi => h i hi))
theorem b_or (x y : Int32) (i : Nat) : bt (x ||| y) i = (bt x i || bt y i) := by unfold bt; rw [Int32.toBitVec_or, BitVec.getLsbD_or]
theorem b_and (x y : Int32) (i : Nat) : bt (x &&& y) i = (bt x i && bt y i) := by unfold bt; rw [Int32.toBitVec_and, BitVec.getLsbD_and]
theorem b_xor (x y : Int32) (i : Nat) : bt (x ^^^ y) i = (bt x i ^^ bt y i) := by unfold bt; rw [Int32.toBitVec_xor, BitVec.getLsbD_xor]
theorem b_big {x : Int32} {i : Nat} (h : 32 ≤ i) : bt x i = false := BitVec.getLsbD_of_ge _ _ h
theorem b_255 (i : Nat) : bt 255 i = decide (i < 8) := by
  rcases Nat.lt_or_ge i 32 with h | h
  · exact (by decide +kernel : ∀ i, i < 32 → bt 255 i = decide (i < 8)) i h
  · rw [b_big h, decide_eq_false (by omega)]
theorem b_65535 (i : Nat) : bt 65535 i = decide (i < 16) := by
  rcases Nat.lt_or_ge i 32 with h | h
  · exact (by decide +kernel : ∀ i, i < 32 → bt 65535 i = decide (i < 16)) i h
  · rw [b_big h, decide_eq_false (by omega)]
theorem b_m1 : ∀ i, i < 32 → bt (-1) i = true := by decide +kernel
theorem b_0 (i : Nat) : bt 0 i = false := BitVec.getLsbD_zero
theorem s_l : ∀ n, n < 32 → ((nI n &&& 31).toBitVec.smod 32).toNat = n := by decide +kernel
theorem s_u : ∀ n, n < 32 → (((nI n).toUInt32 &&& Int32.toUInt32 31).toBitVec % 32).toNat = n := by decide +kernel
theorem b_shl (n : Nat) (hn : n < 32) (x : Int32) {i : Nat} (hi : i < 32) : bt (x <<< (nI n &&& 31)) i = (decide (n ≤ i) && bt x (i - n)) := by
  unfold bt
  rw [Int32.toBitVec_shiftLeft]
  show (x.toBitVec <<< ((nI n &&& 31).toBitVec.smod 32).toNat).getLsbD i = _
  rw [s_l n hn, BitVec.getLsbD_shiftLeft]
  rcases Nat.lt_or_ge i n with h | h
  · simp [h, Nat.not_le.mpr h]
  · simp [hi, h, Nat.not_lt.mpr h]
theorem b_ushr (n : Nat) (hn : n < 32) (x : Int32) (i : Nat) : bt ((x.toUInt32 >>> ((nI n).toUInt32 &&& Int32.toUInt32 31)).toInt32) i = bt x (n + i) := by
  show (x.toUInt32 >>> ((nI n).toUInt32 &&& Int32.toUInt32 31)).toBitVec.getLsbD i = x.toUInt32.toBitVec.getLsbD (n + i)
  rw [UInt32.toBitVec_shiftRight]
  show (x.toUInt32.toBitVec >>> (((nI n).toUInt32 &&& Int32.toUInt32 31).toBitVec % 32).toNat).getLsbD i = _
  rw [s_u n hn, BitVec.getLsbD_ushiftRight]
theorem b_sshr (n : Nat) (hn : n < 32) (x : Int32) {i : Nat} (hi : i < 32) : bt (x >>> (nI n &&& 31)) i = if n + i < 32 then bt x (n + i) else bt x 31 := by
  unfold bt
  rw [Int32.toBitVec_shiftRight]
  show (x.toBitVec.sshiftRight ((nI n &&& 31).toBitVec.smod 32).toNat).getLsbD i = _
  rw [s_l n hn, BitVec.getLsbD_sshiftRight, BitVec.msb_eq_getLsbD_last]
  simp [hi]
theorem b_shl8 (x : Int32) {i : Nat} (hi : i < 32) : bt (x <<< ((8 : Int32) &&& 31)) i = (decide (8 ≤ i) && bt x (i - 8)) := b_shl 8 (by omega) x hi
theorem b_shl16 (x : Int32) {i : Nat} (hi : i < 32) : bt (x <<< ((16 : Int32) &&& 31)) i = (decide (16 ≤ i) && bt x (i - 16)) := b_shl 16 (by omega) x hi
theorem b_shl24 (x : Int32) {i : Nat} (hi : i < 32) : bt (x <<< ((24 : Int32) &&& 31)) i = (decide (24 ≤ i) && bt x (i - 24)) := b_shl 24 (by omega) x hi
theorem b_sshr8 (x : Int32) {i : Nat} (hi : i < 32) : bt (x >>> ((8 : Int32) &&& 31)) i = if 8 + i < 32 then bt x (8 + i) else bt x 31 := b_sshr 8 (by omega) x hi
/-! members of a set -/
theorem jI_nat (n : Nat) : jI (n : Int) = nI n := by unfold jI nI; first | rfl | simp
theorem b_1 (i : Nat) : bt 1 i = decide (i = 0) := by
  rcases Nat.lt_or_ge i 32 with h | h
  · exact (by decide +kernel : ∀ i, i < 32 → bt 1 i = decide (i = 0)) i h
  · rw [b_big h, decide_eq_false (by omega)]
theorem sHas_bt (q : Int) {k : Nat} (hk : k < 32) : sHas q k = 1 ↔ bt (jI q) k = true := by
  have e1 : jI 1 = 1 := by decide
  have key : ((jI q >>> (jI (k : Int) &&& 31)) &&& jI 1 = jI 1) ↔ bt (jI q) k = true := by
    rw [jI_nat, e1]
    constructor
    · intro h
      have h0 := congrArg (fun x => bt x 0) h
      simp only [b_and, b_sshr k hk _ (show 0 < 32 by omega), b_1] at h0
      simpa [hk] using h0
    · intro h
      apply b_ext
      intro i hi
      rw [b_and, b_sshr k hk _ hi, b_1]
      by_cases hz : i = 0
      · subst hz; simp [hk, h]
      · simp [hz]
  unfold sHas
  by_cases h : (jI q >>> (jI (k : Int) &&& 31)) &&& jI 1 = jI 1
  · rw [if_pos h]; exact ⟨fun _ => key.mp h, fun _ => rfl⟩
  · rw [if_neg h]; exact ⟨fun h2 => absurd h2 (by decide), fun h2 => absurd (key.mpr h2) h⟩
theorem sMask : ∀ n, n < 21 → ∀ i, i < 32 → bt (jI (sBit (n : Nat) - 1) ^^^ jI (-1)) i = decide (n ≤ i) := by decide +kernel
/-- members of a set of discs are discs -/
theorem sAre_mem {s : Sg} {q : Int} (h : ¬ sAre s q = 0) (h22 : 0 ≤ s 22 0 ∧ s 22 0 ≤ 20) {k : Nat} (hk : k < 32) (hm : sHas q k = 1) : (k : Int) < s 22 0 := by
  obtain ⟨n, hn⟩ : ∃ n : Nat, s 22 0 = n := ⟨(s 22 0).toNat, by omega⟩
  have h2 : jI q &&& (jI (sBit (s 22 0) - 1) ^^^ jI (-1)) = 0 := by
    unfold sAre at h
    split at h
    · rename_i hh; exact hh.2
    · exact absurd rfl h
  rw [hn] at h2
  have h3 := congrArg (fun x => bt x k) h2
  simp only [b_and, b_0, sMask n (by omega) k hk, (sHas_bt q hk).mp hm, Bool.true_and, decide_eq_false_iff_not] at h3
  omega
theorem sAre_some {s : Sg} {q : Int} (hq : -2147483648 ≤ q ∧ q ≤ 2147483647) (h : ¬ sAre s q = 0) (h22 : 0 ≤ s 22 0 ∧ s 22 0 ≤ 20) : ∃ k : Nat, (k : Int) < s 22 0 ∧ sHas q k = 1 := by
  have h0 : ¬ q = 0 := by
    unfold sAre at h
    split at h
    · rename_i hh; exact hh.1
    · exact absurd rfl h
  apply Classical.byContradiction
  intro hno
  apply h0
  have hz : jI q = jI 0 := by
    apply b_ext
    intro i hi
    rw [show jI 0 = 0 by decide, b_0]
    cases hb : bt (jI q) i with
    | false => rfl
    | true =>
      have hm := (sHas_bt q hi).mpr hb
      exact absurd ⟨i, sAre_mem h h22 hi hm, hm⟩ hno
  exact (jI_inj (by omega)).mp hz
theorem sJoinTo_some {s : Sg} {q p : Int} {k : Nat} (hm : sHas q k = 1) (n : Nat) (hn : k < n) : 0 ≤ sJoinTo s q p n := by
  induction n with
  | zero => omega
  | succ n ih =>
    unfold sJoinTo
    split
    · omega
    · rename_i hc
      by_cases hkn : k = n
      · subst hkn
        have := sJoinTo_in s q p k
        apply Classical.byContradiction
        intro hneg
        exact hc ⟨hm, Or.inl (by omega)⟩
      · exact ih (by omega)
theorem sJoin_in {s : Sg} {q p : Int} (hq : -2147483648 ≤ q ∧ q ≤ 2147483647) (h : ¬ sAre s q = 0) (h22 : 0 ≤ s 22 0 ∧ s 22 0 ≤ 20) : 0 ≤ sJoin s q p ∧ sJoin s q p < s 22 0 := by
  obtain ⟨k, h1, h2⟩ := sAre_some hq h h22
  have h3 := sJoinTo_some (s := s) (p := p) h2 (s 22 0).toNat (by omega)
  have h4 := sJoinTo_in s q p (s 22 0).toNat
  unfold sJoin
  omega
theorem sSideTo_in {s : Sg} {q : Int} (n : Nat) (h : ∀ j : Nat, j < n → 0 ≤ s 23 j ∧ s 23 j < 120) : -1 ≤ sSideTo s q n ∧ sSideTo s q n ≤ 1000 := by
  induction n with
  | zero => unfold sSideTo; omega
  | succ n ih =>
    have := h n (by omega)
    have := ih (fun j hj => h j (by omega))
    unfold sSideTo
    split <;> omega
theorem sNoise_in {s : Sg} {c : Int} (h5 : sI5 s c) (hc : 0 ≤ c ∧ c ≤ 512) {d p : Int} (hd : 0 ≤ d ∧ d < 20) (hp : 0 ≤ p ∧ p < 8) : 0 ≤ sNoise s d p ∧ sNoise s d p ≤ 100000 := by
  have g1 := h5.2.1 d hd.1 hd.2
  have g2 := h5.2.2.1 (8 * d + p) (by omega) (by omega)
  have g3 : 0 ≤ s 24 d * (p + 1) := Int.mul_nonneg g1.1 (by omega)
  have g4 : s 24 d * (p + 1) ≤ 76800 * (p + 1) := Int.mul_le_mul_of_nonneg_right (by omega) (by omega)
  unfold sNoise
  omega
/-! sales: what stays -/
theorem sSecTo_in {s : Sg} {d : Int} (h : ∀ q : Int, 0 ≤ q → q < 6 → 0 ≤ s 14 (6 * d + q)) (q : Int) (n : Nat) (hn : n ≤ 6) : 0 ≤ sSecTo s d q n ∧ sSecTo s d q n ≤ sSecTo s d (-1) n := by
  induction n with
  | zero => unfold sSecTo; omega
  | succ n ih =>
    have g1 := ih (by omega)
    have g2 := h n (by omega) (by omega)
    unfold sSecTo
    rw [if_pos (Or.inl rfl)]
    split <;> omega
theorem sSec_in {s : Sg} (h3 : sI3 s) {d : Int} (hd : 0 ≤ d ∧ d < s 13 0) (q : Int) : 0 ≤ sSec s d q ∧ sSec s d q ≤ 2000 := by
  have g1 := sSecTo_in (s := s) (d := d) (fun q h1 h2 => h3.2.1 d q hd.1 hd.2 h1 h2) q 6 (Nat.le_refl _)
  have g2 := h3.2.2.1 d hd.1 hd.2
  unfold sSec at g2 ⊢
  omega
theorem sSellTo_n {s : Sg} {k x : Int} {i : Nat} (hi : i ≠ 18 ∧ i ≠ 32 ∧ i ≠ 33 ∧ i ≠ 34 ∧ i ≠ 36 ∧ i ≠ 37) (n : Nat) : sSellTo s k x n i = s i := by
  induction n with
  | zero => unfold sSellTo; rw [sU_n hi.2.2.1, sU_n hi.2.1, sU_n hi.1, sU_n hi.2.2.2.2.2]
  | succ n ih => unfold sSellTo; rw [sU_n hi.2.2.2.2.1, sU_n hi.2.2.2.1, ih]
theorem sSellTo_32 {s : Sg} {k x : Int} (n : Nat) : sSellTo s k x n 32 (s 31 0) = k := by
  induction n with
  | zero => unfold sSellTo; rw [sU_n (by decide), sU_s]
  | succ n ih => unfold sSellTo; rw [sU_n (by decide), sU_n (by decide), ih]
theorem sSellTo_18 {s : Sg} {k x : Int} (n : Nat) : sSellTo s k x n 18 k = s 18 k + x := by
  induction n with
  | zero => unfold sSellTo; rw [sU_n (by decide), sU_n (by decide), sU_s]
  | succ n ih => unfold sSellTo; rw [sU_n (by decide), sU_n (by decide), ih]
theorem sSellTo_36 {s : Sg} {k x i : Int} (n : Nat) (hi : (n : Int) ≤ i) : sSellTo s k x n 36 i = s 36 i := by
  induction n with
  | zero => rfl
  | succ n ih => unfold sSellTo; rw [sU_i (by omega), sU_n (by decide), ih (by omega)]
theorem sSell_due {s : Sg} {k x : Int} {j : Nat} (hj : j < 6) : sDue (sU (sSellTo s k x j) 34 (6 * s 31 0 + j) (s 35 j)) (s 31 0) j x = x * s 35 j * sSec s (k / 12) j / (100 * sSec s (k / 12) (-1)) := by
  unfold sDue
  rw [sU_s, sU_n (k := 34) (k' := 32) (by decide), sSellTo_32, sSec_c (s := s) (by rw [sU_n (by decide), sSellTo_n (by decide)])]
theorem sOff_n {s : Sg} {z m : Int} {k : Nat} (hk : k ≠ 33 ∧ k ≠ 36) : sOff s z m k = s k := by
  unfold sOff; rw [sU_n hk.1, sOffTo_n hk.2]
theorem sBackS_n {s : Sg} {k x : Int} {i : Nat} (hi : i ≠ 33 ∧ i ≠ 36 ∧ i ≠ 37) (n : Nat) : sBackS s k x n i = s i := by
  induction n with
  | zero => unfold sBackS; rw [sU_n hi.2.2]
  | succ n ih => unfold sBackS; split; rw [sOff_n ⟨hi.1, hi.2.1⟩, ih]; exact ih
theorem sBackS_33 {s : Sg} {k x i : Int} (n : Nat) (hi : i ≤ s 31 0 - 1 - n) : sBackS s k x n 33 i = s 33 i := by
  induction n with
  | zero => rfl
  | succ n ih =>
    unfold sBackS
    split
    · unfold sOff; rw [sU_i (by omega), sOffTo_n (by decide), ih (by omega)]
    · exact ih (by omega)
/-! cutting -/
theorem sCutIn_n {s S : Sg} {t : Int} {i : Nat} (hi : i ≠ 14) (n : Nat) : sCutIn s S t n i = S i := by
  induction n with
  | zero => rfl
  | succ n ih => unfold sCutIn; rw [sU_n hi, ih]
theorem sCutTo_n {s : Sg} {i : Nat} (hi : i ≠ 14 ∧ i ≠ 15 ∧ i ≠ 37) (n : Nat) : sCutTo s n i = s i := by
  induction n with
  | zero => unfold sCutTo; rw [sU_n hi.2.2]
  | succ n ih => unfold sCutTo; rw [sCutIn_n hi.1, sU_n hi.2.1, ih]
theorem sCutIn_14 {s S : Sg} {t x b : Int} (hb : 0 ≤ S 14 x ∧ S 14 x ≤ b) (n : Nat) (h : ∀ j : Nat, j < n → 0 ≤ s 10 (20 * t + j) - s 9 (20 * t + j) ∧ s 10 (20 * t + j) - s 9 (20 * t + j) ≤ 900) : 0 ≤ sCutIn s S t n 14 x ∧ sCutIn s S t n 14 x ≤ b + 900 * n := by
  induction n with
  | zero => unfold sCutIn; omega
  | succ n ih =>
    have g1 := ih (fun j hj => h j (by omega))
    have g2 := h n (by omega)
    unfold sCutIn
    by_cases hx : x = 6 * s 13 0 + s 6 (s 8 (20 * t + n))
    · subst hx; rw [sU_s]; omega
    · rw [sU_i hx]; omega
theorem sCutTo_14 {s : Sg} {x : Int} (h1 : sI1 s) (h2 : sI2 s) (hx : s 14 x = 0) (n : Nat) (hn : (n : Int) ≤ s 11 0) : 0 ≤ sCutTo s n 14 x ∧ sCutTo s n 14 x ≤ 18000 * n := by
  induction n with
  | zero => unfold sCutTo; rw [sU_n (by decide), hx]; omega
  | succ n ih =>
    have g1 := ih (by omega)
    have g2 := h2.2 n (by omega) (by omega)
    have g3 := (h1.2.2.1 (s 12 n) (by omega) (by omega)).2.2.2.2.2
    unfold sCutTo
    have g4 := sCutIn_14 (s := s) (S := sU (sCutTo s n) 15 (s 13 0) (sOr (sCutTo s n 15 (s 13 0)) (sTakes s (s 12 n)))) (t := s 12 n) (x := x) (b := 18000 * n) (by rw [sU_n (by decide)]; exact g1) (s 7 (s 12 n)).toNat (fun j hj => by have := (h1.2.2.2.2 (s 12 n) j (by omega) (by omega) (by omega) (by omega)).2; omega)
    omega
theorem sProg_in {s : Sg} (h1 : sI1 s) (h2 : sI2 s) (n : Nat) (hn : (n : Int) ≤ s 11 0) : -3 ≤ sProgTo s n ∧ sProgTo s n ≤ 18 + 18000 * n := by
  induction n with
  | zero => have := h2.1; unfold sProgTo; omega
  | succ n ih =>
    have g1 := ih (by omega)
    have g2 := h2.2 n (by omega) (by omega)
    have g3 := (h1.2.2.1 (s 12 n) (by omega) (by omega)).2.2.2.2.2
    have key : ∀ j : Nat, (j : Int) ≤ s 7 (s 12 n) → 0 ≤ sLenTo s (s 12 n) j ∧ sLenTo s (s 12 n) j ≤ 900 * j := by
      intro j
      induction j with
      | zero => intro _; unfold sLenTo; omega
      | succ j ih =>
        intro hj
        have g1 := ih (by omega)
        have g2 := (h1.2.2.2.2 (s 12 n) j (by omega) (by omega) (by omega) (by omega)).2
        unfold sLenTo
        omega
    have g4 := key (s 7 (s 12 n)).toNat (by omega)
    unfold sProgTo sLen
    omega
