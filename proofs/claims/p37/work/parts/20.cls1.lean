/-! ===== the class's cells: kind k, index i; ad: where; cC: what ===== -/
abbrev Ad : Type := Nat → Int → Nat
abbrev Cm : Type := Nat → Int → Option va_E
def wn (n : Int) (g : Int → Int) : Int → Int := fun j => if 0 ≤ j ∧ j < n then g j else 0
theorem wn_at {n : Int} {g : Int → Int} {j : Int} (h : 0 ≤ j ∧ j < n) : wn n g j = g j := if_pos h
theorem wn_c {n : Int} {g g' : Int → Int} (h : ∀ j, 0 ≤ j → j < n → g' j = g j) : wn n g' = wn n g := by
  funext j
  unfold wn
  split
  · rename_i hj; exact h j hj.1 hj.2
  · rfl
theorem wn_ju {n : Int} {g : Int → Int} {p x : Int} {g' : Int → Int} (hp : 0 ≤ p ∧ p < n) (h : ∀ j, 0 ≤ j → j < n → g' j = if j = p then x else g j) : ju (wn n g) p x = wn n g' := by
  funext j
  unfold ju
  by_cases hj : j = p
  · rw [if_pos hj, hj, wn_at hp, h p hp.1 hp.2, if_pos rfl]
  · rw [if_neg hj]
    unfold wn
    split
    · rename_i hw; rw [h j hw.1 hw.2, if_neg hj]
    · rfl
theorem wn_0 {n : Int} {g : Int → Int} (h : ∀ j, 0 ≤ j → j < n → g j = 0) : wn n g = fun _ => 0 := by
  funext j
  unfold wn
  split
  · rename_i hj; exact h j hj.1 hj.2
  · rfl
def rRow (ad : Ad) (k : Nat) (n : Int) : Int → Option Nat := fun j => if 0 ≤ j ∧ j < n then some (ad k j) else none
theorem rRow_at {ad : Ad} {k : Nat} {n j : Int} (h : 0 ≤ j ∧ j < n) : rRow ad k n j = some (ad k j) := if_pos h
theorem rRow_no {ad : Ad} {k : Nat} {n j : Int} (h : ¬ (0 ≤ j ∧ j < n)) : rRow ad k n j = none := if_neg h
theorem rRow_some {ad : Ad} {k a : Nat} {n j : Int} (h : rRow ad k n j = some a) : (0 ≤ j ∧ j < n) ∧ a = ad k j := by
  unfold rRow at h
  split at h
  · rename_i hj; exact ⟨hj, (Option.some.inj h).symm⟩
  · cases h
theorem rRow_none {ad : Ad} {k : Nat} {n j : Int} (h : rRow ad k n j = none) : ¬ (0 ≤ j ∧ j < n) := by
  unfold rRow at h
  split at h
  · cases h
  · rename_i hj; exact hj
def pRow (ad : Ad) (s : Sg) : Int → Option Nat := fun j => if 0 ≤ j ∧ j < s 11 0 then some (ad 16 (s 12 j)) else none
theorem pRow_at {ad : Ad} {s : Sg} {j : Int} (h : 0 ≤ j ∧ j < s 11 0) : pRow ad s j = some (ad 16 (s 12 j)) := if_pos h
theorem pRow_no {ad : Ad} {s : Sg} {j : Int} (h : ¬ (0 ≤ j ∧ j < s 11 0)) : pRow ad s j = none := if_neg h
def mRow (ad : Ad) (s : Sg) (d : Int) : Int → Option Nat := fun p => if (0 ≤ p ∧ p < 12) ∧ ¬ s 16 (12 * d + p) = -1 then some (ad 23 (12 * d + p)) else none
theorem mRow_at {ad : Ad} {s : Sg} {d p : Int} (h : (0 ≤ p ∧ p < 12) ∧ ¬ s 16 (12 * d + p) = -1) : mRow ad s d p = some (ad 23 (12 * d + p)) := if_pos h
theorem mRow_no {ad : Ad} {s : Sg} {d p : Int} (h : ¬ ((0 ≤ p ∧ p < 12) ∧ ¬ s 16 (12 * d + p) = -1)) : mRow ad s d p = none := if_neg h
/-- a tape that may be missing -/
def oRef (ad : Ad) (t : Int) : Option Nat := if t = -1 then none else some (ad 16 t)
/-! the fields of its objects -/
abbrev fHouse (ad : Ad) (s : Sg) : List Value := [.int (jI (s 0 0)), .ref (ad 1 0), .int (jI (s 1 0)), .ref (ad 4 0), .ref (ad 2 0), .int (jI (s 13 0)), .ref (ad 3 0), .int (jI (s 22 0)), .ref (ad 6 0), .ref (ad 10 0)]
abbrev fProg (ad : Ad) (s : Sg) : List Value := [.ref (ad 5 0), .int (jI (s 11 0))]
abbrev fFile (ad : Ad) (s : Sg) : List Value := [.int (jI (s 26 0)), .ref (ad 7 0), .ref (ad 8 0), .ref (ad 9 0), .int (jI (s 28 0))]
abbrev fRoy (ad : Ad) (s : Sg) : List Value := [.ref (ad 11 0), .ref (ad 12 0), .ref (ad 13 0), .ref (ad 14 0), .ref (ad 15 0), .int (jI (s 31 0))]
abbrev fTape (ad : Ad) (s e : Sg) (t : Int) : List Value := [.int (jI t), .int (jI (s 5 t)), .int (jI (s 4 t)), .int (jI (s 6 t)), va_rf (oRef ad (e 2 t)), .int (jI (e 3 t)), .int (jI (e 4 t)), va_rf (oRef ad (e 5 t)), .ref (ad 17 t), .ref (ad 18 t), .ref (ad 19 t), .int (jI (s 7 t)), .int (jI (sLen s t)), .int (jI (s 2 t)), .int (jI (s 3 t))]
abbrev fSide (ad : Ad) (s : Sg) (d : Int) : List Value := [.ref (ad 21 d), .ref (ad 22 d), .int (jI (sMadeTo s d 12)), .int (jI (sSec s d (-1))), .int (jI (s 15 d))]
abbrev fStamp (s : Sg) (k : Int) : List Value := [.int (jI (s 16 k)), .int (jI (s 17 k)), .int (jI (s 20 k)), .int (jI (s 21 k)), .int (jI (s 18 k)), .int (jI (s 19 k)), .int (jI (sDiscs s k))]
abbrev fDisc (ad : Ad) (s : Sg) (d : Int) : List Value := [.ref (ad 20 (s 23 d / 12)), .ref (ad 25 d), .int (jI (s 24 d))]
abbrev fSale (ad : Ad) (s : Sg) (j : Int) : List Value := [.ref (ad 20 (s 32 j / 12)), .ref (ad 23 (s 32 j)), .ref (ad 27 j), .int (jI (s 33 j))]
def cC (ac : Nat → ClassId) (ad : Ad) (s e : Sg) : Cm := fun k i => match k with
  | 0 => if i = 0 then some (jj_o 8 (fHouse ad s)) else none
  | 1 => if i = 0 then some (jj_aq (ac 2) 30 (rRow ad 16 (s 1 0))) else none
  | 2 => if i = 0 then some (jj_aq (ac 3) 10 (rRow ad 20 (s 13 0))) else none
  | 3 => if i = 0 then some (jj_aq (ac 5) 20 (rRow ad 24 (s 22 0))) else none
  | 4 => if i = 0 then some (jj_o 1 (fProg ad s)) else none
  | 5 => if i = 0 then some (jj_aq (ac 2) 6 (pRow ad s)) else none
  | 6 => if i = 0 then some (jj_o 5 (fFile ad s)) else none
  | 7 => if i = 0 then some (jj_ai (ac 0) 8 (s 27)) else none
  | 8 => if i = 0 then some (jj_ai (ac 0) 20 (s 29)) else none
  | 9 => if i = 0 then some (jj_ai (ac 0) 20 (s 30)) else none
  | 10 => if i = 0 then some (jj_o 2 (fRoy ad s)) else none
  | 11 => if i = 0 then some (jj_ai (ac 0) 6 (wn 6 (s 35))) else none
  | 12 => if i = 0 then some (jj_ai (ac 0) 6 (e 0)) else none
  | 13 => if i = 0 then some (jj_ai (ac 0) 6 (e 1)) else none
  | 14 => if i = 0 then some (jj_ai (ac 0) 6 (s 36)) else none
  | 15 => if i = 0 then some (jj_aq (ac 6) 100 (rRow ad 26 (s 31 0))) else none
  | 16 => if 0 ≤ i ∧ i < s 1 0 then some (jj_o 7 (fTape ad s e i)) else none
  | 17 => if 0 ≤ i ∧ i < s 1 0 then some (jj_ai (ac 0) 20 (wn 20 (fun j => s 8 (20 * i + j)))) else none
  | 18 => if 0 ≤ i ∧ i < s 1 0 then some (jj_ai (ac 0) 20 (wn 20 (fun j => s 9 (20 * i + j)))) else none
  | 19 => if 0 ≤ i ∧ i < s 1 0 then some (jj_ai (ac 0) 20 (wn 20 (fun j => s 10 (20 * i + j)))) else none
  | 20 => if 0 ≤ i ∧ i < s 13 0 then some (jj_o 4 (fSide ad s i)) else none
  | 21 => if 0 ≤ i ∧ i < s 13 0 then some (jj_ai (ac 0) 6 (wn 6 (fun j => s 14 (6 * i + j)))) else none
  | 22 => if 0 ≤ i ∧ i < s 13 0 then some (jj_aq (ac 4) 12 (mRow ad s i)) else none
  | 23 => if (0 ≤ i ∧ i < 120) ∧ ¬ s 16 i = -1 then some (jj_o 6 (fStamp s i)) else none
  | 24 => if 0 ≤ i ∧ i < s 22 0 then some (jj_o 0 (fDisc ad s i)) else none
  | 25 => if 0 ≤ i ∧ i < s 22 0 then some (jj_ai (ac 0) 8 (wn 8 (fun j => s 25 (8 * i + j)))) else none
  | 26 => if 0 ≤ i ∧ i < s 31 0 then some (jj_o 3 (fSale ad s i)) else none
  | 27 => if 0 ≤ i ∧ i < s 31 0 then some (jj_ai (ac 0) 6 (wn 6 (fun j => s 34 (6 * i + j)))) else none
  | _ => none
def Has (ad : Ad) (C : Cm) (G : jj_G) : Prop := ∀ k i x, C k i = some x → G (ad k i) = some x
def Inj (ad : Ad) (C : Cm) : Prop := ∀ k i k' i', C k i ≠ none → C k' i' ≠ none → ad k i = ad k' i' → k = k' ∧ i = i'
def Rep (ad : Ad) (C : Cm) (G : jj_G) : Prop := Has ad C G ∧ Inj ad C
def cU (C : Cm) (k : Nat) (i : Int) (x : va_E) : Cm := fun k' i' => if k' = k then (if i' = i then some x else C k' i') else C k' i'
theorem cU_s {C : Cm} {k : Nat} {i : Int} {x : va_E} : cU C k i x k i = some x := by simp [cU]
theorem cU_k {C : Cm} {k k' : Nat} {i i' : Int} {x : va_E} (h : k' ≠ k) : cU C k i x k' i' = C k' i' := by simp [cU, h]
theorem cU_i {C : Cm} {k k' : Nat} {i i' : Int} {x : va_E} (h : i' ≠ i) : cU C k i x k' i' = C k' i' := by simp [cU, h]
def aU (ad : Ad) (k : Nat) (i : Int) (q : Nat) : Ad := fun k' i' => if k' = k then (if i' = i then q else ad k' i') else ad k' i'
theorem aU_s {ad : Ad} {k q : Nat} {i : Int} : aU ad k i q k i = q := by simp [aU]
theorem aU_k {ad : Ad} {k k' q : Nat} {i i' : Int} (h : k' ≠ k) : aU ad k i q k' i' = ad k' i' := by simp [aU, h]
theorem aU_i {ad : Ad} {k k' q : Nat} {i i' : Int} (h : i' ≠ i) : aU ad k i q k' i' = ad k' i' := by simp [aU, h]
theorem Has.at {ad : Ad} {C : Cm} {G : jj_G} (h : Has ad C G) {k : Nat} {i : Int} {x : va_E} (hc : C k i = some x) : G (ad k i) = some x := h k i x hc
theorem Rep.at {ad : Ad} {C : Cm} {G : jj_G} (h : Rep ad C G) {k : Nat} {i : Int} {x : va_E} (hc : C k i = some x) : G (ad k i) = some x := h.1 k i x hc
theorem Rep.set {ad : Ad} {C : Cm} {G : jj_G} (h : Rep ad C G) {k : Nat} {i : Int} {x0 : va_E} (hc : C k i = some x0) (x : va_E) : Rep ad (cU C k i x) (jj_u G (ad k i) x) := by
  have hn : ∀ k' i', cU C k i x k' i' ≠ none → C k' i' ≠ none := by
    intro k' i' hq
    by_cases h1 : k' = k
    · by_cases h2 : i' = i
      · rw [h1, h2, hc]; exact fun h => by cases h
      · rw [cU_i h2] at hq; exact hq
    · rw [cU_k h1] at hq; exact hq
  refine ⟨fun k' i' y hy => ?_, fun k1 i1 k2 i2 h1 h2 he => h.2 k1 i1 k2 i2 (hn _ _ h1) (hn _ _ h2) he⟩
  by_cases h0 : k' = k ∧ i' = i
  · obtain ⟨rfl, rfl⟩ := h0
    rw [cU_s] at hy
    rw [jj_us, hy]
  · have hC : C k' i' = some y := by
      by_cases h1 : k' = k
      · rw [← cU_i (C := C) (x := x) (k := k) (i := i) (k' := k') (fun h2 => h0 ⟨h1, h2⟩)]; exact hy
      · rw [← cU_k (C := C) (x := x) (k := k) (i := i) (i' := i') h1]; exact hy
    rw [jj_un (fun he => h0 (h.2 k' i' k i (by rw [hC]; exact fun h => by cases h) (by rw [hc]; exact fun h => by cases h) he))]
    exact h.1 k' i' y hC
theorem Rep.new {ad : Ad} {C : Cm} {G : jj_G} (h : Rep ad C G) {k : Nat} {i : Int} {q : Nat} (hc : C k i = none) (hq : G q = none) (x : va_E) : Rep (aU ad k i q) (cU C k i x) (jj_u G q x) := by
  have key : ∀ k' i', cU C k i x k' i' ≠ none → (k' = k ∧ i' = i) ∨ (C k' i' ≠ none ∧ aU ad k i q k' i' = ad k' i' ∧ ad k' i' ≠ q) := by
    intro k' i' hn
    by_cases h0 : k' = k ∧ i' = i
    · exact Or.inl h0
    · have hC : C k' i' ≠ none := by
        by_cases h1 : k' = k
        · rw [cU_i (fun h2 => h0 ⟨h1, h2⟩)] at hn; exact hn
        · rw [cU_k h1] at hn; exact hn
      refine Or.inr ⟨hC, ?_, fun he => ?_⟩
      · by_cases h1 : k' = k
        · exact aU_i (fun h2 => h0 ⟨h1, h2⟩)
        · exact aU_k h1
      · cases hx : C k' i' with
        | none => exact hC hx
        | some y => rw [← he, h.1 k' i' y hx] at hq; cases hq
  refine ⟨fun k' i' y hy => ?_, fun k1 i1 k2 i2 h1 h2 he => ?_⟩
  · rcases key k' i' (by rw [hy]; exact fun h => by cases h) with ⟨rfl, rfl⟩ | ⟨h1, h2, h3⟩
    · rw [cU_s] at hy; rw [aU_s, jj_us, hy]
    · rw [h2, jj_un h3]
      refine h.1 k' i' y ?_
      by_cases e1 : k' = k
      · by_cases e2 : i' = i
        · subst e1; subst e2; exact absurd hc h1
        · rw [cU_i e2] at hy; exact hy
      · rw [cU_k e1] at hy; exact hy
  · rcases key k1 i1 h1 with ⟨rfl, rfl⟩ | ⟨a1, a2, a3⟩
    · rcases key k2 i2 h2 with ⟨rfl, rfl⟩ | ⟨b1, b2, b3⟩
      · exact ⟨rfl, rfl⟩
      · rw [aU_s, b2] at he; exact absurd he.symm b3
    · rcases key k2 i2 h2 with ⟨rfl, rfl⟩ | ⟨b1, b2, b3⟩
      · rw [aU_s, a2] at he; exact absurd he a3
      · rw [a2, b2] at he; exact h.2 k1 i1 k2 i2 a1 b1 he
theorem Rep.congr {ad : Ad} {C C' : Cm} {G : jj_G} (h : Rep ad C G) (hc : ∀ k i, C' k i = C k i) : Rep ad C' G := by
  rw [show C' = C from funext fun k => funext fun i => hc k i]; exact h
/-- another map of places that says the same where there is something -/
theorem Rep.ad {ad ad' : Ad} {C : Cm} {G : jj_G} (h : Rep ad C G) (hc : ∀ k i, C k i ≠ none → ad' k i = ad k i) : Rep ad' C G :=
  ⟨fun k i x hx => by rw [hc k i (by rw [hx]; exact fun h => by cases h)]; exact h.1 k i x hx, fun k i k' i' h1 h2 he => h.2 k i k' i' h1 h2 (by rw [← hc k i h1, ← hc k' i' h2]; exact he)⟩
/-- what is read is there, whatever is new beside it -/
theorem Has.kept {ad : Ad} {C : Cm} {G G' : jj_G} (h : Has ad C G) (hk : ∀ q, G q ≠ none → G' q = G q) : Has ad C G' := fun k i x hx => by
  rw [hk _ (by rw [h k i x hx]; exact fun h => by cases h)]; exact h k i x hx
/-! facts -/
theorem cc_0 {ac : Nat → ClassId} {ad : Ad} {s e : Sg} : cC ac ad s e 0 0 = some (jj_o 8 (fHouse ad s)) := rfl
theorem cc_1 {ac : Nat → ClassId} {ad : Ad} {s e : Sg} : cC ac ad s e 1 0 = some (jj_aq (ac 2) 30 (rRow ad 16 (s 1 0))) := rfl
theorem cc_2 {ac : Nat → ClassId} {ad : Ad} {s e : Sg} : cC ac ad s e 2 0 = some (jj_aq (ac 3) 10 (rRow ad 20 (s 13 0))) := rfl
theorem cc_3 {ac : Nat → ClassId} {ad : Ad} {s e : Sg} : cC ac ad s e 3 0 = some (jj_aq (ac 5) 20 (rRow ad 24 (s 22 0))) := rfl
theorem cc_4 {ac : Nat → ClassId} {ad : Ad} {s e : Sg} : cC ac ad s e 4 0 = some (jj_o 1 (fProg ad s)) := rfl
theorem cc_5 {ac : Nat → ClassId} {ad : Ad} {s e : Sg} : cC ac ad s e 5 0 = some (jj_aq (ac 2) 6 (pRow ad s)) := rfl
theorem cc_6 {ac : Nat → ClassId} {ad : Ad} {s e : Sg} : cC ac ad s e 6 0 = some (jj_o 5 (fFile ad s)) := rfl
theorem cc_7 {ac : Nat → ClassId} {ad : Ad} {s e : Sg} : cC ac ad s e 7 0 = some (jj_ai (ac 0) 8 (s 27)) := rfl
theorem cc_8 {ac : Nat → ClassId} {ad : Ad} {s e : Sg} : cC ac ad s e 8 0 = some (jj_ai (ac 0) 20 (s 29)) := rfl
theorem cc_9 {ac : Nat → ClassId} {ad : Ad} {s e : Sg} : cC ac ad s e 9 0 = some (jj_ai (ac 0) 20 (s 30)) := rfl
theorem cc_10 {ac : Nat → ClassId} {ad : Ad} {s e : Sg} : cC ac ad s e 10 0 = some (jj_o 2 (fRoy ad s)) := rfl
theorem cc_11 {ac : Nat → ClassId} {ad : Ad} {s e : Sg} : cC ac ad s e 11 0 = some (jj_ai (ac 0) 6 (wn 6 (s 35))) := rfl
theorem cc_12 {ac : Nat → ClassId} {ad : Ad} {s e : Sg} : cC ac ad s e 12 0 = some (jj_ai (ac 0) 6 (e 0)) := rfl
theorem cc_13 {ac : Nat → ClassId} {ad : Ad} {s e : Sg} : cC ac ad s e 13 0 = some (jj_ai (ac 0) 6 (e 1)) := rfl
theorem cc_14 {ac : Nat → ClassId} {ad : Ad} {s e : Sg} : cC ac ad s e 14 0 = some (jj_ai (ac 0) 6 (s 36)) := rfl
theorem cc_15 {ac : Nat → ClassId} {ad : Ad} {s e : Sg} : cC ac ad s e 15 0 = some (jj_aq (ac 6) 100 (rRow ad 26 (s 31 0))) := rfl
