theorem GL.swap {G G' : jj_G} {a b : Nat} {x y : va_E} (h : GL G [(a, x), (b, y)] G') : GL G [(b, y), (a, x)] G' := by
  refine ⟨fun m q z hm => ?_, fun m m' q z z' hm hm' => ?_, h.2.2⟩
  · match m with
    | 0 => exact h.1 1 q z hm
    | 1 => exact h.1 0 q z hm
    | m + 2 => cases hm
  · match m, m' with
    | 0, 0 => rfl
    | 1, 1 => rfl
    | 0, 1 => exact absurd (h.2.1 1 0 q z z' hm hm') (by decide)
    | 1, 0 => exact absurd (h.2.1 0 1 q z z' hm hm') (by decide)
    | m + 2, _ => cases hm
    | 0, m' + 2 => cases hm'
    | 1, m' + 2 => cases hm'
/-- a sale that is new: what of the state says it -/
def SaleNew (s B : Sg) (k x : Int) : Prop := (∀ r, r < 37 → r ≠ 31 → r ≠ 32 → r ≠ 33 → r ≠ 34 → B r = s r) ∧ B 31 0 = s 31 0 + 1 ∧ (B 32 = ju (s 32) (s 31 0) k) ∧ (B 33 = ju (s 33) (s 31 0) x) ∧ (∀ i, i < 6 * s 31 0 → B 34 i = s 34 i) ∧ (∀ j, 0 ≤ j → j < 6 → B 34 (6 * s 31 0 + j) = s 35 j) ∧ 0 ≤ s 31 0
abbrev aL (ad : Ad) (z : Int) (q a : Nat) : Ad := aU (aU ad 27 z a) 26 z q
theorem aL_27 {ad : Ad} {z i : Int} {q a : Nat} (h : i ≠ z) : aL ad z q a 27 i = ad 27 i := by simp [aL, aU, h]
theorem aL_27s {ad : Ad} {z : Int} {q a : Nat} : aL ad z q a 27 z = a := by simp [aL, aU]
theorem aL_26 {ad : Ad} {z i : Int} {q a : Nat} (h : i ≠ z) : aL ad z q a 26 i = ad 26 i := by simp [aL, aU, h]
theorem aL_26s {ad : Ad} {z : Int} {q a : Nat} : aL ad z q a 26 z = q := by simp [aL, aU]
section LK
variable {ac : Nat → ClassId} {ad : Ad} {s e B : Sg} {k x : Int} {q a : Nat}
theorem lk_26 {C : Cm} (hC : ∀ i, i ≠ s 31 0 → C 26 i = if 0 ≤ i ∧ i < s 31 0 then some (jj_o 3 (fSale ad s i)) else none) (h : SaleNew s B k x) {d : Int} (hd : k / 12 = d) (i : Int) : cC ac (aL ad (s 31 0) q a) B e 26 i = cU C 26 (s 31 0) (jj_o 3 [.ref (ad 20 d), .ref (ad 23 k), .ref a, .int (jI x)]) 26 i :=
  ki (C := C) (p := fun i => 0 ≤ i ∧ i < B 31 0) (A := fun i => jj_o 3 (fSale (aL ad (s 31 0) q a) B i)) (p' := fun i => 0 ≤ i ∧ i < s 31 0) (B := fun i => jj_o 3 (fSale ad s i)) hC (by rw [h.2.1]; have := h.2.2.2.2.2.2; omega) (congrArg (jj_o 3) (by
    show ([.ref (ad 20 (B 32 (s 31 0) / 12)), .ref (ad 23 (B 32 (s 31 0))), .ref (aL ad (s 31 0) q a 27 (s 31 0)), .int (jI (B 33 (s 31 0)))] : List Value) = _
    rw [h.2.2.1, h.2.2.2.1, ju_s, ju_s, aL_27s, hd])) (fun i hi => by rw [h.2.1]; omega) (fun i hi hp => congrArg (jj_o 3) (by
    show ([.ref (ad 20 (B 32 i / 12)), .ref (ad 23 (B 32 i)), .ref (aL ad (s 31 0) q a 27 i), .int (jI (B 33 i))] : List Value) = _
    rw [h.2.2.1, h.2.2.2.1, ju_n hi, ju_n hi, aL_27 hi])) i
theorem lk_27 {C : Cm} (hC : ∀ i, i ≠ s 31 0 → C 27 i = if 0 ≤ i ∧ i < s 31 0 then some (jj_ai (ac 0) 6 (wn 6 (fun j => s 34 (6 * i + j)))) else none) (h : SaleNew s B k x) (i : Int) : cC ac (aL ad (s 31 0) q a) B e 27 i = cU C 27 (s 31 0) (jj_ai (ac 0) 6 (wn 6 (s 35))) 27 i :=
  ki (C := C) (p := fun i => 0 ≤ i ∧ i < B 31 0) (A := fun i => jj_ai (ac 0) 6 (wn 6 (fun j => B 34 (6 * i + j)))) (p' := fun i => 0 ≤ i ∧ i < s 31 0) (B := fun i => jj_ai (ac 0) 6 (wn 6 (fun j => s 34 (6 * i + j)))) hC (by rw [h.2.1]; have := h.2.2.2.2.2.2; omega) (congrArg (jj_ai (ac 0) 6) (wn_c (fun j h1 h2 => h.2.2.2.2.2.1 j h1 h2))) (fun i hi => by rw [h.2.1]; omega) (fun i hi hp => congrArg (jj_ai (ac 0) 6) (wn_c (fun j h1 h2 => h.2.2.2.2.1 _ (by rw [h.2.1] at hp; omega)))) i
end LK
/-- the state of a sale that is booked, but for the accounts -/
def sSaleR (s : Sg) (z : Int) : Nat → Sg
  | 0 => s
  | n + 1 => sU (sSaleR s z n) 34 (6 * z + n) (s 35 n)
theorem sSaleR_n {s : Sg} {z : Int} {r : Nat} (h : r ≠ 34) (n : Nat) : sSaleR s z n r = s r := by
  induction n with
  | zero => rfl
  | succ n ih => simp only [sSaleR]; rw [sU_n h, ih]
theorem sSaleR_34 {s : Sg} {z i : Int} (n : Nat) : sSaleR s z n 34 i = if 6 * z ≤ i ∧ i < 6 * z + n then s 35 (i - 6 * z) else s 34 i := by
  induction n with
  | zero => rw [if_neg (by omega)]; rfl
  | succ n ih =>
    simp only [sSaleR]
    by_cases h : i = 6 * z + n
    · subst h; rw [sU_s, if_pos (by omega)]; congr 1; omega
    · rw [sU_i h, ih]
      by_cases h2 : 6 * z ≤ i ∧ i < 6 * z + n
      · rw [if_pos h2, if_pos (by omega)]
      · rw [if_neg h2, if_neg (by omega)]
def sSaleB (s : Sg) (k x : Int) : Sg := sU (sU (sU (sSaleR s (s 31 0) 6) 32 (s 31 0) k) 33 (s 31 0) x) 31 0 (s 31 0 + 1)
theorem sSaleB_new {s : Sg} {k x : Int} (h0 : 0 ≤ s 31 0) : SaleNew s (sSaleB s k x) k x := by
  refine ⟨fun r h1 h2 h3 h4 h5 => by unfold sSaleB; rw [sU_n h2, sU_n h4, sU_n h3, sSaleR_n h5], sU_s, ?_, ?_, fun i hi => ?_, fun j h1 h2 => ?_, h0⟩
  · unfold sSaleB; rw [sU_n (by decide), sU_n (by decide), sU_k, sSaleR_n (by decide)]
  · unfold sSaleB; rw [sU_n (by decide), sU_k, sU_n (by decide), sSaleR_n (by decide)]
  · unfold sSaleB; rw [sU_n (by decide), sU_n (by decide), sU_n (by decide), sSaleR_34, if_neg (by omega)]
  · unfold sSaleB; rw [sU_n (by decide), sU_n (by decide), sU_n (by decide), sSaleR_34, if_pos (by omega)]; congr 1; omega
theorem sSellTo_36i {s : Sg} {k x i : Int} (n : Nat) : sSellTo s k x n 36 i = if 0 ≤ i ∧ i < n then jW (s 36 i + x * s 35 i * sSec s (k / 12) i / (100 * sSec s (k / 12) (-1))) else s 36 i := by
  induction n with
  | zero => rw [if_neg (by omega)]; rfl
  | succ n ih =>
    simp only [sSellTo]
    by_cases h : i = n
    · subst h; rw [sU_s, if_pos (by omega)]
    · rw [sU_i h, sU_n (by decide), ih]
      by_cases h2 : 0 ≤ i ∧ i < n
      · rw [if_pos h2, if_pos (by omega)]
      · rw [if_neg h2, if_neg (by omega)]
theorem sSellTo_34 {s : Sg} {k x i : Int} (n : Nat) : sSellTo s k x n 34 i = if 6 * s 31 0 ≤ i ∧ i < 6 * s 31 0 + n then s 35 (i - 6 * s 31 0) else s 34 i := by
  induction n with
  | zero => rw [if_neg (by omega)]; rfl
  | succ n ih =>
    simp only [sSellTo]
    rw [sU_n (by decide)]
    by_cases h : i = 6 * s 31 0 + n
    · subst h; rw [sU_s, if_pos (by omega)]; congr 1; omega
    · rw [sU_i h, ih]
      by_cases h2 : 6 * s 31 0 ≤ i ∧ i < 6 * s 31 0 + n
      · rw [if_pos h2, if_pos (by omega)]
      · rw [if_neg h2, if_neg (by omega)]
