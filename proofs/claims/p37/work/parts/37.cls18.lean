/-! a new tape -/
abbrev aT (ad : Ad) (T : Int) (q a1 a2 a3 : Nat) : Ad := aU (aU (aU (aU ad 16 T q) 17 T a1) 18 T a2) 19 T a3
theorem aT_16 {ad : Ad} {T t : Int} {q a1 a2 a3 : Nat} (h : t ≠ T) : aT ad T q a1 a2 a3 16 t = ad 16 t := by simp [aT, aU, h]
theorem aT_16s {ad : Ad} {T : Int} {q a1 a2 a3 : Nat} : aT ad T q a1 a2 a3 16 T = q := by simp [aT, aU]
theorem aT_17 {ad : Ad} {T t : Int} {q a1 a2 a3 : Nat} (h : t ≠ T) : aT ad T q a1 a2 a3 17 t = ad 17 t := by simp [aT, aU, h]
theorem aT_17s {ad : Ad} {T : Int} {q a1 a2 a3 : Nat} : aT ad T q a1 a2 a3 17 T = a1 := by simp [aT, aU]
theorem aT_18 {ad : Ad} {T t : Int} {q a1 a2 a3 : Nat} (h : t ≠ T) : aT ad T q a1 a2 a3 18 t = ad 18 t := by simp [aT, aU, h]
theorem aT_18s {ad : Ad} {T : Int} {q a1 a2 a3 : Nat} : aT ad T q a1 a2 a3 18 T = a2 := by simp [aT, aU]
theorem aT_19 {ad : Ad} {T t : Int} {q a1 a2 a3 : Nat} (h : t ≠ T) : aT ad T q a1 a2 a3 19 t = ad 19 t := by simp [aT, aU, h]
theorem aT_19s {ad : Ad} {T : Int} {q a1 a2 a3 : Nat} : aT ad T q a1 a2 a3 19 T = a3 := by simp [aT, aU]
section TK
variable {ac : Nat → ClassId} {ad : Ad} {s e e' S : Sg} {g v x f u : Int} {vs vt : Value} {q a1 a2 a3 : Nat}
theorem oRef_grow {T t : Int} (h : t < T) : oRef (aT ad T q a1 a2 a3) t = oRef ad t := by
  unfold oRef
  split
  · rfl
  · rw [aT_16 (by omega)]
/-- what a new tape leaves as it was -/
def TapeNew (s e e' S : Sg) (x f u : Int) : Prop :=
  (S 1 0 = s 1 0) ∧
  (∀ k, (k = 0 ∨ 2 ≤ k ∧ k ≤ 5 ∨ 11 ≤ k ∧ k ≤ 36) → S k = s k) ∧
  (∀ i, i ≠ s 1 0 → S 6 i = s 6 i) ∧
  (S 6 (s 1 0) = x) ∧
  (∀ i, i ≠ s 1 0 → S 7 i = s 7 i) ∧
  (∀ i, i < 20 * s 1 0 → S 8 i = s 8 i ∧ S 9 i = s 9 i ∧ S 10 i = s 10 i) ∧
  (s 3 (s 1 0) = 0) ∧
  (∀ k i, i ≠ s 1 0 → e' k i = e k i) ∧
  (∀ k, k < 2 → e' k = e k) ∧
  (e' 3 (s 1 0) = f) ∧
  (e' 4 (s 1 0) = u) ∧
  (∀ i, 0 ≤ i → i < s 1 0 → e 2 i < s 1 0 ∧ e 5 i < s 1 0)
theorem TapeNew.h1 (h : TapeNew s e e' S x f u) : S 1 0 = s 1 0 := h.1
theorem TapeNew.hr (h : TapeNew s e e' S x f u) : ∀ k, (k = 0 ∨ 2 ≤ k ∧ k ≤ 5 ∨ 11 ≤ k ∧ k ≤ 36) → S k = s k := h.2.1
theorem TapeNew.h6 (h : TapeNew s e e' S x f u) : ∀ i, i ≠ s 1 0 → S 6 i = s 6 i := h.2.2.1
theorem TapeNew.h6T (h : TapeNew s e e' S x f u) : S 6 (s 1 0) = x := h.2.2.2.1
theorem TapeNew.h7 (h : TapeNew s e e' S x f u) : ∀ i, i ≠ s 1 0 → S 7 i = s 7 i := h.2.2.2.2.1
theorem TapeNew.h8 (h : TapeNew s e e' S x f u) : ∀ i, i < 20 * s 1 0 → S 8 i = s 8 i ∧ S 9 i = s 9 i ∧ S 10 i = s 10 i := h.2.2.2.2.2.1
theorem TapeNew.h3T (h : TapeNew s e e' S x f u) : s 3 (s 1 0) = 0 := h.2.2.2.2.2.2.1
theorem TapeNew.he (h : TapeNew s e e' S x f u) : ∀ k i, i ≠ s 1 0 → e' k i = e k i := h.2.2.2.2.2.2.2.1
theorem TapeNew.hk (h : TapeNew s e e' S x f u) : ∀ k, k < 2 → e' k = e k := h.2.2.2.2.2.2.2.2.1
theorem TapeNew.hf (h : TapeNew s e e' S x f u) : e' 3 (s 1 0) = f := h.2.2.2.2.2.2.2.2.2.1
theorem TapeNew.hu (h : TapeNew s e e' S x f u) : e' 4 (s 1 0) = u := h.2.2.2.2.2.2.2.2.2.2.1
theorem TapeNew.hE (h : TapeNew s e e' S x f u) : ∀ i, 0 ≤ i → i < s 1 0 → e 2 i < s 1 0 ∧ e 5 i < s 1 0 := h.2.2.2.2.2.2.2.2.2.2.2
theorem TapeNew.len (h : TapeNew s e e' S x f u) {i : Int} (hi : 0 ≤ i ∧ i < s 1 0) (h20 : s 7 i ≤ 20) : sLen (sMakes S g v) i = sLen s i := by
  unfold sLen
  show sLenTo _ i (S 7 i).toNat = _
  rw [h.h7 i (by omega)]
  exact sLenTo_c _ (fun j hj => (h.h8 _ (by omega)).2.1) (fun j hj => (h.h8 _ (by omega)).2.2)
theorem tk_16 (h : TapeNew s e e' S x f u) (h20 : ∀ i, 0 ≤ i → i < s 1 0 → s 7 i ≤ 20) (h0 : 0 ≤ s 1 0) (hvs : va_rf (oRef (aT ad (s 1 0) q a1 a2 a3) (e' 2 (s 1 0))) = vs) (hvt : va_rf (oRef (aT ad (s 1 0) q a1 a2 a3) (e' 5 (s 1 0))) = vt) : ∀ i, cC ac (aT ad (s 1 0) q a1 a2 a3) (sMakes S g v) e' 16 i = cU (cC ac ad s e) 16 (s 1 0) (jj_o 7 (fNew S (.int (jI (s 1 0))) (.int (jI v)) (.int (jI g)) (.int (jI x)) vs (.int (jI f)) (.int (jI u)) vt a1 a2 a3)) 16 i :=
  ki (C := cC ac ad s e) (fun i _ => rfl) (show 0 ≤ s 1 0 ∧ s 1 0 < S 1 0 + 1 by rw [h.h1]; omega) (congrArg (jj_o 7) (by
    show ([.int (jI (s 1 0)), .int (jI (ju (S 5) (S 1 0) v (s 1 0))), .int (jI (ju (S 4) (S 1 0) g (s 1 0))), .int (jI (S 6 (s 1 0))), va_rf (oRef (aT ad (s 1 0) q a1 a2 a3) (e' 2 (s 1 0))), .int (jI (e' 3 (s 1 0))), .int (jI (e' 4 (s 1 0))), va_rf (oRef (aT ad (s 1 0) q a1 a2 a3) (e' 5 (s 1 0))), .ref (aT ad (s 1 0) q a1 a2 a3 17 (s 1 0)), .ref (aT ad (s 1 0) q a1 a2 a3 18 (s 1 0)), .ref (aT ad (s 1 0) q a1 a2 a3 19 (s 1 0)), .int (jI (S 7 (s 1 0))), .int (jI (sLen (sMakes S g v) (s 1 0))), .int (jI (ju (S 2) (S 1 0) 0 (s 1 0))), .int (jI (S 3 (s 1 0)))] : List Value) = _
    rw [hvs, hvt, h.hf, h.hu, h.h6T, h.h1, ju_s, ju_s, ju_s, h.hr 3 (by omega), h.h3T, sLen_c (s := S) (s' := sMakes S g v) rfl rfl rfl, aT_17s, aT_18s, aT_19s]
    show _ = fNew S _ _ _ _ _ _ _ _ _ _ _
    unfold fNew
    rw [h.h1])) (fun i hi => (show (0 ≤ i ∧ i < S 1 0 + 1) ↔ (0 ≤ i ∧ i < s 1 0) by rw [h.h1]; omega)) (fun i hi hp => congrArg (jj_o 7) (by
    have hp2 : 0 ≤ i ∧ i < s 1 0 := by have : 0 ≤ i ∧ i < S 1 0 + 1 := hp; rw [h.h1] at this; omega
    show ([.int (jI i), .int (jI (ju (S 5) (S 1 0) v i)), .int (jI (ju (S 4) (S 1 0) g i)), .int (jI (S 6 i)), va_rf (oRef (aT ad (s 1 0) q a1 a2 a3) (e' 2 i)), .int (jI (e' 3 i)), .int (jI (e' 4 i)), va_rf (oRef (aT ad (s 1 0) q a1 a2 a3) (e' 5 i)), .ref (aT ad (s 1 0) q a1 a2 a3 17 i), .ref (aT ad (s 1 0) q a1 a2 a3 18 i), .ref (aT ad (s 1 0) q a1 a2 a3 19 i), .int (jI (S 7 i)), .int (jI (sLen (sMakes S g v) i)), .int (jI (ju (S 2) (S 1 0) 0 i)), .int (jI (S 3 i))] : List Value) = _
    rw [h.he 2 i hi, h.he 3 i hi, h.he 4 i hi, h.he 5 i hi, oRef_grow (h.hE i hp2.1 hp2.2).1, oRef_grow (h.hE i hp2.1 hp2.2).2, h.h1, ju_n hi, ju_n hi, ju_n hi, h.h6 i hi, h.h7 i hi, h.len hp2 (h20 i hp2.1 hp2.2), h.hr 2 (by omega), h.hr 3 (by omega), h.hr 4 (by omega), h.hr 5 (by omega), aT_17 hi, aT_18 hi, aT_19 hi]))
theorem tk_w {C : Cm} {k r : Nat} (h : TapeNew s e e' S x f u) (h0 : 0 ≤ s 1 0) (hr : ∀ i, i < 20 * s 1 0 → S r i = s r i) (hC : ∀ i, i ≠ s 1 0 → C k i = if 0 ≤ i ∧ i < s 1 0 then some (jj_ai (ac 0) 20 (wn 20 (fun j => s r (20 * i + j)))) else none) (i : Int) : (if 0 ≤ i ∧ i < S 1 0 + 1 then some (jj_ai (ac 0) 20 (wn 20 (fun j => S r (20 * i + j)))) else none) = cU C k (s 1 0) (jj_ai (ac 0) 20 (wn 20 (fun j => S r (20 * S 1 0 + j)))) k i :=
  ki (C := C) (p := fun i => 0 ≤ i ∧ i < S 1 0 + 1) (A := fun i => jj_ai (ac 0) 20 (wn 20 (fun j => S r (20 * i + j)))) (p' := fun i => 0 ≤ i ∧ i < s 1 0) (B := fun i => jj_ai (ac 0) 20 (wn 20 (fun j => s r (20 * i + j)))) hC (by rw [h.h1]; omega) (by rw [h.h1]) (fun i hi => by rw [h.h1]; omega) (fun i hi hp => congrArg (jj_ai (ac 0) 20) (wn_c (fun j h1 h2 => hr _ (by rw [h.h1] at hp; omega)))) i
theorem pRow_grow (h : TapeNew s e e' S x f u) (h12 : ∀ j : Int, 0 ≤ j → j < s 11 0 → s 12 j < s 1 0) : pRow (aT ad (s 1 0) q a1 a2 a3) (sMakes S g v) = pRow ad s := by
  funext j
  unfold pRow
  rw [show sMakes S g v 11 = s 11 from h.hr 11 (by omega), show sMakes S g v 12 = s 12 from h.hr 12 (by omega)]
  by_cases hj : 0 ≤ j ∧ j < s 11 0
  · rw [if_pos hj, if_pos hj, aT_16 (by have := h12 j hj.1 hj.2; omega)]
  · rw [if_neg hj, if_neg hj]
end TK
