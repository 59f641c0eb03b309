/-! ===== the takes of a tape by way of what it was made of ===== -/
/-- what is heard at a second is of the take b -/
def TkAt (s : Sg) (t x b : Int) : Prop := ∃ j : Nat, (j : Int) < s 7 t ∧ sLenTo s t j ≤ x ∧ x < sLenTo s t (j + 1) ∧ s 8 (20 * t + j) = b
/-- a tape that was made of others has their takes -/
def cStr1 (s e : Sg) (t : Int) : Prop := (e 2 t = -1 ↔ ¬ s 6 t = -1) ∧ (e 2 t = -1 → s 7 t = 1 ∧ s 8 (20 * t) = t ∧ e 5 t = -1) ∧
  (¬ e 2 t = -1 → (0 ≤ e 2 t ∧ e 2 t < t) ∧ (-1 ≤ e 5 t ∧ e 5 t < t) ∧ (0 ≤ e 3 t ∧ e 3 t < e 4 t ∧ e 4 t ≤ 18000) ∧
    ∀ x b, TkAt s t x b → (x < e 4 t - e 3 t → TkAt s (e 2 t) (x + e 3 t) b) ∧ (e 4 t - e 3 t ≤ x → ¬ e 5 t = -1 ∧ TkAt s (e 5 t) (x - (e 4 t - e 3 t)) b))
def cStr (s e : Sg) : Prop := ∀ t : Int, 0 ≤ t → t < s 1 0 → cStr1 s e t
theorem TkAt.some {s : Sg} {t x : Int} (hx : 0 ≤ x) (n : Nat) (hn : (n : Int) ≤ s 7 t) (h : x < sLenTo s t n) : ∃ b, TkAt s t x b := by
  induction n with
  | zero => have : x < 0 := h; omega
  | succ n ih =>
    by_cases h2 : x < sLenTo s t n
    · exact ih (by omega) h2
    · exact ⟨_, n, by omega, by omega, h, rfl⟩
theorem b_sBit {k n : Nat} (hn : n < 32) (hk : k < 32) : bt (jI (sBit n)) k = decide (k = n) := by
  exact (by decide +kernel : ∀ n, n < 32 → ∀ k, k < 32 → bt (jI (sBit (n : Nat))) k = decide (k = n)) n hn k hk
theorem b_sOr (x y : Int) (k : Nat) : bt (jI (sOr x y)) k = (bt (jI x) k || bt (jI y) k) := by
  unfold sOr
  rw [← jI_of, b_or]
theorem sTakes_bt {s : Sg} {t : Int} (n : Nat) (h : ∀ j : Nat, j < n → 0 ≤ s 8 (20 * t + j) ∧ s 8 (20 * t + j) < 32) {k : Nat} (hk : k < 32) : bt (jI (sTakesTo s t n)) k = true ↔ ∃ j : Nat, j < n ∧ s 8 (20 * t + j) = k := by
  induction n with
  | zero =>
    constructor
    · intro hb
      have h0 : bt (jI 0) k = false := by rw [show jI 0 = 0 by decide, b_0]
      rw [show sTakesTo s t 0 = 0 from rfl, h0] at hb
      cases hb
    · rintro ⟨j, hj, -⟩; omega
  | succ n ih =>
    have hn := h n (by omega)
    obtain ⟨m, hm⟩ : ∃ m : Nat, s 8 (20 * t + n) = m := ⟨(s 8 (20 * t + n)).toNat, by omega⟩
    have ih2 := ih (fun j hj => h j (by omega))
    have e1 : sTakesTo s t (n + 1) = sOr (sTakesTo s t n) (sBit (s 8 (20 * t + n))) := rfl
    rw [e1, b_sOr, hm, b_sBit (by omega) hk, Bool.or_eq_true, decide_eq_true_iff, ih2]
    constructor
    · rintro (⟨j, h1, h2⟩ | h1)
      · exact ⟨j, by omega, h2⟩
      · exact ⟨n, by omega, by rw [hm, h1]⟩
    · rintro ⟨j, h1, h2⟩
      by_cases hj : j = n
      · subst hj; right; omega
      · left; exact ⟨j, by omega, h2⟩
/-- a set that has the takes of all seconds below x -/
def TkSet (s : Sg) (t x K : Int) : Prop := ∀ k : Nat, k < 32 → (bt (jI K) k = true ↔ ∃ y : Int, 0 ≤ y ∧ y < x ∧ TkAt s t y k)
theorem TkSet.zero {s : Sg} {t : Int} : TkSet s t 0 0 := by
  intro k hk
  rw [show jI 0 = 0 by decide, b_0]
  constructor
  · intro h; cases h
  · rintro ⟨y, h1, h2, -⟩; omega
theorem TkSet.step {s : Sg} {t x a τ K : Int} (h : TkSet s t x K) (hx : 0 ≤ x) (ha : 1 ≤ a) (hτ : 0 ≤ τ ∧ τ < 32) (hall : ∀ y b, 0 ≤ y → y < a → TkAt s t (x + y) b → b = τ) (hone : TkAt s t x τ) : TkSet s t (x + a) (sOr K (sBit τ)) := by
  intro k hk
  obtain ⟨m, hm⟩ : ∃ m : Nat, τ = m := ⟨τ.toNat, by omega⟩
  subst hm
  rw [b_sOr, b_sBit (by omega) hk, Bool.or_eq_true, decide_eq_true_iff, h k hk]
  constructor
  · rintro (⟨y, h1, h2, h3⟩ | h1)
    · exact ⟨y, h1, by omega, h3⟩
    · exact ⟨x, hx, by omega, by rw [h1]; exact hone⟩
  · rintro ⟨y, h1, h2, h3⟩
    by_cases hy : y < x
    · exact Or.inl ⟨y, h1, hy, h3⟩
    · right
      have := hall (y - x) k (by omega) (by omega) (by rw [show x + (y - x) = y by omega]; exact h3)
      omega
theorem TkSet.done {s : Sg} {t K : Int} (hI : sI1 s) (ht : 0 ≤ t ∧ t < s 1 0) (h : TkSet s t (sLen s t) K) : jI K = jI (sTakes s t) := by
  have g := hI.tape ht
  apply b_ext
  intro k hk
  have h1 := h k hk
  have h2 := sTakes_bt (s := s) (t := t) (s 7 t).toNat (fun j hj => by have := hI.span ht (show 0 ≤ (j : Int) ∧ (j : Int) < s 7 t by omega); have := hI.2.1; omega) hk
  have h3 : (∃ y : Int, 0 ≤ y ∧ y < sLen s t ∧ TkAt s t y k) ↔ ∃ j : Nat, j < (s 7 t).toNat ∧ s 8 (20 * t + j) = k := by
    constructor
    · rintro ⟨y, -, -, j, a1, -, -, a2⟩; exact ⟨j, by omega, a2⟩
    · rintro ⟨j, a1, a2⟩
      have l1 := sLen_le hI ht j (by omega)
      have l2 := sLen_lt hI ht j (by omega)
      have mono : ∀ m : Nat, j + 1 ≤ m → (m : Int) ≤ s 7 t → sLenTo s t (j + 1) ≤ sLenTo s t m := by
        intro m
        induction m with
        | zero => intro h1 _; omega
        | succ m ih =>
          intro h1 h2
          by_cases e : j + 1 = m + 1
          · rw [e]; exact Int.le_refl _
          · have := ih (by omega) (by omega)
            have := sLen_lt hI ht m (by omega)
            omega
      have l3 := mono (s 7 t).toNat (by omega) (by omega)
      exact ⟨sLenTo s t j, by omega, by unfold sLen; omega, j, by omega, Int.le_refl _, l2, a2⟩
  cases hb : bt (jI K) k with
  | true => exact ((h2.mpr (h3.mp (h1.mp hb)))).symm
  | false =>
    cases hb2 : bt (jI (sTakes s t)) k with
    | false => rfl
    | true => rw [h1.mpr (h3.mpr (h2.mp hb2))] at hb; cases hb
