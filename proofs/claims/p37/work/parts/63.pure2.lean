/-! ===== what holds between the law's turns ===== -/
def pR (s : Sg) (r : Int → Int) : Prop := (s 26 0 = 0 → s 28 0 = 0) ∧ ∀ j : Int, 0 ≤ j → j < s 28 0 → r (2 * j) = s 29 j ∧ r (2 * j + 1) = s 30 j
def pE (e : Sg) (n : Int) : Prop := ∀ q : Int, 0 ≤ q → q < 6 → (0 ≤ e 0 q ∧ e 0 q ≤ 3000 * n) ∧ (0 ≤ e 1 q ∧ e 1 q ≤ 5000000 * n)
def pJ (s : Sg) : Prop := ∀ i : Int, jR (s 36 i)
def LI (s e : Sg) (m g r : Int → Int) (c n : Int) : Prop := hInv s e c ∧ pM s m ∧ pX s ∧ pG s g ∧ pR s r ∧ pE e n ∧ pJ s ∧ s 0 0 ≤ 40 * n ∧ (0 ≤ m 6 ∧ m 6 ≤ n)
theorem LI.mono {s e : Sg} {m g r : Int → Int} {c n : Int} (h : LI s e m g r c n) (hn : 0 ≤ n) : LI s e m g r c (n + 1) := by
  obtain ⟨h1, h2, h3, h4, h5, h6, h7, h8, h9⟩ := h
  exact ⟨h1, h2, h3, h4, h5, fun q a b => by have := h6 q a b; omega, h7, by omega, by omega⟩
theorem LI.I {s e : Sg} {m g r : Int → Int} {c n : Int} (h : LI s e m g r c n) : hInv s e c := h.1
theorem LI.M {s e : Sg} {m g r : Int → Int} {c n : Int} (h : LI s e m g r c n) : pM s m := h.2.1
theorem LI.X {s e : Sg} {m g r : Int → Int} {c n : Int} (h : LI s e m g r c n) : pX s := h.2.2.1
theorem LI.G {s e : Sg} {m g r : Int → Int} {c n : Int} (h : LI s e m g r c n) : pG s g := h.2.2.2.1
theorem LI.R {s e : Sg} {m g r : Int → Int} {c n : Int} (h : LI s e m g r c n) : pR s r := h.2.2.2.2.1
theorem LI.E {s e : Sg} {m g r : Int → Int} {c n : Int} (h : LI s e m g r c n) : pE e n := h.2.2.2.2.2.1
theorem LI.J {s e : Sg} {m g r : Int → Int} {c n : Int} (h : LI s e m g r c n) : pJ s := h.2.2.2.2.2.2.1
theorem LI.D {s e : Sg} {m g r : Int → Int} {c n : Int} (h : LI s e m g r c n) : s 0 0 ≤ 40 * n := h.2.2.2.2.2.2.2.1
theorem LI.N {s e : Sg} {m g r : Int → Int} {c n : Int} (h : LI s e m g r c n) : 0 ≤ m 6 ∧ m 6 ≤ n := h.2.2.2.2.2.2.2.2
theorem LI.gs {s e : Sg} {m g r g' : Int → Int} {c n : Int} (h : LI s e m g r c n) (hg : pG s g') : LI s e m g' r c n := ⟨h.I, h.M, h.X, hg, h.R, h.E, h.J, h.D, h.N⟩
/-- a call that leaves all the rows that LI speaks of -/
theorem LI.of {s s' e e' : Sg} {m g r : Int → Int} {c c' n : Int} (h : LI s e m g r c n) (hI : hInv s' e' c') (k : ∀ i, (i = 0 ∨ i = 1 ∨ i = 2 ∨ i = 4 ∨ i = 6 ∨ i = 13 ∨ i = 16 ∨ i = 17 ∨ i = 20 ∨ i = 21 ∨ i = 22 ∨ i = 26 ∨ i = 28 ∨ i = 29 ∨ i = 30 ∨ i = 36) → s' i = s i) (e0 : e' 0 = e 0) (e1 : e' 1 = e 1) : LI s' e' m g r c' n := by
  have k0 := k 0 (by decide)
  have k1 := k 1 (by decide)
  have k2 := k 2 (by decide)
  have k4 := k 4 (by decide)
  have k6 := k 6 (by decide)
  have k13 := k 13 (by decide)
  have k16 := k 16 (by decide)
  have k17 := k 17 (by decide)
  have k20 := k 20 (by decide)
  have k21 := k 21 (by decide)
  have k22 := k 22 (by decide)
  have k26 := k 26 (by decide)
  have k28 := k 28 (by decide)
  have k29 := k 29 (by decide)
  have k30 := k 30 (by decide)
  have k36 := k 36 (by decide)
  refine ⟨hI, ?_, ?_, ?_, ?_, ?_, ?_, ?_, h.N⟩
  · unfold pM; rw [k0, k1, k13, k22, k28, k26]; exact h.M
  · unfold pX; rw [k0, k1, k6, k4, k16, k17, k20, k21]; exact h.X
  · unfold pG; rw [k1, k6, k4, k2]; exact h.G
  · unfold pR; rw [k26, k28, k29, k30]; exact h.R
  · unfold pE; rw [e0, e1]; exact h.E
  · unfold pJ; rw [k36]; exact h.J
  · rw [k0]; exact h.D
/-! an account is what is due, exactly -/
theorem sDue_le {s : Sg} (h3 : sI3 s) (h7 : sI7 s) {j : Int} (hj : 0 ≤ j ∧ j < s 31 0) {q : Int} (hq : 0 ≤ q ∧ q < 6) {x : Int} (hx : 0 ≤ x ∧ x ≤ 500) : 0 ≤ sDue s j q x ∧ sDue s j q x ≤ 100 * x := by
  have g1 := (h7.2.1 j hj.1 hj.2).1
  have g2 := h7.2.2.1 (6 * j + q) (by omega) (by have := h7.1; omega)
  have hd : 0 ≤ s 32 j / 12 ∧ s 32 j / 12 < s 13 0 := by omega
  have g3 := h3.2.2.1 (s 32 j / 12) hd.1 hd.2
  have g4 : 0 ≤ sSec s (s 32 j / 12) q ∧ sSec s (s 32 j / 12) q ≤ sSec s (s 32 j / 12) (-1) := sSecTo_in (fun p a b => h3.2.1 (s 32 j / 12) p hd.1 hd.2 a b) q 6 (Nat.le_refl _)
  unfold sDue
  generalize sSec s (s 32 j / 12) (-1) = T at *
  generalize sSec s (s 32 j / 12) q = S at *
  generalize s 34 (6 * j + q) = R at *
  have a1 : 0 ≤ x * R := Int.mul_nonneg hx.1 g2.1
  have a2 : x * R ≤ x * 9999 := Int.mul_le_mul_of_nonneg_left g2.2 hx.1
  have a3 : 0 ≤ x * R * S := Int.mul_nonneg a1 g4.1
  have a4 : x * R * S ≤ x * R * T := Int.mul_le_mul_of_nonneg_left g4.2 a1
  have a5 : x * R * T ≤ x * 9999 * T := Int.mul_le_mul_of_nonneg_right a2 (by omega)
  have a6 : x * 9999 * T ≤ 100 * x * (100 * T) := by
    have : 0 ≤ x * T := Int.mul_nonneg hx.1 (by omega)
    have e1 : x * 9999 * T = 9999 * (x * T) := by rw [Int.mul_comm x 9999, Int.mul_assoc]
    have e2 : 100 * x * (100 * T) = 10000 * (x * T) := by rw [Int.mul_assoc, ← Int.mul_assoc x 100 T, Int.mul_comm x 100, Int.mul_assoc 100 x T, ← Int.mul_assoc]; rfl
    omega
  constructor
  · exact Int.ediv_nonneg a3 (by omega)
  · exact Int.le_trans (Int.ediv_le_ediv (by omega) (Int.le_trans a4 (Int.le_trans a5 a6))) (by rw [Int.mul_ediv_cancel _ (by omega : (100 * T) ≠ 0)]; exact Int.le_refl _)
theorem sDues_le {s : Sg} (h3 : sI3 s) (h7 : sI7 s) {q : Int} (hq : 0 ≤ q ∧ q < 6) (n : Nat) (hn : (n : Int) ≤ s 31 0) : 0 ≤ sDues s q n ∧ sDues s q n ≤ 50000 * n := by
  induction n with
  | zero => exact ⟨Int.le_refl _, Int.le_refl _⟩
  | succ n ih =>
    have g1 := (h7.2.1 n (by omega) (by omega)).2
    have g2 := sDue_le h3 h7 (j := n) (by omega) hq g1
    have g3 := ih (by omega)
    show 0 ≤ sDues s q n + sDue s n q (s 33 n) ∧ sDues s q n + sDue s n q (s 33 n) ≤ _
    omega
theorem acc_eq {s e : Sg} {c n : Int} (hI : hInv s e c) (hE : pE e n) (hJ : pJ s) (hn : 0 ≤ n ∧ n ≤ 150) {q : Int} (hq : 0 ≤ q ∧ q < 6) : s 36 q = sDues s q (s 31 0).toNat - e 0 q - e 1 q ∧ s 36 q ≤ 5000000 ∧ -(5003000 * n) ≤ s 36 q := by
  have h7 := hI.2.2.2.2.2.2.1
  have g1 := sDues_le hI.2.2.1 h7 hq (s 31 0).toNat (by have := h7.1; omega)
  have g2 := hE q hq.1 hq.2
  have g3 := h7.1
  have e1 := (jI_inj (by have := hJ q; omega)).mp (hI.A q hq.1 hq.2)
  omega
/-- behind a turn -/
def OP (ac : Nat → ClassId) (A : Nat → Nat) (c n : Int) : Option Value → jj_G → Prop := jj_pi (fun v G' => v = 1 ∧ ∃ (s' e' : Sg) (m' g' r' : Int → Int) (c' : Int), c' ≤ c + 3 ∧ LI s' e' m' g' r' c' (n + 1) ∧ WP ac A s' e' m' g' r' G')
