/-! ===== sales, returns ===== -/
section LI4
variable {s e : Sg} {m g r : Int → Int} {c n : Int}
theorem t_sell_0 {d y w x : Int} (h0 : t_sell s d y w x = 0) : sNm s d y w ∧ (1 ≤ x ∧ x ≤ 500) ∧ ¬ (s 17 (sSt d y w) - s 18 (sSt d y w) < x ∨ s 31 0 = 100) := by
  unfold t_sell at h0
  split at h0
  · omega
  · rename_i a
    split at h0
    · omega
    · rename_i a2
      split at h0
      · omega
      · rename_i a3; exact ⟨Decidable.of_not_not a, Decidable.of_not_not a2, a3⟩
/-- what a new sale brings an artist -/
theorem due_new {d a x y : Int} (h3 : sI3 s) (h7 : sI7 s) (hd : 0 ≤ d ∧ d < s 13 0) (ha : 0 ≤ a ∧ a < 6) (hx : 0 ≤ x ∧ x ≤ 500) (hy : y = x * s 35 a * sSec s d a / (100 * sSec s d (-1))) : 0 ≤ y ∧ y ≤ 100 * x ∧ (sSec s d a = 0 → y = 0) := by
  have g2 := h7.2.2.2 a ha.1 ha.2
  have g3 := h3.2.2.1 d hd.1 hd.2
  have g4 : 0 ≤ sSec s d a ∧ sSec s d a ≤ sSec s d (-1) := sSecTo_in (fun p a b => h3.2.1 d p hd.1 hd.2 a b) a 6 (Nat.le_refl _)
  subst hy
  generalize sSec s d (-1) = T at *
  generalize sSec s d a = S at *
  generalize s 35 a = R at *
  have a1 : 0 ≤ x * R := Int.mul_nonneg hx.1 g2.1
  have a2 : x * R ≤ x * 9999 := Int.mul_le_mul_of_nonneg_left g2.2 hx.1
  have a3 : 0 ≤ x * R * S := Int.mul_nonneg a1 g4.1
  have a4 : x * R * S ≤ x * R * T := Int.mul_le_mul_of_nonneg_left g4.2 a1
  have a5 : x * R * T ≤ x * 9999 * T := Int.mul_le_mul_of_nonneg_right a2 (by omega)
  have a6 : x * 9999 * T ≤ 100 * x * (100 * T) := by
    have : 0 ≤ x * T := Int.mul_nonneg hx.1 (by omega)
    have e1 : x * 9999 * T = 9999 * (x * T) := by rw [Int.mul_comm x 9999, Int.mul_assoc]
    have e2 : 100 * x * (100 * T) = 10000 * (x * T) := by rw [Int.mul_assoc, ← Int.mul_assoc x 100 T, Int.mul_comm x 100, Int.mul_assoc 100 x T, ← Int.mul_assoc]; rfl
    omega
  refine ⟨Int.ediv_nonneg a3 (by omega), Int.le_trans (Int.ediv_le_ediv (by omega) (Int.le_trans a4 (Int.le_trans a5 a6))) (by rw [Int.mul_ediv_cancel _ (by omega : (100 * T) ≠ 0)]; exact Int.le_refl _), fun hz => ?_⟩
  rw [hz, Int.mul_zero]
  exact Int.zero_ediv _
theorem LI_sell (h : LI s e m g r c n) (hc : c < 512) (hn0 : 0 ≤ n ∧ n ≤ 150) {d y w x : Int} (h0 : t_sell s d y w x = 0) : LI (n_sell s d y w x) e (ju m 6 (m 6 + 1)) g r (c + 1) (n + 1) ∧ n_sell s d y w x 13 = s 13 ∧ n_sell s d y w x 14 = s 14 ∧ r_sell s d y w x = s 18 (sSt d y w) + x - s 19 (sSt d y w) ∧ s 18 (sSt d y w) + x ≤ s 17 (sSt d y w) ∧ (∀ a, 0 ≤ a → a < 6 → ∃ b, 0 ≤ b ∧ b ≤ 100 * x ∧ (sSec s d a = 0 → b = 0) ∧ n_sell s d y w x 36 a = s 36 a + b) := by
  have hI := g_sell h.I hc h0
  obtain ⟨q1, q2, q4⟩ := t_sell_0 h0
  have hn : n_sell s d y w x = sU (sSellTo s (sSt d y w) x 6) 31 0 (s 31 0 + 1) := if_pos h0
  have hr : r_sell s d y w x = s 18 (sSt d y w) + x - s 19 (sSt d y w) := if_pos h0
  have f : ∀ i, i ≠ 31 → i ≠ 18 ∧ i ≠ 32 ∧ i ≠ 33 ∧ i ≠ 34 ∧ i ≠ 36 ∧ i ≠ 37 → n_sell s d y w x i = s i := fun i h1 h2 => by rw [hn, sU_n h1, sSellTo_n h2]
  have hd : 0 ≤ d ∧ d < s 13 0 := by omega
  have e12 : sSt d y w / 12 = d := by unfold sSt; omega
  have e36 : ∀ i, n_sell s d y w x 36 i = if 0 ≤ i ∧ i < ((6 : Nat) : Int) then jW (s 36 i + x * s 35 i * sSec s d i / (100 * sSec s d (-1))) else s 36 i := fun i => by
    rw [hn, sU_n (by decide), sSellTo_36i, e12]
  obtain ⟨M0, M1, M2, M3, M4, M5⟩ := h.M
  have N := h.N
  refine ⟨⟨hI, ⟨?_, ?_, ?_, ?_, ?_, ?_⟩, h.X.k (f _ (by decide) (by decide)) (f _ (by decide) (by decide)) (f _ (by decide) (by decide)) (f _ (by decide) (by decide)) (f _ (by decide) (by decide)) (f _ (by decide) (by decide)) (f _ (by decide) (by decide)) (f _ (by decide) (by decide)), h.G.k (f _ (by decide) (by decide)) (f _ (by decide) (by decide)) (f _ (by decide) (by decide)) (f _ (by decide) (by decide)), h.R.k (f _ (by decide) (by decide)) (f _ (by decide) (by decide)) (f _ (by decide) (by decide)) (f _ (by decide) (by decide)), (h.mono hn0.1).E, fun i => ?_, ?_, by rw [ju_s]; omega⟩, f _ (by decide) (by decide), f _ (by decide) (by decide), hr, by omega, fun a h1 h2 => ?_⟩
  · rw [f 0 (by decide) (by decide)]; exact M0
  · rw [f 1 (by decide) (by decide)]; exact M1
  · rw [f 13 (by decide) (by decide)]; exact M2
  · rw [f 22 (by decide) (by decide)]; exact M3
  · rw [f 28 (by decide) (by decide)]; exact M4
  · rw [f 26 (by decide) (by decide)]; exact M5
  · rw [e36]
    split
    · exact jW_rng _
    · exact h.J i
  · rw [f 0 (by decide) (by decide)]; exact (h.mono hn0.1).D
  · have A := acc_eq h.I h.E h.J (by omega) (q := a) (by omega)
    obtain ⟨b, hb⟩ : ∃ b, b = x * s 35 a * sSec s d a / (100 * sSec s d (-1)) := ⟨_, rfl⟩
    have hdn := due_new h.I.2.2.1 h.I.2.2.2.2.2.2.1 hd (a := a) (by omega) (x := x) (by omega) hb
    refine ⟨b, hdn.1, hdn.2.1, hdn.2.2, ?_⟩
    rw [e36, if_pos (by omega), ← hb, jW_id (by omega)]
theorem t_back_0 {d y w x : Int} (h0 : t_back s d y w x = 0) : sNm s d y w ∧ (1 ≤ x ∧ x ≤ 500) ∧ x ≤ s 18 (sSt d y w) - s 19 (sSt d y w) - sDiscs s (sSt d y w) := by
  unfold t_back at h0
  split at h0
  · omega
  · rename_i a
    split at h0
    · omega
    · rename_i a2
      split at h0
      · omega
      · exact ⟨Decidable.of_not_not a, Decidable.of_not_not a2, by omega⟩
/-- less is due of fewer discs, and no more than 100 cents for each less -/
theorem due_less {S : Sg} (h3 : sI3 S) (h7 : sI7 S) {z a k : Int} (hz : 0 ≤ z ∧ z < S 31 0) (ha : 0 ≤ a ∧ a < 6) (hk : 0 ≤ k ∧ k ≤ S 33 z) : -(100 * k) ≤ sDue S z a (S 33 z - k) - sDue S z a (S 33 z) ∧ sDue S z a (S 33 z - k) - sDue S z a (S 33 z) ≤ 0 := by
  have g1 := h7.2.1 z hz.1 hz.2
  have g2 := h7.2.2.1 (6 * z + a) (by omega) (by have := h7.1; omega)
  have hd : 0 ≤ S 32 z / 12 ∧ S 32 z / 12 < S 13 0 := by omega
  have g3 := h3.2.2.1 (S 32 z / 12) hd.1 hd.2
  have g4 : 0 ≤ sSec S (S 32 z / 12) a ∧ sSec S (S 32 z / 12) a ≤ sSec S (S 32 z / 12) (-1) := sSecTo_in (fun p a b => h3.2.1 (S 32 z / 12) p hd.1 hd.2 a b) a 6 (Nat.le_refl _)
  unfold sDue
  generalize sSec S (S 32 z / 12) (-1) = T at *
  generalize sSec S (S 32 z / 12) a = C at *
  generalize S 34 (6 * z + a) = R at *
  generalize S 33 z = M at *
  have b1 : 0 ≤ R * C := Int.mul_nonneg g2.1 g4.1
  have b2 : R * C ≤ 9999 * T := Int.le_trans (Int.mul_le_mul_of_nonneg_right g2.2 g4.1) (Int.mul_le_mul_of_nonneg_left g4.2 (by omega))
  rw [Int.mul_assoc, Int.mul_assoc]
  generalize R * C = Q at *
  have hT : (0 : Int) < 100 * T := by omega
  have e1 : (M - k) * Q = M * Q - k * Q := Int.sub_mul M k Q
  have b3 : 0 ≤ k * Q := Int.mul_nonneg hk.1 b1
  have b4 : k * Q ≤ k * (9999 * T) := Int.mul_le_mul_of_nonneg_left b2 hk.1
  have b5 : k * (9999 * T) ≤ (100 * k) * (100 * T) := by
    have : 0 ≤ k * T := Int.mul_nonneg hk.1 (by omega)
    have e2 : k * (9999 * T) = 9999 * (k * T) := by rw [← Int.mul_assoc, Int.mul_comm k 9999, Int.mul_assoc]
    have e3 : 100 * k * (100 * T) = 10000 * (k * T) := by rw [Int.mul_assoc, ← Int.mul_assoc k 100 T, Int.mul_comm k 100, Int.mul_assoc 100 k T, ← Int.mul_assoc]; rfl
    omega
  constructor
  · have h1 : (M * Q - (100 * k) * (100 * T)) / (100 * T) ≤ (M - k) * Q / (100 * T) := Int.ediv_le_ediv hT (by omega)
    have h2 : (M * Q - (100 * k) * (100 * T)) / (100 * T) = M * Q / (100 * T) - 100 * k := by
      rw [Int.sub_eq_add_neg, ← Int.neg_mul, Int.add_mul_ediv_right _ _ (by omega)]
      omega
    omega
  · have h1 : (M - k) * Q / (100 * T) ≤ M * Q / (100 * T) := Int.ediv_le_ediv hT (by omega)
    omega
/-- what comes back takes from an account no more than 100 cents a disc -/
theorem back_less (h : LI s e m g r c n) (hn0 : 0 ≤ n ∧ n ≤ 150) {k x : Int} (hx : 0 ≤ x ∧ x ≤ 500) {a : Int} (ha : 0 ≤ a ∧ a < 6) (j : Nat) (hj : (j : Int) ≤ s 31 0) : -(100 * (x - sBackR s k x j)) ≤ sBackS s k x j 36 a - s 36 a ∧ sBackS s k x j 36 a - s 36 a ≤ 0 := by
  have A := acc_eq h.I h.E h.J (by omega) (q := a) ha
  have h7 := h.I.2.2.2.2.2.2.1
  induction j with
  | zero =>
    show -(100 * (x - x)) ≤ (sU s 37 0 0) 36 a - s 36 a ∧ (sU s 37 0 0) 36 a - s 36 a ≤ 0
    rw [sU_n (by decide)]
    omega
  | succ j ih =>
    have i1 := ih (by omega)
    have r1 := sBackR_in (s := s) (k := k) h7 hx.1 j (by omega)
    unfold sBackR sBackS
    split
    · rename_i hk
      obtain ⟨z, hz⟩ : ∃ z, z = s 31 0 - 1 - (j : Int) := ⟨_, rfl⟩
      rw [← hz]
      have hS7 := sBackS_I7 (s := s) (k := k) (x := x) h7 hx.1 j (by omega)
      have hS3 : sI3 (sBackS s k x j) := sI3_c (s := s) (sBackS_n (by decide) j) (sBackS_n (by decide) j) (sBackS_n (by decide) j) h.I.2.2.1
      have e33 : sBackS s k x j 33 z = s 33 z := sBackS_33 j (by omega)
      have e31 : sBackS s k x j 31 = s 31 := sBackS_n (by decide) j
      have g33 := (h7.2.1 z (by omega) (by omega)).2
      obtain ⟨t, ht⟩ : ∃ t, t = (if s 33 z < sBackR s k x j then s 33 z else sBackR s k x j) := ⟨_, rfl⟩
      rw [← ht]
      have ht2 : 0 ≤ t ∧ t ≤ s 33 z ∧ t ≤ sBackR s k x j := by rw [ht]; split <;> omega
      have dl := due_less hS3 hS7 (z := z) (a := a) (k := t) (by rw [e31]; omega) ha (by rw [e33]; omega)
      rw [sOff_36 ha, jW_id (by omega)]
      omega
    · exact i1
theorem LI_back (h : LI s e m g r c n) (hc : c < 512) (hn0 : 0 ≤ n ∧ n ≤ 150) {d y w x : Int} (h0 : t_back s d y w x = 0) : LI (n_back s d y w x) e m g r (c + 1) n ∧ r_back s d y w x = s 18 (sSt d y w) - s 19 (sSt d y w) - x ∧ x ≤ s 18 (sSt d y w) - s 19 (sSt d y w) ∧ (∀ a, 0 ≤ a → a < 6 → -(100 * x) ≤ n_back s d y w x 36 a - s 36 a ∧ n_back s d y w x 36 a - s 36 a ≤ 0) := by
  have hI := g_back h.I hc h0
  obtain ⟨q1, q2, q4⟩ := t_back_0 h0
  have hn : n_back s d y w x = sU (sBackS s (sSt d y w) x (s 31 0).toNat) 19 (sSt d y w) (s 19 (sSt d y w) + x) := if_pos h0
  have hr : r_back s d y w x = s 18 (sSt d y w) - (s 19 (sSt d y w) + x) := if_pos h0
  have h7 := h.I.2.2.2.2.2.2.1
  have b7 := h7.1
  have f : ∀ i, i ≠ 19 → i ≠ 33 ∧ i ≠ 36 ∧ i ≠ 37 → n_back s d y w x i = s i := fun i h1 h2 => by rw [hn, sU_n h1, sBackS_n h2]
  have e36 : n_back s d y w x 36 = sBackS s (sSt d y w) x (s 31 0).toNat 36 := by rw [hn, sU_n (by decide)]
  have hd0 := sDiscs_0 s (sSt d y w)
  refine ⟨⟨hI, h.M.k (f _ (by decide) (by decide)) (f _ (by decide) (by decide)) (f _ (by decide) (by decide)) (f _ (by decide) (by decide)) (f _ (by decide) (by decide)) (f _ (by decide) (by decide)), h.X.k (f _ (by decide) (by decide)) (f _ (by decide) (by decide)) (f _ (by decide) (by decide)) (f _ (by decide) (by decide)) (f _ (by decide) (by decide)) (f _ (by decide) (by decide)) (f _ (by decide) (by decide)) (f _ (by decide) (by decide)), h.G.k (f _ (by decide) (by decide)) (f _ (by decide) (by decide)) (f _ (by decide) (by decide)) (f _ (by decide) (by decide)), h.R.k (f _ (by decide) (by decide)) (f _ (by decide) (by decide)) (f _ (by decide) (by decide)) (f _ (by decide) (by decide)), h.E, fun i => ?_, ?_, h.N⟩, by omega, by omega, fun a h1 h2 => ?_⟩
  · rw [e36]; exact sBackS_jR h.J _ i
  · rw [f 0 (by decide) (by decide)]; exact h.D
  · have b := back_less h hn0 (k := sSt d y w) (x := x) (by omega) (a := a) (by omega) (s 31 0).toNat (by omega)
    have r1 := sBackR_in (s := s) (k := sSt d y w) h7 (x := x) (by omega) (s 31 0).toNat (by omega)
    rw [e36]
    omega
/-! cutting -/
theorem t_cut_0 {l : Int} (h0 : t_cut s l = 0) : (1 ≤ l ∧ l ≤ 5) ∧ 0 < s 11 0 ∧ sProgTo s (s 11 0).toNat ≤ 1500 - 150 * l ∧ s 13 0 < 10 := by
  unfold t_cut at h0
  split at h0
  · omega
  · rename_i a
    split at h0
    · rename_i b
      unfold sCanCut at b
      split at b
      · rename_i b2; exact ⟨Decidable.of_not_not a, b2.1, b2.2.2.1, b2.2.2.2⟩
      · omega
    · omega
theorem LI_cut (h : LI s e m g r c n) (hc : c < 512) {l : Int} (h0 : t_cut s l = 0) : LI (n_cut s l) e (ju m 2 (m 2 + 1)) g r (c + 1) n ∧ LI (n_cut s l) e (ju m 2 (m 2 + 1)) g r (c + 1) n ∧ r_cut s l = s 13 0 ∧ n_cut s l 11 0 = 0 ∧ n_cut s l 13 0 = s 13 0 + 1 ∧ sSec (n_cut s l) (s 13 0) (-1) ≤ 1500 - 150 * l := by
  have hI := g_cut h.I hc h0
  obtain ⟨q1, q2, q3, q4⟩ := t_cut_0 h0
  have hn : n_cut s l = sU (sU (sCutTo s (s 11 0).toNat) 11 0 0) 13 0 (s 13 0 + 1) := if_pos h0
  have f : ∀ i, i ≠ 11 → i ≠ 13 → i ≠ 14 ∧ i ≠ 15 ∧ i ≠ 37 → n_cut s l i = s i := fun i h1 h2 h3 => by rw [hn, sU_n h2, sU_n h1, sCutTo_n h3]
  obtain ⟨M0, M1, M2, M3, M4, M5⟩ := h.M
  have i2 := h.I.2.1.1
  have e13 : n_cut s l 13 0 = s 13 0 + 1 := by rw [hn, sU_s]
  have L : LI (n_cut s l) e (ju m 2 (m 2 + 1)) g r (c + 1) n := by
    refine ⟨hI, ⟨?_, ?_, ?_, ?_, ?_, ?_⟩, h.X.k (f _ (by decide) (by decide) (by decide)) (f _ (by decide) (by decide) (by decide)) (f _ (by decide) (by decide) (by decide)) (f _ (by decide) (by decide) (by decide)) (f _ (by decide) (by decide) (by decide)) (f _ (by decide) (by decide) (by decide)) (f _ (by decide) (by decide) (by decide)) (f _ (by decide) (by decide) (by decide)), h.G.k (f _ (by decide) (by decide) (by decide)) (f _ (by decide) (by decide) (by decide)) (f _ (by decide) (by decide) (by decide)) (f _ (by decide) (by decide) (by decide)), h.R.k (f _ (by decide) (by decide) (by decide)) (f _ (by decide) (by decide) (by decide)) (f _ (by decide) (by decide) (by decide)) (f _ (by decide) (by decide) (by decide)), h.E, h.J.k (f _ (by decide) (by decide) (by decide)), ?_, h.N⟩
    · rw [f 0 (by decide) (by decide) (by decide)]; exact M0
    · rw [f 1 (by decide) (by decide) (by decide)]; exact M1
    · rw [e13, ju_s]; omega
    · rw [f 22 (by decide) (by decide) (by decide)]; exact M3
    · rw [f 28 (by decide) (by decide) (by decide)]; exact M4
    · rw [f 26 (by decide) (by decide) (by decide)]; exact M5
    · rw [f 0 (by decide) (by decide) (by decide)]; exact h.D
  refine ⟨L, L, if_pos h0, by rw [hn, sU_n (by decide), sU_s], e13, ?_⟩
  have hz : sSec s (s 13 0) (-1) = 0 := sSecTo_0 6 (fun q hq => h.I.2.2.1.2.2.2.1 _ (by omega) (by omega))
  have e1 : sSec (n_cut s l) (s 13 0) (-1) = sSec (sCutTo s (s 11 0).toNat) (s 13 0) (-1) := by
    rw [hn]
    exact congrFun (congrFun (sSec_c (by rw [sU_n (by decide), sU_n (by decide)])) _) _
  rw [e1, sCutTo_sec h.I.1 h.I.2.1 hz _ (by omega)]
  have e2 := sProgS_eq s (s 11 0).toNat
  omega
/-! files -/
theorem sJoinTo_has {q p : Int} (k : Nat) : ∀ j : Int, sJoinTo s q p k = j → 0 ≤ j → sHas q j = 1 := by
  induction k with
  | zero => intro j h1 h2; exact absurd h1 (by show ¬ (-1 : Int) = j; omega)
  | succ k ih =>
    intro j h1 h2
    unfold sJoinTo at h1
    split at h1
    · rename_i h3; rw [← h1]; exact h3.1
    · exact ih j h1 h2
/-- the join's noise is the least of the set's discs below k, the lowest of several -/
theorem sJoinTo_min {q p : Int} (k : Nat) : ∀ i : Nat, i < k → sHas q i = 1 → 0 ≤ sJoinTo s q p k ∧ sNoise s (sJoinTo s q p k) p ≤ sNoise s i p ∧ ((i : Int) < sJoinTo s q p k → sNoise s (sJoinTo s q p k) p < sNoise s i p) := by
  induction k with
  | zero => intro i hi; omega
  | succ k ih =>
    intro i hi hs
    have hin := sJoinTo_in s q p k
    unfold sJoinTo
    split
    · rename_i h3
      by_cases e : i = k
      · subst e; exact ⟨by omega, Int.le_refl _, fun h => absurd h (by omega)⟩
      · have i1 := ih i (by omega) hs
        have h4 : sNoise s k p < sNoise s (sJoinTo s q p k) p := h3.2.resolve_left (by omega)
        exact ⟨by omega, by omega, fun _ => by omega⟩
    · rename_i h3
      by_cases e : i = k
      · subst e
        have h5 : ¬ (sJoinTo s q p i = -1 ∨ sNoise s i p < sNoise s (sJoinTo s q p i) p) := fun h => h3 ⟨hs, h⟩
        refine ⟨by omega, by omega, fun h => by omega⟩
      · exact ih i (by omega) hs
theorem sFileTo_27 {q i : Int} (k : Nat) : sFileTo s q k 27 i = if 0 ≤ i ∧ i < k then sNoise s (sJoin s q i) i else s 27 i := by
  induction k with
  | zero => rw [if_neg (by omega)]; unfold sFileTo; rw [sU_n (by decide)]
  | succ k ih =>
    unfold sFileTo
    by_cases e : i = k
    · subst e; rw [sU_s, if_pos (by omega)]
    · rw [sU_i e, ih]
      by_cases h2 : 0 ≤ i ∧ i < k
      · rw [if_pos h2, if_pos (by omega)]
      · rw [if_neg h2, if_neg (by omega)]
theorem LI_file (h : LI s e m g r c n) (hc : c < 512) {q : Int} (hq : jR q) (h0 : t_file s q = 0) : LI (n_file s q) e (ju (ju m 5 1) 4 0) g r (c + 1) n ∧ n_file s q 26 0 = 1 ∧ n_file s q 28 0 = 0 ∧ r_file s q = sFileN s q 8 ∧ (∀ i, 0 ≤ i → i < 8 → n_file s q 27 i = sNoise s (sJoin s q i) i) ∧ sNoise (n_file s q) = sNoise s ∧ n_file s q 22 = s 22 ∧ sJoin (n_file s q) q = sJoin s q ∧ (∀ p, t_join (n_file s q) q p = t_join s q p) := by
  have hI := g_file hq h.I hc h0
  have hn : n_file s q = sU (sU (sFileTo s q 8) 26 0 1) 28 0 0 := if_pos h0
  have f : ∀ i, i ≠ 26 → i ≠ 28 → i ≠ 27 ∧ i ≠ 37 → n_file s q i = s i := fun i h1 h2 h3 => by rw [hn, sU_n h2, sU_n h1, sFileTo_n h3]
  obtain ⟨M0, M1, M2, M3, M4, M5⟩ := h.M
  have e28 : n_file s q 28 0 = 0 := by rw [hn, sU_s]
  have e26 : n_file s q 26 0 = 1 := by rw [hn, sU_n (by decide), sU_s]
  refine ⟨⟨hI, ⟨?_, ?_, ?_, ?_, ?_, ?_⟩, h.X.k (f _ (by decide) (by decide) (by decide)) (f _ (by decide) (by decide) (by decide)) (f _ (by decide) (by decide) (by decide)) (f _ (by decide) (by decide) (by decide)) (f _ (by decide) (by decide) (by decide)) (f _ (by decide) (by decide) (by decide)) (f _ (by decide) (by decide) (by decide)) (f _ (by decide) (by decide) (by decide)), h.G.k (f _ (by decide) (by decide) (by decide)) (f _ (by decide) (by decide) (by decide)) (f _ (by decide) (by decide) (by decide)) (f _ (by decide) (by decide) (by decide)), ⟨fun _ => e28, fun j h1 h2 => ?_⟩, h.E, h.J.k (f _ (by decide) (by decide) (by decide)), ?_, h.N⟩, e26, e28, if_pos h0, fun i h1 h2 => ?_, ?_, f _ (by decide) (by decide) (by decide), ?_, fun p => ?_⟩
  · rw [f 0 (by decide) (by decide) (by decide)]; exact M0
  · rw [f 1 (by decide) (by decide) (by decide)]; exact M1
  · rw [f 13 (by decide) (by decide) (by decide)]; exact M2
  · rw [f 22 (by decide) (by decide) (by decide)]; exact M3
  · rw [e28, ju_s]
  · rw [e26, ju_n (by decide), ju_s]
  · rw [e28] at h2; omega
  · rw [f 0 (by decide) (by decide) (by decide)]; exact h.D
  · rw [hn, sU_n (by decide), sU_n (by decide), sFileTo_27, if_pos (by omega)]
  · exact sNoise_c (f _ (by decide) (by decide) (by decide)) (f _ (by decide) (by decide) (by decide))
  · funext p
    exact sJoin_c (f _ (by decide) (by decide) (by decide)) (f _ (by decide) (by decide) (by decide)) (f _ (by decide) (by decide) (by decide)) (f _ (by decide) (by decide) (by decide))
  · have k22 := f 22 (by decide) (by decide) (by decide)
    have k23 := f 23 (by decide) (by decide) (by decide)
    have hs : ∀ k, sSideTo (n_file s q) q k = sSideTo s q k := by
      intro k
      induction k with
      | zero => rfl
      | succ k ih => unfold sSideTo; rw [ih, k23]
    have ho : ∀ k, sOneTo (n_file s q) q k = sOneTo s q k := by
      intro k
      induction k with
      | zero => rfl
      | succ k ih => unfold sOneTo; rw [ih, hs, k23]
    unfold t_join sAre sOne
    rw [ho, k22]
theorem sFileN_in (hI : hInv s e c) {q : Int} (hq : jR q) (ha : ¬ sAre s q = 0) (k : Nat) (hk : k ≤ 8) : 0 ≤ sFileN s q k ∧ sFileN s q k ≤ 100000 * k := by
  induction k with
  | zero => exact ⟨Int.le_refl _, Int.le_refl _⟩
  | succ k ih =>
    have i1 := ih (by omega)
    have j1 := sJoin_in (p := (k : Int)) hq ha hI.2.2.2.2.1.1
    have n1 := noise_in hI (d := sJoin s q k) (p := (k : Int)) j1 (by omega)
    unfold sFileN
    omega
theorem and_one (x : Int32) : x &&& jI 1 = 0 ∨ x &&& jI 1 = jI 1 := by
  have e1 : jI 1 = 1 := by decide
  rw [e1]
  by_cases h : bt x 0 = true
  · right
    apply b_ext
    intro i hi
    rw [b_and, b_1]
    by_cases e : i = 0
    · subst e; rw [h]; rfl
    · simp [e]
  · left
    apply b_ext
    intro i hi
    rw [b_and, b_1, b_0]
    by_cases e : i = 0
    · subst e; simp at h; rw [h]; rfl
    · simp [e]
theorem sBit_in : ∀ k : Nat, k < 21 → 1 ≤ sBit (k : Int) ∧ sBit (k : Int) ≤ 1048576 ∧ sBit (k : Int) = 2 ^ k := by decide +kernel
theorem bt_small {v : Int} {k i : Nat} (h : 0 ≤ v ∧ v < 2 ^ k) (hi : k ≤ i) : bt (jI v) i = false := by
  obtain ⟨w, rfl⟩ : ∃ w : Nat, v = w := ⟨v.toNat, by omega⟩
  have h2 : w < 2 ^ k := by have := h.2; exact_mod_cast this
  rcases Nat.lt_or_ge i 32 with h3 | h3
  · unfold bt
    rw [jI_nat]
    unfold nI
    show (BitVec.ofNat 32 w).getLsbD i = false
    rw [BitVec.getLsbD_ofNat, Nat.testBit_lt_two_pow (Nat.lt_of_lt_of_le h2 (Nat.pow_le_pow_right (by decide) hi))]
    simp
  · exact b_big h3
/-- a set of discs made of a number and one disc -/
theorem set_of (h22 : 0 ≤ s 22 0 ∧ s 22 0 ≤ 20) {d y Q : Int} (hd : 0 ≤ d ∧ d < s 22 0) (hy : 0 ≤ y) (hQ : Q = (jI (y % sBit (s 22 0)) ||| (jI 1 <<< (jI d &&& 31))).toInt) : jR Q ∧ ¬ sAre s Q = 0 ∧ sHas Q d = 1 := by
  obtain ⟨k, hk⟩ : ∃ k : Nat, d = k := ⟨d.toNat, by omega⟩
  obtain ⟨N, hN⟩ : ∃ N : Nat, s 22 0 = N := ⟨(s 22 0).toNat, by omega⟩
  have hb := sBit_in N (by omega)
  have hv : 0 ≤ y % sBit (s 22 0) ∧ y % sBit (s 22 0) < 2 ^ N := by
    rw [hN]
    exact ⟨Int.emod_nonneg _ (by omega), by rw [← hb.2.2]; exact Int.emod_lt_of_pos _ (by omega)⟩
  have eQ : jI Q = jI (y % sBit (s 22 0)) ||| jI (sBit (k : Int)) := by
    rw [hQ, ← jI_of, hk]
    unfold sBit
    rw [← jI_of]
  have hbit : ∀ i, i < 32 → bt (jI Q) i = (bt (jI (y % sBit (s 22 0))) i || decide (i = k)) := fun i hi => by rw [eQ, b_or, b_sBit (by omega) hi]
  have hhas : sHas Q d = 1 := by
    rw [hk, sHas_bt _ (by omega), hbit k (by omega)]
    simp
  refine ⟨by rw [hQ]; exact jI_rng _, ?_, hhas⟩
  unfold sAre
  rw [if_pos]
  · decide
  constructor
  · intro h0
    rw [hk, sHas_bt _ (by omega), h0, show jI 0 = 0 by decide, b_0] at hhas
    cases hhas
  · apply b_ext
    intro i hi
    rw [hN, b_and, sMask N (by omega) i hi, b_0]
    by_cases h3 : N ≤ i
    · rw [hbit i hi, bt_small hv h3]
      simp
      omega
    · simp [h3]
end LI4
