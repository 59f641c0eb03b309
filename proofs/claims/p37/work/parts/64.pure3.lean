/-! ===== what each call that changes leaves of LI ===== -/
section LIK
variable {s s' : Sg} {m g r : Int → Int}
theorem pM.k (h : pM s m) (k0 : s' 0 = s 0) (k1 : s' 1 = s 1) (k13 : s' 13 = s 13) (k22 : s' 22 = s 22) (k28 : s' 28 = s 28) (k26 : s' 26 = s 26) : pM s' m := by unfold pM; rw [k0, k1, k13, k22, k28, k26]; exact h
theorem pX.k (h : pX s) (k0 : s' 0 = s 0) (k1 : s' 1 = s 1) (k4 : s' 4 = s 4) (k6 : s' 6 = s 6) (k16 : s' 16 = s 16) (k17 : s' 17 = s 17) (k20 : s' 20 = s 20) (k21 : s' 21 = s 21) : pX s' := by unfold pX; rw [k0, k1, k6, k4, k16, k17, k20, k21]; exact h
theorem pG.k (h : pG s g) (k1 : s' 1 = s 1) (k2 : s' 2 = s 2) (k4 : s' 4 = s 4) (k6 : s' 6 = s 6) : pG s' g := by unfold pG; rw [k1, k6, k4, k2]; exact h
theorem pR.k (h : pR s r) (k26 : s' 26 = s 26) (k28 : s' 28 = s 28) (k29 : s' 29 = s 29) (k30 : s' 30 = s 30) : pR s' r := by unfold pR; rw [k26, k28, k29, k30]; exact h
theorem pJ.k (h : pJ s) (k36 : s' 36 = s 36) : pJ s' := by unfold pJ; rw [k36]; exact h
theorem pG.gone (h : pG s g) (k1 : s' 1 = s 1) (k4 : s' 4 = s 4) (k6 : s' 6 = s 6) (k2 : ∀ t, 0 ≤ t → t < s 1 0 → s 2 t = 3 → s' 2 t = 3) : pG s' g := by
  intro t h1 h2
  rw [k1] at h2
  have := h t h1 h2
  have := k2 t h1 h2
  rw [k4, k6]
  omega
end LIK
section LIS
variable {s e : Sg} {m g r : Int → Int} {c n : Int}
theorem LI_shed (h : LI s e m g r c n) (hc : c < 512) {t : Int} (h0 : t_tape s t 0 = 0) : LI (n_shed s t) e m g r (c + 1) n ∧ n_shed s t 2 t = 1 ∧ n_shed s t 1 = s 1 := by
  have hI := g_shed h.I hc h0
  have q := t_tape_0 h0
  have hn : n_shed s t = sU (sU s 37 0 0) 2 t 1 := if_pos h0
  rw [hn] at hI ⊢
  refine ⟨⟨hI, h.M.k rfl rfl rfl rfl rfl rfl, h.X.k rfl rfl rfl rfl rfl rfl rfl rfl, h.G.gone rfl rfl rfl (fun u a b h3 => ?_), h.R.k rfl rfl rfl rfl, h.E, h.J.k rfl, h.D, h.N⟩, by rw [sU_s], rfl⟩
  show (if u = t then 1 else s 2 u) = 3
  rw [if_neg (by intro e; subst e; omega)]
  exact h3
theorem LI_bake (h : LI s e m g r c n) (hc : c < 512) {t : Int} (h0 : t_tape s t 1 = 0) : LI (n_bake s t) e m g r (c + 1) n ∧ n_bake s t 2 t = 2 ∧ n_bake s t 3 t = s 0 0 ∧ n_bake s t 1 = s 1 ∧ n_bake s t 0 = s 0 := by
  have hI := g_bake h.I hc h0
  have q := t_tape_0 h0
  have hn : n_bake s t = sU (sU (sU s 37 0 0) 2 t 2) 3 t (s 0 0) := if_pos h0
  rw [hn] at hI ⊢
  refine ⟨⟨hI, h.M.k rfl rfl rfl rfl rfl rfl, h.X.k rfl rfl rfl rfl rfl rfl rfl rfl, h.G.gone rfl rfl rfl (fun u a b h3 => ?_), h.R.k rfl rfl rfl rfl, h.E, h.J.k rfl, h.D, h.N⟩, ?_, by rw [sU_s], rfl, rfl⟩
  · show (if u = t then 2 else s 2 u) = 3
    rw [if_neg (by intro e; subst e; omega)]
    exact h3
  · show (if t = t then 2 else s 2 t) = 2
    rw [if_pos rfl]
theorem sFire_3 {v : Int} {i : Int} (n : Nat) (h : s 2 i = 3) : sFire s v n 2 i = 3 := by
  rcases sFire_v (s := s) (v := v) (i := i) n with e | e <;> rw [e]
  exact h
theorem sFire_all {v : Int} (n : Nat) : ∀ j : Nat, j < n → s 5 j = v → sFire s v n 2 j = 3 := by
  induction n with
  | zero => intro j hj; omega
  | succ n ih =>
    intro j hj h5
    simp only [sFire]
    by_cases e : j = n
    · subst e
      by_cases h3 : s 2 j = 3
      · rw [if_neg (fun h => h.2 h3)]; exact sFire_3 j h3
      · rw [if_pos ⟨h5, h3⟩, sU_s]
    · split
      · rw [sU_i (by omega)]; exact ih j (by omega) h5
      · exact ih j (by omega) h5
theorem sFireN_0 {v : Int} (n : Nat) (h : ∀ j : Nat, j < n → s 5 j = v → s 2 j = 3) : sFireN s v n = 0 := by
  induction n with
  | zero => rfl
  | succ n ih =>
    unfold sFireN
    rw [ih (fun j hj => h j (by omega)), if_neg (fun h2 => h2.2 (h n (by omega) h2.1))]
    rfl
theorem sFireN_in {v : Int} (n : Nat) : 0 ≤ sFireN s v n ∧ sFireN s v n ≤ n := by
  induction n with
  | zero => exact ⟨Int.le_refl _, Int.le_refl _⟩
  | succ n ih => unfold sFireN; split <;> omega
theorem LI_fire (h : LI s e m g r c n) (hc : c < 512) {v : Int} (h0 : t_vault v = 0) : LI (n_fire s v) e m g r (c + 1) n ∧ r_fire s v = sFireN s v (s 1 0).toNat ∧ r_fire (n_fire s v) v = 0 := by
  have hI := g_fire h.I hc h0
  have hn : n_fire s v = sFire s v (s 1 0).toNat := if_pos h0
  rw [hn] at hI ⊢
  have b := h.I.1.2.1
  have hq : ∀ k, k ≠ 2 ∧ k ≠ 37 → sFire s v (s 1 0).toNat k = s k := fun k hk => sFire_n hk _
  refine ⟨⟨hI, h.M.k (hq _ (by decide)) (hq _ (by decide)) (hq _ (by decide)) (hq _ (by decide)) (hq _ (by decide)) (hq _ (by decide)), h.X.k (hq _ (by decide)) (hq _ (by decide)) (hq _ (by decide)) (hq _ (by decide)) (hq _ (by decide)) (hq _ (by decide)) (hq _ (by decide)) (hq _ (by decide)), h.G.gone (hq _ (by decide)) (hq _ (by decide)) (hq _ (by decide)) (fun u a b h3 => sFire_3 _ h3), h.R.k (hq _ (by decide)) (hq _ (by decide)) (hq _ (by decide)) (hq _ (by decide)), h.E, h.J.k (hq _ (by decide)), ?_, h.N⟩, if_pos h0, ?_⟩
  · rw [hq 0 (by decide)]; exact h.D
  · unfold r_fire
    rw [if_pos h0, hq 1 (by decide)]
    refine sFireN_0 _ (fun j hj h5 => ?_)
    rw [hq 5 (by decide)] at h5
    exact sFire_all _ j hj h5
theorem LI_add (h : LI s e m g r c n) (hc : c < 512) {t : Int} (h0 : t_add s t = 0) : LI (n_add s t) e m g r (c + 1) n ∧ n_add s t 0 = s 0 ∧ n_add s t 1 = s 1 ∧ n_add s t 2 = s 2 ∧ n_add s t 3 = s 3 ∧ r_add s t = s 11 0 + 1 := by
  have hI := g_add h.I hc h0
  have hn : n_add s t = sU (sU (sU s 37 0 0) 12 (s 11 0) t) 11 0 (s 11 0 + 1) := if_pos h0
  rw [hn] at hI ⊢
  exact ⟨h.of hI (fun i hi => by rw [sU_n (by omega), sU_n (by omega), sU_n (by omega)]) rfl rfl, rfl, rfl, rfl, rfl, if_pos h0⟩
theorem LI_clear (h : LI s e m g r c n) (hc : c < 512) : LI (n_clear s) e m g r (c + 1) n ∧ n_clear s 11 0 = 0 :=
  ⟨h.of (g_clear h.I hc) (fun i hi => by unfold n_clear; rw [sU_n (by omega), sU_n (by omega)]) rfl rfl, by unfold n_clear; rw [sU_s]⟩
theorem LI_play (h : LI s e m g r c n) (hc : c < 512) {d a b : Int} (h0 : t_play s d a b = 0) : LI (n_play s d a b) e m g r (c + 1) n ∧ n_play s d a b = sU (sU s 37 0 0) 24 d (s 24 d + a * b) ∧ r_play s d a b = s 24 d + a * b := by
  have hI := g_play h.I hc h0
  have hn : n_play s d a b = sU (sU s 37 0 0) 24 d (s 24 d + a * b) := if_pos h0
  rw [hn] at hI ⊢
  exact ⟨h.of hI (fun i hi => by rw [sU_n (by omega), sU_n (by omega)]) rfl rfl, rfl, if_pos h0⟩
theorem LI_scratch (h : LI s e m g r c n) (hc : c < 512) {d p : Int} (h0 : t_scr s d p = 0) : LI (n_scratch s d p) e m g r (c + 1) n ∧ n_scratch s d p = sU (sU s 37 0 0) 25 (8 * d + p) (s 25 (8 * d + p) + 1) ∧ r_scratch s d p = sNoise s d p + 5 ∧ sNoise (n_scratch s d p) d p = sNoise s d p + 5 := by
  have hI := g_scratch h.I hc h0
  have hn : n_scratch s d p = sU (sU s 37 0 0) 25 (8 * d + p) (s 25 (8 * d + p) + 1) := if_pos h0
  have hr : r_scratch s d p = sNoise (n_scratch s d p) d p := if_pos h0
  rw [hr]
  rw [hn] at hI ⊢
  have e : sNoise (sU (sU s 37 0 0) 25 (8 * d + p) (s 25 (8 * d + p) + 1)) d p = sNoise s d p + 5 := by
    unfold sNoise
    rw [sU_s, sU_n (k := 25) (k' := 24) (by decide), sU_n (k := 37) (k' := 24) (by decide)]
    omega
  exact ⟨h.of hI (fun i hi => by rw [sU_n (by omega), sU_n (by omega)]) rfl rfl, rfl, e, e⟩
theorem scr_other {d p q : Int} (hpq : ¬ q = p) : sNoise (sU (sU s 37 0 0) 25 (8 * d + p) (s 25 (8 * d + p) + 1)) d q = sNoise s d q := by
  unfold sNoise
  rw [sU_i (by omega), sU_n (k := 25) (k' := 24) (by decide), sU_n (k := 37) (k' := 24) (by decide), sU_n (k := 37) (k' := 25) (by decide)]
theorem play_more {d x p : Int} (hx : 0 ≤ x) (hp : 0 ≤ p) : sNoise s d p ≤ sNoise (sU (sU s 37 0 0) 24 d (s 24 d + x)) d p := by
  unfold sNoise
  rw [sU_s, sU_n (k := 24) (k' := 25) (by decide), sU_n (k := 37) (k' := 25) (by decide)]
  have h1 : s 24 d * (p + 1) ≤ (s 24 d + x) * (p + 1) := Int.mul_le_mul_of_nonneg_right (by omega) (by omega)
  have h2 := Int.ediv_le_ediv (c := 16) (by decide) h1
  omega
theorem LI_disc (h : LI s e m g r c n) (hc : c < 512) {d y w : Int} (h0 : t_disc s d y w = 0) : LI (n_disc s d y w) e (ju m 3 (m 3 + 1)) g r (c + 1) n ∧ r_disc s d y w = s 22 0 ∧ n_disc s d y w 22 0 = s 22 0 + 1 ∧ sGrade (sNoises (n_disc s d y w) (s 22 0) 8) = 0 := by
  have hI := g_disc h.I hc h0
  have hn : n_disc s d y w = sU (sU (sU s 37 0 0) 23 (s 22 0) (sSt d y w)) 22 0 (s 22 0 + 1) := if_pos h0
  have b := h.I.2.2.2.2.1
  have b2 : s 22 0 < 20 := by
    have h1 := h0
    unfold t_disc at h1
    have b1 := b.1
    split at h1
    · omega
    · split at h1
      · omega
      · rename_i h2; omega
  rw [hn] at hI ⊢
  obtain ⟨M0, M1, M2, M3, M4, M5⟩ := h.M
  refine ⟨⟨hI, ⟨M0, M1, M2, ?_, M4, M5⟩, h.X.k rfl rfl rfl rfl rfl rfl rfl rfl, h.G.k rfl rfl rfl rfl, h.R.k rfl rfl rfl rfl, h.E, h.J.k rfl, h.D, h.N⟩, if_pos h0, by rw [sU_s], ?_⟩
  · rw [ju_s, sU_s]; omega
  · have hz : ∀ p : Nat, p ≤ 8 → sNoises (sU (sU (sU s 37 0 0) 23 (s 22 0) (sSt d y w)) 22 0 (s 22 0 + 1)) (s 22 0) p = 0 := by
      intro p
      induction p with
      | zero => intro _; rfl
      | succ p ih =>
        intro hp
        unfold sNoises
        rw [ih (by omega)]
        unfold sNoise
        show 0 + (5 * s 25 (8 * s 22 0 + (p : Int)) + s 24 (s 22 0) * ((p : Int) + 1) / 16) = 0
        rw [b.2.2.2.2.1 (s 22 0) (by omega) (by omega), b.2.2.2.2.2 (8 * s 22 0 + (p : Int)) (by omega) (by omega)]
        simp
    rw [hz 8 (by omega)]
    rfl
theorem LI_stamper (h : LI s e m g r c n) (hc : c < 512) {d y w : Int} (h0 : t_stamper s d y w = 0) : LI (n_stamper s d y w) e m g r (c + 1) n ∧ n_stamper s d y w 16 (sSt d y w) = s 0 0 ∧ n_stamper s d y w 13 = s 13 := by
  have hI := g_stamper h.I hc h0
  have q := t_stamper_0 h0
  have hn : n_stamper s d y w = sU (sU s 37 0 0) 16 (sSt d y w) (s 0 0) := if_pos h0
  rw [hn] at hI ⊢
  refine ⟨⟨hI, h.M.k rfl rfl rfl rfl rfl rfl, ⟨h.X.1, fun k h1 h2 => ?_⟩, h.G.k rfl rfl rfl rfl, h.R.k rfl rfl rfl rfl, h.E, h.J.k rfl, h.D, h.N⟩, by rw [sU_s], rfl⟩
  have k4 := h.I.2.2.2.1.1 k h1 h2
  have kx := h.X.2 k h1 h2
  show (s 17 k = 0 ∨ (0 ≤ (if k = sSt d y w then s 0 0 else s 16 k) ∧ (if k = sSt d y w then s 0 0 else s 16 k) ≤ s 20 k)) ∧ s 20 k ≤ s 21 k ∧ s 21 k ≤ s 0 0 ∧ (if k = sSt d y w then s 0 0 else s 16 k) ≤ s 0 0
  by_cases ek : k = sSt d y w
  · rw [if_pos ek]
    rw [← ek] at q
    omega
  · rw [if_neg ek]; exact kx
theorem t_press_0 {d y w x : Int} (h : t_press s d y w x = 0) : sNm s d y w ∧ (1 ≤ x ∧ x ≤ 500) ∧ ¬ s 16 (sSt d y w) = -1 ∧ s 17 (sSt d y w) + x ≤ 500 := by
  unfold t_press at h
  split at h
  · omega
  · rename_i h1
    split at h
    · omega
    · split at h
      · omega
      · exact ⟨Decidable.of_not_not h1, by omega, by omega, by omega⟩
theorem LI_press (h : LI s e m g r c n) (hc : c < 512) {d y w x : Int} (h0 : t_press s d y w x = 0) : LI (n_press s d y w x) e m g r (c + 1) n ∧ n_press s d y w x 21 (sSt d y w) = s 0 0 ∧ n_press s d y w x 13 = s 13 ∧ r_press s d y w x = s 17 (sSt d y w) + x := by
  have hI := g_press h.I hc h0
  obtain ⟨q1, q2, q3, q4⟩ := t_press_0 h0
  have hn : n_press s d y w x = sU (sU (sU (sU s 37 0 0) 17 (sSt d y w) (s 17 (sSt d y w) + x)) 20 (sSt d y w) (if s 20 (sSt d y w) = -1 then s 0 0 else s 20 (sSt d y w))) 21 (sSt d y w) (s 0 0) := if_pos h0
  rw [hn] at hI ⊢
  refine ⟨⟨hI, h.M.k rfl rfl rfl rfl rfl rfl, ⟨h.X.1, fun k h1 h2 => ?_⟩, h.G.k rfl rfl rfl rfl, h.R.k rfl rfl rfl rfl, h.E, h.J.k rfl, h.D, h.N⟩, by rw [sU_s], rfl, if_pos h0⟩
  have k4 := h.I.2.2.2.1.1 k h1 h2
  have kx := h.X.2 k h1 h2
  obtain ⟨K, hK⟩ : ∃ K, K = sSt d y w := ⟨_, rfl⟩
  rw [← hK] at q3 q4 ⊢
  show ((if k = K then s 17 K + x else s 17 k) = 0 ∨ (0 ≤ s 16 k ∧ s 16 k ≤ (if k = K then (if s 20 K = -1 then s 0 0 else s 20 K) else s 20 k))) ∧ (if k = K then (if s 20 K = -1 then s 0 0 else s 20 K) else s 20 k) ≤ (if k = K then s 0 0 else s 21 k) ∧ (if k = K then s 0 0 else s 21 k) ≤ s 0 0 ∧ s 16 k ≤ s 0 0
  by_cases ek : k = K
  · subst ek
    simp only [if_true]
    split <;> omega
  · rw [if_neg ek, if_neg ek, if_neg ek]; exact kx
theorem LI_pass (h : LI s e m g r c n) (hc : c < 512) (hn0 : 0 ≤ n) {x : Int} (hx : x ≤ 40) (h0 : t_pass s x = 0) : LI (n_pass s x) e (ju m 0 (m 0 + x)) g r (c + 1) (n + 1) ∧ n_pass s x 36 = s 36 ∧ r_pass s x = s 0 0 + x := by
  have hI := g_pass h.I hc h0
  have hn : n_pass s x = sU (sU s 37 0 0) 0 0 (s 0 0 + x) := if_pos h0
  have q : 1 ≤ x := by
    unfold t_pass at h0
    split at h0
    · omega
    · omega
  rw [hn] at hI ⊢
  obtain ⟨M0, M1, M2, M3, M4, M5⟩ := h.M
  have D := h.D
  have N := h.N
  refine ⟨⟨hI, ⟨?_, M1, M2, M3, M4, M5⟩, ⟨h.X.1, fun k h1 h2 => ?_⟩, h.G.k rfl rfl rfl rfl, h.R.k rfl rfl rfl rfl, (h.mono hn0).E, h.J.k rfl, ?_, (by show 0 ≤ m 6 ∧ m 6 ≤ n + 1; omega)⟩, rfl, if_pos h0⟩
  · rw [ju_s, sU_s]; omega
  · have kx := h.X.2 k h1 h2
    have e0 : (sU (sU s 37 0 0) 0 0 (s 0 0 + x)) 0 0 = s 0 0 + x := sU_s
    rw [e0]
    show (s 17 k = 0 ∨ (0 ≤ s 16 k ∧ s 16 k ≤ s 20 k)) ∧ s 20 k ≤ s 21 k ∧ s 21 k ≤ s 0 0 + x ∧ s 16 k ≤ s 0 0 + x
    omega
  · rw [sU_s]; omega
theorem LI_contract (h : LI s e m g r c n) (hc : c < 512) (hn0 : 0 ≤ n ∧ n ≤ 150) {a x y : Int} (hy : y ≤ 3000) (h0 : t_contract a x y = 0) : LI (n_contract s a x y) (sU e 0 a (e 0 a + y)) m g r (c + 1) (n + 1) ∧ n_contract s a x y 36 a = s 36 a - y ∧ r_contract s a x y = s 36 a - y := by
  have hI := g_contract h.I hc h0
  have q := t_contract_0 h0
  have hn : n_contract s a x y = sU (sU (sU s 37 0 0) 35 a x) 36 a (jW (s 36 a - y)) := if_pos h0
  have hr : r_contract s a x y = jW (s 36 a - y) := if_pos h0
  have A := acc_eq h.I h.E h.J (by omega) (q := a) (by omega)
  have e1 : jW (s 36 a - y) = s 36 a - y := jW_id (by omega)
  rw [hr]
  rw [hn] at hI ⊢
  have E := (h.mono hn0.1).E
  refine ⟨⟨hI, h.M.k rfl rfl rfl rfl rfl rfl, h.X.k rfl rfl rfl rfl rfl rfl rfl rfl, h.G.k rfl rfl rfl rfl, h.R.k rfl rfl rfl rfl, fun i h1 h2 => ?_, fun i => ?_, (h.mono hn0.1).D, (h.mono hn0.1).N⟩, by rw [sU_s, e1], e1⟩
  · have g0 := E i h1 h2
    have g1 := h.E i h1 h2
    show (0 ≤ (if i = a then e 0 a + y else e 0 i) ∧ (if i = a then e 0 a + y else e 0 i) ≤ _) ∧ _
    by_cases ei : i = a
    · subst ei; rw [if_pos rfl]
      refine ⟨by omega, g0.2⟩
    · rw [if_neg ei]; exact g0
  · show jR (if i = a then jW (s 36 a - y) else s 36 i)
    split
    · exact jW_rng _
    · exact h.J i
/-- a payment; where nothing is paid the bound stays -/
theorem LI_payOut (h : LI s e m g r c n) (hc : c < 512) (hn0 : 0 ≤ n ∧ n ≤ 150) {a : Int} (h0 : t_artist a = 0) : (LI (n_payOut s a) (sU e 1 a (e 1 a + (if 0 < s 36 a then s 36 a else 0))) m g r (c + 1) (n + 1) ∧ (s 36 a ≤ 0 → LI (n_payOut s a) (sU e 1 a (e 1 a + (if 0 < s 36 a then s 36 a else 0))) m g r (c + 1) n)) ∧ n_payOut s a 36 a = (if 0 < s 36 a then 0 else s 36 a) ∧ r_payOut s a = (if 0 < s 36 a then s 36 a else 0) := by
  have hI := g_payOut h.I hc h0
  have q := t_artist_0 h0
  have hn : n_payOut s a = sU (sU s 37 0 0) 36 a (s 36 a - (if 0 < s 36 a then s 36 a else 0)) := if_pos h0
  have A := acc_eq h.I h.E h.J (by omega) (q := a) (by omega)
  have e1 : s 36 a - (if 0 < s 36 a then s 36 a else 0) = (if 0 < s 36 a then 0 else s 36 a) := by split <;> omega
  rw [hn] at hI ⊢
  have J : pJ (sU (sU s 37 0 0) 36 a (s 36 a - (if 0 < s 36 a then s 36 a else 0))) := fun i => by
    show jR (if i = a then s 36 a - (if 0 < s 36 a then s 36 a else 0) else s 36 i)
    split
    · split <;> omega
    · exact h.J i
  refine ⟨⟨⟨hI, h.M.k rfl rfl rfl rfl rfl rfl, h.X.k rfl rfl rfl rfl rfl rfl rfl rfl, h.G.k rfl rfl rfl rfl, h.R.k rfl rfl rfl rfl, fun i h1 h2 => ?_, J, (h.mono hn0.1).D, (h.mono hn0.1).N⟩, fun hz => ⟨hI, h.M.k rfl rfl rfl rfl rfl rfl, h.X.k rfl rfl rfl rfl rfl rfl rfl rfl, h.G.k rfl rfl rfl rfl, h.R.k rfl rfl rfl rfl, fun i h1 h2 => ?_, J, h.D, h.N⟩⟩, by rw [sU_s, e1], if_pos h0⟩
  · have g0 := (h.mono hn0.1).E i h1 h2
    have g1 := h.E i h1 h2
    show _ ∧ (0 ≤ (if i = a then e 1 a + (if 0 < s 36 a then s 36 a else 0) else e 1 i) ∧ (if i = a then e 1 a + (if 0 < s 36 a then s 36 a else 0) else e 1 i) ≤ _)
    by_cases ei : i = a
    · subst ei; rw [if_pos rfl]
      refine ⟨g0.1, ?_⟩
      split <;> omega
    · rw [if_neg ei]; exact g0
  · have g1 := h.E i h1 h2
    show _ ∧ (0 ≤ (if i = a then e 1 a + (if 0 < s 36 a then s 36 a else 0) else e 1 i) ∧ (if i = a then e 1 a + (if 0 < s 36 a then s 36 a else 0) else e 1 i) ≤ _)
    by_cases ei : i = a
    · subst ei; rw [if_pos rfl, if_neg (by omega)]
      refine ⟨g1.1, by omega⟩
    · rw [if_neg ei]; exact g1
theorem LI_repair (h : LI s e m g r c n) (hc : c < 512) {p : Int} (h0 : t_repair s p = 0) : LI (n_repair s p) e (ju m 4 (m 4 + 1)) g (ju (ju r (2 * m 4) p) (2 * m 4 + 1) (s 27 p)) (c + 1) n ∧ n_repair s p 27 p = s 27 p / 2 ∧ n_repair s p 26 = s 26 ∧ r_repair s p = s 27 p / 2 := by
  have hI := g_repair h.I hc h0
  have hn : n_repair s p = sU (sU (sU (sU (sU s 37 0 0) 29 (s 28 0) p) 30 (s 28 0) (s 27 p)) 28 0 (s 28 0 + 1)) 27 p (s 27 p / 2) := if_pos h0
  rw [hn] at hI ⊢
  obtain ⟨M0, M1, M2, M3, M4, M5⟩ := h.M
  refine ⟨⟨hI, ⟨M0, M1, M2, M3, ?_, M5⟩, h.X.k rfl rfl rfl rfl rfl rfl rfl rfl, h.G.k rfl rfl rfl rfl, ⟨?_, fun j h1 h2 => ?_⟩, h.E, h.J.k rfl, h.D, h.N⟩, by rw [sU_s], rfl, if_pos h0⟩
  · rw [ju_s]; show _ = s 28 0 + 1; omega
  · intro hz
    replace hz : s 26 0 = 0 := hz
    unfold t_repair at h0
    split at h0
    · omega
    · rw [if_pos (Or.inl hz)] at h0; omega
  · replace h2 : j < s 28 0 + 1 := h2
    show ju (ju r (2 * m 4) p) (2 * m 4 + 1) (s 27 p) (2 * j) = (if j = s 28 0 then p else s 29 j) ∧ ju (ju r (2 * m 4) p) (2 * m 4 + 1) (s 27 p) (2 * j + 1) = (if j = s 28 0 then s 27 p else s 30 j)
    by_cases ej : j = s 28 0
    · rw [if_pos ej, if_pos ej, ju_n (by omega), show 2 * j = 2 * m 4 by omega, ju_s, ju_s]
      exact ⟨rfl, rfl⟩
    · rw [if_neg ej, if_neg ej, ju_n (by omega), ju_n (by omega), ju_n (by omega), ju_n (by omega)]
      exact h.R.2 j h1 (by omega)
theorem LI_undo (h : LI s e m g r c n) (hc : c < 512) (h0 : t_undo s = 0) : LI (n_undo s) e (ju m 4 (m 4 - 1)) g r (c + 1) n ∧ n_undo s 27 (s 29 (s 28 0 - 1)) = s 30 (s 28 0 - 1) ∧ n_undo s 26 = s 26 ∧ r_undo s = s 29 (s 28 0 - 1) := by
  have hI := g_undo h.I hc h0
  have hn : n_undo s = sU (sU (sU s 37 0 0) 28 0 (s 28 0 - 1)) 27 (s 29 (s 28 0 - 1)) (s 30 (s 28 0 - 1)) := if_pos h0
  rw [hn] at hI ⊢
  obtain ⟨M0, M1, M2, M3, M4, M5⟩ := h.M
  refine ⟨⟨hI, ⟨M0, M1, M2, M3, ?_, M5⟩, h.X.k rfl rfl rfl rfl rfl rfl rfl rfl, h.G.k rfl rfl rfl rfl, ⟨?_, fun j h1 h2 => ?_⟩, h.E, h.J.k rfl, h.D, h.N⟩, by rw [sU_s], rfl, if_pos h0⟩
  · rw [ju_s]; show _ = s 28 0 - 1; omega
  · intro hz
    have hz2 := h.R.1 hz
    unfold t_undo at h0
    rw [if_pos hz2] at h0
    omega
  · replace h2 : j < s 28 0 - 1 := h2
    exact h.R.2 j h1 (by omega)
end LIS
