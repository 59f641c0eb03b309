/-! ===== what holds of both houses at any time, c calls made ===== -/
def hK (s : Sg) : Prop := ∀ j : Int, 0 ≤ j → j < s 31 0 → ¬ s 16 (s 32 j) = -1
def hZ (s : Sg) : Prop := ∀ i : Int, 20 * s 1 0 ≤ i → i < 600 → s 8 i = 0 ∧ s 9 i = 0 ∧ s 10 i = 0
def hA (s e : Sg) : Prop := ∀ q : Int, 0 ≤ q → q < 6 → jI (s 36 q) = jI (sDues s q (s 31 0).toNat - e 0 q - e 1 q)
def hInv (s e : Sg) (c : Int) : Prop := sI1 s ∧ sI2 s ∧ sI3 s ∧ sI4 s ∧ sI5 s c ∧ sI6 s ∧ sI7 s ∧ (0 ≤ c ∧ c ≤ 512) ∧ hK s ∧ hZ s ∧ cStr s e ∧ hA s e
theorem hInv.s {s e : Sg} {c : Int} (h : hInv s e c) : sInv s c := ⟨h.1, h.2.1, h.2.2.1, h.2.2.2.1, h.2.2.2.2.1, h.2.2.2.2.2.1, h.2.2.2.2.2.2.1, h.2.2.2.2.2.2.2.1⟩
theorem hInv.K {s e : Sg} {c : Int} (h : hInv s e c) : hK s := h.2.2.2.2.2.2.2.2.1
theorem hInv.Z {s e : Sg} {c : Int} (h : hInv s e c) : hZ s := h.2.2.2.2.2.2.2.2.2.1
theorem hInv.T {s e : Sg} {c : Int} (h : hInv s e c) : cStr s e := h.2.2.2.2.2.2.2.2.2.2.1
theorem hInv.A {s e : Sg} {c : Int} (h : hInv s e c) : hA s e := h.2.2.2.2.2.2.2.2.2.2.2
theorem hInv.lost {s e : Sg} {c : Int} (h : hInv s e c) : ∀ t : Int, 0 ≤ t → t < s 1 0 → (e 2 t = -1 ↔ ¬ s 6 t = -1) := fun t h1 h2 => (h.T t h1 h2).1
theorem hInv.E {s e : Sg} {c : Int} (h : hInv s e c) : ∀ i, 0 ≤ i → i < s 1 0 → e 2 i < s 1 0 ∧ e 5 i < s 1 0 := fun t h1 h2 => by
  have g := h.T t h1 h2
  by_cases e2 : e 2 t = -1
  · have := (g.2.1 e2).2.2; omega
  · have := g.2.2 e2; omega
theorem sI1_k {s s' : Sg} (h0 : s' 0 = s 0) (h1 : s' 1 = s 1) (h2 : s' 2 = s 2) (h3 : s' 3 = s 3) (h4 : s' 4 = s 4) (h5 : s' 5 = s 5) (h6 : s' 6 = s 6) (h7 : s' 7 = s 7) (h8 : s' 8 = s 8) (h9 : s' 9 = s 9) (h10 : s' 10 = s 10) (h : sI1 s) : sI1 s' := by
  unfold sI1 at h ⊢
  rw [h0, h1, h2, h3, h4, h5, h6, h7, h8, h9, h10]
  exact h
theorem sI2_k {s s' : Sg} (h1 : s' 1 = s 1) (h11 : s' 11 = s 11) (h12 : s' 12 = s 12) (h : sI2 s) : sI2 s' := by
  unfold sI2 at h ⊢
  rw [h1, h11, h12]
  exact h
theorem sI6_k {s s' : Sg} (h26 : s' 26 = s 26) (h27 : s' 27 = s 27) (h28 : s' 28 = s 28) (h29 : s' 29 = s 29) (h30 : s' 30 = s 30) (h : sI6 s) : sI6 s' := by
  unfold sI6 at h ⊢
  rw [h26, h27, h28, h29, h30]
  exact h
theorem sI7_k {s s' : Sg} (h13 : s' 13 = s 13) (h31 : s' 31 = s 31) (h32 : s' 32 = s 32) (h33 : s' 33 = s 33) (h34 : s' 34 = s 34) (h35 : s' 35 = s 35) (h : sI7 s) : sI7 s' := by
  unfold sI7 at h ⊢
  rw [h13, h31, h32, h33, h34, h35]
  exact h
theorem sI4_k {s s' : Sg} (h13 : s' 13 = s 13) (h16 : s' 16 = s 16) (h17 : s' 17 = s 17) (h18 : s' 18 = s 18) (h19 : s' 19 = s 19) (h20 : s' 20 = s 20) (h21 : s' 21 = s 21) (h22 : s' 22 = s 22) (h23 : s' 23 = s 23) (h : sI4 s) : sI4 s' := by
  have hd := sDiscs_c h22 h23
  unfold sI4 at h ⊢
  rw [h13, h16, h17, h18, h19, h20, h21, hd]
  exact h
theorem sI5_k {s s' : Sg} {c c' : Int} (h13 : s' 13 = s 13) (h22 : s' 22 = s 22) (h23 : s' 23 = s 23) (h24 : s' 24 = s 24) (h25 : s' 25 = s 25) (hc : c ≤ c') (h : sI5 s c) : sI5 s' c' := by
  unfold sI5 at h ⊢
  rw [h13, h22, h23, h24, h25]
  exact ⟨h.1, fun d h1 h2 => by have := h.2.1 d h1 h2; omega, fun d h1 h2 => by have := h.2.2.1 d h1 h2; omega, h.2.2.2⟩
theorem hK_k {s s' : Sg} (h31 : s' 31 = s 31) (h32 : s' 32 = s 32) (h16 : s' 16 = s 16) (h : hK s) : hK s' := by
  unfold hK at h ⊢
  rw [h31, h32, h16]
  exact h
theorem hZ_k {s s' : Sg} (h1 : s' 1 = s 1) (h8 : s' 8 = s 8) (h9 : s' 9 = s 9) (h10 : s' 10 = s 10) (h : hZ s) : hZ s' := by
  unfold hZ at h ⊢
  rw [h1, h8, h9, h10]
  exact h
theorem sLenTo_k {s s' : Sg} (h9 : s' 9 = s 9) (h10 : s' 10 = s 10) : sLenTo s' = sLenTo s := by
  funext t n
  exact sLenTo_c n (fun j _ => by rw [h9]) (fun j _ => by rw [h10])
theorem TkAt_k {s s' : Sg} (h7 : s' 7 = s 7) (h8 : s' 8 = s 8) (h9 : s' 9 = s 9) (h10 : s' 10 = s 10) : TkAt s' = TkAt s := by
  funext t x b
  unfold TkAt
  rw [h7, h8, sLenTo_k h9 h10]
theorem cStr_k {s s' e e' : Sg} (h1 : s' 1 = s 1) (h6 : s' 6 = s 6) (h7 : s' 7 = s 7) (h8 : s' 8 = s 8) (h9 : s' 9 = s 9) (h10 : s' 10 = s 10) (e2 : e' 2 = e 2) (e3 : e' 3 = e 3) (e4 : e' 4 = e 4) (e5 : e' 5 = e 5) (h : cStr s e) : cStr s' e' := by
  unfold cStr cStr1 at h ⊢
  rw [h1, h6, h7, h8, TkAt_k h7 h8 h9 h10, e2, e3, e4, e5]
  exact h
theorem sDues_k {s s' : Sg} (h14 : s' 14 = s 14) (h32 : s' 32 = s 32) (h33 : s' 33 = s 33) (h34 : s' 34 = s 34) : sDues s' = sDues s := by
  funext q n
  induction n with
  | zero => rfl
  | succ n ih => simp only [sDues]; rw [ih, sDue_c h14 h34 h32, h33]
theorem hA_k {s s' e e' : Sg} (h36 : s' 36 = s 36) (h31 : s' 31 = s 31) (h14 : s' 14 = s 14) (h32 : s' 32 = s 32) (h33 : s' 33 = s 33) (h34 : s' 34 = s 34) (e0 : e' 0 = e 0) (e1 : e' 1 = e 1) (h : hA s e) : hA s' e' := by
  unfold hA at h ⊢
  rw [h36, h31, sDues_k h14 h32 h33 h34, e0, e1]
  exact h
theorem sI1_m {s s' : Sg} (h1 : s' 1 = s 1) (h4 : s' 4 = s 4) (h5 : s' 5 = s 5) (h6 : s' 6 = s 6) (h7 : s' 7 = s 7) (h8 : s' 8 = s 8) (h9 : s' 9 = s 9) (h10 : s' 10 = s 10) (h0 : 0 ≤ s' 0 0 ∧ s' 0 0 ≤ 9999) (h2 : ∀ t : Int, 0 ≤ t → t < s 1 0 → (0 ≤ s' 2 t ∧ s' 2 t ≤ 3) ∧ (0 ≤ s' 3 t ∧ s' 3 t ≤ 9999)) (h3 : ∀ t : Int, s 1 0 ≤ t → t < 30 → s' 3 t = 0) (h : sI1 s) : sI1 s' := by
  unfold sI1 at h ⊢
  rw [h1, h4, h5, h6, h7, h8, h9, h10]
  exact ⟨h0, h.2.1, fun t a b => ⟨(h2 t a b).1, (h2 t a b).2, (h.2.2.1 t a b).2.2⟩, fun t a b => ⟨(h.2.2.2.1 t a b).1, h3 t a b⟩, h.2.2.2.2⟩
/-- a refused call, or one that only asks -/
theorem hInv.c37 {s e : Sg} {c x : Int} (h : hInv s e c) (hc : c < 512) : hInv (sU s 37 0 x) e (c + 1) := by
  obtain ⟨I1, I2, I3, I4, I5, I6, I7, hc0, K, Z, T, A⟩ := h
  exact ⟨sI1_k (s := s) rfl rfl rfl rfl rfl rfl rfl rfl rfl rfl rfl I1, sI2_k (s := s) rfl rfl rfl I2, sI3_c (s := s) rfl rfl rfl I3, sI4_k (s := s) rfl rfl rfl rfl rfl rfl rfl rfl rfl I4, sI5_k (s := s) rfl rfl rfl rfl rfl (by omega) I5, sI6_k (s := s) rfl rfl rfl rfl rfl I6, sI7_k (s := s) rfl rfl rfl rfl rfl rfl I7, by omega, hK_k (s := s) rfl rfl rfl K, hZ_k (s := s) rfl rfl rfl rfl Z, cStr_k (s := s) (e := e) rfl rfl rfl rfl rfl rfl rfl rfl rfl rfl T, hA_k (s := s) (e := e) rfl rfl rfl rfl rfl rfl rfl rfl A⟩
theorem t_tape_0 {s : Sg} {t v : Int} (h : t_tape s t v = 0) : (0 ≤ t ∧ t ≤ s 1 0 - 1) ∧ s 2 t = v := by
  unfold t_tape at h
  split at h
  · omega
  · rename_i a
    split at h
    · rename_i b; exact ⟨Decidable.of_not_not a, b⟩
    · omega
theorem g_shed {s e : Sg} {c : Int} {t : Int} (h : hInv s e c) (hc : c < 512) (h0 : t_tape s t 0 = 0) : hInv (n_shed s t) (e) (c + 1) := by
  obtain ⟨I1, I2, I3, I4, I5, I6, I7, hc0, K, Z, T, A⟩ := h
  have q := t_tape_0 h0
  have hn : n_shed s t = sU (sU s 37 0 0) 2 t 1 := if_pos h0
  rw [hn]
  refine ⟨?_, (sI2_k (s := s) rfl rfl rfl I2), (sI3_c (s := s) rfl rfl rfl I3), (sI4_k (s := s) rfl rfl rfl rfl rfl rfl rfl rfl rfl I4), (sI5_k (s := s) rfl rfl rfl rfl rfl (by omega) I5), (sI6_k (s := s) rfl rfl rfl rfl rfl I6), (sI7_k (s := s) rfl rfl rfl rfl rfl rfl I7), (by omega), (hK_k (s := s) rfl rfl rfl K), (hZ_k (s := s) rfl rfl rfl rfl Z), (cStr_k (s := s) (e := e) rfl rfl rfl rfl rfl rfl rfl rfl rfl rfl T), (hA_k (s := s) (e := e) rfl rfl rfl rfl rfl rfl rfl rfl A)⟩
  · refine sI1_m (s := s) rfl rfl rfl rfl rfl rfl rfl rfl I1.1 (fun i h1 h2 => ?_) (fun i h1 h2 => (I1.2.2.2.1 i h1 h2).2) I1
    have g := I1.2.2.1 i h1 h2
    have e2 : (sU (sU s 37 0 0) 2 t 1) 2 i = if i = t then 1 else s 2 i := rfl
    have e3 : (sU (sU s 37 0 0) 2 t 1) 3 i = s 3 i := rfl
    rw [e2, e3]
    split <;> omega
theorem g_bake {s e : Sg} {c : Int} {t : Int} (h : hInv s e c) (hc : c < 512) (h0 : t_tape s t 1 = 0) : hInv (n_bake s t) (e) (c + 1) := by
  obtain ⟨I1, I2, I3, I4, I5, I6, I7, hc0, K, Z, T, A⟩ := h
  have q := t_tape_0 h0
  have hn : n_bake s t = sU (sU (sU s 37 0 0) 2 t 2) 3 t (s 0 0) := if_pos h0
  rw [hn]
  refine ⟨?_, (sI2_k (s := s) rfl rfl rfl I2), (sI3_c (s := s) rfl rfl rfl I3), (sI4_k (s := s) rfl rfl rfl rfl rfl rfl rfl rfl rfl I4), (sI5_k (s := s) rfl rfl rfl rfl rfl (by omega) I5), (sI6_k (s := s) rfl rfl rfl rfl rfl I6), (sI7_k (s := s) rfl rfl rfl rfl rfl rfl I7), (by omega), (hK_k (s := s) rfl rfl rfl K), (hZ_k (s := s) rfl rfl rfl rfl Z), (cStr_k (s := s) (e := e) rfl rfl rfl rfl rfl rfl rfl rfl rfl rfl T), (hA_k (s := s) (e := e) rfl rfl rfl rfl rfl rfl rfl rfl A)⟩
  · have e3 : ∀ i, (sU (sU (sU s 37 0 0) 2 t 2) 3 t (s 0 0)) 3 i = if i = t then s 0 0 else s 3 i := fun i => rfl
    refine sI1_m (s := s) rfl rfl rfl rfl rfl rfl rfl rfl I1.1 (fun i h1 h2 => ?_) (fun i h1 h2 => ?_) I1
    · have g := I1.2.2.1 i h1 h2
      have g0 := I1.1
      have e2 : (sU (sU (sU s 37 0 0) 2 t 2) 3 t (s 0 0)) 2 i = if i = t then 2 else s 2 i := rfl
      rw [e2, e3]
      split <;> omega
    · rw [e3, if_neg (by omega)]
      exact (I1.2.2.2.1 i h1 h2).2
theorem sFire_v {s : Sg} {v i : Int} (n : Nat) : sFire s v n 2 i = s 2 i ∨ sFire s v n 2 i = 3 := by
  induction n with
  | zero => exact Or.inl rfl
  | succ n ih =>
    simp only [sFire]
    split
    · by_cases h : i = n
      · subst h; right; rw [sU_s]
      · rw [sU_i h]; exact ih
    · exact ih
theorem g_fire {s e : Sg} {c : Int} {v : Int} (h : hInv s e c) (hc : c < 512) (h0 : t_vault v = 0) : hInv (n_fire s v) (e) (c + 1) := by
  obtain ⟨I1, I2, I3, I4, I5, I6, I7, hc0, K, Z, T, A⟩ := h
  have hn : n_fire s v = sFire s v (s 1 0).toNat := if_pos h0
  rw [hn]
  have hq : ∀ k, k ≠ 2 ∧ k ≠ 37 → sFire s v (s 1 0).toNat k = s k := fun k hk => sFire_n hk _
  refine ⟨?_, (sI2_k (s := s) (hq _ (by decide)) (hq _ (by decide)) (hq _ (by decide)) I2), (sI3_c (s := s) (hq _ (by decide)) (hq _ (by decide)) (hq _ (by decide)) I3), (sI4_k (s := s) (hq _ (by decide)) (hq _ (by decide)) (hq _ (by decide)) (hq _ (by decide)) (hq _ (by decide)) (hq _ (by decide)) (hq _ (by decide)) (hq _ (by decide)) (hq _ (by decide)) I4), (sI5_k (s := s) (hq _ (by decide)) (hq _ (by decide)) (hq _ (by decide)) (hq _ (by decide)) (hq _ (by decide)) (by omega) I5), (sI6_k (s := s) (hq _ (by decide)) (hq _ (by decide)) (hq _ (by decide)) (hq _ (by decide)) (hq _ (by decide)) I6), (sI7_k (s := s) (hq _ (by decide)) (hq _ (by decide)) (hq _ (by decide)) (hq _ (by decide)) (hq _ (by decide)) (hq _ (by decide)) I7), (by omega), (hK_k (s := s) (hq _ (by decide)) (hq _ (by decide)) (hq _ (by decide)) K), (hZ_k (s := s) (hq _ (by decide)) (hq _ (by decide)) (hq _ (by decide)) (hq _ (by decide)) Z), (cStr_k (s := s) (e := e) (hq _ (by decide)) (hq _ (by decide)) (hq _ (by decide)) (hq _ (by decide)) (hq _ (by decide)) (hq _ (by decide)) rfl rfl rfl rfl T), (hA_k (s := s) (e := e) (hq _ (by decide)) (hq _ (by decide)) (hq _ (by decide)) (hq _ (by decide)) (hq _ (by decide)) (hq _ (by decide)) rfl rfl A)⟩
  · refine sI1_m (s := s) (hq _ (by decide)) (hq _ (by decide)) (hq _ (by decide)) (hq _ (by decide)) (hq _ (by decide)) (hq _ (by decide)) (hq _ (by decide)) (hq _ (by decide)) (by rw [hq 0 (by decide)]; exact I1.1) (fun i h1 h2 => ?_) (fun i h1 h2 => by rw [hq 3 (by decide)]; exact (I1.2.2.2.1 i h1 h2).2) I1
    have g := I1.2.2.1 i h1 h2
    rw [hq 3 (by decide)]
    rcases sFire_v (s := s) (v := v) (i := i) (s 1 0).toNat with e | e <;> rw [e] <;> omega
theorem g_pass {s e : Sg} {c : Int} {x : Int} (h : hInv s e c) (hc : c < 512) (h0 : t_pass s x = 0) : hInv (n_pass s x) (e) (c + 1) := by
  obtain ⟨I1, I2, I3, I4, I5, I6, I7, hc0, K, Z, T, A⟩ := h
  have q : (1 ≤ x ∧ x ≤ 999) ∧ s 0 0 + x ≤ 9999 := by
    unfold t_pass at h0
    split at h0
    · omega
    · split at h0 <;> omega
  have hn : n_pass s x = sU (sU s 37 0 0) 0 0 (s 0 0 + x) := if_pos h0
  rw [hn]
  refine ⟨?_, (sI2_k (s := s) rfl rfl rfl I2), (sI3_c (s := s) rfl rfl rfl I3), (sI4_k (s := s) rfl rfl rfl rfl rfl rfl rfl rfl rfl I4), (sI5_k (s := s) rfl rfl rfl rfl rfl (by omega) I5), (sI6_k (s := s) rfl rfl rfl rfl rfl I6), (sI7_k (s := s) rfl rfl rfl rfl rfl rfl I7), (by omega), (hK_k (s := s) rfl rfl rfl K), (hZ_k (s := s) rfl rfl rfl rfl Z), (cStr_k (s := s) (e := e) rfl rfl rfl rfl rfl rfl rfl rfl rfl rfl T), (hA_k (s := s) (e := e) rfl rfl rfl rfl rfl rfl rfl rfl A)⟩
  · refine sI1_m (s := s) rfl rfl rfl rfl rfl rfl rfl rfl (show 0 ≤ s 0 0 + x ∧ s 0 0 + x ≤ 9999 by have := I1.1; omega) (fun i h1 h2 => ?_) (fun i h1 h2 => (I1.2.2.2.1 i h1 h2).2) I1
    have g := I1.2.2.1 i h1 h2
    exact ⟨g.1, g.2.1⟩
theorem g_add {s e : Sg} {c : Int} {t : Int} (h : hInv s e c) (hc : c < 512) (h0 : t_add s t = 0) : hInv (n_add s t) (e) (c + 1) := by
  obtain ⟨I1, I2, I3, I4, I5, I6, I7, hc0, K, Z, T, A⟩ := h
  have q : (0 ≤ t ∧ t ≤ s 1 0 - 1) ∧ ¬ s 11 0 = 6 := by
    unfold t_add at h0
    split at h0
    · omega
    · split at h0 <;> omega
  have hn : n_add s t = sU (sU (sU s 37 0 0) 12 (s 11 0) t) 11 0 (s 11 0 + 1) := if_pos h0
  rw [hn]
  refine ⟨(sI1_k (s := s) rfl rfl rfl rfl rfl rfl rfl rfl rfl rfl rfl I1), ?_, (sI3_c (s := s) rfl rfl rfl I3), (sI4_k (s := s) rfl rfl rfl rfl rfl rfl rfl rfl rfl I4), (sI5_k (s := s) rfl rfl rfl rfl rfl (by omega) I5), (sI6_k (s := s) rfl rfl rfl rfl rfl I6), (sI7_k (s := s) rfl rfl rfl rfl rfl rfl I7), (by omega), (hK_k (s := s) rfl rfl rfl K), (hZ_k (s := s) rfl rfl rfl rfl Z), (cStr_k (s := s) (e := e) rfl rfl rfl rfl rfl rfl rfl rfl rfl rfl T), (hA_k (s := s) (e := e) rfl rfl rfl rfl rfl rfl rfl rfl A)⟩
  · have e11 : (sU (sU (sU s 37 0 0) 12 (s 11 0) t) 11 0 (s 11 0 + 1)) 11 0 = s 11 0 + 1 := rfl
    have e12 : ∀ i, (sU (sU (sU s 37 0 0) 12 (s 11 0) t) 11 0 (s 11 0 + 1)) 12 i = if i = s 11 0 then t else s 12 i := fun i => rfl
    have e1 : (sU (sU (sU s 37 0 0) 12 (s 11 0) t) 11 0 (s 11 0 + 1)) 1 = s 1 := rfl
    unfold sI2 at I2 ⊢
    rw [e11, e1]
    refine ⟨by omega, fun j h1 h2 => ?_⟩
    rw [e12]
    split
    · omega
    · have := I2.2 j h1 (by omega); exact this
theorem g_clear {s e : Sg} {c : Int} (h : hInv s e c) (hc : c < 512) : hInv (n_clear s) e (c + 1) := by
  obtain ⟨I1, I2, I3, I4, I5, I6, I7, hc0, K, Z, T, A⟩ := h
  have hn : n_clear s = sU (sU s 37 0 0) 11 0 0 := rfl
  rw [hn]
  refine ⟨sI1_k (s := s) rfl rfl rfl rfl rfl rfl rfl rfl rfl rfl rfl I1, ⟨(show 0 ≤ (0 : Int) ∧ (0 : Int) ≤ 6 by omega), fun j h1 h2 => ?_⟩, sI3_c (s := s) rfl rfl rfl I3, sI4_k (s := s) rfl rfl rfl rfl rfl rfl rfl rfl rfl I4, sI5_k (s := s) rfl rfl rfl rfl rfl (by omega) I5, sI6_k (s := s) rfl rfl rfl rfl rfl I6, sI7_k (s := s) rfl rfl rfl rfl rfl rfl I7, by omega, hK_k (s := s) rfl rfl rfl K, hZ_k (s := s) rfl rfl rfl rfl Z, cStr_k (s := s) (e := e) rfl rfl rfl rfl rfl rfl rfl rfl rfl rfl T, hA_k (s := s) (e := e) rfl rfl rfl rfl rfl rfl rfl rfl A⟩
  have h3 : j < 0 := h2
  omega
theorem sNm_k {s : Sg} {d m n : Int} (h : sNm s d m n) : 0 ≤ sSt d m n ∧ sSt d m n < 12 * s 13 0 := by
  unfold sSt; omega
theorem sI4.set {s s' : Sg} {k : Int} (hd : sDiscs s' = sDiscs s) (h13 : s' 13 = s 13) (ho : ∀ i, i ≠ k → s' 16 i = s 16 i ∧ s' 17 i = s 17 i ∧ s' 18 i = s 18 i ∧ s' 19 i = s 19 i ∧ s' 20 i = s 20 i ∧ s' 21 i = s 21 i) (hk : 0 ≤ k → k < 120 → ((-1 ≤ s' 16 k ∧ s' 16 k ≤ 9999) ∧ (0 ≤ s' 17 k ∧ s' 17 k ≤ 500) ∧ (0 ≤ s' 19 k ∧ s' 19 k ≤ s' 18 k ∧ s' 18 k ≤ s' 17 k) ∧ (-1 ≤ s' 20 k ∧ s' 20 k ≤ 9999) ∧ (-1 ≤ s' 21 k ∧ s' 21 k ≤ 9999) ∧ (s' 16 k = -1 → s' 17 k = 0 ∧ s' 20 k = -1 ∧ s' 21 k = -1) ∧ (12 * s 13 0 ≤ k → s' 16 k = -1) ∧ (s' 20 k = -1 ↔ s' 17 k = 0)) ∧ sDiscs s k ≤ s' 18 k - s' 19 k) (h : sI4 s) : sI4 s' := by
  unfold sI4 at h ⊢
  rw [hd, h13]
  refine ⟨fun i h1 h2 => ?_, fun i h1 h2 => ?_⟩
  · by_cases e : i = k
    · subst e; exact (hk h1 h2).1
    · obtain ⟨a1, a2, a3, a4, a5, a6⟩ := ho i e
      rw [a1, a2, a3, a4, a5, a6]; exact h.1 i h1 h2
  · by_cases e : i = k
    · subst e; exact (hk h1 h2).2
    · obtain ⟨a1, a2, a3, a4, a5, a6⟩ := ho i e
      rw [a3, a4]; exact h.2 i h1 h2
theorem t_stamper_0 {s : Sg} {d m n : Int} (h : t_stamper s d m n = 0) : sNm s d m n ∧ s 16 (sSt d m n) = -1 := by
  unfold t_stamper at h
  split at h
  · omega
  · rename_i a
    split at h
    · rename_i b; exact ⟨Decidable.of_not_not a, b.1⟩
    · omega
theorem g_stamper {s e : Sg} {c : Int} {d m n : Int} (h : hInv s e c) (hc : c < 512) (h0 : t_stamper s d m n = 0) : hInv (n_stamper s d m n) (e) (c + 1) := by
  obtain ⟨I1, I2, I3, I4, I5, I6, I7, hc0, K, Z, T, A⟩ := h
  have hn : n_stamper s d m n = sU (sU s 37 0 0) 16 (sSt d m n) (s 0 0) := if_pos h0
  rw [hn]
  obtain ⟨q1, q2⟩ := t_stamper_0 h0
  have q3 := sNm_k q1
  have i0 := I1.1
  have i3 := I3.1
  clear hn h0
  generalize sSt d m n = k at *
  have e16 : ∀ i, (sU (sU s 37 0 0) 16 k (s 0 0)) 16 i = if i = k then s 0 0 else s 16 i := fun i => rfl
  refine ⟨(sI1_k (s := s) rfl rfl rfl rfl rfl rfl rfl rfl rfl rfl rfl I1), (sI2_k (s := s) rfl rfl rfl I2), (sI3_c (s := s) rfl rfl rfl I3), ?_, (sI5_k (s := s) rfl rfl rfl rfl rfl (by omega) I5), (sI6_k (s := s) rfl rfl rfl rfl rfl I6), (sI7_k (s := s) rfl rfl rfl rfl rfl rfl I7), (by omega), ?_, (hZ_k (s := s) rfl rfl rfl rfl Z), (cStr_k (s := s) (e := e) rfl rfl rfl rfl rfl rfl rfl rfl rfl rfl T), (hA_k (s := s) (e := e) rfl rfl rfl rfl rfl rfl rfl rfl A)⟩
  · refine sI4.set (s := s) (k := k) (sDiscs_c (s := s) rfl rfl) rfl (fun i hi => ⟨by rw [e16, if_neg hi], rfl, rfl, rfl, rfl, rfl⟩) (fun h1 h2 => ?_) I4
    have g := I4.1 k h1 h2
    have g2 := I4.2 k h1 h2
    rw [e16, if_pos rfl]
    show ((-1 ≤ s 0 0 ∧ s 0 0 ≤ 9999) ∧ (0 ≤ s 17 k ∧ s 17 k ≤ 500) ∧ (0 ≤ s 19 k ∧ s 19 k ≤ s 18 k ∧ s 18 k ≤ s 17 k) ∧ (-1 ≤ s 20 k ∧ s 20 k ≤ 9999) ∧ (-1 ≤ s 21 k ∧ s 21 k ≤ 9999) ∧ (s 0 0 = -1 → s 17 k = 0 ∧ s 20 k = -1 ∧ s 21 k = -1) ∧ (12 * s 13 0 ≤ k → s 0 0 = -1) ∧ (s 20 k = -1 ↔ s 17 k = 0)) ∧ sDiscs s k ≤ s 18 k - s 19 k
    omega
  · intro j h1 h2
    have e32 : (sU (sU s 37 0 0) 16 k (s 0 0)) 32 = s 32 := rfl
    rw [e32, e16]
    split
    · omega
    · exact K j h1 h2
theorem g_press {s e : Sg} {c : Int} {d m n x : Int} (h : hInv s e c) (hc : c < 512) (h0 : t_press s d m n x = 0) : hInv (n_press s d m n x) (e) (c + 1) := by
  obtain ⟨I1, I2, I3, I4, I5, I6, I7, hc0, K, Z, T, A⟩ := h
  have hn : n_press s d m n x = sU (sU (sU (sU s 37 0 0) 17 (sSt d m n) (s 17 (sSt d m n) + x)) 20 (sSt d m n) (if s 20 (sSt d m n) = -1 then s 0 0 else s 20 (sSt d m n))) 21 (sSt d m n) (s 0 0) := if_pos h0
  rw [hn]
  obtain ⟨q1, q2, q4⟩ : sNm s d m n ∧ (1 ≤ x ∧ x ≤ 500) ∧ ¬ (s 16 (sSt d m n) = -1 ∨ 500 < s 17 (sSt d m n) + x) := by
    unfold t_press at h0
    split at h0
    · omega
    · rename_i a
      split at h0
      · omega
      · rename_i a2
        split at h0
        · omega
        · rename_i a3; exact ⟨Decidable.of_not_not a, Decidable.of_not_not a2, a3⟩
  have q3 := sNm_k q1
  have i0 := I1.1
  have i3 := I3.1
  clear hn h0
  generalize sSt d m n = k at *
  refine ⟨(sI1_k (s := s) rfl rfl rfl rfl rfl rfl rfl rfl rfl rfl rfl I1), (sI2_k (s := s) rfl rfl rfl I2), (sI3_c (s := s) rfl rfl rfl I3), ?_, (sI5_k (s := s) rfl rfl rfl rfl rfl (by omega) I5), (sI6_k (s := s) rfl rfl rfl rfl rfl I6), (sI7_k (s := s) rfl rfl rfl rfl rfl rfl I7), (by omega), (hK_k (s := s) rfl rfl rfl K), (hZ_k (s := s) rfl rfl rfl rfl Z), (cStr_k (s := s) (e := e) rfl rfl rfl rfl rfl rfl rfl rfl rfl rfl T), (hA_k (s := s) (e := e) rfl rfl rfl rfl rfl rfl rfl rfl A)⟩
  · have e17 : ∀ i, (sU (sU (sU (sU s 37 0 0) 17 k (s 17 k + x)) 20 k (if s 20 k = -1 then s 0 0 else s 20 k)) 21 k (s 0 0)) 17 i = if i = k then s 17 k + x else s 17 i := fun i => rfl
    have e20 : ∀ i, (sU (sU (sU (sU s 37 0 0) 17 k (s 17 k + x)) 20 k (if s 20 k = -1 then s 0 0 else s 20 k)) 21 k (s 0 0)) 20 i = if i = k then (if s 20 k = -1 then s 0 0 else s 20 k) else s 20 i := fun i => rfl
    have e21 : ∀ i, (sU (sU (sU (sU s 37 0 0) 17 k (s 17 k + x)) 20 k (if s 20 k = -1 then s 0 0 else s 20 k)) 21 k (s 0 0)) 21 i = if i = k then s 0 0 else s 21 i := fun i => rfl
    refine sI4.set (s := s) (k := k) (sDiscs_c (s := s) rfl rfl) rfl (fun i hi => ⟨rfl, by rw [e17, if_neg hi], rfl, rfl, by rw [e20, if_neg hi], by rw [e21, if_neg hi]⟩) (fun h1 h2 => ?_) I4
    have g := I4.1 k h1 h2
    have g2 := I4.2 k h1 h2
    rw [e17, e20, e21, if_pos rfl, if_pos rfl, if_pos rfl]
    show ((-1 ≤ s 16 k ∧ s 16 k ≤ 9999) ∧ (0 ≤ s 17 k + x ∧ s 17 k + x ≤ 500) ∧ (0 ≤ s 19 k ∧ s 19 k ≤ s 18 k ∧ s 18 k ≤ s 17 k + x) ∧ (-1 ≤ (if s 20 k = -1 then s 0 0 else s 20 k) ∧ (if s 20 k = -1 then s 0 0 else s 20 k) ≤ 9999) ∧ (-1 ≤ s 0 0 ∧ s 0 0 ≤ 9999) ∧ (s 16 k = -1 → s 17 k + x = 0 ∧ (if s 20 k = -1 then s 0 0 else s 20 k) = -1 ∧ s 0 0 = -1) ∧ (12 * s 13 0 ≤ k → s 16 k = -1) ∧ ((if s 20 k = -1 then s 0 0 else s 20 k) = -1 ↔ s 17 k + x = 0)) ∧ sDiscs s k ≤ s 18 k - s 19 k
    split <;> omega
theorem g_disc {s e : Sg} {c : Int} {d m n : Int} (h : hInv s e c) (hc : c < 512) (h0 : t_disc s d m n = 0) : hInv (n_disc s d m n) (e) (c + 1) := by
  obtain ⟨I1, I2, I3, I4, I5, I6, I7, hc0, K, Z, T, A⟩ := h
  have hn : n_disc s d m n = sU (sU (sU s 37 0 0) 23 (s 22 0) (sSt d m n)) 22 0 (s 22 0 + 1) := if_pos h0
  rw [hn]
  obtain ⟨q1, q2⟩ : sNm s d m n ∧ ¬ (sDiscs s (sSt d m n) = s 18 (sSt d m n) - s 19 (sSt d m n) ∨ s 22 0 = 20) := by
    unfold t_disc at h0
    split at h0
    · omega
    · rename_i a
      split at h0
      · omega
      · rename_i a2; exact ⟨Decidable.of_not_not a, a2⟩
  have q3 := sNm_k q1
  have i3 := I3.1
  have i5 := I5.1
  clear hn h0
  generalize sSt d m n = k at *
  have e22 : (sU (sU (sU s 37 0 0) 23 (s 22 0) k) 22 0 (s 22 0 + 1)) 22 0 = s 22 0 + 1 := rfl
  have e23 : ∀ i, (sU (sU (sU s 37 0 0) 23 (s 22 0) k) 22 0 (s 22 0 + 1)) 23 i = if i = s 22 0 then k else s 23 i := fun i => rfl
  refine ⟨(sI1_k (s := s) rfl rfl rfl rfl rfl rfl rfl rfl rfl rfl rfl I1), (sI2_k (s := s) rfl rfl rfl I2), (sI3_c (s := s) rfl rfl rfl I3), ?_, ?_, (sI6_k (s := s) rfl rfl rfl rfl rfl I6), (sI7_k (s := s) rfl rfl rfl rfl rfl rfl I7), (by omega), (hK_k (s := s) rfl rfl rfl K), (hZ_k (s := s) rfl rfl rfl rfl Z), (cStr_k (s := s) (e := e) rfl rfl rfl rfl rfl rfl rfl rfl rfl rfl T), (hA_k (s := s) (e := e) rfl rfl rfl rfl rfl rfl rfl rfl A)⟩
  · have hd : ∀ i, sDiscs (sU (sU (sU s 37 0 0) 23 (s 22 0) k) 22 0 (s 22 0 + 1)) i = sDiscs s i + (if k = i then 1 else 0) := fun i => (sDiscs_add (s := sU s 37 0 0) (k := k) (i := i) i5.1).trans (by rw [sDiscs_c (s := s) (s' := sU s 37 0 0) rfl rfl])
    refine ⟨I4.1, fun i h1 h2 => ?_⟩
    rw [hd]
    have g := I4.2 i h1 h2
    show _ ≤ s 18 i - s 19 i
    by_cases e : k = i
    · subst e; rw [if_pos rfl]; omega
    · rw [if_neg e]; omega
  · unfold sI5 at I5 ⊢
    rw [e22]
    refine ⟨by omega, fun i h1 h2 => ?_, fun i h1 h2 => ?_, fun i h1 h2 => ?_, fun i h1 h2 => I5.2.2.2.2.1 i (by omega) h2, fun i h1 h2 => I5.2.2.2.2.2 i (by omega) h2⟩
    · have g := I5.2.1 i h1 h2
      show 0 ≤ s 24 i ∧ s 24 i ≤ _
      omega
    · have g := I5.2.2.1 i h1 h2
      show 0 ≤ s 25 i ∧ s 25 i ≤ _
      omega
    · rw [e23]
      show _ ∧ _ < 12 * s 13 0
      split
      · omega
      · exact I5.2.2.2.1 i h1 (by omega)
theorem g_play {s e : Sg} {c : Int} {d n x : Int} (h : hInv s e c) (hc : c < 512) (h0 : t_play s d n x = 0) : hInv (n_play s d n x) (e) (c + 1) := by
  obtain ⟨I1, I2, I3, I4, I5, I6, I7, hc0, K, Z, T, A⟩ := h
  obtain ⟨q1, q2⟩ : (0 ≤ d ∧ d ≤ s 22 0 - 1) ∧ ((1 ≤ n ∧ n ≤ 3) ∧ (1 ≤ x ∧ x ≤ 50)) := by
    unfold t_play at h0
    split at h0
    · omega
    · rename_i a
      split at h0
      · rename_i a2; exact ⟨Decidable.of_not_not a, a2⟩
      · omega
  have hn : n_play s d n x = sU (sU s 37 0 0) 24 d (s 24 d + n * x) := if_pos h0
  rw [hn]
  have hm1 : 0 ≤ n * x := Int.mul_nonneg (by omega) (by omega)
  have hm2 : n * x ≤ 3 * x := Int.mul_le_mul_of_nonneg_right (by omega) (by omega)
  have e24 : ∀ i, (sU (sU s 37 0 0) 24 d (s 24 d + n * x)) 24 i = if i = d then s 24 d + n * x else s 24 i := fun i => rfl
  refine ⟨(sI1_k (s := s) rfl rfl rfl rfl rfl rfl rfl rfl rfl rfl rfl I1), (sI2_k (s := s) rfl rfl rfl I2), (sI3_c (s := s) rfl rfl rfl I3), (sI4_k (s := s) rfl rfl rfl rfl rfl rfl rfl rfl rfl I4), ?_, (sI6_k (s := s) rfl rfl rfl rfl rfl I6), (sI7_k (s := s) rfl rfl rfl rfl rfl rfl I7), (by omega), (hK_k (s := s) rfl rfl rfl K), (hZ_k (s := s) rfl rfl rfl rfl Z), (cStr_k (s := s) (e := e) rfl rfl rfl rfl rfl rfl rfl rfl rfl rfl T), (hA_k (s := s) (e := e) rfl rfl rfl rfl rfl rfl rfl rfl A)⟩
  · have i5 := I5.1
    unfold sI5 at I5 ⊢
    refine ⟨I5.1, fun i h1 h2 => ?_, fun i h1 h2 => ?_, I5.2.2.2.1, fun i h1 h2 => ?_, I5.2.2.2.2.2⟩
    · have g := I5.2.1 i h1 h2
      rw [e24]
      split
      · rename_i e; subst e; omega
      · omega
    · have g := I5.2.2.1 i h1 h2
      show 0 ≤ s 25 i ∧ s 25 i ≤ _
      omega
    · have h3 : s 22 0 ≤ i := h1
      rw [e24, if_neg (by omega)]
      exact I5.2.2.2.2.1 i h1 h2
theorem g_scratch {s e : Sg} {c : Int} {d p : Int} (h : hInv s e c) (hc : c < 512) (h0 : t_scr s d p = 0) : hInv (n_scratch s d p) (e) (c + 1) := by
  obtain ⟨I1, I2, I3, I4, I5, I6, I7, hc0, K, Z, T, A⟩ := h
  have q1 : (0 ≤ d ∧ d ≤ s 22 0 - 1) ∧ (0 ≤ p ∧ p ≤ 7) := by
    unfold t_scr at h0
    split at h0
    · rename_i a; exact a
    · omega
  have hn : n_scratch s d p = sU (sU s 37 0 0) 25 (8 * d + p) (s 25 (8 * d + p) + 1) := if_pos h0
  rw [hn]
  have e25 : ∀ i, (sU (sU s 37 0 0) 25 (8 * d + p) (s 25 (8 * d + p) + 1)) 25 i = if i = 8 * d + p then s 25 (8 * d + p) + 1 else s 25 i := fun i => rfl
  refine ⟨(sI1_k (s := s) rfl rfl rfl rfl rfl rfl rfl rfl rfl rfl rfl I1), (sI2_k (s := s) rfl rfl rfl I2), (sI3_c (s := s) rfl rfl rfl I3), (sI4_k (s := s) rfl rfl rfl rfl rfl rfl rfl rfl rfl I4), ?_, (sI6_k (s := s) rfl rfl rfl rfl rfl I6), (sI7_k (s := s) rfl rfl rfl rfl rfl rfl I7), (by omega), (hK_k (s := s) rfl rfl rfl K), (hZ_k (s := s) rfl rfl rfl rfl Z), (cStr_k (s := s) (e := e) rfl rfl rfl rfl rfl rfl rfl rfl rfl rfl T), (hA_k (s := s) (e := e) rfl rfl rfl rfl rfl rfl rfl rfl A)⟩
  · have i5 := I5.1
    unfold sI5 at I5 ⊢
    refine ⟨I5.1, fun i h1 h2 => ?_, fun i h1 h2 => ?_, I5.2.2.2.1, I5.2.2.2.2.1, fun i h1 h2 => ?_⟩
    · have g := I5.2.1 i h1 h2
      show 0 ≤ s 24 i ∧ s 24 i ≤ _
      omega
    · have g := I5.2.2.1 i h1 h2
      rw [e25]
      split
      · rename_i e; subst e; omega
      · omega
    · have h3 : 8 * s 22 0 ≤ i := h1
      rw [e25, if_neg (by omega)]
      exact I5.2.2.2.2.2 i h1 h2
theorem g_file {s e : Sg} {c : Int} {q : Int} (hq : jR q) (h : hInv s e c) (hc : c < 512) (h0 : t_file s q = 0) : hInv (n_file s q) (e) (c + 1) := by
  obtain ⟨I1, I2, I3, I4, I5, I6, I7, hc0, K, Z, T, A⟩ := h
  have hn : n_file s q = sU (sU (sFileTo s q 8) 26 0 1) 28 0 0 := if_pos h0
  rw [hn]
  have hq2 : jR q := hq
  have hs : ¬ sAre s q = 0 := by
    unfold t_file at h0
    intro e
    rw [if_pos e] at h0
    omega
  have e27 : ∀ n : Nat, n ≤ 8 → ∀ p : Int, 0 ≤ p → p < 8 → 0 ≤ sFileTo s q n 27 p ∧ sFileTo s q n 27 p ≤ 1000000 := by
    intro n
    induction n with
    | zero => intro _ p h1 h2; exact I6.2.1 p h1 h2
    | succ n ih =>
      intro hn8 p h1 h2
      simp only [sFileTo]
      by_cases e : p = n
      · subst e
        rw [sU_s]
        have j := sJoin_in (s := s) (p := n) hq2 hs I5.1
        have i5 := I5.1
        have g := sNoise_in I5 hc0 (d := sJoin s q n) (p := n) (by omega) (by omega)
        omega
      · rw [sU_i e]; exact ih (by omega) p h1 h2
  clear hn
  obtain ⟨N, hN⟩ : ∃ N, N = sFileTo s q 8 := ⟨_, rfl⟩
  have hr : ∀ k, k ≠ 27 ∧ k ≠ 37 → N k = s k := fun k hk => by rw [hN]; exact sFileTo_n hk 8
  have e27' : ∀ p : Int, 0 ≤ p → p < 8 → 0 ≤ N 27 p ∧ N 27 p ≤ 1000000 := by rw [hN]; exact e27 8 (Nat.le_refl _)
  rw [← hN]
  refine ⟨(sI1_k (s := s) (hr _ (by decide)) (hr _ (by decide)) (hr _ (by decide)) (hr _ (by decide)) (hr _ (by decide)) (hr _ (by decide)) (hr _ (by decide)) (hr _ (by decide)) (hr _ (by decide)) (hr _ (by decide)) (hr _ (by decide)) I1), (sI2_k (s := s) (hr _ (by decide)) (hr _ (by decide)) (hr _ (by decide)) I2), (sI3_c (s := s) (hr _ (by decide)) (hr _ (by decide)) (hr _ (by decide)) I3), (sI4_k (s := s) (hr _ (by decide)) (hr _ (by decide)) (hr _ (by decide)) (hr _ (by decide)) (hr _ (by decide)) (hr _ (by decide)) (hr _ (by decide)) (hr _ (by decide)) (hr _ (by decide)) I4), (sI5_k (s := s) (hr _ (by decide)) (hr _ (by decide)) (hr _ (by decide)) (hr _ (by decide)) (hr _ (by decide)) (by omega) I5), ?_, (sI7_k (s := s) (hr _ (by decide)) (hr _ (by decide)) (hr _ (by decide)) (hr _ (by decide)) (hr _ (by decide)) (hr _ (by decide)) I7), (by omega), (hK_k (s := s) (hr _ (by decide)) (hr _ (by decide)) (hr _ (by decide)) K), (hZ_k (s := s) (hr _ (by decide)) (hr _ (by decide)) (hr _ (by decide)) (hr _ (by decide)) Z), (cStr_k (s := s) (e := e) (hr _ (by decide)) (hr _ (by decide)) (hr _ (by decide)) (hr _ (by decide)) (hr _ (by decide)) (hr _ (by decide)) rfl rfl rfl rfl T), (hA_k (s := s) (e := e) (hr _ (by decide)) (hr _ (by decide)) (hr _ (by decide)) (hr _ (by decide)) (hr _ (by decide)) (hr _ (by decide)) rfl rfl A)⟩
  · refine ⟨Or.inr rfl, e27', (show 0 ≤ (0 : Int) ∧ (0 : Int) ≤ 20 by omega), fun j h1 h2 => ?_⟩
    have h3 : j < 0 := h2
    omega
theorem g_repair {s e : Sg} {c : Int} {p : Int} (h : hInv s e c) (hc : c < 512) (h0 : t_repair s p = 0) : hInv (n_repair s p) (e) (c + 1) := by
  obtain ⟨I1, I2, I3, I4, I5, I6, I7, hc0, K, Z, T, A⟩ := h
  obtain ⟨q1, q2⟩ : (0 ≤ p ∧ p ≤ 7) ∧ ¬ (s 26 0 = 0 ∨ s 28 0 = 20) := by
    unfold t_repair at h0
    split at h0
    · omega
    · rename_i a
      split at h0
      · omega
      · rename_i a2; exact ⟨Decidable.of_not_not a, a2⟩
  have hn : n_repair s p = sU (sU (sU (sU (sU s 37 0 0) 29 (s 28 0) p) 30 (s 28 0) (s 27 p)) 28 0 (s 28 0 + 1)) 27 p (s 27 p / 2) := if_pos h0
  rw [hn]
  have e27 : ∀ i, (sU (sU (sU (sU (sU s 37 0 0) 29 (s 28 0) p) 30 (s 28 0) (s 27 p)) 28 0 (s 28 0 + 1)) 27 p (s 27 p / 2)) 27 i = if i = p then s 27 p / 2 else s 27 i := fun i => rfl
  have e28 : (sU (sU (sU (sU (sU s 37 0 0) 29 (s 28 0) p) 30 (s 28 0) (s 27 p)) 28 0 (s 28 0 + 1)) 27 p (s 27 p / 2)) 28 0 = s 28 0 + 1 := rfl
  have e29 : ∀ i, (sU (sU (sU (sU (sU s 37 0 0) 29 (s 28 0) p) 30 (s 28 0) (s 27 p)) 28 0 (s 28 0 + 1)) 27 p (s 27 p / 2)) 29 i = if i = s 28 0 then p else s 29 i := fun i => rfl
  have e30 : ∀ i, (sU (sU (sU (sU (sU s 37 0 0) 29 (s 28 0) p) 30 (s 28 0) (s 27 p)) 28 0 (s 28 0 + 1)) 27 p (s 27 p / 2)) 30 i = if i = s 28 0 then s 27 p else s 30 i := fun i => rfl
  refine ⟨(sI1_k (s := s) rfl rfl rfl rfl rfl rfl rfl rfl rfl rfl rfl I1), (sI2_k (s := s) rfl rfl rfl I2), (sI3_c (s := s) rfl rfl rfl I3), (sI4_k (s := s) rfl rfl rfl rfl rfl rfl rfl rfl rfl I4), (sI5_k (s := s) rfl rfl rfl rfl rfl (by omega) I5), ?_, (sI7_k (s := s) rfl rfl rfl rfl rfl rfl I7), (by omega), (hK_k (s := s) rfl rfl rfl K), (hZ_k (s := s) rfl rfl rfl rfl Z), (cStr_k (s := s) (e := e) rfl rfl rfl rfl rfl rfl rfl rfl rfl rfl T), (hA_k (s := s) (e := e) rfl rfl rfl rfl rfl rfl rfl rfl A)⟩
  · have g0 := I6.2.1 p (by omega) (by omega)
    have g1 := I6.2.2.1
    refine ⟨I6.1, fun i h1 h2 => ?_, by rw [e28]; omega, fun j h1 h2 => ?_⟩
    · rw [e27]
      split
      · omega
      · exact I6.2.1 i h1 h2
    · rw [e28] at h2
      rw [e29, e30]
      split
      · omega
      · exact I6.2.2.2 j h1 (by omega)
theorem g_undo {s e : Sg} {c : Int}  (h : hInv s e c) (hc : c < 512) (h0 : t_undo s = 0) : hInv (n_undo s) (e) (c + 1) := by
  obtain ⟨I1, I2, I3, I4, I5, I6, I7, hc0, K, Z, T, A⟩ := h
  have q : ¬ s 28 0 = 0 := by
    intro e
    unfold t_undo at h0
    rw [if_pos e] at h0
    omega
  have hn : n_undo s = sU (sU (sU s 37 0 0) 28 0 (s 28 0 - 1)) 27 (s 29 (s 28 0 - 1)) (s 30 (s 28 0 - 1)) := if_pos h0
  rw [hn]
  have e27 : ∀ i, (sU (sU (sU s 37 0 0) 28 0 (s 28 0 - 1)) 27 (s 29 (s 28 0 - 1)) (s 30 (s 28 0 - 1))) 27 i = if i = s 29 (s 28 0 - 1) then s 30 (s 28 0 - 1) else s 27 i := fun i => rfl
  have e28 : (sU (sU (sU s 37 0 0) 28 0 (s 28 0 - 1)) 27 (s 29 (s 28 0 - 1)) (s 30 (s 28 0 - 1))) 28 0 = s 28 0 - 1 := rfl
  refine ⟨(sI1_k (s := s) rfl rfl rfl rfl rfl rfl rfl rfl rfl rfl rfl I1), (sI2_k (s := s) rfl rfl rfl I2), (sI3_c (s := s) rfl rfl rfl I3), (sI4_k (s := s) rfl rfl rfl rfl rfl rfl rfl rfl rfl I4), (sI5_k (s := s) rfl rfl rfl rfl rfl (by omega) I5), ?_, (sI7_k (s := s) rfl rfl rfl rfl rfl rfl I7), (by omega), (hK_k (s := s) rfl rfl rfl K), (hZ_k (s := s) rfl rfl rfl rfl Z), (cStr_k (s := s) (e := e) rfl rfl rfl rfl rfl rfl rfl rfl rfl rfl T), (hA_k (s := s) (e := e) rfl rfl rfl rfl rfl rfl rfl rfl A)⟩
  · have g1 := I6.2.2.1
    have g0 := I6.2.2.2 (s 28 0 - 1) (by omega) (by omega)
    refine ⟨I6.1, fun i h1 h2 => ?_, by rw [e28]; omega, fun j h1 h2 => ?_⟩
    · rw [e27]
      split
      · omega
      · exact I6.2.1 i h1 h2
    · rw [e28] at h2
      exact I6.2.2.2 j h1 (by omega)
theorem t_contract_0 {a x y : Int} (h0 : t_contract a x y = 0) : (0 ≤ a ∧ a ≤ 5) ∧ (0 ≤ x ∧ x ≤ 9999) ∧ (0 ≤ y ∧ y ≤ 999999) := by
  unfold t_contract at h0
  split at h0
  · omega
  · rename_i a
    split at h0
    · rename_i a2; exact ⟨Decidable.of_not_not a, a2⟩
    · omega
theorem t_artist_0 {a : Int} (h0 : t_artist a = 0) : 0 ≤ a ∧ a ≤ 5 := by
  unfold t_artist at h0
  split at h0
  · rename_i a; exact a
  · omega
theorem jI_jW_sub {a b y z : Int} (h : jI a = jI b) (hz : z = b - y) : jI (jW (a - y)) = jI z := by
  rw [jW_eq, hz, ← jI_sub, ← jI_sub, h]
theorem g_contract {s e : Sg} {c : Int} {a x y : Int} (h : hInv s e c) (hc : c < 512) (h0 : t_contract a x y = 0) : hInv (n_contract s a x y) (sU e 0 a (e 0 a + y)) (c + 1) := by
  obtain ⟨I1, I2, I3, I4, I5, I6, I7, hc0, K, Z, T, A⟩ := h
  have q := t_contract_0 h0
  have hn : n_contract s a x y = sU (sU (sU s 37 0 0) 35 a x) 36 a (jW (s 36 a - y)) := if_pos h0
  rw [hn]
  have e35 : ∀ i, (sU (sU (sU s 37 0 0) 35 a x) 36 a (jW (s 36 a - y))) 35 i = if i = a then x else s 35 i := fun i => rfl
  have e36 : ∀ i, (sU (sU (sU s 37 0 0) 35 a x) 36 a (jW (s 36 a - y))) 36 i = if i = a then jW (s 36 a - y) else s 36 i := fun i => rfl
  have e0 : ∀ i, (sU e 0 a (e 0 a + y)) 0 i = if i = a then e 0 a + y else e 0 i := fun i => rfl
  refine ⟨(sI1_k (s := s) rfl rfl rfl rfl rfl rfl rfl rfl rfl rfl rfl I1), (sI2_k (s := s) rfl rfl rfl I2), (sI3_c (s := s) rfl rfl rfl I3), (sI4_k (s := s) rfl rfl rfl rfl rfl rfl rfl rfl rfl I4), (sI5_k (s := s) rfl rfl rfl rfl rfl (by omega) I5), (sI6_k (s := s) rfl rfl rfl rfl rfl I6), ?_, (by omega), (hK_k (s := s) rfl rfl rfl K), (hZ_k (s := s) rfl rfl rfl rfl Z), (cStr_k (s := s) (e := e) rfl rfl rfl rfl rfl rfl rfl rfl rfl rfl T), ?_⟩
  · refine ⟨I7.1, I7.2.1, I7.2.2.1, fun i h1 h2 => ?_⟩
    rw [e35]
    split
    · omega
    · exact I7.2.2.2 i h1 h2
  · intro i h1 h2
    have hs := sDues_k (s := s) (s' := sU (sU (sU s 37 0 0) 35 a x) 36 a (jW (s 36 a - y))) rfl rfl rfl rfl
    have g := A i h1 h2
    rw [hs, e36, e0]
    show _ = jI (sDues s i (s 31 0).toNat - _ - e 1 i)
    by_cases e : i = a
    · subst e
      rw [if_pos rfl, if_pos rfl]
      exact jI_jW_sub g (by omega)
    · rw [if_neg e, if_neg e]; exact g
theorem g_payOut {s e : Sg} {c : Int} {a : Int} (h : hInv s e c) (hc : c < 512) (h0 : t_artist a = 0) : hInv (n_payOut s a) (sU e 1 a (e 1 a + (if 0 < s 36 a then s 36 a else 0))) (c + 1) := by
  obtain ⟨I1, I2, I3, I4, I5, I6, I7, hc0, K, Z, T, A⟩ := h
  have q := t_artist_0 h0
  have hn : n_payOut s a = sU (sU s 37 0 0) 36 a (s 36 a - (if 0 < s 36 a then s 36 a else 0)) := if_pos h0
  rw [hn]
  have e36 : ∀ i, (sU (sU s 37 0 0) 36 a (s 36 a - (if 0 < s 36 a then s 36 a else 0))) 36 i = if i = a then s 36 a - (if 0 < s 36 a then s 36 a else 0) else s 36 i := fun i => rfl
  have e1 : ∀ i, (sU e 1 a (e 1 a + (if 0 < s 36 a then s 36 a else 0))) 1 i = if i = a then e 1 a + (if 0 < s 36 a then s 36 a else 0) else e 1 i := fun i => rfl
  refine ⟨(sI1_k (s := s) rfl rfl rfl rfl rfl rfl rfl rfl rfl rfl rfl I1), (sI2_k (s := s) rfl rfl rfl I2), (sI3_c (s := s) rfl rfl rfl I3), (sI4_k (s := s) rfl rfl rfl rfl rfl rfl rfl rfl rfl I4), (sI5_k (s := s) rfl rfl rfl rfl rfl (by omega) I5), (sI6_k (s := s) rfl rfl rfl rfl rfl I6), (sI7_k (s := s) rfl rfl rfl rfl rfl rfl I7), (by omega), (hK_k (s := s) rfl rfl rfl K), (hZ_k (s := s) rfl rfl rfl rfl Z), (cStr_k (s := s) (e := e) rfl rfl rfl rfl rfl rfl rfl rfl rfl rfl T), ?_⟩
  · intro i h1 h2
    have hs := sDues_k (s := s) (s' := sU (sU s 37 0 0) 36 a (s 36 a - (if 0 < s 36 a then s 36 a else 0))) rfl rfl rfl rfl
    have g := A i h1 h2
    rw [hs, e36, e1]
    show _ = jI (sDues s i (s 31 0).toNat - e 0 i - _)
    by_cases e : i = a
    · subst e
      rw [if_pos rfl, if_pos rfl]
      generalize (if 0 < s 36 i then s 36 i else 0) = w
      rw [← jI_sub, g, jI_sub]
      congr 1
      omega
    · rw [if_neg e, if_neg e]; exact g
