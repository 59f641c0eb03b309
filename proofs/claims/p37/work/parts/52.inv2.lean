/-! ===== kept by back, sell, cut ===== -/
theorem sOff_33j {s : Sg} {z m i : Int} : sOff s z m 33 i = if i = z then s 33 z - m else s 33 i := by
  unfold sOff
  by_cases h : i = z
  · subst h; rw [sU_s, if_pos rfl]
  · rw [sU_i h, if_neg h, sOffTo_n (by decide)]
theorem sOff_36 {s : Sg} {z m i : Int} (hi : 0 ≤ i ∧ i < 6) : sOff s z m 36 i = jW (s 36 i + (sDue s z i (s 33 z - m) - sDue s z i (s 33 z))) := by
  unfold sOff
  rw [sU_n (by decide), sOffTo_36, if_pos (by omega)]
theorem sDues_off {s : Sg} {z m q : Int} (hz : 0 ≤ z) (n : Nat) : sDues (sOff s z m) q n = sDues s q n + (if z < n then sDue s z q (s 33 z - m) - sDue s z q (s 33 z) else 0) := by
  have hd : sDue (sOff s z m) = sDue s := sDue_c (sOff_n (by decide)) (sOff_n (by decide)) (sOff_n (by decide))
  induction n with
  | zero => rw [if_neg (by omega)]; rfl
  | succ n ih =>
    simp only [sDues]
    rw [ih, hd, sOff_33j]
    by_cases e : (n : Int) = z
    · subst e; rw [if_pos rfl, if_neg (by omega), if_pos (by omega)]; omega
    · rw [if_neg e]
      by_cases e2 : z < n
      · rw [if_pos e2, if_pos (by omega)]; omega
      · rw [if_neg e2, if_neg (by omega)]; omega
theorem hA.off {s e : Sg} (h : hA s e) {z m : Int} (hz : 0 ≤ z ∧ z < s 31 0) : hA (sOff s z m) e := by
  intro q h1 h2
  have g := h q h1 h2
  rw [sOff_36 ⟨h1, h2⟩, sOff_n (k := 31) (by decide), sDues_off hz.1, if_pos (by omega), jW_eq, ← jI_add, g, jI_add]
  congr 1
  omega
theorem hA.backS {s e : Sg} {k x : Int} (h : hA s e) (j : Nat) (hj : (j : Int) ≤ s 31 0) : hA (sBackS s k x j) e := by
  induction j with
  | zero => exact hA_k (s := s) (e := e) rfl rfl rfl rfl rfl rfl rfl rfl h
  | succ j ih =>
    simp only [sBackS]
    split
    · refine (ih (by omega)).off ?_
      rw [sBackS_n (by decide)]
      omega
    · exact ih (by omega)
theorem sBackR_0 {s : Sg} {k x : Int} (hx : 0 ≤ x) (j : Nat) : 0 ≤ sBackR s k x j := by
  induction j with
  | zero => exact hx
  | succ j ih => simp only [sBackR]; split; split <;> omega; exact ih
theorem sBackS_33v {s : Sg} {k x : Int} (hx : 0 ≤ x) (h33 : ∀ i : Int, 0 ≤ i → i < s 31 0 → 0 ≤ s 33 i ∧ s 33 i ≤ 500) (j : Nat) (hj : (j : Int) ≤ s 31 0) : ∀ i : Int, 0 ≤ i → i < s 31 0 → 0 ≤ sBackS s k x j 33 i ∧ sBackS s k x j 33 i ≤ 500 := by
  induction j with
  | zero => exact fun i h1 h2 => h33 i h1 h2
  | succ j ih =>
    intro i h1 h2
    have g := ih (by omega) i h1 h2
    have r := sBackR_0 (s := s) (k := k) hx j
    simp only [sBackS]
    split
    · rw [sOff_33j]
      split
      · have e := sBackS_33 (s := s) (k := k) (x := x) (i := s 31 0 - 1 - j) j (Int.le_refl _)
        have g3 := h33 (s 31 0 - 1 - j) (by omega) (by omega)
        rw [e]
        split <;> omega
      · exact g
    · exact g
theorem g_back {s e : Sg} {c : Int} {d m n x : Int} (h : hInv s e c) (hc : c < 512) (h0 : t_back s d m n x = 0) : hInv (n_back s d m n x) e (c + 1) := by
  obtain ⟨I1, I2, I3, I4, I5, I6, I7, hc0, K, Z, T, A⟩ := h
  have hn : n_back s d m n x = sU (sBackS s (sSt d m n) x (s 31 0).toNat) 19 (sSt d m n) (s 19 (sSt d m n) + x) := if_pos h0
  rw [hn]
  obtain ⟨q1, q2, q4⟩ : sNm s d m n ∧ (1 ≤ x ∧ x ≤ 500) ∧ ¬ (s 18 (sSt d m n) - s 19 (sSt d m n) - sDiscs s (sSt d m n) < x) := by
    unfold t_back at h0
    split at h0
    · omega
    · rename_i a
      split at h0
      · omega
      · rename_i a2
        split at h0
        · omega
        · rename_i a3; exact ⟨Decidable.of_not_not a, Decidable.of_not_not a2, a3⟩
  have q3 := sNm_k q1
  have i3 := I3.1
  have i7 := I7.1
  clear hn h0
  generalize sSt d m n = k at *
  have hA1 := hA.backS (k := k) (x := x) A (s 31 0).toNat (by omega)
  have h33 := sBackS_33v (k := k) (x := x) (by omega) (fun i h1 h2 => (I7.2.1 i h1 h2).2) (s 31 0).toNat (by omega)
  obtain ⟨N, hN⟩ : ∃ N, N = sBackS s k x (s 31 0).toNat := ⟨_, rfl⟩
  have hq : ∀ r, r ≠ 33 ∧ r ≠ 36 ∧ r ≠ 37 → N r = s r := fun r hr => by rw [hN]; exact sBackS_n hr _
  rw [← hN] at hA1 h33 ⊢
  have e19 : ∀ i, (sU N 19 k (s 19 k + x)) 19 i = if i = k then s 19 k + x else N 19 i := fun i => rfl
  refine ⟨sI1_k (s := s) (hq _ (by decide)) (hq _ (by decide)) (hq _ (by decide)) (hq _ (by decide)) (hq _ (by decide)) (hq _ (by decide)) (hq _ (by decide)) (hq _ (by decide)) (hq _ (by decide)) (hq _ (by decide)) (hq _ (by decide)) I1, sI2_k (s := s) (hq _ (by decide)) (hq _ (by decide)) (hq _ (by decide)) I2, sI3_c (s := s) (hq _ (by decide)) (hq _ (by decide)) (hq _ (by decide)) I3, ?_, sI5_k (s := s) (hq _ (by decide)) (hq _ (by decide)) (hq _ (by decide)) (hq _ (by decide)) (hq _ (by decide)) (by omega) I5, sI6_k (s := s) (hq _ (by decide)) (hq _ (by decide)) (hq _ (by decide)) (hq _ (by decide)) (hq _ (by decide)) I6, ?_, by omega, hK_k (s := s) (hq _ (by decide)) (hq _ (by decide)) (hq _ (by decide)) K, hZ_k (s := s) (hq _ (by decide)) (hq _ (by decide)) (hq _ (by decide)) (hq _ (by decide)) Z, cStr_k (s := s) (e := e) (hq _ (by decide)) (hq _ (by decide)) (hq _ (by decide)) (hq _ (by decide)) (hq _ (by decide)) (hq _ (by decide)) rfl rfl rfl rfl T, hA_k (s := N) (e := e) rfl rfl rfl rfl rfl rfl rfl rfl hA1⟩
  · have f : ∀ r, r ≠ 19 → r ≠ 33 ∧ r ≠ 36 ∧ r ≠ 37 → (sU N 19 k (s 19 k + x)) r = s r := fun r h1 h2 => by rw [sU_n h1, hq r h2]
    refine sI4.set (s := s) (k := k) (sDiscs_c (f _ (by decide) (by decide)) (f _ (by decide) (by decide))) (f _ (by decide) (by decide)) (fun i hi => ⟨by rw [f 16 (by decide) (by decide)], by rw [f 17 (by decide) (by decide)], by rw [f 18 (by decide) (by decide)], by rw [e19, if_neg hi, hq 19 (by decide)], by rw [f 20 (by decide) (by decide)], by rw [f 21 (by decide) (by decide)]⟩) (fun h1 h2 => ?_) I4
    have g := I4.1 k h1 h2
    have g2 := I4.2 k h1 h2
    have g3 := sDiscs_0 s k
    rw [e19, if_pos rfl, f 16 (by decide) (by decide), f 17 (by decide) (by decide), f 18 (by decide) (by decide), f 20 (by decide) (by decide), f 21 (by decide) (by decide)]
    omega
  · have f : ∀ r, r ≠ 19 → r ≠ 33 ∧ r ≠ 36 ∧ r ≠ 37 → (sU N 19 k (s 19 k + x)) r = s r := fun r h1 h2 => by rw [sU_n h1, hq r h2]
    unfold sI7 at I7 ⊢
    rw [f 31 (by decide) (by decide), f 32 (by decide) (by decide), f 13 (by decide) (by decide), f 34 (by decide) (by decide), f 35 (by decide) (by decide)]
    exact ⟨I7.1, fun j h1 h2 => ⟨(I7.2.1 j h1 h2).1, h33 j h1 h2⟩, I7.2.2⟩
/-! selling -/
theorem sDues_o {s s' : Sg} {q : Int} (n : Nat) (h : ∀ j : Nat, j < n → s' 32 j = s 32 j ∧ s' 33 j = s 33 j ∧ s' 34 (6 * j + q) = s 34 (6 * j + q) ∧ ∀ p, sSec s' (s 32 j / 12) p = sSec s (s 32 j / 12) p) : sDues s' q n = sDues s q n := by
  induction n with
  | zero => rfl
  | succ n ih =>
    obtain ⟨a1, a2, a3, a4⟩ := h n (by omega)
    simp only [sDues]
    rw [ih (fun j hj => h j (by omega)), a2]
    unfold sDue
    rw [a1, a3, a4, a4]
theorem g_sell {s e : Sg} {c : Int} {d m n x : Int} (h : hInv s e c) (hc : c < 512) (h0 : t_sell s d m n x = 0) : hInv (n_sell s d m n x) e (c + 1) := by
  obtain ⟨I1, I2, I3, I4, I5, I6, I7, hc0, K, Z, T, A⟩ := h
  have hn : n_sell s d m n x = sU (sSellTo s (sSt d m n) x 6) 31 0 (s 31 0 + 1) := if_pos h0
  rw [hn]
  obtain ⟨q1, q2, q4⟩ : sNm s d m n ∧ (1 ≤ x ∧ x ≤ 500) ∧ ¬ (s 17 (sSt d m n) - s 18 (sSt d m n) < x ∨ s 31 0 = 100) := by
    unfold t_sell at h0
    split at h0
    · omega
    · rename_i a
      split at h0
      · omega
      · rename_i a2
        split at h0
        · omega
        · rename_i a3; exact ⟨Decidable.of_not_not a, Decidable.of_not_not a2, a3⟩
  have q3 := sNm_k q1
  have i3 := I3.1
  have i7 := I7.1
  clear hn h0
  generalize sSt d m n = k at *
  have k4 := I4.1 k (by omega) (by omega)
  have k5 := I4.2 k (by omega) (by omega)
  obtain ⟨S, hS⟩ : ∃ S, S = sSellTo s k x 6 := ⟨_, rfl⟩
  have hq : ∀ r, r ≠ 18 ∧ r ≠ 32 ∧ r ≠ 33 ∧ r ≠ 34 ∧ r ≠ 36 ∧ r ≠ 37 → S r = s r := fun r hr => by rw [hS]; exact sSellTo_n hr _
  have e18 : S 18 = ju (s 18) k (s 18 k + x) := by rw [hS]; exact sSellTo_18r 6
  have e32 : S 32 = ju (s 32) (s 31 0) k := by rw [hS]; exact sSellTo_32r 6
  have e33 : S 33 = ju (s 33) (s 31 0) x := by rw [hS]; exact sSellTo_33r 6
  have e34 : ∀ i, S 34 i = if 6 * s 31 0 ≤ i ∧ i < 6 * s 31 0 + 6 then s 35 (i - 6 * s 31 0) else s 34 i := fun i => by rw [hS]; exact sSellTo_34 6
  have e36 : ∀ i, 0 ≤ i → i < 6 → S 36 i = jW (s 36 i + x * s 35 i * sSec s (k / 12) i / (100 * sSec s (k / 12) (-1))) := fun i h1 h2 => by rw [hS, sSellTo_36i, if_pos (by omega)]
  rw [← hS]
  clear hS
  have f : ∀ r, r ≠ 31 → (sU S 31 0 (s 31 0 + 1)) r = S r := fun r h1 => sU_n h1
  have e31 : (sU S 31 0 (s 31 0 + 1)) 31 0 = s 31 0 + 1 := sU_s
  refine ⟨sI1_k (s := s) (hq _ (by decide)) (hq _ (by decide)) (hq _ (by decide)) (hq _ (by decide)) (hq _ (by decide)) (hq _ (by decide)) (hq _ (by decide)) (hq _ (by decide)) (hq _ (by decide)) (hq _ (by decide)) (hq _ (by decide)) I1, sI2_k (s := s) (hq _ (by decide)) (hq _ (by decide)) (hq _ (by decide)) I2, sI3_c (s := s) (hq _ (by decide)) (hq _ (by decide)) (hq _ (by decide)) I3, ?_, sI5_k (s := s) (hq _ (by decide)) (hq _ (by decide)) (hq _ (by decide)) (hq _ (by decide)) (hq _ (by decide)) (by omega) I5, sI6_k (s := s) (hq _ (by decide)) (hq _ (by decide)) (hq _ (by decide)) (hq _ (by decide)) (hq _ (by decide)) I6, ?_, by omega, ?_, hZ_k (s := s) (hq _ (by decide)) (hq _ (by decide)) (hq _ (by decide)) (hq _ (by decide)) Z, cStr_k (s := s) (e := e) (hq _ (by decide)) (hq _ (by decide)) (hq _ (by decide)) (hq _ (by decide)) (hq _ (by decide)) (hq _ (by decide)) rfl rfl rfl rfl T, ?_⟩
  · refine sI4.set (s := s) (k := k) (sDiscs_c (hq _ (by decide)) (hq _ (by decide))) (hq _ (by decide)) (fun i hi => ⟨by rw [f 16 (by decide), hq 16 (by decide)], by rw [f 17 (by decide), hq 17 (by decide)], by rw [f 18 (by decide), e18, ju_n hi], by rw [f 19 (by decide), hq 19 (by decide)], by rw [f 20 (by decide), hq 20 (by decide)], by rw [f 21 (by decide), hq 21 (by decide)]⟩) (fun h1 h2 => ?_) I4
    rw [f 16 (by decide), hq 16 (by decide), f 17 (by decide), hq 17 (by decide), f 18 (by decide), e18, ju_s, f 19 (by decide), hq 19 (by decide), f 20 (by decide), hq 20 (by decide), f 21 (by decide), hq 21 (by decide)]
    omega
  · unfold sI7 at I7 ⊢
    rw [e31, f 32 (by decide), f 33 (by decide), f 34 (by decide), f 35 (by decide), f 13 (by decide), hq 35 (by decide), hq 13 (by decide), e32, e33]
    refine ⟨by omega, fun j h1 h2 => ?_, fun i h1 h2 => ?_, I7.2.2.2⟩
    · by_cases ej : j = s 31 0
      · subst ej; rw [ju_s, ju_s]; omega
      · rw [ju_n ej, ju_n ej]; exact I7.2.1 j h1 (by omega)
    · rw [e34]
      split
      · exact I7.2.2.2 _ (by omega) (by omega)
      · exact I7.2.2.1 i h1 h2
  · intro j h1 h2
    rw [e31] at h2
    rw [f 32 (by decide), f 16 (by decide), hq 16 (by decide), e32]
    by_cases ej : j = s 31 0
    · subst ej; rw [ju_s]; omega
    · rw [ju_n ej]; exact K j h1 (by omega)
  · intro q h1 h2
    have g := A q h1 h2
    obtain ⟨z, hz⟩ : ∃ z : Nat, s 31 0 = z := ⟨(s 31 0).toNat, by omega⟩
    have hs14 : sSec (sU S 31 0 (s 31 0 + 1)) = sSec s := sSec_c (by rw [f 14 (by decide), hq 14 (by decide)])
    have hold : sDues (sU S 31 0 (s 31 0 + 1)) q z = sDues s q z := by
      refine sDues_o z (fun j hj => ⟨?_, ?_, ?_, fun p => by rw [hs14]⟩)
      · rw [f 32 (by decide), e32, ju_n (by omega)]
      · rw [f 33 (by decide), e33, ju_n (by omega)]
      · rw [f 34 (by decide), e34, if_neg (by omega)]
    have hnew : sDue (sU S 31 0 (s 31 0 + 1)) z q ((sU S 31 0 (s 31 0 + 1)) 33 z) = x * s 35 q * sSec s (k / 12) q / (100 * sSec s (k / 12) (-1)) := by
      unfold sDue
      rw [hs14, f 33 (by decide), f 34 (by decide), f 32 (by decide), e33, e32, ← hz, ju_s, ju_s, e34, if_pos (by omega), show 6 * s 31 0 + q - 6 * s 31 0 = q by omega]
    rw [f 36 (by decide), e36 q h1 h2, e31, show (s 31 0 + 1).toNat = z + 1 by omega]
    simp only [sDues]
    rw [hold, hnew, jW_eq, ← jI_add, g, jI_add]
    rw [show (s 31 0).toNat = z by omega]
    congr 1
    omega
/-! cutting -/
theorem sSec_o {s s' : Sg} {d : Int} (h : ∀ q : Int, 0 ≤ q → q < 6 → s' 14 (6 * d + q) = s 14 (6 * d + q)) (p : Int) : sSec s' d p = sSec s d p := by
  have key : ∀ n : Nat, n ≤ 6 → sSecTo s' d p n = sSecTo s d p n := by
    intro n
    induction n with
    | zero => intro _; rfl
    | succ n ih => intro hn; simp only [sSecTo]; rw [ih (by omega), h n (by omega) (by omega)]
  exact key 6 (by omega)
theorem sCutIn_sec {s S : Sg} {t : Int} (n : Nat) (h : ∀ j : Nat, j < n → 0 ≤ s 6 (s 8 (20 * t + j)) ∧ s 6 (s 8 (20 * t + j)) < 6) : sSec (sCutIn s S t n) (s 13 0) (-1) = sSec S (s 13 0) (-1) + sLenTo s t n := by
  induction n with
  | zero => show _ = _ + 0; rw [Int.add_zero]; rfl
  | succ n ih =>
    simp only [sCutIn, sLenTo]
    rw [sSec_add (h n (by omega)), ih (fun j hj => h j (by omega))]
    omega
theorem sI1.art {s : Sg} (h : sI1 s) {t : Int} (ht : 0 ≤ t ∧ t < s 1 0) {j : Nat} (hj : (j : Int) < s 7 t) : 0 ≤ s 6 (s 8 (20 * t + j)) ∧ s 6 (s 8 (20 * t + j)) < 6 := by
  have g := (h.span ht (show 0 ≤ (j : Int) ∧ (j : Int) < s 7 t by omega)).1
  have g2 := (h.tape (t := s 8 (20 * t + j)) (by omega)).2.2.2.2.1
  omega
theorem sCutTo_sec {s : Sg} (h1 : sI1 s) (h2 : sI2 s) (hz : sSec s (s 13 0) (-1) = 0) (n : Nat) (hn : (n : Int) ≤ s 11 0) : sSec (sCutTo s n) (s 13 0) (-1) = sProgS s n := by
  induction n with
  | zero => exact hz
  | succ n ih =>
    have g := h2.2 n (by omega) (by omega)
    have g7 := h1.tape g
    simp only [sCutTo, sProgS]
    rw [sCutIn_sec _ (fun j hj => h1.art g (by omega)), sSec_c (s := sCutTo s n) (s' := sU (sCutTo s n) 15 (s 13 0) (sOr (sCutTo s n 15 (s 13 0)) (sTakes s (s 12 n)))) (sU_n (by decide)), ih (by omega)]
    rfl
theorem sProgS_1 {s : Sg} (h1 : sI1 s) (h2 : sI2 s) (n : Nat) (hn : (n : Int) ≤ s 11 0) : (n : Int) ≤ sProgS s n := by
  induction n with
  | zero => exact Int.le_refl _
  | succ n ih =>
    have g := h2.2 n (by omega) (by omega)
    have g2 := sLen_in h1 g
    have g3 := ih (by omega)
    simp only [sProgS]
    omega
theorem sCutIn_14b {s S : Sg} {t x : Int} (n : Nat) (h : ∀ j : Nat, j < n → s 6 (s 8 (20 * t + j)) < 6) (hx : 6 * s 13 0 + 6 ≤ x) : sCutIn s S t n 14 x = S 14 x := by
  induction n with
  | zero => rfl
  | succ n ih =>
    have := h n (by omega)
    simp only [sCutIn]
    rw [sU_i (by omega), ih (fun j hj => h j (by omega))]
theorem sCutTo_14b {s : Sg} {x : Int} (h1 : sI1 s) (h2 : sI2 s) (hx : 6 * s 13 0 + 6 ≤ x) (n : Nat) (hn : (n : Int) ≤ s 11 0) : sCutTo s n 14 x = s 14 x := by
  induction n with
  | zero => rfl
  | succ n ih =>
    have g := h2.2 n (by omega) (by omega)
    have g7 := h1.tape g
    simp only [sCutTo]
    rw [sCutIn_14b _ (fun j hj => (h1.art g (by omega)).2) hx, sU_n (by decide), ih (by omega)]
theorem sSecTo_0 {s : Sg} {d : Int} (n : Nat) (h : ∀ q : Nat, q < n → s 14 (6 * d + q) = 0) : sSecTo s d (-1) n = 0 := by
  induction n with
  | zero => rfl
  | succ n ih => simp only [sSecTo]; rw [ih (fun q hq => h q (by omega)), h n (by omega)]; split <;> rfl
theorem g_cut {s e : Sg} {c : Int} {l : Int} (h : hInv s e c) (hc : c < 512) (h0 : t_cut s l = 0) : hInv (n_cut s l) e (c + 1) := by
  obtain ⟨I1, I2, I3, I4, I5, I6, I7, hc0, K, Z, T, A⟩ := h
  have hn : n_cut s l = sU (sU (sCutTo s (s 11 0).toNat) 11 0 0) 13 0 (s 13 0 + 1) := if_pos h0
  rw [hn]
  obtain ⟨q1, q2⟩ : (1 ≤ l ∧ l ≤ 5) ∧ (0 < s 11 0 ∧ sPlaysTo s (s 11 0).toNat = 1 ∧ sProgTo s (s 11 0).toNat ≤ 1500 - 150 * l ∧ s 13 0 < 10) := by
    unfold t_cut at h0
    split at h0
    · omega
    · rename_i a
      refine ⟨Decidable.of_not_not a, ?_⟩
      split at h0
      · rename_i b
        unfold sCanCut at b
        split at b
        · rename_i b2; exact b2
        · omega
      · omega
  have i2 := I2.1
  have i3 := I3.1
  clear hn h0
  have hz : sSec s (s 13 0) (-1) = 0 := sSecTo_0 6 (fun q hq => I3.2.2.2.1 _ (by omega) (by omega))
  have hsec := sCutTo_sec I1 I2 hz (s 11 0).toNat (by omega)
  have hp1 := sProgS_1 I1 I2 (s 11 0).toNat (by omega)
  have hp2 := sProgS_eq s (s 11 0).toNat
  have h14o : ∀ x, x < 6 * s 13 0 → sCutTo s (s 11 0).toNat 14 x = s 14 x := fun x hx => sCutTo_14o I1 I2 hx _ (by omega)
  have h14b : ∀ x, 6 * s 13 0 + 6 ≤ x → sCutTo s (s 11 0).toNat 14 x = s 14 x := fun x hx => sCutTo_14b I1 I2 hx _ (by omega)
  have h14n : ∀ x, s 14 x = 0 → 0 ≤ sCutTo s (s 11 0).toNat 14 x := fun x hx => (sCutTo_14 I1 I2 hx _ (by omega)).1
  have h15 : ∀ i, i ≠ s 13 0 → sCutTo s (s 11 0).toNat 15 i = s 15 i := fun i hi => sCutTo_15o hi _
  obtain ⟨S, hS⟩ : ∃ S, S = sCutTo s (s 11 0).toNat := ⟨_, rfl⟩
  have hq : ∀ r, r ≠ 14 ∧ r ≠ 15 ∧ r ≠ 37 → S r = s r := fun r hr => by rw [hS]; exact sCutTo_n hr _
  rw [← hS] at hsec h14o h14b h14n h15 ⊢
  clear hS
  have f : ∀ r, r ≠ 11 → r ≠ 13 → (sU (sU S 11 0 0) 13 0 (s 13 0 + 1)) r = S r := fun r h1 h2 => by rw [sU_n h2, sU_n h1]
  have e13 : (sU (sU S 11 0 0) 13 0 (s 13 0 + 1)) 13 0 = s 13 0 + 1 := sU_s
  have e11 : (sU (sU S 11 0 0) 13 0 (s 13 0 + 1)) 11 0 = 0 := by rw [sU_n (by decide), sU_s]
  have hso : ∀ d, d < s 13 0 → ∀ p, sSec (sU (sU S 11 0 0) 13 0 (s 13 0 + 1)) d p = sSec s d p := fun d hd p => sSec_o (fun q h1 h2 => by rw [f 14 (by decide) (by decide), h14o _ (by omega)]) p
  refine ⟨sI1_k (s := s) (hq _ (by decide)) (hq _ (by decide)) (hq _ (by decide)) (hq _ (by decide)) (hq _ (by decide)) (hq _ (by decide)) (hq _ (by decide)) (hq _ (by decide)) (hq _ (by decide)) (hq _ (by decide)) (hq _ (by decide)) I1, ⟨by rw [e11]; omega, fun j h1 h2 => by rw [e11] at h2; omega⟩, ⟨by rw [e13]; omega, fun d q h1 h2 h3 h4 => ?_, fun d h1 h2 => ?_, fun i h1 h2 => ?_, fun d h1 h2 => ?_⟩, ⟨fun k h1 h2 => ?_, fun k h1 h2 => ?_⟩, ?_, sI6_k (s := s) (hq _ (by decide)) (hq _ (by decide)) (hq _ (by decide)) (hq _ (by decide)) (hq _ (by decide)) I6, ?_, by omega, hK_k (s := s) (hq _ (by decide)) (hq _ (by decide)) (hq _ (by decide)) K, hZ_k (s := s) (hq _ (by decide)) (hq _ (by decide)) (hq _ (by decide)) (hq _ (by decide)) Z, cStr_k (s := s) (e := e) (hq _ (by decide)) (hq _ (by decide)) (hq _ (by decide)) (hq _ (by decide)) (hq _ (by decide)) (hq _ (by decide)) rfl rfl rfl rfl T, ?_⟩
  · rw [e13] at h2
    rw [f 14 (by decide) (by decide)]
    by_cases e : d = s 13 0
    · exact h14n _ (I3.2.2.2.1 _ (by omega) (by omega))
    · rw [h14o _ (by omega)]; exact I3.2.1 d q h1 (by omega) h3 h4
  · rw [e13] at h2
    by_cases e : d = s 13 0
    · rw [e, sSec_c (s := S) (f 14 (by decide) (by decide)), hsec]
      omega
    · rw [hso d (by omega)]; exact I3.2.2.1 d h1 (by omega)
  · rw [e13] at h1
    rw [f 14 (by decide) (by decide), h14b _ (by omega)]; exact I3.2.2.2.1 i (by omega) h2
  · rw [e13] at h1
    rw [f 15 (by decide) (by decide), h15 _ (by omega)]; exact I3.2.2.2.2 d (by omega) h2
  · have g := I4.1 k h1 h2
    rw [e13, f 16 (by decide) (by decide), f 17 (by decide) (by decide), f 18 (by decide) (by decide), f 19 (by decide) (by decide), f 20 (by decide) (by decide), f 21 (by decide) (by decide), hq 16 (by decide), hq 17 (by decide), hq 18 (by decide), hq 19 (by decide), hq 20 (by decide), hq 21 (by decide)]
    omega
  · rw [sDiscs_c (s := s) (by rw [f 22 (by decide) (by decide), hq 22 (by decide)]) (by rw [f 23 (by decide) (by decide), hq 23 (by decide)]), f 18 (by decide) (by decide), f 19 (by decide) (by decide), hq 18 (by decide), hq 19 (by decide)]
    exact I4.2 k h1 h2
  · unfold sI5 at I5 ⊢
    rw [e13, f 22 (by decide) (by decide), f 23 (by decide) (by decide), f 24 (by decide) (by decide), f 25 (by decide) (by decide), hq 22 (by decide), hq 23 (by decide), hq 24 (by decide), hq 25 (by decide)]
    exact ⟨I5.1, fun d h1 h2 => by have := I5.2.1 d h1 h2; omega, fun d h1 h2 => by have := I5.2.2.1 d h1 h2; omega, fun d h1 h2 => by have := I5.2.2.2.1 d h1 h2; omega, I5.2.2.2.2⟩
  · unfold sI7 at I7 ⊢
    rw [e13, f 31 (by decide) (by decide), f 32 (by decide) (by decide), f 33 (by decide) (by decide), f 34 (by decide) (by decide), f 35 (by decide) (by decide), hq 31 (by decide), hq 32 (by decide), hq 33 (by decide), hq 34 (by decide), hq 35 (by decide)]
    exact ⟨I7.1, fun d h1 h2 => by have := I7.2.1 d h1 h2; omega, I7.2.2⟩
  · intro q h1 h2
    have g := A q h1 h2
    rw [f 36 (by decide) (by decide), f 31 (by decide) (by decide), hq 36 (by decide), hq 31 (by decide), g]
    rw [sDues_o (s := s) (s' := sU (sU S 11 0 0) 13 0 (s 13 0 + 1)) (s 31 0).toNat (fun j hj => ⟨by rw [f 32 (by decide) (by decide), hq 32 (by decide)], by rw [f 33 (by decide) (by decide), hq 33 (by decide)], by rw [f 34 (by decide) (by decide), hq 34 (by decide)], hso _ (by have := (I7.2.1 j (by omega) (by omega)).1; omega)⟩)]
