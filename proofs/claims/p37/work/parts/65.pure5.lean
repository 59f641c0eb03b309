/-! ===== new tapes ===== -/
section LI5
variable {s e : Sg} {m g r : Int → Int} {c n : Int}
theorem mk_1 {S : Sg} {G w : Int} : sMakes S G w 1 0 = S 1 0 + 1 := by unfold sMakes; rw [sU_s]
theorem mk_2 {S : Sg} {G w i : Int} : sMakes S G w 2 i = if i = S 1 0 then 0 else S 2 i := rfl
theorem mk_4 {S : Sg} {G w i : Int} : sMakes S G w 4 i = if i = S 1 0 then G else S 4 i := rfl
theorem mk_5 {S : Sg} {G w i : Int} : sMakes S G w 5 i = if i = S 1 0 then w else S 5 i := rfl
theorem LI_new (h : LI s e m g r c n) {e' S : Sg} {a f u G w : Int} (N : TapeNew s e e' S a f u) (hI : hInv (sMakes S G w) e' (c + 1)) (hX : (a = -1 → 1 ≤ G) ∧ (¬ a = -1 → G = 0)) : LI (sMakes S G w) e' (ju m 1 (m 1 + 1)) (ju g (s 1 0) (if a = -1 then G else 30)) r (c + 1) n := by
  have e1 := N.h1
  have eq : ∀ k, (k = 0 ∨ 11 ≤ k ∧ k ≤ 36) → sMakes S G w k = s k := fun k hk => by rw [sMakes_n (by omega), N.hr k (by omega)]
  have e6 : ∀ i, sMakes S G w 6 i = if i = s 1 0 then a else s 6 i := fun i => by
    rw [sMakes_n (by decide)]
    by_cases ei : i = s 1 0
    · subst ei; rw [if_pos rfl, N.h6T]
    · rw [if_neg ei, N.h6 i ei]
  have e2 : ∀ i, sMakes S G w 2 i = if i = s 1 0 then 0 else s 2 i := fun i => by rw [mk_2, e1, N.hr 2 (by decide)]
  have e4 : ∀ i, sMakes S G w 4 i = if i = s 1 0 then G else s 4 i := fun i => by rw [mk_4, e1, N.hr 4 (by decide)]
  obtain ⟨M0, M1, M2, M3, M4, M5⟩ := h.M
  refine ⟨hI, ⟨?_, ?_, ?_, ?_, ?_, ?_⟩, ⟨fun t h1 h2 => ?_, fun k h1 h2 => ?_⟩, fun t h1 h2 => ?_, h.R.k (eq _ (by decide)) (eq _ (by decide)) (eq _ (by decide)) (eq _ (by decide)), ?_, h.J.k (eq _ (by decide)), ?_, h.N⟩
  · rw [eq 0 (by decide)]; exact M0
  · rw [ju_s, mk_1, e1]; omega
  · rw [eq 13 (by decide)]; exact M2
  · rw [eq 22 (by decide)]; exact M3
  · rw [eq 28 (by decide)]; exact M4
  · rw [eq 26 (by decide)]; exact M5
  · rw [mk_1, e1] at h2
    rw [e6, e4]
    by_cases et : t = s 1 0
    · rw [if_pos et, if_pos et]; exact hX
    · rw [if_neg et, if_neg et]; exact h.X.1 t h1 (by omega)
  · rw [eq 17 (by decide), eq 16 (by decide), eq 20 (by decide), eq 21 (by decide), eq 0 (by decide)]
    exact h.X.2 k h1 h2
  · rw [mk_1, e1] at h2
    rw [e6, e4, e2]
    by_cases et : t = s 1 0
    · rw [if_pos et, if_pos et, if_pos et]
      subst et
      rw [ju_s]
      by_cases ea : a = -1
      · left; rw [if_pos ea]; exact ⟨ea, Or.inl rfl⟩
      · right; rw [if_neg ea]; exact ⟨ea, Or.inl rfl⟩
    · rw [if_neg et, if_neg et, if_neg et, ju_n et]; exact h.G t h1 (by omega)
  · unfold pE; rw [N.hk 0 (by decide), N.hk 1 (by decide)]; exact h.E
  · rw [eq 0 (by decide)]; exact h.D
theorem sOr_zero : ∀ k : Nat, k < 31 → sOr 0 (sBit (k : Int)) = sBit (k : Int) := by decide +kernel
theorem LI_session (h : LI s e m g r c n) (hc : c < 512) {a x v : Int} (h0 : t_session s a x v = 0) : LI (n_session s a x v) (eT e (s 1 0) (-1) 0 0 (-1)) (ju m 1 (m 1 + 1)) (ju g (s 1 0) 30) r (c + 1) n ∧ n_session s a x v 1 0 = s 1 0 + 1 ∧ r_session s a x v = s 1 0 ∧ sTakes (n_session s a x v) (s 1 0) = sBit (s 1 0) ∧ sHeard (n_session s a x v) (s 1 0) 0 (n_session s a x v 7 (s 1 0)).toNat 0 = 1000 * s 1 0 ∧ sLen (n_session s a x v) (s 1 0) = x := by
  have hI := g_session h.I hc h0
  obtain ⟨q1, q2, q3⟩ : ((0 ≤ a ∧ a ≤ 5) ∧ (0 ≤ v ∧ v ≤ 3)) ∧ (1 ≤ x ∧ x ≤ 900) ∧ ¬ s 1 0 = 30 := by
    unfold t_session at h0
    split at h0
    · omega
    · rename_i a1
      split at h0
      · omega
      · rename_i a2
        split at h0
        · omega
        · rename_i a3; exact ⟨Decidable.of_not_not a1, Decidable.of_not_not a2, a3⟩
  have b := h.I.1.2.1
  have hf3 := h.I.1.2.2.2.1 (s 1 0) (Int.le_refl _) (by omega)
  have N := tnew_ses (x := a) (y := x) hf3.1 hf3.2 h.I.E
  have hn : n_session s a x v = sMakes (sPuts (sU (sU s 37 0 0) 6 (s 1 0) a) (s 1 0) 0 x) 0 v := if_pos h0
  have hr : r_session s a x v = s 1 0 := if_pos h0
  rw [hn] at hI ⊢
  have L := LI_new h N hI ⟨fun e1 => by omega, fun _ => rfl⟩
  rw [if_neg (by omega)] at L
  have k1 : sMakes (sPuts (sU (sU s 37 0 0) 6 (s 1 0) a) (s 1 0) 0 x) 0 v 1 0 = s 1 0 + 1 := by rw [mk_1, N.h1]
  have k7 : sMakes (sPuts (sU (sU s 37 0 0) 6 (s 1 0) a) (s 1 0) 0 x) 0 v 7 (s 1 0) = 1 := by
    show ju (s 7) (s 1 0) (s 7 (s 1 0) + 1) (s 1 0) = 1
    rw [ju_s]; omega
  have k8 : sMakes (sPuts (sU (sU s 37 0 0) 6 (s 1 0) a) (s 1 0) 0 x) 0 v 8 (20 * s 1 0) = s 1 0 := by
    show ju (s 8) (20 * s 1 0 + s 7 (s 1 0)) (s 1 0) (20 * s 1 0) = s 1 0
    rw [hf3.1, Int.add_zero, ju_s]
  have k9 : sMakes (sPuts (sU (sU s 37 0 0) 6 (s 1 0) a) (s 1 0) 0 x) 0 v 9 (20 * s 1 0) = 0 := by
    show ju (s 9) (20 * s 1 0 + s 7 (s 1 0)) 0 (20 * s 1 0) = 0
    rw [hf3.1, Int.add_zero, ju_s]
  have k10 : sMakes (sPuts (sU (sU s 37 0 0) 6 (s 1 0) a) (s 1 0) 0 x) 0 v 10 (20 * s 1 0) = x := by
    show ju (s 10) (20 * s 1 0 + s 7 (s 1 0)) x (20 * s 1 0) = x
    rw [hf3.1, Int.add_zero, ju_s]
  have hL2 := L.I.1
  generalize sMakes (sPuts (sU (sU s 37 0 0) 6 (s 1 0) a) (s 1 0) 0 x) 0 v = s2 at *
  have e20 : (20 * s 1 0 + ((0 : Nat) : Int)) = 20 * s 1 0 := by omega
  refine ⟨L, k1, hr, ?_, ?_, ?_⟩
  · unfold sTakes
    rw [k7]
    show sOr 0 (sBit (s2 8 (20 * s 1 0 + ((0 : Nat) : Int)))) = sBit (s 1 0)
    rw [e20, k8]
    have := sOr_zero (s 1 0).toNat (by omega)
    rw [show (((s 1 0).toNat : Nat) : Int) = s 1 0 by omega] at this
    exact this
  · rw [sHeard_0 hL2 (by omega), k8, k9]; omega
  · unfold sLen
    rw [k7]
    show 0 + (s2 10 (20 * s 1 0 + ((0 : Nat) : Int)) - s2 9 (20 * s 1 0 + ((0 : Nat) : Int))) = x
    rw [e20, k9, k10]; omega
/-! what is heard on a splice -/
def HdAt (s : Sg) (t x b : Int) : Prop := ∃ j : Nat, (j : Int) < s 7 t ∧ sLenTo s t j ≤ x ∧ x < sLenTo s t (j + 1) ∧ 1000 * s 8 (20 * t + j) + s 9 (20 * t + j) + x - sLenTo s t j = b
theorem HdAt.val {t x b : Int} (h : HdAt s t x b) (I : sI1 s) (ht : 0 ≤ t ∧ t < s 1 0) : sHeard s t x (s 7 t).toNat 0 = b := by
  obtain ⟨j, h1, h2, h3, h4⟩ := h
  rw [sHeard_at I ht h1 h2 h3, h4]
theorem HdAt.o {S : Sg} {t x b : Int} (h : HdAt s t x b) (h7 : S 7 t = s 7 t) (h20 : s 7 t ≤ 20) (h8 : ∀ j : Int, 0 ≤ j → j < 20 → S 8 (20 * t + j) = s 8 (20 * t + j) ∧ S 9 (20 * t + j) = s 9 (20 * t + j) ∧ S 10 (20 * t + j) = s 10 (20 * t + j)) : HdAt S t x b := by
  obtain ⟨j, h1, h2, h3, h4⟩ := h
  have hl : ∀ k : Nat, (k : Int) ≤ s 7 t → sLenTo S t k = sLenTo s t k := fun k hk => sLenTo_c k (fun i hi => (h8 i (by omega) (by omega)).2.1) (fun i hi => (h8 i (by omega) (by omega)).2.2)
  obtain ⟨a8, a9, -⟩ := h8 j (by omega) (by omega)
  exact ⟨j, by omega, by rw [hl j (by omega)]; exact h2, by rw [hl (j + 1) (by omega)]; exact h3, by rw [a8, a9, hl j (by omega)]; exact h4⟩
theorem CpSp.hd {S : Sg} {t f base x : Int} {j i : Nat} (h : CpSp s S t f base j i) (hi : (i : Int) < s 7 t) (h1 : sLenTo S (s 1 0) j ≤ x) (h2 : x < sLenTo S (s 1 0) (j + 1)) : HdAt s t (x - base + f) (1000 * S 8 (20 * s 1 0 + j) + S 9 (20 * s 1 0 + j) + x - sLenTo S (s 1 0) j) := by
  obtain ⟨c1, c2, c3, c4, c5⟩ := h
  have e : sLenTo S (s 1 0) (j + 1) = sLenTo S (s 1 0) j + (S 10 (20 * s 1 0 + j) - S 9 (20 * s 1 0 + j)) := rfl
  have e2 : sLenTo s t (i + 1) = sLenTo s t i + (s 10 (20 * t + i) - s 9 (20 * t + i)) := rfl
  exact ⟨i, hi, by omega, by omega, by rw [c1]; omega⟩
def SplH (s S : Sg) (t f u v : Int) (m : Nat) : Prop := S 7 (s 1 0) = m ∧ sLenTo S (s 1 0) m = (u - f) + (if v = -1 then 0 else sLen s v) ∧
  (∀ j : Nat, j < m → S 9 (20 * s 1 0 + j) < S 10 (20 * s 1 0 + j)) ∧
  (∀ j : Nat, j < m → ∃ (r : Int) (i : Nat), (r = t ∨ (¬ v = -1 ∧ r = v)) ∧ (i : Int) < s 7 r ∧ S 8 (20 * s 1 0 + j) = s 8 (20 * r + i)) ∧
  ∀ j : Nat, j < m → ∀ x : Int, sLenTo S (s 1 0) j ≤ x → x < sLenTo S (s 1 0) (j + 1) → (x < u - f → HdAt s t (x + f) (1000 * S 8 (20 * s 1 0 + j) + S 9 (20 * s 1 0 + j) + x - sLenTo S (s 1 0) j)) ∧ (u - f ≤ x → ¬ v = -1 ∧ HdAt s v (x - (u - f)) (1000 * S 8 (20 * s 1 0 + j) + S 9 (20 * s 1 0 + j) + x - sLenTo S (s 1 0) j))
theorem cph_first {s : Sg} {t f u : Int} (I : sI1 s) (hT : s 1 0 < 30) (ht : 0 ≤ t ∧ t < s 1 0) (hf : 0 ≤ f ∧ f < u ∧ u ≤ sLen s t) (h20 : sSpans s t f u ≤ 20) : ∃ m : Nat, SplH s (sCopy (sU s 37 0 0) t f u) t f u (-1) m ∧ sLenTo (sCopy (sU s 37 0 0) t f u) (s 1 0) m = u - f := by
  have g7 := I.tape ht
  have hfr := I.2.2.2.1 (s 1 0) (Int.le_refl _) (by omega)
  obtain ⟨m, a1, a2, a3, a4, a5⟩ := cp_at (s := sU s 37 0 0) (t := t) (f := f) (u := u) (m0 := 0) hfr.1 hf.1 hf.2.1 (fun j hj => by
    have h2 : (j : Int) < s 7 t := hj
    exact (I.span ht (show 0 ≤ (j : Int) ∧ (j : Int) < s 7 t by omega)).2.2.1) (s 7 t).toNat (show _ ≤ s 7 t by omega)
  have e0 : sCopyTo (sU s 37 0 0) t f u (s 7 t).toNat = sCopy (sU s 37 0 0) t f u := rfl
  rw [e0] at a2 a3 a4 a5
  obtain ⟨S, hS⟩ : ∃ S, S = sCopy (sU s 37 0 0) t f u := ⟨_, rfl⟩
  rw [← hS] at a2 a3 a4 a5 ⊢
  clear hS e0
  have b2 : S 7 (s 1 0) = m := a2
  have b5 : ∀ j : Nat, j < m → ∃ i : Nat, i < (s 7 t).toNat ∧ CpSp s S t f 0 j i := by
    intro j hj
    obtain ⟨i, hi, hc⟩ := a5 j (Nat.zero_le _) hj
    refine ⟨i, hi, ?_⟩
    unfold CpSp at hc ⊢
    rw [sLen37] at hc
    exact hc
  have b4 : sLenTo S (s 1 0) m = u - f := by
    have h4 : sLenTo S (s 1 0) m = 0 + CpW (sU s 37 0 0) t f u (s 7 t).toNat := a4
    unfold CpW at h4
    rw [sLen37] at h4
    have hl : sLenTo s t (s 7 t).toNat = sLen s t := rfl
    rw [hl, if_neg (by omega)] at h4
    unfold sLa at h4
    split at h4 <;> omega
  refine ⟨m, ⟨b2, by rw [if_pos rfl]; omega, fun j hj => ?_, fun j hj => ?_, fun j hj x h1 h2 => ?_⟩, b4⟩
  · obtain ⟨i, hi, c1, c2, c3, c4, -⟩ := b5 j hj; exact c3
  · obtain ⟨i, hi, c1, c2, c3, c4, -⟩ := b5 j hj
    exact ⟨t, i, Or.inl rfl, by omega, c1⟩
  · obtain ⟨i, hi, hc⟩ := b5 j hj
    have hx := hc.hd (x := x) (by omega) h1 h2
    rw [show x - 0 + f = x + f by omega] at hx
    have hmo := sLenTo_mono (S := S) (T := s 1 0) (a := j + 1) (b := m) (by omega) (fun k h3 h4 => by
      obtain ⟨i, hi, c1, c2, c3, c4, -⟩ := b5 k h4
      exact c3)
    exact ⟨fun _ => hx, fun h3 => by omega⟩
theorem cph_both {s : Sg} {t f u v : Int} (I : sI1 s) (hT : s 1 0 < 30) (ht : 0 ≤ t ∧ t < s 1 0) (hv : 0 ≤ v ∧ v < s 1 0) (hf : 0 ≤ f ∧ f < u ∧ u ≤ sLen s t) (h20 : sSpans s t f u + s 7 v ≤ 20) : ∃ m : Nat, SplH s (sCopy (sCopy (sU s 37 0 0) t f u) v 0 (sLen s v)) t f u v m := by
  have gv := I.tape hv
  obtain ⟨m1, ⟨o1, o2, o3, o4, o5⟩, hlen⟩ := cph_first I hT ht hf (by omega)
  have e1 : sCopy (sU s 37 0 0) t f u 1 0 = s 1 0 := by rw [sCopy_n (by decide)]; rfl
  have e7v : sCopy (sU s 37 0 0) t f u 7 v = s 7 v := sCopy_7 (by omega)
  have e8 : ∀ i, i < 20 * s 1 0 → sCopy (sU s 37 0 0) t f u 8 i = s 8 i ∧ sCopy (sU s 37 0 0) t f u 9 i = s 9 i ∧ sCopy (sU s 37 0 0) t f u 10 i = s 10 i := fun i hi => ⟨sCopy_c I hT ht hf.2.1 (Or.inl rfl) hi, sCopy_c I hT ht hf.2.1 (Or.inr (Or.inl rfl)) hi, sCopy_c I hT ht hf.2.1 (Or.inr (Or.inr rfl)) hi⟩
  have elv : sLen (sCopy (sU s 37 0 0) t f u) v = sLen s v := sCopy_sLen I hT ht hv hf.2.1
  have glv := sLen_in I hv
  obtain ⟨S, hS⟩ : ∃ S, S = sCopy (sU s 37 0 0) t f u := ⟨_, rfl⟩
  rw [← hS] at o1 o3 o4 o5 hlen e1 e7v e8 elv ⊢
  clear hS
  obtain ⟨m, a1, a2, a3, a4, a5⟩ := cp_at (s := S) (t := v) (f := 0) (u := sLen s v) (m0 := m1) (by rw [e1]; exact o1) (Int.le_refl _) (by omega) (fun j hj => by
    rw [e7v] at hj
    have q := (e8 (20 * v + j) (by omega)).2
    rw [q.1, q.2]
    exact (I.span hv (show 0 ≤ (j : Int) ∧ (j : Int) < s 7 v by omega)).2.2.1) (S 7 v).toNat (by omega)
  have e0 : sCopyTo S v 0 (sLen s v) (S 7 v).toNat = sCopy S v 0 (sLen s v) := rfl
  rw [e0] at a2 a3 a4 a5
  rw [e1] at a2 a3 a4 a5
  have hw : CpW S v 0 (sLen s v) (S 7 v).toNat = sLen s v := by
    unfold CpW
    have hl : sLenTo S v (S 7 v).toNat = sLen s v := elv
    rw [hl, if_neg (by omega)]
    unfold sLa
    split <;> omega
  rw [hw] at a4
  obtain ⟨Q, hQ⟩ : ∃ Q, Q = sCopy S v 0 (sLen s v) := ⟨_, rfl⟩
  rw [← hQ] at a2 a3 a4 a5 ⊢
  clear hQ e0
  have hlo : ∀ k : Nat, k ≤ m1 → sLenTo Q (s 1 0) k = sLenTo S (s 1 0) k := fun k hk => sLenTo_c k (fun j hj => (a3 _ (Or.inl (by omega))).2.1) (fun j hj => (a3 _ (Or.inl (by omega))).2.2)
  have hpos : ∀ j : Nat, j < m → Q 9 (20 * s 1 0 + j) < Q 10 (20 * s 1 0 + j) := by
    intro j hj
    by_cases h1 : j < m1
    · obtain ⟨b8, b9, b10⟩ := a3 (20 * s 1 0 + j) (Or.inl (by omega))
      rw [b9, b10]; exact o3 j h1
    · obtain ⟨i, hi, hc⟩ := a5 j (by omega) hj
      have c3 := hc.2.2.1
      rw [e1] at c3
      exact c3
  have hsecond : ∀ j : Nat, m1 ≤ j → j < m → ∃ i : Nat, i < (s 7 v).toNat ∧ CpSp S Q v 0 (u - f) j i := by
    intro j h1 h2
    obtain ⟨i, hi, hc⟩ := a5 j h1 h2
    rw [hlen] at hc
    exact ⟨i, by rw [← e7v]; exact hi, hc⟩
  refine ⟨m, a2, by rw [a4, hlen, if_neg (by omega)], hpos, fun j hj => ?_, fun j hj x h1 h2 => ?_⟩
  · by_cases h1 : j < m1
    · obtain ⟨b8, b9, b10⟩ := a3 (20 * s 1 0 + j) (Or.inl (by omega))
      obtain ⟨r, i, hr, hi, c1⟩ := o4 j h1
      rw [b8]
      exact ⟨r, i, Or.inl (hr.elim id (fun h => absurd rfl h.1)), hi, c1⟩
    · obtain ⟨i, hi, c1, c2, c3, c4, -⟩ := hsecond j (by omega) hj
      rw [e1] at c1
      obtain ⟨d8, d9, d10⟩ := e8 (20 * v + i) (by omega)
      rw [d8] at c1
      exact ⟨v, i, Or.inr ⟨by omega, rfl⟩, by omega, c1⟩
  · by_cases h3 : j < m1
    · obtain ⟨b8, b9, b10⟩ := a3 (20 * s 1 0 + j) (Or.inl (by omega))
      rw [hlo j (by omega)] at h1 ⊢
      rw [hlo (j + 1) (by omega)] at h2
      rw [b8, b9]
      have hmo := sLenTo_mono (S := S) (T := s 1 0) (a := j + 1) (b := m1) (by omega) (fun k _ h4 => o3 k h4)
      exact ⟨(o5 j h3 x h1 h2).1, fun h4 => by omega⟩
    · obtain ⟨i, hi, hc⟩ := hsecond j (by omega) hj
      have hx := hc.hd (x := x) (by rw [e7v]; omega) (by rw [e1]; exact h1) (by rw [e1]; exact h2)
      rw [show x - (u - f) + 0 = x - (u - f) by omega, e1] at hx
      have hmo := sLenTo_mono (S := Q) (T := s 1 0) (a := m1) (b := j) (by omega) (fun k _ h4 => hpos k (by omega))
      rw [hlo m1 (Nat.le_refl _), hlen] at hmo
      exact ⟨fun h4 => by omega, fun _ => ⟨by omega, hx.o e7v.symm (by omega) (fun k h5 h6 => by obtain ⟨d8, d9, d10⟩ := e8 (20 * v + k) (by omega); exact ⟨d8.symm, d9.symm, d10.symm⟩)⟩⟩
theorem t_splice_0 {t f u v w : Int} (h0 : t_splice s t f u v w = 0) : sSplA s t v w ∧ (0 ≤ f ∧ f < u ∧ u ≤ sLen s t) ∧ sSplC s t f u v := by
  unfold t_splice at h0
  split at h0
  · omega
  · rename_i a
    split at h0
    · omega
    · rename_i a2
      split at h0
      · rename_i a3; exact ⟨Decidable.of_not_not a, Decidable.of_not_not a2, a3⟩
      · omega
/-- a splice: what the law asks of it -/
theorem LI_splice (h : LI s e m g r c n) (hc : c < 512) {t f u v w : Int} (h0 : t_splice s t f u v w = 0) : ∃ s2, s2 = n_splice s t f u v w ∧ LI s2 (eT e (s 1 0) t f u v) (ju m 1 (m 1 + 1)) (ju g (s 1 0) (s2 4 (s 1 0))) r (c + 1) n ∧ s2 1 0 = s 1 0 + 1 ∧ r_splice s t f u v w = s 1 0 ∧ s2 2 (s 1 0) = 0 ∧ s2 5 (s 1 0) = w ∧ s2 4 t < s2 4 (s 1 0) ∧ (¬ v = -1 → s2 4 v < s2 4 (s 1 0)) ∧ sLen s2 (s 1 0) = (u - f) + (if v = -1 then 0 else sLen s v) ∧ (∀ x, 0 ≤ x → x < u - f → sHeard s2 (s 1 0) x (s2 7 (s 1 0)).toNat 0 = sHeard s2 t (f + x) (s2 7 t).toNat 0) ∧ (¬ v = -1 → ∀ x, 0 ≤ x → x < sLen s v → sHeard s2 (s 1 0) (u - f + x) (s2 7 (s 1 0)).toNat 0 = sHeard s2 v x (s2 7 v).toNat 0) ∧ (∀ i : Nat, i < 32 → bt (jI (sTakes s2 (s 1 0))) i = true → bt (jI (sTakes s2 t)) i = true ∨ (¬ v = -1 ∧ bt (jI (sTakes s2 v)) i = true)) ∧ sLen s2 t = sLen s t ∧ (¬ v = -1 → sLen s2 v = sLen s v) := by
  have hI := g_splice h.I hc h0
  obtain ⟨q1, q2, q3⟩ := t_splice_0 h0
  have I := h.I.1
  have b := I.2.1
  have ht : 0 ≤ t ∧ t < s 1 0 := by omega
  have hT : s 1 0 < 30 := q3.2.2.1
  have hf3 := I.2.2.2.1 (s 1 0) (Int.le_refl _) (by omega)
  have hv : v = -1 ∨ (0 ≤ v ∧ v < s 1 0) := by omega
  have N := tnew_spl (s := s) (e := e) I hT ht q2.2.1 hv hf3.2 h.I.E
  have hn : n_splice s t f u v w = sMakes (sU (sSplT s t f u v) 6 (s 1 0) (-1)) (sSplG s t v + 1) w := if_pos h0
  have hr : r_splice s t f u v w = s 1 0 := if_pos h0
  have gt := I.tape ht
  have hG : s 4 t ≤ sSplG s t v ∧ (¬ v = -1 → s 4 v ≤ sSplG s t v) := by
    unfold sSplG
    split
    · exact ⟨by omega, fun h => absurd (by assumption) h⟩
    · split
      · exact ⟨by omega, fun _ => by omega⟩
      · exact ⟨by omega, fun _ => by omega⟩
  obtain ⟨k, p1, p2, p3, p4, p5⟩ : ∃ k : Nat, SplH s (sSplT s t f u v) t f u v k := by
    have h20 := q3.2.2.2
    unfold sSplT
    by_cases ev : v = -1
    · rw [if_pos ev] at h20 ⊢
      obtain ⟨k, hk, -⟩ := cph_first I hT ht q2 (by omega)
      rw [ev]
      exact ⟨k, hk⟩
    · rw [if_neg ev] at h20 ⊢
      exact cph_both I hT ht (by omega) q2 h20
  rw [hn] at hI
  have L := LI_new h N hI ⟨fun _ => by omega, fun h2 => absurd rfl h2⟩
  rw [if_pos rfl] at L
  refine ⟨_, rfl, ?_⟩
  rw [hn]
  have k1 : sMakes (sU (sSplT s t f u v) 6 (s 1 0) (-1)) (sSplG s t v + 1) w 1 0 = s 1 0 + 1 := by rw [mk_1, N.h1]
  have e4 : ∀ i, sMakes (sU (sSplT s t f u v) 6 (s 1 0) (-1)) (sSplG s t v + 1) w 4 i = if i = s 1 0 then sSplG s t v + 1 else s 4 i := fun i => by rw [mk_4, N.h1, N.hr 4 (by decide)]
  have e2 : sMakes (sU (sSplT s t f u v) 6 (s 1 0) (-1)) (sSplG s t v + 1) w 2 (s 1 0) = 0 := by rw [mk_2, N.h1, if_pos rfl]
  have e5 : sMakes (sU (sSplT s t f u v) 6 (s 1 0) (-1)) (sSplG s t v + 1) w 5 (s 1 0) = w := by rw [mk_5, N.h1, if_pos rfl]
  have old7 : ∀ i, i ≠ s 1 0 → sMakes (sU (sSplT s t f u v) 6 (s 1 0) (-1)) (sSplG s t v + 1) w 7 i = s 7 i := fun i hi => by rw [sMakes_n (by decide), N.h7 i hi]
  have old8 : ∀ i, i < 20 * s 1 0 → sMakes (sU (sSplT s t f u v) 6 (s 1 0) (-1)) (sSplG s t v + 1) w 8 i = s 8 i ∧ sMakes (sU (sSplT s t f u v) 6 (s 1 0) (-1)) (sSplG s t v + 1) w 9 i = s 9 i ∧ sMakes (sU (sSplT s t f u v) 6 (s 1 0) (-1)) (sSplG s t v + 1) w 10 i = s 10 i := fun i hi => by
    rw [sMakes_n (k := 8) (by decide), sMakes_n (k := 9) (by decide), sMakes_n (k := 10) (by decide)]; exact N.h8 i hi
  have n7 : sMakes (sU (sSplT s t f u v) 6 (s 1 0) (-1)) (sSplG s t v + 1) w 7 = sSplT s t f u v 7 := by rw [sMakes_n (by decide), sU_n (by decide)]
  have n8 : sMakes (sU (sSplT s t f u v) 6 (s 1 0) (-1)) (sSplG s t v + 1) w 8 = sSplT s t f u v 8 := by rw [sMakes_n (by decide), sU_n (by decide)]
  have n9 : sMakes (sU (sSplT s t f u v) 6 (s 1 0) (-1)) (sSplG s t v + 1) w 9 = sSplT s t f u v 9 := by rw [sMakes_n (by decide), sU_n (by decide)]
  have n10 : sMakes (sU (sSplT s t f u v) 6 (s 1 0) (-1)) (sSplG s t v + 1) w 10 = sSplT s t f u v 10 := by rw [sMakes_n (by decide), sU_n (by decide)]
  clear hn
  generalize sMakes (sU (sSplT s t f u v) 6 (s 1 0) (-1)) (sSplG s t v + 1) w = s2 at *
  generalize sSplT s t f u v = S at *
  have I2 := L.I.1
  have e4T : s2 4 (s 1 0) = sSplG s t v + 1 := by rw [e4, if_pos rfl]
  have e4o : ∀ i, i ≠ s 1 0 → s2 4 i = s 4 i := fun i hi => by rw [e4, if_neg hi]
  have nl : sLenTo s2 (s 1 0) = sLenTo S (s 1 0) := by funext j; exact sLenTo_c j (fun _ _ => by rw [n9]) (fun _ _ => by rw [n10])
  have T7 : s2 7 (s 1 0) = k := by rw [n7]; exact p1
  have tT : 0 ≤ s 1 0 ∧ s 1 0 < s2 1 0 := by omega
  have len2 : sLen s2 (s 1 0) = (u - f) + (if v = -1 then 0 else sLen s v) := by
    unfold sLen
    rw [T7, nl, show ((k : Int)).toNat = k by omega]
    exact p2
  have oldL : ∀ i, 0 ≤ i → i < s 1 0 → sLen s2 i = sLen s i := fun i a1 a2 => by
    have gi := I.tape (t := i) ⟨a1, a2⟩
    unfold sLen
    rw [old7 i (by omega)]
    exact sLenTo_c _ (fun j hj => (old8 _ (by omega)).2.1) (fun j hj => (old8 _ (by omega)).2.2)
  have hd2 : ∀ i x z, 0 ≤ i → i < s 1 0 → HdAt s i x z → sHeard s2 i x (s2 7 i).toNat 0 = z := fun i x z a1 a2 hh => by
    have gi := I.tape (t := i) ⟨a1, a2⟩
    exact (hh.o (S := s2) (old7 i (by omega)) (by omega) (fun j b1 b2 => old8 _ (by omega))).val I2 (by omega)
  have main : ∀ x, 0 ≤ x → x < sLen s2 (s 1 0) → (x < u - f → sHeard s2 (s 1 0) x (s2 7 (s 1 0)).toNat 0 = sHeard s2 t (x + f) (s2 7 t).toNat 0) ∧ (u - f ≤ x → ¬ v = -1 ∧ sHeard s2 (s 1 0) x (s2 7 (s 1 0)).toNat 0 = sHeard s2 v (x - (u - f)) (s2 7 v).toNat 0) := by
    intro x a1 a2
    obtain ⟨j, j1, j2, j3, j4⟩ := sHeard_in I2 tT ⟨a1, a2⟩
    rw [nl] at j2 j3 j4
    rw [n8, n9] at j4
    have p := p5 j (by omega) x j2 j3
    rw [j4]
    refine ⟨fun hx => ?_, fun hx => ?_⟩
    · exact (hd2 t _ _ ht.1 ht.2 (p.1 hx)).symm
    · obtain ⟨z1, z2⟩ := p.2 hx
      exact ⟨z1, (hd2 v _ _ (by omega) (by omega) z2).symm⟩
  refine ⟨by rw [e4T]; exact L, k1, hr, e2, e5, ?_, fun ev => ?_, len2, fun x a1 a2 => ?_, fun ev x a1 a2 => ?_, fun i hi hb => ?_, oldL t ht.1 ht.2, fun ev => oldL v (by omega) (by omega)⟩
  · rw [e4T, e4o t (by omega)]; omega
  · rw [e4T, e4o v (by omega)]
    have := hG.2 ev
    omega
  · have lv : 0 ≤ (if v = -1 then 0 else sLen s v) := by
      split
      · omega
      · have := sLen_in I (t := v) (by omega); omega
    have z := (main x a1 (by omega)).1 a2
    rw [show f + x = x + f by omega]
    exact z
  · have lv : (if v = -1 then 0 else sLen s v) = sLen s v := if_neg ev
    have z := ((main (u - f + x) (by omega) (by omega)).2 (by omega)).2
    rw [show u - f + x - (u - f) = x by omega] at z
    exact z
  · obtain ⟨j, j1, j2⟩ := sTakes_of I2 tT hi hb
    obtain ⟨r0, i0, hr0, hi0, c1⟩ := p4 j (by omega)
    have hb2 : ∀ r1, 0 ≤ r1 → r1 < s 1 0 → (i0 : Int) < s 7 r1 → s2 8 (20 * r1 + i0) = (i : Int) → bt (jI (sTakes s2 r1)) i = true := fun r1 a1 a2 a3 a4 => by
      have gi := I.tape (t := r1) ⟨a1, a2⟩
      have hh := sTakes_has I2 (t := r1) (by omega) (j := i0) (by rw [old7 r1 (by omega)]; exact a3)
      rw [a4, sHas_bt _ hi] at hh
      exact hh
    rw [n8, c1] at j2
    rcases hr0 with rfl | ⟨ev, rfl⟩
    · left
      refine hb2 r0 ht.1 ht.2 hi0 ?_
      rw [(old8 (20 * r0 + i0) (by omega)).1]; exact j2
    · right
      have gi := I.tape (t := r0) (by omega)
      refine ⟨ev, hb2 r0 (by omega) (by omega) hi0 ?_⟩
      rw [(old8 (20 * r0 + i0) (by omega)).1]; exact j2
end LI5
