/-! ===== isPressed ===== -/
theorem lc_clear {X : jj_X} {cc : ByteArray} {rm : Room} {G : jj_G} {kc kn pc nx k n0 : Nat} {lv : List (Option Value)} {rest : List Value} (F : jj_F X RL cc rm) {A : Nat → Nat} {s e : Sg} {m g r : Int → Int} (hP : WP (jj_ac X) A s e m g r G) {c : Int} (h : hInv s e c) (hr : jQ rm kc kn k n0 rest) (d0 : jj_D cc pc (.invokevirtual 153) 3 nx) (kk : ∀ G', WP (jj_ac X) A (n_clear s) e m g r G' → jj_J X G' k n0 nx lv (.int (jI (s 11 0)) :: rest)) : jj_J X G kc kn pc lv (.ref (A 0) :: rest) := by
  obtain ⟨r1, r2, r3, r4, r5, r6, r7⟩ := hr
  obtain ⟨G1, G2, rfl, hd, ⟨ad, ha, hR⟩, hG⟩ := hP
  rw [← ha]
  refine jj_callFVi F hd (k := k) (n := n0) (x8_clear F.tr hR h.2.1.1) lk_L_153 (hR.at (k := 0) (i := 0) cc_0) cs_8 rfl rfl ⟨by show 1 + 1 ≤ _; omega, by show 8 + (2 + 11) + 21 ≤ _; omega, by show kc + 0 ≤ _; omega, by show kn + 0 ≤ _; omega, r7⟩ ⟨by show kc + 0 ≤ _; omega, by show kn + 0 ≤ _; omega⟩ d0 (fun E hE => hE.elim) ?_
  rintro r' Gn ⟨rfl, ad', ha', hR'⟩ hdn
  exact kk _ ⟨Gn, G2, rfl, hdn, ⟨ad', ha'.trans ha, hR'⟩, hG⟩
theorem ju_same {m : Int → Int} {i : Int} : ju m i (m i + 0) = m := by
  funext j
  by_cases e : j = i
  · subst e; rw [ju_s]; omega
  · rw [ju_n e]
theorem sMadeTo_in (s : Sg) (d : Int) (n : Nat) : 0 ≤ sMadeTo s d n ∧ sMadeTo s d n ≤ n := by
  induction n with
  | zero => exact ⟨Int.le_refl _, Int.le_refl _⟩
  | succ n ih => unfold sMadeTo; split <;> omega
theorem r_stamper_in {s : Sg} {d y w : Int} (hN : sNm s d y w) (hD : 0 ≤ s 0 0) (h0 : t_stamper s d y w = 0) : 1 ≤ r_stamper s d y w ∧ r_stamper s d y w ≤ 12 := by
  have q := t_stamper_0 h0
  have hr : r_stamper s d y w = sMadeTo (n_stamper s d y w) d 12 := if_pos h0
  have hn : n_stamper s d y w = sU (sU s 37 0 0) 16 (sSt d y w) (s 0 0) := if_pos h0
  have b := sMadeTo_in (n_stamper s d y w) d 12
  rw [hr]
  refine ⟨?_, b.2⟩
  rw [hn]
  have e : sSt d y w = 12 * d + (4 * y + w) := by unfold sSt; omega
  obtain ⟨-, w2, w3⟩ := hN
  have h2 := q.2
  rw [e] at h2 ⊢
  have h3 := sMadeTo_set (s := sU s 37 0 0) (d := d) (p := 4 * y + w) (x := s 0 0) (by omega) h2 (by omega) 12
  have b2 := sMadeTo_in (sU s 37 0 0) d 12
  rw [h3, if_pos (by omega)]
  omega
theorem t_stamper_c {s : Sg} {d y w K : Int} (hN : sNm s d y w) (hK : K = sSt d y w) : (t_stamper s d y w = 0 ∧ s 16 K = -1 ∧ (sNeed K = -1 ∨ ¬ s 16 (sNeed K) = -1)) ∨ (t_stamper s d y w = 2 ∧ ¬ (s 16 K = -1 ∧ (sNeed K = -1 ∨ ¬ s 16 (sNeed K) = -1))) := by
  unfold t_stamper
  rw [if_neg (fun h => h hN), ← hK]
  by_cases h : s 16 K = -1 ∧ (sNeed K = -1 ∨ ¬ s 16 (sNeed K) = -1)
  · left; rw [if_pos h]; exact ⟨rfl, h⟩
  · right; rw [if_neg h]; exact ⟨rfl, h⟩
abbrev rm_isPressed : Room := { frames := 11, cells := 600, slots := 4000, locals := 240 }
set_option maxRecDepth 100000 in
set_option maxHeartbeats 4000000 in
theorem kl_pressed {l : Launch} {D : va_G} {ac : Nat → ClassId} (hl : l.stackTraces = false) {A : Nat → Nat} {s e : Sg} {m g r : Int → Int} {h x : Int} {G : jj_G} (hP : WP ac A s e m g r G) {c n : Int} (hL : LI s e m g r c n) (hc : c + 3 < 512) (hn : 0 ≤ n ∧ n < 150) (hh : 0 ≤ h ∧ h ≤ 15) (hx : 0 ≤ x ∧ x ≤ 2147483647) : jj_C l D ac yL_isPressed (.code yL_isPressed cL_isPressed 16 (some .boolean)) rm_isPressed [.ref (A 0), .ref (A 1), .int (jI h), .int (jI x)] G (OP ac A c n) jj_nx := by
  refine jj_ofx (own := RL) (lv0 := [some (.ref (A 0)), some (.ref (A 1)), some (.int (jI h)), some (.int (jI x)), none, none, none, none, none, none, none, none, none, none, none, none]) hl (by decide +kernel) rfl rfl (Nat.le_of_ble_eq_true rfl) rfl ?_
  intro X B hN hl0 hdg hac hin
  subst hl0; subst hdg; subst hac
  have F := B.F
  have hI := hL.I
  have hj := hL.J
  obtain ⟨hM0, hM1, hM2, hM3, hM4, hM5⟩ := id hL.M
  have b0 := hI.1.1
  have b2 := hI.2.2.1.1
  have b3 := hI.2.2.2.2.1.1
  have b11 := hI.2.1.1
  have N6 := hL.N
  refine jj_iload2 F dL_isPressed_0 ?_
  refine jj_iconst F dL_isPressed_1 ?_
  by_cases hc1 : h < 3 ∨ s 13 0 = 0
  · skip
    by_cases hc2 : h < 3
    · skip
      refine jj_icmp_lt F (tgt := 11) dL_isPressed_2 rfl (by omega) (fun c2 => ?_) (fun c2 => by exfalso; omega)
      refine jj_aload0 F dL_isPressed_11 ?_
      refine jj_bipush F (by decide) dL_isPressed_12 ?_
      refine jj_iconst F dL_isPressed_14 ?_
      refine jj_iload3 F dL_isPressed_15 ?_
      refine jj_iconst F dL_isPressed_16 ?_
      refine jj_irem F (by omega) dL_isPressed_17 ?_
      refine jj_iadd F dL_isPressed_18 ?_
      refine jj_iconst F dL_isPressed_19 ?_
      refine jj_iconst F dL_isPressed_20 ?_
      refine jj_iconst F dL_isPressed_21 ?_
      refine jj_iconst F dL_isPressed_22 ?_
      by_cases hcut : sCanCut s (1 + x % 5) = 1
      · skip
        have ht : t_cut s (1 + x % 5) = 0 := (by unfold t_cut; rw [if_neg (by omega), if_pos hcut])
        obtain ⟨hL2, -, fr, e11, e13, es⟩ := LI_cut (hL.mono (by omega)) (by omega) ht
        obtain ⟨s2, hs⟩ : ∃ s2, s2 = n_cut s (1 + x % 5) := ⟨_, rfl⟩
        rw [← hs] at hL2 e11 e13 es
        have i3 := hL2.I.2.2.1.2.2.1 (s 13 0) (by omega) (by omega)
        obtain ⟨hL3, e11b⟩ := LI_clear hL2 (by omega)
        refine la_ok F (ka_cut F.tr hP hI (by omega)) ht (k := 12) (n0 := 130) ⟨Nat.le_of_ble_eq_true rfl, Nat.le_of_ble_eq_true rfl, Nat.le_of_ble_eq_true rfl, Nat.le_of_ble_eq_true rfl, Nat.le_of_ble_eq_true rfl, Nat.le_of_ble_eq_true rfl, Nat.le_of_ble_eq_true rfl⟩ dL_isPressed_23 (fun G hP => ?_)
        rw [← hs] at hP
        rw [fr]
        have hI := hL2.I
        refine jj_istore4 F dL_isPressed_26 (hN _ (by decide)) rfl ?_
        refine jj_iload4 F dL_isPressed_28 ?_
        refine jj_if_ge F (tgt := 67) dL_isPressed_30 rfl (by omega) (fun c30 => ?_) (fun c30 => by exfalso; omega)
        refine jj_iload4 F dL_isPressed_67 ?_
        refine jj_aload1 F dL_isPressed_69 ?_
        refine jj_iconst F dL_isPressed_70 ?_
        refine jm_ald F hP (by omega) dL_isPressed_71 ?_
        refine jj_icmp_ne F (tgt := 109) dL_isPressed_72 rfl (by omega) (fun c72 => by exfalso; omega) (fun c72 => ?_)
        refine jj_aload0 F dL_isPressed_75 ?_
        refine jj_iload4 F dL_isPressed_76 ?_
        refine jj_iconst F dL_isPressed_78 ?_
        refine lq_se F hP hI (by omega) (by omega) (k := 15) (n0 := 148) ⟨Nat.le_of_ble_eq_true rfl, Nat.le_of_ble_eq_true rfl, Nat.le_of_ble_eq_true rfl, Nat.le_of_ble_eq_true rfl, Nat.le_of_ble_eq_true rfl, Nat.le_of_ble_eq_true rfl, Nat.le_of_ble_eq_true rfl⟩ dL_isPressed_79 (fun G hP => ?_)
        refine jj_sipush F (by decide) dL_isPressed_82 ?_
        refine jj_sipush F (by decide) dL_isPressed_85 ?_
        refine jj_iconst F dL_isPressed_88 ?_
        refine jj_iload3 F dL_isPressed_89 ?_
        refine jj_iconst F dL_isPressed_90 ?_
        refine jj_irem F (by omega) dL_isPressed_91 ?_
        refine jj_iadd F dL_isPressed_92 ?_
        refine jj_imul F dL_isPressed_93 ?_
        refine jj_isub F dL_isPressed_94 ?_
        refine jj_icmp_gt F (tgt := 109) dL_isPressed_95 rfl (by omega) (fun c95 => by exfalso; omega) (fun c95 => ?_)
        refine jj_aload0 F dL_isPressed_98 ?_
        refine lc_clear F hP hI (k := 18) (n0 := 166) ⟨Nat.le_of_ble_eq_true rfl, Nat.le_of_ble_eq_true rfl, Nat.le_of_ble_eq_true rfl, Nat.le_of_ble_eq_true rfl, Nat.le_of_ble_eq_true rfl, Nat.le_of_ble_eq_true rfl, Nat.le_of_ble_eq_true rfl⟩ dL_isPressed_99 (fun G hP => ?_)
        refine jj_if_ne F (tgt := 109) dL_isPressed_102 rfl (by omega) (fun c102 => by exfalso; omega) (fun c102 => ?_)
        refine jj_iconst F dL_isPressed_105 ?_
        refine jj_goto F (tgt := 110) dL_isPressed_106 rfl ?_
        refine jj_istore5 F dL_isPressed_110 (hN _ (by decide)) rfl ?_
        refine jj_aload1 F dL_isPressed_112 ?_
        refine jj_iconst F dL_isPressed_113 ?_
        refine jj_dup2 F rfl rfl dL_isPressed_114 ?_
        refine jm_ald F hP (by omega) dL_isPressed_115 ?_
        refine jj_iconst F dL_isPressed_116 ?_
        refine jj_iadd F dL_isPressed_117 ?_
        refine jm_ast F hP (by omega) dL_isPressed_118 (fun G hP => ?_)
        refine jj_iload5 F dL_isPressed_119 ?_
        exact jj_zret B dL_isPressed_121 ⟨Nat.le_of_ble_eq_true rfl, Nat.le_of_ble_eq_true rfl⟩ (Or.inr rfl) ⟨1, rfl, rfl, _, _, _, _, _, c + 1 + 1, by omega, hL3, hP⟩
      · skip
        obtain ⟨hL2, e11⟩ := LI_clear (hL.mono (by omega)) (by omega)
        obtain ⟨hL3, -⟩ := LI_clear hL2 (by omega)
        refine la_no F (ka_cut F.tr hP hI (by omega)) 2 (-1763000000) (by unfold t_cut; rw [if_neg (by omega), if_neg hcut]) (by decide) (fun h => by rw [h]; rfl) (k := 12) (n0 := 130) ⟨Nat.le_of_ble_eq_true rfl, Nat.le_of_ble_eq_true rfl, Nat.le_of_ble_eq_true rfl, Nat.le_of_ble_eq_true rfl, Nat.le_of_ble_eq_true rfl, Nat.le_of_ble_eq_true rfl, Nat.le_of_ble_eq_true rfl⟩ dL_isPressed_23 (fun G hP => ?_)
        refine jj_istore4 F dL_isPressed_26 (hN _ (by decide)) rfl ?_
        refine jj_iload4 F dL_isPressed_28 ?_
        refine jj_if_ge F (tgt := 67) dL_isPressed_30 rfl (by omega) (fun c30 => by exfalso; omega) (fun c30 => ?_)
        refine jj_iload4 F dL_isPressed_33 ?_
        refine jj_ldc F (v := -1763000000) cn_L_128 (by decide) dL_isPressed_35 ?_
        refine jj_icmp_ne F (tgt := 65) dL_isPressed_37 rfl (by omega) (fun c37 => by exfalso; omega) (fun c37 => ?_)
        refine jj_iload3 F dL_isPressed_40 ?_
        refine jj_bipush F (by decide) dL_isPressed_41 ?_
        refine jj_irem F (by omega) dL_isPressed_43 ?_
        refine jj_if_gt F (tgt := 61) dL_isPressed_44 rfl (by omega) (fun c44 => ?_) (fun c44 => ?_)
        · skip
          refine jj_iconst F dL_isPressed_61 ?_
          refine jj_goto F (tgt := 66) dL_isPressed_62 rfl ?_
          exact jj_zret B dL_isPressed_66 ⟨Nat.le_of_ble_eq_true rfl, Nat.le_of_ble_eq_true rfl⟩ (Or.inr rfl) ⟨1, rfl, rfl, _, _, _, _, _, c, by omega, (hL.mono (by omega)), hP⟩
        · skip
          refine jj_aload0 F dL_isPressed_47 ?_
          refine lc_clear F hP hI (k := 15) (n0 := 148) ⟨Nat.le_of_ble_eq_true rfl, Nat.le_of_ble_eq_true rfl, Nat.le_of_ble_eq_true rfl, Nat.le_of_ble_eq_true rfl, Nat.le_of_ble_eq_true rfl, Nat.le_of_ble_eq_true rfl, Nat.le_of_ble_eq_true rfl⟩ dL_isPressed_48 (fun G hP => ?_)
          have hI := hL2.I
          refine jj_if_lt F (tgt := 65) dL_isPressed_51 rfl (by omega) (fun c51 => by exfalso; omega) (fun c51 => ?_)
          refine jj_aload0 F dL_isPressed_54 ?_
          refine lc_clear F hP hI (k := 18) (n0 := 166) ⟨Nat.le_of_ble_eq_true rfl, Nat.le_of_ble_eq_true rfl, Nat.le_of_ble_eq_true rfl, Nat.le_of_ble_eq_true rfl, Nat.le_of_ble_eq_true rfl, Nat.le_of_ble_eq_true rfl, Nat.le_of_ble_eq_true rfl⟩ dL_isPressed_55 (fun G hP => ?_)
          refine jj_if_ne F (tgt := 65) dL_isPressed_58 rfl (by omega) (fun c58 => by exfalso; omega) (fun c58 => ?_)
          refine jj_iconst F dL_isPressed_61 ?_
          refine jj_goto F (tgt := 66) dL_isPressed_62 rfl ?_
          exact jj_zret B dL_isPressed_66 ⟨Nat.le_of_ble_eq_true rfl, Nat.le_of_ble_eq_true rfl⟩ (Or.inr rfl) ⟨1, rfl, rfl, _, _, _, _, _, c + 1 + 1, by omega, hL3, hP⟩
    · skip
      refine jj_icmp_lt F (tgt := 11) dL_isPressed_2 rfl (by omega) (fun c2 => by exfalso; omega) (fun c2 => ?_)
      refine jj_aload1 F dL_isPressed_5 ?_
      refine jj_iconst F dL_isPressed_6 ?_
      refine jm_ald F hP (by omega) dL_isPressed_7 ?_
      refine jj_if_ne F (tgt := 122) dL_isPressed_8 rfl (by omega) (fun c8 => by exfalso; omega) (fun c8 => ?_)
      refine jj_aload0 F dL_isPressed_11 ?_
      refine jj_bipush F (by decide) dL_isPressed_12 ?_
      refine jj_iconst F dL_isPressed_14 ?_
      refine jj_iload3 F dL_isPressed_15 ?_
      refine jj_iconst F dL_isPressed_16 ?_
      refine jj_irem F (by omega) dL_isPressed_17 ?_
      refine jj_iadd F dL_isPressed_18 ?_
      refine jj_iconst F dL_isPressed_19 ?_
      refine jj_iconst F dL_isPressed_20 ?_
      refine jj_iconst F dL_isPressed_21 ?_
      refine jj_iconst F dL_isPressed_22 ?_
      by_cases hcut : sCanCut s (1 + x % 5) = 1
      · skip
        have ht : t_cut s (1 + x % 5) = 0 := (by unfold t_cut; rw [if_neg (by omega), if_pos hcut])
        obtain ⟨hL2, -, fr, e11, e13, es⟩ := LI_cut (hL.mono (by omega)) (by omega) ht
        obtain ⟨s2, hs⟩ : ∃ s2, s2 = n_cut s (1 + x % 5) := ⟨_, rfl⟩
        rw [← hs] at hL2 e11 e13 es
        have i3 := hL2.I.2.2.1.2.2.1 (s 13 0) (by omega) (by omega)
        obtain ⟨hL3, e11b⟩ := LI_clear hL2 (by omega)
        refine la_ok F (ka_cut F.tr hP hI (by omega)) ht (k := 12) (n0 := 130) ⟨Nat.le_of_ble_eq_true rfl, Nat.le_of_ble_eq_true rfl, Nat.le_of_ble_eq_true rfl, Nat.le_of_ble_eq_true rfl, Nat.le_of_ble_eq_true rfl, Nat.le_of_ble_eq_true rfl, Nat.le_of_ble_eq_true rfl⟩ dL_isPressed_23 (fun G hP => ?_)
        rw [← hs] at hP
        rw [fr]
        have hI := hL2.I
        refine jj_istore4 F dL_isPressed_26 (hN _ (by decide)) rfl ?_
        refine jj_iload4 F dL_isPressed_28 ?_
        refine jj_if_ge F (tgt := 67) dL_isPressed_30 rfl (by omega) (fun c30 => ?_) (fun c30 => by exfalso; omega)
        refine jj_iload4 F dL_isPressed_67 ?_
        refine jj_aload1 F dL_isPressed_69 ?_
        refine jj_iconst F dL_isPressed_70 ?_
        refine jm_ald F hP (by omega) dL_isPressed_71 ?_
        refine jj_icmp_ne F (tgt := 109) dL_isPressed_72 rfl (by omega) (fun c72 => by exfalso; omega) (fun c72 => ?_)
        refine jj_aload0 F dL_isPressed_75 ?_
        refine jj_iload4 F dL_isPressed_76 ?_
        refine jj_iconst F dL_isPressed_78 ?_
        refine lq_se F hP hI (by omega) (by omega) (k := 15) (n0 := 148) ⟨Nat.le_of_ble_eq_true rfl, Nat.le_of_ble_eq_true rfl, Nat.le_of_ble_eq_true rfl, Nat.le_of_ble_eq_true rfl, Nat.le_of_ble_eq_true rfl, Nat.le_of_ble_eq_true rfl, Nat.le_of_ble_eq_true rfl⟩ dL_isPressed_79 (fun G hP => ?_)
        refine jj_sipush F (by decide) dL_isPressed_82 ?_
        refine jj_sipush F (by decide) dL_isPressed_85 ?_
        refine jj_iconst F dL_isPressed_88 ?_
        refine jj_iload3 F dL_isPressed_89 ?_
        refine jj_iconst F dL_isPressed_90 ?_
        refine jj_irem F (by omega) dL_isPressed_91 ?_
        refine jj_iadd F dL_isPressed_92 ?_
        refine jj_imul F dL_isPressed_93 ?_
        refine jj_isub F dL_isPressed_94 ?_
        refine jj_icmp_gt F (tgt := 109) dL_isPressed_95 rfl (by omega) (fun c95 => by exfalso; omega) (fun c95 => ?_)
        refine jj_aload0 F dL_isPressed_98 ?_
        refine lc_clear F hP hI (k := 18) (n0 := 166) ⟨Nat.le_of_ble_eq_true rfl, Nat.le_of_ble_eq_true rfl, Nat.le_of_ble_eq_true rfl, Nat.le_of_ble_eq_true rfl, Nat.le_of_ble_eq_true rfl, Nat.le_of_ble_eq_true rfl, Nat.le_of_ble_eq_true rfl⟩ dL_isPressed_99 (fun G hP => ?_)
        refine jj_if_ne F (tgt := 109) dL_isPressed_102 rfl (by omega) (fun c102 => by exfalso; omega) (fun c102 => ?_)
        refine jj_iconst F dL_isPressed_105 ?_
        refine jj_goto F (tgt := 110) dL_isPressed_106 rfl ?_
        refine jj_istore5 F dL_isPressed_110 (hN _ (by decide)) rfl ?_
        refine jj_aload1 F dL_isPressed_112 ?_
        refine jj_iconst F dL_isPressed_113 ?_
        refine jj_dup2 F rfl rfl dL_isPressed_114 ?_
        refine jm_ald F hP (by omega) dL_isPressed_115 ?_
        refine jj_iconst F dL_isPressed_116 ?_
        refine jj_iadd F dL_isPressed_117 ?_
        refine jm_ast F hP (by omega) dL_isPressed_118 (fun G hP => ?_)
        refine jj_iload5 F dL_isPressed_119 ?_
        exact jj_zret B dL_isPressed_121 ⟨Nat.le_of_ble_eq_true rfl, Nat.le_of_ble_eq_true rfl⟩ (Or.inr rfl) ⟨1, rfl, rfl, _, _, _, _, _, c + 1 + 1, by omega, hL3, hP⟩
      · skip
        obtain ⟨hL2, e11⟩ := LI_clear (hL.mono (by omega)) (by omega)
        obtain ⟨hL3, -⟩ := LI_clear hL2 (by omega)
        refine la_no F (ka_cut F.tr hP hI (by omega)) 2 (-1763000000) (by unfold t_cut; rw [if_neg (by omega), if_neg hcut]) (by decide) (fun h => by rw [h]; rfl) (k := 12) (n0 := 130) ⟨Nat.le_of_ble_eq_true rfl, Nat.le_of_ble_eq_true rfl, Nat.le_of_ble_eq_true rfl, Nat.le_of_ble_eq_true rfl, Nat.le_of_ble_eq_true rfl, Nat.le_of_ble_eq_true rfl, Nat.le_of_ble_eq_true rfl⟩ dL_isPressed_23 (fun G hP => ?_)
        refine jj_istore4 F dL_isPressed_26 (hN _ (by decide)) rfl ?_
        refine jj_iload4 F dL_isPressed_28 ?_
        refine jj_if_ge F (tgt := 67) dL_isPressed_30 rfl (by omega) (fun c30 => by exfalso; omega) (fun c30 => ?_)
        refine jj_iload4 F dL_isPressed_33 ?_
        refine jj_ldc F (v := -1763000000) cn_L_128 (by decide) dL_isPressed_35 ?_
        refine jj_icmp_ne F (tgt := 65) dL_isPressed_37 rfl (by omega) (fun c37 => by exfalso; omega) (fun c37 => ?_)
        refine jj_iload3 F dL_isPressed_40 ?_
        refine jj_bipush F (by decide) dL_isPressed_41 ?_
        refine jj_irem F (by omega) dL_isPressed_43 ?_
        refine jj_if_gt F (tgt := 61) dL_isPressed_44 rfl (by omega) (fun c44 => ?_) (fun c44 => ?_)
        · skip
          refine jj_iconst F dL_isPressed_61 ?_
          refine jj_goto F (tgt := 66) dL_isPressed_62 rfl ?_
          exact jj_zret B dL_isPressed_66 ⟨Nat.le_of_ble_eq_true rfl, Nat.le_of_ble_eq_true rfl⟩ (Or.inr rfl) ⟨1, rfl, rfl, _, _, _, _, _, c, by omega, (hL.mono (by omega)), hP⟩
        · skip
          refine jj_aload0 F dL_isPressed_47 ?_
          refine lc_clear F hP hI (k := 15) (n0 := 148) ⟨Nat.le_of_ble_eq_true rfl, Nat.le_of_ble_eq_true rfl, Nat.le_of_ble_eq_true rfl, Nat.le_of_ble_eq_true rfl, Nat.le_of_ble_eq_true rfl, Nat.le_of_ble_eq_true rfl, Nat.le_of_ble_eq_true rfl⟩ dL_isPressed_48 (fun G hP => ?_)
          have hI := hL2.I
          refine jj_if_lt F (tgt := 65) dL_isPressed_51 rfl (by omega) (fun c51 => by exfalso; omega) (fun c51 => ?_)
          refine jj_aload0 F dL_isPressed_54 ?_
          refine lc_clear F hP hI (k := 18) (n0 := 166) ⟨Nat.le_of_ble_eq_true rfl, Nat.le_of_ble_eq_true rfl, Nat.le_of_ble_eq_true rfl, Nat.le_of_ble_eq_true rfl, Nat.le_of_ble_eq_true rfl, Nat.le_of_ble_eq_true rfl, Nat.le_of_ble_eq_true rfl⟩ dL_isPressed_55 (fun G hP => ?_)
          refine jj_if_ne F (tgt := 65) dL_isPressed_58 rfl (by omega) (fun c58 => by exfalso; omega) (fun c58 => ?_)
          refine jj_iconst F dL_isPressed_61 ?_
          refine jj_goto F (tgt := 66) dL_isPressed_62 rfl ?_
          exact jj_zret B dL_isPressed_66 ⟨Nat.le_of_ble_eq_true rfl, Nat.le_of_ble_eq_true rfl⟩ (Or.inr rfl) ⟨1, rfl, rfl, _, _, _, _, _, c + 1 + 1, by omega, hL3, hP⟩
  · skip
    refine jj_icmp_lt F (tgt := 11) dL_isPressed_2 rfl (by omega) (fun c2 => by exfalso; omega) (fun c2 => ?_)
    refine jj_aload1 F dL_isPressed_5 ?_
    refine jj_iconst F dL_isPressed_6 ?_
    refine jm_ald F hP (by omega) dL_isPressed_7 ?_
    refine jj_if_ne F (tgt := 122) dL_isPressed_8 rfl (by omega) (fun c8 => ?_) (fun c8 => by exfalso; omega)
    refine jj_iload3 F dL_isPressed_122 ?_
    refine jj_aload1 F dL_isPressed_123 ?_
    refine jj_iconst F dL_isPressed_124 ?_
    refine jm_ald F hP (by omega) dL_isPressed_125 ?_
    refine jj_irem F (by omega) dL_isPressed_126 ?_
    refine jj_namei (fun dd hdd => ?_)
    have hd : 0 ≤ dd ∧ dd < s 13 0 := by rw [hdd, hM2]; exact ⟨Int.emod_nonneg _ (by omega), Int.emod_lt_of_pos _ (by omega)⟩
    clear hdd
    refine jj_istore4 F dL_isPressed_127 (hN _ (by decide)) rfl ?_
    refine jj_iload3 F dL_isPressed_129 ?_
    refine jj_bipush F (by decide) dL_isPressed_130 ?_
    refine jj_idiv F (by omega) dL_isPressed_132 ?_
    refine jj_istore5 F dL_isPressed_133 (hN _ (by decide)) rfl ?_
    refine jj_iload5 F dL_isPressed_135 ?_
    refine jj_iconst F dL_isPressed_137 ?_
    refine jj_irem F (by omega) dL_isPressed_138 ?_
    refine jj_meetb 158 (fun nn : Int => 0 ≤ nn ∧ nn ≤ 11) (fun nn hnn => ?_) (fun J158 => ?_)
    · skip
      have hnn : 0 ≤ nn ∧ nn ≤ 11 := hnn
      obtain ⟨K, hK⟩ : ∃ K, K = sSt dd (nn / 4) (nn % 4) := ⟨_, rfl⟩
      have hK2 : K = 12 * dd + nn := by rw [hK]; unfold sSt; omega
      have k4 := hI.2.2.2.1.1 K (by omega) (by omega)
      have k5 := hI.2.2.2.1.2 K (by omega) (by omega)
      have k6 := sDiscs_0 s K
      have hNm : sNm s dd (nn / 4) (nn % 4) := ⟨by omega, by omega, by omega⟩
      refine jj_istore6 F dL_isPressed_158 (hN _ (by decide)) rfl ?_
      refine jj_iload5 F dL_isPressed_160 ?_
      refine jj_bipush F (by decide) dL_isPressed_162 ?_
      refine jj_idiv F (by omega) dL_isPressed_164 ?_
      refine jj_istore7 F dL_isPressed_165 (hN _ (by decide)) rfl ?_
      refine jj_aload0 F dL_isPressed_167 ?_
      refine jj_iload4 F dL_isPressed_168 ?_
      refine jj_iload6 F dL_isPressed_170 ?_
      refine jj_iconst F dL_isPressed_172 ?_
      refine jj_idiv F (by omega) dL_isPressed_173 ?_
      refine jj_iload6 F dL_isPressed_174 ?_
      refine jj_iconst F dL_isPressed_176 ?_
      refine jj_irem F (by omega) dL_isPressed_177 ?_
      refine jj_iconst F dL_isPressed_178 ?_
      refine lq_s0 F hP hI ⟨by omega, by omega, by omega⟩ (k := 3) (n0 := 18) ⟨Nat.le_of_ble_eq_true rfl, Nat.le_of_ble_eq_true rfl, Nat.le_of_ble_eq_true rfl, Nat.le_of_ble_eq_true rfl, Nat.le_of_ble_eq_true rfl, Nat.le_of_ble_eq_true rfl, Nat.le_of_ble_eq_true rfl⟩ dL_isPressed_179 (fun G hP => ?_)
      rw [← hK]
      refine jj_istore8 F dL_isPressed_182 (hN _ (by decide)) rfl ?_
      refine jj_aload0 F dL_isPressed_184 ?_
      refine jj_iload4 F dL_isPressed_185 ?_
      refine jj_iload6 F dL_isPressed_187 ?_
      refine jj_iconst F dL_isPressed_189 ?_
      refine jj_idiv F (by omega) dL_isPressed_190 ?_
      refine jj_iload6 F dL_isPressed_191 ?_
      refine jj_iconst F dL_isPressed_193 ?_
      refine jj_irem F (by omega) dL_isPressed_194 ?_
      refine jj_iconst F dL_isPressed_195 ?_
      refine lq_s1 F hP hI ⟨by omega, by omega, by omega⟩ (k := 6) (n0 := 36) ⟨Nat.le_of_ble_eq_true rfl, Nat.le_of_ble_eq_true rfl, Nat.le_of_ble_eq_true rfl, Nat.le_of_ble_eq_true rfl, Nat.le_of_ble_eq_true rfl, Nat.le_of_ble_eq_true rfl, Nat.le_of_ble_eq_true rfl⟩ dL_isPressed_196 (fun G hP => ?_)
      rw [← hK]
      refine jj_istore9 F dL_isPressed_199 (hN _ (by decide)) rfl ?_
      refine jj_aload0 F dL_isPressed_201 ?_
      refine jj_iload4 F dL_isPressed_202 ?_
      refine jj_iload6 F dL_isPressed_204 ?_
      refine jj_iconst F dL_isPressed_206 ?_
      refine jj_idiv F (by omega) dL_isPressed_207 ?_
      refine jj_iload6 F dL_isPressed_208 ?_
      refine jj_iconst F dL_isPressed_210 ?_
      refine jj_irem F (by omega) dL_isPressed_211 ?_
      refine jj_iconst F dL_isPressed_212 ?_
      refine lq_s2 F hP hI ⟨by omega, by omega, by omega⟩ (k := 9) (n0 := 54) ⟨Nat.le_of_ble_eq_true rfl, Nat.le_of_ble_eq_true rfl, Nat.le_of_ble_eq_true rfl, Nat.le_of_ble_eq_true rfl, Nat.le_of_ble_eq_true rfl, Nat.le_of_ble_eq_true rfl, Nat.le_of_ble_eq_true rfl⟩ dL_isPressed_213 (fun G hP => ?_)
      rw [← hK]
      refine jj_istore10 F dL_isPressed_216 (hN _ (by decide)) rfl ?_
      refine jj_iconst F dL_isPressed_218 ?_
      refine jj_iload7 F dL_isPressed_219 ?_
      refine jj_bipush F (by decide) dL_isPressed_221 ?_
      refine jj_irem F (by omega) dL_isPressed_223 ?_
      refine jj_iadd F dL_isPressed_224 ?_
      refine jj_istore11 F dL_isPressed_225 (hN _ (by decide)) rfl ?_
      refine jj_iload2 F dL_isPressed_227 ?_
      refine jj_bipush F (by decide) dL_isPressed_228 ?_
      refine jj_icmp_ge F (tgt := 377) dL_isPressed_230 rfl (by omega) (fun c230 => ?_) (fun c230 => ?_)
      · skip
        refine jj_iload2 F dL_isPressed_377 ?_
        refine jj_bipush F (by decide) dL_isPressed_378 ?_
        refine jj_icmp_ge F (tgt := 474) dL_isPressed_380 rfl (by omega) (fun c380 => ?_) (fun c380 => ?_)
        · skip
          refine jj_iload7 F dL_isPressed_474 ?_
          refine jj_bipush F (by decide) dL_isPressed_476 ?_
          refine jj_irem F (by omega) dL_isPressed_478 ?_
          refine jj_istore12 F dL_isPressed_479 (hN _ (by decide)) rfl ?_
          have A0 := acc_eq hL.I hL.E hL.J (by omega) (q := (x / 10 / 36 % 6)) (by omega)
          have sc := sSec_in hI.2.2.1 hd (x / 10 / 36 % 6)
          refine jj_aload0 F dL_isPressed_481 ?_
          refine jj_iload12 F dL_isPressed_482 ?_
          refine lq_ac F hP hI (by omega) (k := 12) (n0 := 72) ⟨Nat.le_of_ble_eq_true rfl, Nat.le_of_ble_eq_true rfl, Nat.le_of_ble_eq_true rfl, Nat.le_of_ble_eq_true rfl, Nat.le_of_ble_eq_true rfl, Nat.le_of_ble_eq_true rfl, Nat.le_of_ble_eq_true rfl⟩ dL_isPressed_484 (fun G hP => ?_)
          refine jj_istore13 F dL_isPressed_487 (hN _ (by decide)) rfl ?_
          refine jj_iload2 F dL_isPressed_489 ?_
          refine jj_bipush F (by decide) dL_isPressed_490 ?_
          refine jj_icmp_ge F (tgt := 626) dL_isPressed_492 rfl (by omega) (fun c492 => ?_) (fun c492 => ?_)
          · skip
            refine jj_iload2 F dL_isPressed_626 ?_
            refine jj_bipush F (by decide) dL_isPressed_627 ?_
            refine jj_icmp_ge F (tgt := 727) dL_isPressed_629 rfl (by omega) (fun c629 => ?_) (fun c629 => ?_)
            · skip
              refine jj_aload0 F dL_isPressed_727 ?_
              refine jj_bipush F (by decide) dL_isPressed_728 ?_
              refine jj_iload4 F dL_isPressed_730 ?_
              refine jj_iload6 F dL_isPressed_732 ?_
              refine jj_iconst F dL_isPressed_734 ?_
              refine jj_idiv F (by omega) dL_isPressed_735 ?_
              refine jj_iload6 F dL_isPressed_736 ?_
              refine jj_iconst F dL_isPressed_738 ?_
              refine jj_irem F (by omega) dL_isPressed_739 ?_
              refine jj_iconst F dL_isPressed_740 ?_
              refine jj_iconst F dL_isPressed_741 ?_
              by_cases hdc : sDiscs s K = s 18 K - s 19 K ∨ s 22 0 = 20
              · skip
                refine la_no F (ka_disc F.tr hP hI (by omega) (by omega) (by omega)) 2 (-1763000000) (by unfold t_disc; rw [if_neg (fun hz => hz hNm), if_pos (by rw [← hK]; exact hdc)]) (by decide) (fun h => by rw [h]; rfl) (k := 24) (n0 := 202) ⟨Nat.le_of_ble_eq_true rfl, Nat.le_of_ble_eq_true rfl, Nat.le_of_ble_eq_true rfl, Nat.le_of_ble_eq_true rfl, Nat.le_of_ble_eq_true rfl, Nat.le_of_ble_eq_true rfl, Nat.le_of_ble_eq_true rfl⟩ dL_isPressed_742 (fun G hP => ?_)
                refine jj_istore14 F dL_isPressed_745 (hN _ (by decide)) rfl ?_
                refine jj_iload14 F dL_isPressed_747 ?_
                refine jj_ldc F (v := -1763000000) cn_L_128 (by decide) dL_isPressed_749 ?_
                refine jj_icmp_eq F (tgt := 776) dL_isPressed_751 rfl (by omega) (fun c751 => ?_) (fun c751 => by exfalso; omega)
                refine jj_iconst F dL_isPressed_776 ?_
                refine jj_goto F (tgt := 781) dL_isPressed_777 rfl ?_
                refine jj_istore15 F dL_isPressed_781 (hN _ (by decide)) rfl ?_
                refine jj_aload1 F dL_isPressed_783 ?_
                refine jj_iconst F dL_isPressed_784 ?_
                refine jj_dup2 F rfl rfl dL_isPressed_785 ?_
                refine jm_ald F hP (by omega) dL_isPressed_786 ?_
                refine jj_iload14 F dL_isPressed_787 ?_
                refine jj_if_lt F (tgt := 796) dL_isPressed_789 rfl (by omega) (fun c789 => ?_) (fun c789 => by exfalso; omega)
                refine jj_iconst F dL_isPressed_796 ?_
                refine jj_iadd F dL_isPressed_797 ?_
                refine jm_ast F hP (by omega) dL_isPressed_798 (fun G hP => ?_)
                rw [ju_same] at hP
                refine jj_iload15 F dL_isPressed_799 ?_
                exact jj_zret B dL_isPressed_801 ⟨Nat.le_of_ble_eq_true rfl, Nat.le_of_ble_eq_true rfl⟩ (Or.inr rfl) ⟨1, rfl, rfl, _, _, _, _, _, c, by omega, (hL.mono (by omega)), hP⟩
              · skip
                have ht : t_disc s dd (nn / 4) (nn % 4) = 0 := (by unfold t_disc; rw [if_neg (fun hz => hz hNm), if_neg (by rw [← hK]; exact hdc)])
                obtain ⟨hL2, fr, e22, eg⟩ := LI_disc (hL.mono (by omega)) (by omega) ht
                obtain ⟨s2, hs⟩ : ∃ s2, s2 = n_disc s dd (nn / 4) (nn % 4) := ⟨_, rfl⟩
                rw [← hs] at hL2 e22 eg
                obtain ⟨m2, hm2⟩ : ∃ m2, m2 = ju m 3 (m 3 + 1) := ⟨_, rfl⟩
                rw [← hm2] at hL2
                refine la_ok F (ka_disc F.tr hP hI (by omega) (by omega) (by omega)) ht (k := 24) (n0 := 202) ⟨Nat.le_of_ble_eq_true rfl, Nat.le_of_ble_eq_true rfl, Nat.le_of_ble_eq_true rfl, Nat.le_of_ble_eq_true rfl, Nat.le_of_ble_eq_true rfl, Nat.le_of_ble_eq_true rfl, Nat.le_of_ble_eq_true rfl⟩ dL_isPressed_742 (fun G hP => ?_)
                rw [← hs] at hP
                rw [fr]
                have hI := hL2.I
                refine jj_istore14 F dL_isPressed_745 (hN _ (by decide)) rfl ?_
                refine jj_iload14 F dL_isPressed_747 ?_
                refine jj_ldc F (v := -1763000000) cn_L_128 (by decide) dL_isPressed_749 ?_
                refine jj_icmp_eq F (tgt := 776) dL_isPressed_751 rfl (by omega) (fun c751 => by exfalso; omega) (fun c751 => ?_)
                refine jj_iload14 F dL_isPressed_754 ?_
                refine jj_aload1 F dL_isPressed_756 ?_
                refine jj_iconst F dL_isPressed_757 ?_
                refine jm_ald F hP (by omega) dL_isPressed_758 ?_
                refine jj_icmp_ne F (tgt := 780) dL_isPressed_759 rfl (by omega) (fun c759 => by exfalso; omega) (fun c759 => ?_)
                refine jj_iload10 F dL_isPressed_762 ?_
                refine jj_if_le F (tgt := 780) dL_isPressed_764 rfl (by omega) (fun c764 => by exfalso; omega) (fun c764 => ?_)
                refine jj_aload0 F dL_isPressed_767 ?_
                refine jj_iload14 F dL_isPressed_768 ?_
                refine lq_gr F hP hI (by omega) (k := 27) (n0 := 220) ⟨Nat.le_of_ble_eq_true rfl, Nat.le_of_ble_eq_true rfl, Nat.le_of_ble_eq_true rfl, Nat.le_of_ble_eq_true rfl, Nat.le_of_ble_eq_true rfl, Nat.le_of_ble_eq_true rfl, Nat.le_of_ble_eq_true rfl⟩ dL_isPressed_770 (fun G hP => ?_)
                rw [eg]
                refine jj_if_ne F (tgt := 780) dL_isPressed_773 rfl (by omega) (fun c773 => by exfalso; omega) (fun c773 => ?_)
                refine jj_iconst F dL_isPressed_776 ?_
                refine jj_goto F (tgt := 781) dL_isPressed_777 rfl ?_
                refine jj_istore15 F dL_isPressed_781 (hN _ (by decide)) rfl ?_
                refine jj_aload1 F dL_isPressed_783 ?_
                refine jj_iconst F dL_isPressed_784 ?_
                refine jj_dup2 F rfl rfl dL_isPressed_785 ?_
                refine jm_ald F hP (by omega) dL_isPressed_786 ?_
                refine jj_iload14 F dL_isPressed_787 ?_
                refine jj_if_lt F (tgt := 796) dL_isPressed_789 rfl (by omega) (fun c789 => by exfalso; omega) (fun c789 => ?_)
                refine jj_iconst F dL_isPressed_792 ?_
                refine jj_goto F (tgt := 797) dL_isPressed_793 rfl ?_
                refine jj_iadd F dL_isPressed_797 ?_
                refine jm_ast F hP (by omega) dL_isPressed_798 (fun G hP => ?_)
                rw [← hm2] at hP
                refine jj_iload15 F dL_isPressed_799 ?_
                exact jj_zret B dL_isPressed_801 ⟨Nat.le_of_ble_eq_true rfl, Nat.le_of_ble_eq_true rfl⟩ (Or.inr rfl) ⟨1, rfl, rfl, _, _, _, _, _, c + 1, by omega, hL2, hP⟩
            · skip
              refine jj_aload0 F dL_isPressed_632 ?_
              refine jj_bipush F (by decide) dL_isPressed_633 ?_
              refine jj_iload4 F dL_isPressed_635 ?_
              refine jj_iload6 F dL_isPressed_637 ?_
              refine jj_iconst F dL_isPressed_639 ?_
              refine jj_idiv F (by omega) dL_isPressed_640 ?_
              refine jj_iload6 F dL_isPressed_641 ?_
              refine jj_iconst F dL_isPressed_643 ?_
              refine jj_irem F (by omega) dL_isPressed_644 ?_
              refine jj_iload11 F dL_isPressed_645 ?_
              refine jj_iconst F dL_isPressed_647 ?_
              by_cases hbk : s 18 K - s 19 K - sDiscs s K < (1 + x / 10 / 36 % 60)
              · skip
                refine la_no F (ka_back F.tr hP hI (by omega) (by omega) (by omega) (by omega) hj) 3 (-1763000000) (by unfold t_back; rw [if_neg (fun hz => hz hNm), if_neg (by omega), if_pos (by rw [← hK]; exact hbk)]) (by decide) (fun h => by rw [h]; rfl) (k := 24) (n0 := 202) ⟨Nat.le_of_ble_eq_true rfl, Nat.le_of_ble_eq_true rfl, Nat.le_of_ble_eq_true rfl, Nat.le_of_ble_eq_true rfl, Nat.le_of_ble_eq_true rfl, Nat.le_of_ble_eq_true rfl, Nat.le_of_ble_eq_true rfl⟩ dL_isPressed_648 (fun G hP => ?_)
                refine jj_istore14 F dL_isPressed_651 (hN _ (by decide)) rfl ?_
                refine jj_aload0 F dL_isPressed_653 ?_
                refine jj_iload12 F dL_isPressed_654 ?_
                refine lq_ac F hP hI (by omega) (k := 27) (n0 := 220) ⟨Nat.le_of_ble_eq_true rfl, Nat.le_of_ble_eq_true rfl, Nat.le_of_ble_eq_true rfl, Nat.le_of_ble_eq_true rfl, Nat.le_of_ble_eq_true rfl, Nat.le_of_ble_eq_true rfl, Nat.le_of_ble_eq_true rfl⟩ dL_isPressed_656 (fun G hP => ?_)
                refine jj_iload13 F dL_isPressed_659 ?_
                refine jj_isub F dL_isPressed_661 ?_
                refine jj_istore15 F dL_isPressed_662 (hN _ (by decide)) rfl ?_
                refine jj_iload14 F dL_isPressed_664 ?_
                refine jj_if_ge F (tgt := 689) dL_isPressed_666 rfl (by omega) (fun c666 => by exfalso; omega) (fun c666 => ?_)
                refine jj_iload14 F dL_isPressed_669 ?_
                refine jj_ldc F (v := -1763000000) cn_L_128 (by decide) dL_isPressed_671 ?_
                refine jj_icmp_ne F (tgt := 685) dL_isPressed_673 rfl (by omega) (fun c673 => by exfalso; omega) (fun c673 => ?_)
                refine jj_iload15 F dL_isPressed_676 ?_
                refine jj_if_ne F (tgt := 685) dL_isPressed_678 rfl (by omega) (fun c678 => by exfalso; omega) (fun c678 => ?_)
                refine jj_iconst F dL_isPressed_681 ?_
                refine jj_goto F (tgt := 726) dL_isPressed_682 rfl ?_
                exact jj_zret B dL_isPressed_726 ⟨Nat.le_of_ble_eq_true rfl, Nat.le_of_ble_eq_true rfl⟩ (Or.inr rfl) ⟨1, rfl, rfl, _, _, _, _, _, c, by omega, (hL.mono (by omega)), hP⟩
              · skip
                have ht : t_back s dd (nn / 4) (nn % 4) (1 + x / 10 / 36 % 60) = 0 := (by unfold t_back; rw [if_neg (fun hz => hz hNm), if_neg (by omega), if_neg (by rw [← hK]; exact hbk)])
                obtain ⟨hL2, fr, fx, hdu⟩ := LI_back (hL.mono (by omega)) (by omega) (by omega) ht
                have hdu2 := hdu (x / 10 / 36 % 6) (by omega) (by omega)
                obtain ⟨s2, hs⟩ : ∃ s2, s2 = n_back s dd (nn / 4) (nn % 4) (1 + x / 10 / 36 % 60) := ⟨_, rfl⟩
                rw [← hs] at hL2 hdu2
                rw [← hK] at fr fx
                refine la_ok F (ka_back F.tr hP hI (by omega) (by omega) (by omega) (by omega) hj) ht (k := 24) (n0 := 202) ⟨Nat.le_of_ble_eq_true rfl, Nat.le_of_ble_eq_true rfl, Nat.le_of_ble_eq_true rfl, Nat.le_of_ble_eq_true rfl, Nat.le_of_ble_eq_true rfl, Nat.le_of_ble_eq_true rfl, Nat.le_of_ble_eq_true rfl⟩ dL_isPressed_648 (fun G hP => ?_)
                rw [← hs] at hP
                rw [fr]
                have hI := hL2.I
                refine jj_istore14 F dL_isPressed_651 (hN _ (by decide)) rfl ?_
                refine jj_aload0 F dL_isPressed_653 ?_
                refine jj_iload12 F dL_isPressed_654 ?_
                refine lq_ac F hP hI (by omega) (k := 27) (n0 := 220) ⟨Nat.le_of_ble_eq_true rfl, Nat.le_of_ble_eq_true rfl, Nat.le_of_ble_eq_true rfl, Nat.le_of_ble_eq_true rfl, Nat.le_of_ble_eq_true rfl, Nat.le_of_ble_eq_true rfl, Nat.le_of_ble_eq_true rfl⟩ dL_isPressed_656 (fun G hP => ?_)
                refine jj_iload13 F dL_isPressed_659 ?_
                refine jj_isub F dL_isPressed_661 ?_
                refine jj_istore15 F dL_isPressed_662 (hN _ (by decide)) rfl ?_
                refine jj_iload14 F dL_isPressed_664 ?_
                refine jj_if_ge F (tgt := 689) dL_isPressed_666 rfl (by omega) (fun c666 => ?_) (fun c666 => by exfalso; omega)
                refine jj_iload14 F dL_isPressed_689 ?_
                refine jj_iload10 F dL_isPressed_691 ?_
                refine jj_iload11 F dL_isPressed_693 ?_
                refine jj_isub F dL_isPressed_695 ?_
                refine jj_icmp_ne F (tgt := 725) dL_isPressed_696 rfl (by omega) (fun c696 => by exfalso; omega) (fun c696 => ?_)
                refine jj_iload14 F dL_isPressed_699 ?_
                refine jj_if_lt F (tgt := 725) dL_isPressed_701 rfl (by omega) (fun c701 => by exfalso; omega) (fun c701 => ?_)
                refine jj_iload15 F dL_isPressed_704 ?_
                refine jj_if_gt F (tgt := 725) dL_isPressed_706 rfl (by omega) (fun c706 => by exfalso; omega) (fun c706 => ?_)
                refine jj_iload15 F dL_isPressed_709 ?_
                refine jj_bipush F (by decide) dL_isPressed_711 ?_
                refine jj_iload11 F dL_isPressed_713 ?_
                refine jj_imul F dL_isPressed_715 ?_
                refine jj_iconst F dL_isPressed_716 ?_
                refine jj_isub F dL_isPressed_717 ?_
                refine jj_icmp_lt F (tgt := 725) dL_isPressed_718 rfl (by omega) (fun c718 => by exfalso; omega) (fun c718 => ?_)
                refine jj_iconst F dL_isPressed_721 ?_
                refine jj_goto F (tgt := 726) dL_isPressed_722 rfl ?_
                exact jj_zret B dL_isPressed_726 ⟨Nat.le_of_ble_eq_true rfl, Nat.le_of_ble_eq_true rfl⟩ (Or.inr rfl) ⟨1, rfl, rfl, _, _, _, _, _, c + 1, by omega, hL2, hP⟩
          · skip
            refine jj_aload0 F dL_isPressed_495 ?_
            refine jj_bipush F (by decide) dL_isPressed_496 ?_
            refine jj_iload4 F dL_isPressed_498 ?_
            refine jj_iload6 F dL_isPressed_500 ?_
            refine jj_iconst F dL_isPressed_502 ?_
            refine jj_idiv F (by omega) dL_isPressed_503 ?_
            refine jj_iload6 F dL_isPressed_504 ?_
            refine jj_iconst F dL_isPressed_506 ?_
            refine jj_irem F (by omega) dL_isPressed_507 ?_
            refine jj_iload11 F dL_isPressed_508 ?_
            refine jj_iconst F dL_isPressed_510 ?_
            by_cases hsl : s 17 K - s 18 K < (1 + x / 10 / 36 % 60) ∨ s 31 0 = 100
            · skip
              refine la_no F (ka_sell F.tr hP hI (by omega) (by omega) (by omega) (by omega)) 3 (-1763000000) (by unfold t_sell; rw [if_neg (fun hz => hz hNm), if_neg (by omega), if_pos (by rw [← hK]; exact hsl)]) (by decide) (fun h => by rw [h]; rfl) (k := 24) (n0 := 202) ⟨Nat.le_of_ble_eq_true rfl, Nat.le_of_ble_eq_true rfl, Nat.le_of_ble_eq_true rfl, Nat.le_of_ble_eq_true rfl, Nat.le_of_ble_eq_true rfl, Nat.le_of_ble_eq_true rfl, Nat.le_of_ble_eq_true rfl⟩ dL_isPressed_511 (fun G hP => ?_)
              refine jj_istore14 F dL_isPressed_514 (hN _ (by decide)) rfl ?_
              refine jj_aload1 F dL_isPressed_516 ?_
              refine jj_bipush F (by decide) dL_isPressed_517 ?_
              refine jj_dup2 F rfl rfl dL_isPressed_519 ?_
              refine jm_ald F hP (by omega) dL_isPressed_520 ?_
              refine jj_iload14 F dL_isPressed_521 ?_
              refine jj_if_lt F (tgt := 530) dL_isPressed_523 rfl (by omega) (fun c523 => ?_) (fun c523 => by exfalso; omega)
              refine jj_iconst F dL_isPressed_530 ?_
              refine jj_iadd F dL_isPressed_531 ?_
              refine jm_ast F hP (by omega) dL_isPressed_532 (fun G hP => ?_)
              rw [ju_same] at hP
              refine jj_aload0 F dL_isPressed_533 ?_
              refine jj_iload12 F dL_isPressed_534 ?_
              refine lq_ac F hP hI (by omega) (k := 27) (n0 := 220) ⟨Nat.le_of_ble_eq_true rfl, Nat.le_of_ble_eq_true rfl, Nat.le_of_ble_eq_true rfl, Nat.le_of_ble_eq_true rfl, Nat.le_of_ble_eq_true rfl, Nat.le_of_ble_eq_true rfl, Nat.le_of_ble_eq_true rfl⟩ dL_isPressed_536 (fun G hP => ?_)
              refine jj_iload13 F dL_isPressed_539 ?_
              refine jj_isub F dL_isPressed_541 ?_
              refine jj_istore15 F dL_isPressed_542 (hN _ (by decide)) rfl ?_
              refine jj_iload14 F dL_isPressed_544 ?_
              refine jj_if_ge F (tgt := 569) dL_isPressed_546 rfl (by omega) (fun c546 => by exfalso; omega) (fun c546 => ?_)
              refine jj_iload14 F dL_isPressed_549 ?_
              refine jj_ldc F (v := -1763000000) cn_L_128 (by decide) dL_isPressed_551 ?_
              refine jj_icmp_ne F (tgt := 565) dL_isPressed_553 rfl (by omega) (fun c553 => by exfalso; omega) (fun c553 => ?_)
              refine jj_iload15 F dL_isPressed_556 ?_
              refine jj_if_ne F (tgt := 565) dL_isPressed_558 rfl (by omega) (fun c558 => by exfalso; omega) (fun c558 => ?_)
              refine jj_iconst F dL_isPressed_561 ?_
              refine jj_goto F (tgt := 625) dL_isPressed_562 rfl ?_
              exact jj_zret B dL_isPressed_625 ⟨Nat.le_of_ble_eq_true rfl, Nat.le_of_ble_eq_true rfl⟩ (Or.inr rfl) ⟨1, rfl, rfl, _, _, _, _, _, c, by omega, (hL.mono (by omega)), hP⟩
            · skip
              have ht : t_sell s dd (nn / 4) (nn % 4) (1 + x / 10 / 36 % 60) = 0 := (by unfold t_sell; rw [if_neg (fun hz => hz hNm), if_neg (by omega), if_neg (by rw [← hK]; exact hsl)])
              obtain ⟨hL2, e13, e14, fr, f17, hdu⟩ := LI_sell hL (by omega) (by omega) ht
              obtain ⟨du, d1, d2, d3, f36⟩ := hdu (x / 10 / 36 % 6) (by omega) (by omega)
              obtain ⟨s2, hs⟩ : ∃ s2, s2 = n_sell s dd (nn / 4) (nn % 4) (1 + x / 10 / 36 % 60) := ⟨_, rfl⟩
              rw [← hs] at hL2 e13 e14 f36
              rw [← hK] at fr f17
              have e13b : s2 13 0 = s 13 0 := by rw [e13]
              have eS : sSec s2 dd (x / 10 / 36 % 6) = sSec s dd (x / 10 / 36 % 6) := by rw [sSec_c e14]
              obtain ⟨m2, hm2⟩ : ∃ m2, m2 = ju m 6 (m 6 + 1) := ⟨_, rfl⟩
              rw [← hm2] at hL2
              refine la_ok F (ka_sell F.tr hP hI (by omega) (by omega) (by omega) (by omega)) ht (k := 24) (n0 := 202) ⟨Nat.le_of_ble_eq_true rfl, Nat.le_of_ble_eq_true rfl, Nat.le_of_ble_eq_true rfl, Nat.le_of_ble_eq_true rfl, Nat.le_of_ble_eq_true rfl, Nat.le_of_ble_eq_true rfl, Nat.le_of_ble_eq_true rfl⟩ dL_isPressed_511 (fun G hP => ?_)
              rw [← hs] at hP
              rw [fr]
              have hI := hL2.I
              refine jj_istore14 F dL_isPressed_514 (hN _ (by decide)) rfl ?_
              refine jj_aload1 F dL_isPressed_516 ?_
              refine jj_bipush F (by decide) dL_isPressed_517 ?_
              refine jj_dup2 F rfl rfl dL_isPressed_519 ?_
              refine jm_ald F hP (by omega) dL_isPressed_520 ?_
              refine jj_iload14 F dL_isPressed_521 ?_
              refine jj_if_lt F (tgt := 530) dL_isPressed_523 rfl (by omega) (fun c523 => by exfalso; omega) (fun c523 => ?_)
              refine jj_iconst F dL_isPressed_526 ?_
              refine jj_goto F (tgt := 531) dL_isPressed_527 rfl ?_
              refine jj_iadd F dL_isPressed_531 ?_
              refine jm_ast F hP (by omega) dL_isPressed_532 (fun G hP => ?_)
              rw [← hm2] at hP
              refine jj_aload0 F dL_isPressed_533 ?_
              refine jj_iload12 F dL_isPressed_534 ?_
              refine lq_ac F hP hI (by omega) (k := 27) (n0 := 220) ⟨Nat.le_of_ble_eq_true rfl, Nat.le_of_ble_eq_true rfl, Nat.le_of_ble_eq_true rfl, Nat.le_of_ble_eq_true rfl, Nat.le_of_ble_eq_true rfl, Nat.le_of_ble_eq_true rfl, Nat.le_of_ble_eq_true rfl⟩ dL_isPressed_536 (fun G hP => ?_)
              rw [f36]
              refine jj_iload13 F dL_isPressed_539 ?_
              refine jj_isub F dL_isPressed_541 ?_
              refine jj_istore15 F dL_isPressed_542 (hN _ (by decide)) rfl ?_
              refine jj_iload14 F dL_isPressed_544 ?_
              refine jj_if_ge F (tgt := 569) dL_isPressed_546 rfl (by omega) (fun c546 => ?_) (fun c546 => by exfalso; omega)
              refine jj_iload14 F dL_isPressed_569 ?_
              refine jj_iload10 F dL_isPressed_571 ?_
              refine jj_iload11 F dL_isPressed_573 ?_
              refine jj_iadd F dL_isPressed_575 ?_
              refine jj_icmp_ne F (tgt := 624) dL_isPressed_576 rfl (by omega) (fun c576 => by exfalso; omega) (fun c576 => ?_)
              refine jj_iload10 F dL_isPressed_579 ?_
              refine jj_iload11 F dL_isPressed_581 ?_
              refine jj_iadd F dL_isPressed_583 ?_
              refine jj_iload9 F dL_isPressed_584 ?_
              refine jj_icmp_gt F (tgt := 624) dL_isPressed_586 rfl (by omega) (fun c586 => by exfalso; omega) (fun c586 => ?_)
              refine jj_iload15 F dL_isPressed_589 ?_
              refine jj_if_lt F (tgt := 624) dL_isPressed_591 rfl (by omega) (fun c591 => by exfalso; omega) (fun c591 => ?_)
              refine jj_iload15 F dL_isPressed_594 ?_
              refine jj_iload11 F dL_isPressed_596 ?_
              refine jj_bipush F (by decide) dL_isPressed_598 ?_
              refine jj_imul F dL_isPressed_600 ?_
              refine jj_icmp_gt F (tgt := 624) dL_isPressed_601 rfl (by omega) (fun c601 => by exfalso; omega) (fun c601 => ?_)
              refine jj_aload0 F dL_isPressed_604 ?_
              refine jj_iload4 F dL_isPressed_605 ?_
              refine jj_iload12 F dL_isPressed_607 ?_
              refine lq_se F hP hI (by omega) (by omega) (k := 30) (n0 := 238) ⟨Nat.le_of_ble_eq_true rfl, Nat.le_of_ble_eq_true rfl, Nat.le_of_ble_eq_true rfl, Nat.le_of_ble_eq_true rfl, Nat.le_of_ble_eq_true rfl, Nat.le_of_ble_eq_true rfl, Nat.le_of_ble_eq_true rfl⟩ dL_isPressed_609 (fun G hP => ?_)
              rw [eS]
              refine jj_if_gt F (tgt := 620) dL_isPressed_612 rfl (by omega) (fun c612 => ?_) (fun c612 => ?_)
              · skip
                refine jj_iconst F dL_isPressed_620 ?_
                refine jj_goto F (tgt := 625) dL_isPressed_621 rfl ?_
                exact jj_zret B dL_isPressed_625 ⟨Nat.le_of_ble_eq_true rfl, Nat.le_of_ble_eq_true rfl⟩ (Or.inr rfl) ⟨1, rfl, rfl, _, _, _, _, _, c + 1, by omega, hL2, hP⟩
              · skip
                refine jj_iload15 F dL_isPressed_615 ?_
                refine jj_if_ne F (tgt := 624) dL_isPressed_617 rfl (by omega) (fun c617 => by exfalso; omega) (fun c617 => ?_)
                refine jj_iconst F dL_isPressed_620 ?_
                refine jj_goto F (tgt := 625) dL_isPressed_621 rfl ?_
                exact jj_zret B dL_isPressed_625 ⟨Nat.le_of_ble_eq_true rfl, Nat.le_of_ble_eq_true rfl⟩ (Or.inr rfl) ⟨1, rfl, rfl, _, _, _, _, _, c + 1, by omega, hL2, hP⟩
        · skip
          refine jj_aload0 F dL_isPressed_383 ?_
          refine jj_bipush F (by decide) dL_isPressed_384 ?_
          refine jj_iload4 F dL_isPressed_386 ?_
          refine jj_iload6 F dL_isPressed_388 ?_
          refine jj_iconst F dL_isPressed_390 ?_
          refine jj_idiv F (by omega) dL_isPressed_391 ?_
          refine jj_iload6 F dL_isPressed_392 ?_
          refine jj_iconst F dL_isPressed_394 ?_
          refine jj_irem F (by omega) dL_isPressed_395 ?_
          refine jj_iload11 F dL_isPressed_396 ?_
          refine jj_iconst F dL_isPressed_398 ?_
          by_cases hpr : s 16 K = -1 ∨ 500 < s 17 K + (1 + x / 10 / 36 % 60)
          · skip
            by_cases hmd : s 16 K < 0
            · skip
              refine la_no F (ka_press F.tr hP hI (by omega) (by omega) (by omega) (by omega)) 3 (-1763000000) (by unfold t_press; rw [if_neg (fun hz => hz hNm), if_neg (by omega), if_pos (by rw [← hK]; exact hpr)]) (by decide) (fun h => by rw [h]; rfl) (k := 21) (n0 := 184) ⟨Nat.le_of_ble_eq_true rfl, Nat.le_of_ble_eq_true rfl, Nat.le_of_ble_eq_true rfl, Nat.le_of_ble_eq_true rfl, Nat.le_of_ble_eq_true rfl, Nat.le_of_ble_eq_true rfl, Nat.le_of_ble_eq_true rfl⟩ dL_isPressed_399 (fun G hP => ?_)
              refine jj_iload8 F dL_isPressed_402 ?_
              refine jj_if_lt F (tgt := 426) dL_isPressed_404 rfl (by omega) (fun c404 => ?_) (fun c404 => by exfalso; omega)
              refine jj_ldc F (v := -1763000000) cn_L_128 (by decide) dL_isPressed_426 ?_
              refine jj_icmp_ne F (tgt := 472) dL_isPressed_428 rfl (by omega) (fun c428 => by exfalso; omega) (fun c428 => ?_)
              refine jj_iload8 F dL_isPressed_431 ?_
              refine jj_if_lt F (tgt := 468) dL_isPressed_433 rfl (by omega) (fun c433 => ?_) (fun c433 => by exfalso; omega)
              refine jj_iconst F dL_isPressed_468 ?_
              refine jj_goto F (tgt := 473) dL_isPressed_469 rfl ?_
              exact jj_zret B dL_isPressed_473 ⟨Nat.le_of_ble_eq_true rfl, Nat.le_of_ble_eq_true rfl⟩ (Or.inr rfl) ⟨1, rfl, rfl, _, _, _, _, _, c, by omega, (hL.mono (by omega)), hP⟩
            · skip
              refine la_no F (ka_press F.tr hP hI (by omega) (by omega) (by omega) (by omega)) 3 (-1763000000) (by unfold t_press; rw [if_neg (fun hz => hz hNm), if_neg (by omega), if_pos (by rw [← hK]; exact hpr)]) (by decide) (fun h => by rw [h]; rfl) (k := 21) (n0 := 184) ⟨Nat.le_of_ble_eq_true rfl, Nat.le_of_ble_eq_true rfl, Nat.le_of_ble_eq_true rfl, Nat.le_of_ble_eq_true rfl, Nat.le_of_ble_eq_true rfl, Nat.le_of_ble_eq_true rfl, Nat.le_of_ble_eq_true rfl⟩ dL_isPressed_399 (fun G hP => ?_)
              refine jj_iload8 F dL_isPressed_402 ?_
              refine jj_if_lt F (tgt := 426) dL_isPressed_404 rfl (by omega) (fun c404 => by exfalso; omega) (fun c404 => ?_)
              refine jj_iload9 F dL_isPressed_407 ?_
              refine jj_iload11 F dL_isPressed_409 ?_
              refine jj_iadd F dL_isPressed_411 ?_
              refine jj_sipush F (by decide) dL_isPressed_412 ?_
              refine jj_icmp_gt F (tgt := 426) dL_isPressed_415 rfl (by omega) (fun c415 => ?_) (fun c415 => by exfalso; omega)
              refine jj_ldc F (v := -1763000000) cn_L_128 (by decide) dL_isPressed_426 ?_
              refine jj_icmp_ne F (tgt := 472) dL_isPressed_428 rfl (by omega) (fun c428 => by exfalso; omega) (fun c428 => ?_)
              refine jj_iload8 F dL_isPressed_431 ?_
              refine jj_if_lt F (tgt := 468) dL_isPressed_433 rfl (by omega) (fun c433 => by exfalso; omega) (fun c433 => ?_)
              refine jj_iload9 F dL_isPressed_436 ?_
              refine jj_iload11 F dL_isPressed_438 ?_
              refine jj_iadd F dL_isPressed_440 ?_
              refine jj_sipush F (by decide) dL_isPressed_441 ?_
              refine jj_icmp_gt F (tgt := 468) dL_isPressed_444 rfl (by omega) (fun c444 => ?_) (fun c444 => by exfalso; omega)
              refine jj_iconst F dL_isPressed_468 ?_
              refine jj_goto F (tgt := 473) dL_isPressed_469 rfl ?_
              exact jj_zret B dL_isPressed_473 ⟨Nat.le_of_ble_eq_true rfl, Nat.le_of_ble_eq_true rfl⟩ (Or.inr rfl) ⟨1, rfl, rfl, _, _, _, _, _, c, by omega, (hL.mono (by omega)), hP⟩
          · skip
            have ht : t_press s dd (nn / 4) (nn % 4) (1 + x / 10 / 36 % 60) = 0 := (by unfold t_press; rw [if_neg (fun hz => hz hNm), if_neg (by omega), if_neg (by rw [← hK]; exact hpr)])
            obtain ⟨hL2, e21, e13, fr⟩ := LI_press (hL.mono (by omega)) (by omega) ht
            obtain ⟨s2, hs⟩ : ∃ s2, s2 = n_press s dd (nn / 4) (nn % 4) (1 + x / 10 / 36 % 60) := ⟨_, rfl⟩
            rw [← hs] at hL2 e21 e13
            rw [← hK] at e21 fr
            have e13b : s2 13 0 = s 13 0 := by rw [e13]
            refine la_ok F (ka_press F.tr hP hI (by omega) (by omega) (by omega) (by omega)) ht (k := 21) (n0 := 184) ⟨Nat.le_of_ble_eq_true rfl, Nat.le_of_ble_eq_true rfl, Nat.le_of_ble_eq_true rfl, Nat.le_of_ble_eq_true rfl, Nat.le_of_ble_eq_true rfl, Nat.le_of_ble_eq_true rfl, Nat.le_of_ble_eq_true rfl⟩ dL_isPressed_399 (fun G hP => ?_)
            rw [← hs] at hP
            rw [fr]
            have hI := hL2.I
            refine jj_iload8 F dL_isPressed_402 ?_
            refine jj_if_lt F (tgt := 426) dL_isPressed_404 rfl (by omega) (fun c404 => by exfalso; omega) (fun c404 => ?_)
            refine jj_iload9 F dL_isPressed_407 ?_
            refine jj_iload11 F dL_isPressed_409 ?_
            refine jj_iadd F dL_isPressed_411 ?_
            refine jj_sipush F (by decide) dL_isPressed_412 ?_
            refine jj_icmp_gt F (tgt := 426) dL_isPressed_415 rfl (by omega) (fun c415 => by exfalso; omega) (fun c415 => ?_)
            refine jj_iload9 F dL_isPressed_418 ?_
            refine jj_iload11 F dL_isPressed_420 ?_
            refine jj_iadd F dL_isPressed_422 ?_
            refine jj_goto F (tgt := 428) dL_isPressed_423 rfl ?_
            refine jj_icmp_ne F (tgt := 472) dL_isPressed_428 rfl (by omega) (fun c428 => by exfalso; omega) (fun c428 => ?_)
            refine jj_iload8 F dL_isPressed_431 ?_
            refine jj_if_lt F (tgt := 468) dL_isPressed_433 rfl (by omega) (fun c433 => by exfalso; omega) (fun c433 => ?_)
            refine jj_iload9 F dL_isPressed_436 ?_
            refine jj_iload11 F dL_isPressed_438 ?_
            refine jj_iadd F dL_isPressed_440 ?_
            refine jj_sipush F (by decide) dL_isPressed_441 ?_
            refine jj_icmp_gt F (tgt := 468) dL_isPressed_444 rfl (by omega) (fun c444 => by exfalso; omega) (fun c444 => ?_)
            refine jj_aload0 F dL_isPressed_447 ?_
            refine jj_iload4 F dL_isPressed_448 ?_
            refine jj_iload6 F dL_isPressed_450 ?_
            refine jj_iconst F dL_isPressed_452 ?_
            refine jj_idiv F (by omega) dL_isPressed_453 ?_
            refine jj_iload6 F dL_isPressed_454 ?_
            refine jj_iconst F dL_isPressed_456 ?_
            refine jj_irem F (by omega) dL_isPressed_457 ?_
            refine jj_iconst F dL_isPressed_458 ?_
            refine lq_s4 F hP hI ⟨by omega, by omega, by omega⟩ (k := 24) (n0 := 202) ⟨Nat.le_of_ble_eq_true rfl, Nat.le_of_ble_eq_true rfl, Nat.le_of_ble_eq_true rfl, Nat.le_of_ble_eq_true rfl, Nat.le_of_ble_eq_true rfl, Nat.le_of_ble_eq_true rfl, Nat.le_of_ble_eq_true rfl⟩ dL_isPressed_459 (fun G hP => ?_)
            rw [← hK, e21]
            refine jj_aload1 F dL_isPressed_462 ?_
            refine jj_iconst F dL_isPressed_463 ?_
            refine jm_ald F hP (by omega) dL_isPressed_464 ?_
            refine jj_icmp_ne F (tgt := 472) dL_isPressed_465 rfl (by omega) (fun c465 => by exfalso; omega) (fun c465 => ?_)
            refine jj_iconst F dL_isPressed_468 ?_
            refine jj_goto F (tgt := 473) dL_isPressed_469 rfl ?_
            exact jj_zret B dL_isPressed_473 ⟨Nat.le_of_ble_eq_true rfl, Nat.le_of_ble_eq_true rfl⟩ (Or.inr rfl) ⟨1, rfl, rfl, _, _, _, _, _, c + 1, by omega, hL2, hP⟩
      · skip
        refine jj_aload0 F dL_isPressed_233 ?_
        refine jj_bipush F (by decide) dL_isPressed_234 ?_
        refine jj_iload4 F dL_isPressed_236 ?_
        refine jj_iload6 F dL_isPressed_238 ?_
        refine jj_iconst F dL_isPressed_240 ?_
        refine jj_idiv F (by omega) dL_isPressed_241 ?_
        refine jj_iload6 F dL_isPressed_242 ?_
        refine jj_iconst F dL_isPressed_244 ?_
        refine jj_irem F (by omega) dL_isPressed_245 ?_
        refine jj_iconst F dL_isPressed_246 ?_
        refine jj_iconst F dL_isPressed_247 ?_
        have tc := t_stamper_c hNm hK
        rcases (show nn = 0 ∨ (¬ nn = 0 ∧ nn % 4 = 0) ∨ (¬ nn = 0 ∧ ¬ nn % 4 = 0) by omega) with hz | hz | hz
        · skip
          have hnd : sNeed K = -1 := by unfold sNeed; rw [if_pos (by omega)]
          rw [hnd] at tc
          rcases tc with ⟨ht, t1, t2⟩ | ⟨ht, t1⟩
          · skip
            obtain ⟨hL2, e16, e13⟩ := LI_stamper (hL.mono (by omega)) (by omega) ht
            have rin := r_stamper_in hNm b0.1 ht
            have hn16 : ∀ i, n_stamper s dd (nn / 4) (nn % 4) 16 i = if i = K then s 0 0 else s 16 i := fun i => by
              have hn : n_stamper s dd (nn / 4) (nn % 4) = sU (sU s 37 0 0) 16 (sSt dd (nn / 4) (nn % 4)) (s 0 0) := if_pos ht
              rw [hn, ← hK]; rfl
            obtain ⟨s2, hs⟩ : ∃ s2, s2 = n_stamper s dd (nn / 4) (nn % 4) := ⟨_, rfl⟩
            rw [← hs] at hL2 e16 e13 hn16
            rw [← hK] at e16
            have e13b : s2 13 0 = s 13 0 := by rw [e13]
            refine la_ok F (ka_stamper F.tr hP hI (by omega) (by omega) (by omega)) ht (k := 21) (n0 := 184) ⟨Nat.le_of_ble_eq_true rfl, Nat.le_of_ble_eq_true rfl, Nat.le_of_ble_eq_true rfl, Nat.le_of_ble_eq_true rfl, Nat.le_of_ble_eq_true rfl, Nat.le_of_ble_eq_true rfl, Nat.le_of_ble_eq_true rfl⟩ dL_isPressed_248 (fun G hP => ?_)
            rw [← hs] at hP
            have hI := hL2.I
            refine jj_istore12 F dL_isPressed_251 (hN _ (by decide)) rfl ?_
            refine jj_iload8 F dL_isPressed_253 ?_
            refine jj_if_ge F (tgt := 314) dL_isPressed_255 rfl (by omega) (fun c255 => by exfalso; omega) (fun c255 => ?_)
            refine jj_iload6 F dL_isPressed_258 ?_
            refine jj_if_eq F (tgt := 310) dL_isPressed_260 rfl (by omega) (fun c260 => ?_) (fun c260 => by exfalso; omega)
            refine jj_iconst F dL_isPressed_310 ?_
            refine jj_goto F (tgt := 315) dL_isPressed_311 rfl ?_
            refine jj_istore13 F dL_isPressed_315 (hN _ (by decide)) rfl ?_
            refine jj_iload13 F dL_isPressed_317 ?_
            refine jj_if_eq F (tgt := 364) dL_isPressed_319 rfl (by omega) (fun c319 => by exfalso; omega) (fun c319 => ?_)
            refine jj_iload12 F dL_isPressed_322 ?_
            refine jj_iconst F dL_isPressed_324 ?_
            refine jj_icmp_lt F (tgt := 360) dL_isPressed_325 rfl (by omega) (fun c325 => by exfalso; omega) (fun c325 => ?_)
            refine jj_iload12 F dL_isPressed_328 ?_
            refine jj_bipush F (by decide) dL_isPressed_330 ?_
            refine jj_icmp_gt F (tgt := 360) dL_isPressed_332 rfl (by omega) (fun c332 => by exfalso; omega) (fun c332 => ?_)
            refine jj_aload0 F dL_isPressed_335 ?_
            refine jj_iload4 F dL_isPressed_336 ?_
            refine jj_iload6 F dL_isPressed_338 ?_
            refine jj_iconst F dL_isPressed_340 ?_
            refine jj_idiv F (by omega) dL_isPressed_341 ?_
            refine jj_iload6 F dL_isPressed_342 ?_
            refine jj_iconst F dL_isPressed_344 ?_
            refine jj_irem F (by omega) dL_isPressed_345 ?_
            refine jj_iconst F dL_isPressed_346 ?_
            refine lq_s0 F hP hI ⟨by omega, by omega, by omega⟩ (k := 24) (n0 := 202) ⟨Nat.le_of_ble_eq_true rfl, Nat.le_of_ble_eq_true rfl, Nat.le_of_ble_eq_true rfl, Nat.le_of_ble_eq_true rfl, Nat.le_of_ble_eq_true rfl, Nat.le_of_ble_eq_true rfl, Nat.le_of_ble_eq_true rfl⟩ dL_isPressed_347 (fun G hP => ?_)
            rw [← hK, e16]
            refine jj_aload1 F dL_isPressed_350 ?_
            refine jj_iconst F dL_isPressed_351 ?_
            refine jm_ald F hP (by omega) dL_isPressed_352 ?_
            refine jj_icmp_ne F (tgt := 360) dL_isPressed_353 rfl (by omega) (fun c353 => by exfalso; omega) (fun c353 => ?_)
            refine jj_iconst F dL_isPressed_356 ?_
            refine jj_goto F (tgt := 376) dL_isPressed_357 rfl ?_
            exact jj_zret B dL_isPressed_376 ⟨Nat.le_of_ble_eq_true rfl, Nat.le_of_ble_eq_true rfl⟩ (Or.inr rfl) ⟨1, rfl, rfl, _, _, _, _, _, c + 1, by omega, hL2, hP⟩
          · skip
            refine la_no F (ka_stamper F.tr hP hI (by omega) (by omega) (by omega)) 2 (-1763000000) (by unfold t_stamper; rw [if_neg (fun hz => hz hNm), if_neg (by rw [← hK, hnd]; exact t1)]) (by decide) (fun h => by rw [h]; rfl) (k := 21) (n0 := 184) ⟨Nat.le_of_ble_eq_true rfl, Nat.le_of_ble_eq_true rfl, Nat.le_of_ble_eq_true rfl, Nat.le_of_ble_eq_true rfl, Nat.le_of_ble_eq_true rfl, Nat.le_of_ble_eq_true rfl, Nat.le_of_ble_eq_true rfl⟩ dL_isPressed_248 (fun G hP => ?_)
            refine jj_istore12 F dL_isPressed_251 (hN _ (by decide)) rfl ?_
            refine jj_iload8 F dL_isPressed_253 ?_
            refine jj_if_ge F (tgt := 314) dL_isPressed_255 rfl (by omega) (fun c255 => ?_) (fun c255 => by exfalso; omega)
            refine jj_iconst F dL_isPressed_314 ?_
            refine jj_istore13 F dL_isPressed_315 (hN _ (by decide)) rfl ?_
            refine jj_iload13 F dL_isPressed_317 ?_
            refine jj_if_eq F (tgt := 364) dL_isPressed_319 rfl (by omega) (fun c319 => ?_) (fun c319 => by exfalso; omega)
            refine jj_iload12 F dL_isPressed_364 ?_
            refine jj_ldc F (v := -1763000000) cn_L_128 (by decide) dL_isPressed_366 ?_
            refine jj_icmp_ne F (tgt := 375) dL_isPressed_368 rfl (by omega) (fun c368 => by exfalso; omega) (fun c368 => ?_)
            refine jj_iconst F dL_isPressed_371 ?_
            refine jj_goto F (tgt := 376) dL_isPressed_372 rfl ?_
            exact jj_zret B dL_isPressed_376 ⟨Nat.le_of_ble_eq_true rfl, Nat.le_of_ble_eq_true rfl⟩ (Or.inr rfl) ⟨1, rfl, rfl, _, _, _, _, _, c, by omega, (hL.mono (by omega)), hP⟩
        · skip
          have hnd : sNeed K = K - 4 := by unfold sNeed; rw [if_neg (by omega), if_pos (by omega)]
          rw [hnd] at tc
          obtain ⟨Pv, hPv⟩ : ∃ Pv, Pv = sSt dd (nn / 4 - 1) 0 := ⟨_, rfl⟩
          have hPv2 : Pv = K - 4 := by rw [hPv]; unfold sSt; omega
          have p4 := hI.2.2.2.1.1 Pv (by omega) (by omega)
          rw [← hPv2] at tc
          rcases tc with ⟨ht, t1, t2⟩ | ⟨ht, t1⟩
          · skip
            obtain ⟨hL2, e16, e13⟩ := LI_stamper (hL.mono (by omega)) (by omega) ht
            have rin := r_stamper_in hNm b0.1 ht
            have hn16 : ∀ i, n_stamper s dd (nn / 4) (nn % 4) 16 i = if i = K then s 0 0 else s 16 i := fun i => by
              have hn : n_stamper s dd (nn / 4) (nn % 4) = sU (sU s 37 0 0) 16 (sSt dd (nn / 4) (nn % 4)) (s 0 0) := if_pos ht
              rw [hn, ← hK]; rfl
            obtain ⟨s2, hs⟩ : ∃ s2, s2 = n_stamper s dd (nn / 4) (nn % 4) := ⟨_, rfl⟩
            rw [← hs] at hL2 e16 e13 hn16
            rw [← hK] at e16
            have e13b : s2 13 0 = s 13 0 := by rw [e13]
            refine la_ok F (ka_stamper F.tr hP hI (by omega) (by omega) (by omega)) ht (k := 21) (n0 := 184) ⟨Nat.le_of_ble_eq_true rfl, Nat.le_of_ble_eq_true rfl, Nat.le_of_ble_eq_true rfl, Nat.le_of_ble_eq_true rfl, Nat.le_of_ble_eq_true rfl, Nat.le_of_ble_eq_true rfl, Nat.le_of_ble_eq_true rfl⟩ dL_isPressed_248 (fun G hP => ?_)
            rw [← hs] at hP
            have hI := hL2.I
            refine jj_istore12 F dL_isPressed_251 (hN _ (by decide)) rfl ?_
            refine jj_iload8 F dL_isPressed_253 ?_
            refine jj_if_ge F (tgt := 314) dL_isPressed_255 rfl (by omega) (fun c255 => by exfalso; omega) (fun c255 => ?_)
            refine jj_iload6 F dL_isPressed_258 ?_
            refine jj_if_eq F (tgt := 310) dL_isPressed_260 rfl (by omega) (fun c260 => by exfalso; omega) (fun c260 => ?_)
            refine jj_aload0 F dL_isPressed_263 ?_
            refine jj_iload4 F dL_isPressed_264 ?_
            refine jj_iload6 F dL_isPressed_266 ?_
            refine jj_iconst F dL_isPressed_268 ?_
            refine jj_irem F (by omega) dL_isPressed_269 ?_
            refine jj_if_ne F (tgt := 282) dL_isPressed_270 rfl (by omega) (fun c270 => by exfalso; omega) (fun c270 => ?_)
            refine jj_iload6 F dL_isPressed_273 ?_
            refine jj_iconst F dL_isPressed_275 ?_
            refine jj_idiv F (by omega) dL_isPressed_276 ?_
            refine jj_iconst F dL_isPressed_277 ?_
            refine jj_isub F dL_isPressed_278 ?_
            refine jj_goto F (tgt := 286) dL_isPressed_279 rfl ?_
            refine jj_iload6 F dL_isPressed_286 ?_
            refine jj_iconst F dL_isPressed_288 ?_
            refine jj_irem F (by omega) dL_isPressed_289 ?_
            refine jj_if_ne F (tgt := 297) dL_isPressed_290 rfl (by omega) (fun c290 => by exfalso; omega) (fun c290 => ?_)
            refine jj_iconst F dL_isPressed_293 ?_
            refine jj_goto F (tgt := 303) dL_isPressed_294 rfl ?_
            refine jj_iconst F dL_isPressed_303 ?_
            refine lq_s0 F hP hI ⟨by omega, by omega, by omega⟩ (k := 24) (n0 := 202) ⟨Nat.le_of_ble_eq_true rfl, Nat.le_of_ble_eq_true rfl, Nat.le_of_ble_eq_true rfl, Nat.le_of_ble_eq_true rfl, Nat.le_of_ble_eq_true rfl, Nat.le_of_ble_eq_true rfl, Nat.le_of_ble_eq_true rfl⟩ dL_isPressed_304 (fun G hP => ?_)
            rw [← hPv, hn16 Pv, if_neg (by omega)]
            refine jj_if_lt F (tgt := 314) dL_isPressed_307 rfl (by omega) (fun c307 => by exfalso; omega) (fun c307 => ?_)
            refine jj_iconst F dL_isPressed_310 ?_
            refine jj_goto F (tgt := 315) dL_isPressed_311 rfl ?_
            refine jj_istore13 F dL_isPressed_315 (hN _ (by decide)) rfl ?_
            refine jj_iload13 F dL_isPressed_317 ?_
            refine jj_if_eq F (tgt := 364) dL_isPressed_319 rfl (by omega) (fun c319 => by exfalso; omega) (fun c319 => ?_)
            refine jj_iload12 F dL_isPressed_322 ?_
            refine jj_iconst F dL_isPressed_324 ?_
            refine jj_icmp_lt F (tgt := 360) dL_isPressed_325 rfl (by omega) (fun c325 => by exfalso; omega) (fun c325 => ?_)
            refine jj_iload12 F dL_isPressed_328 ?_
            refine jj_bipush F (by decide) dL_isPressed_330 ?_
            refine jj_icmp_gt F (tgt := 360) dL_isPressed_332 rfl (by omega) (fun c332 => by exfalso; omega) (fun c332 => ?_)
            refine jj_aload0 F dL_isPressed_335 ?_
            refine jj_iload4 F dL_isPressed_336 ?_
            refine jj_iload6 F dL_isPressed_338 ?_
            refine jj_iconst F dL_isPressed_340 ?_
            refine jj_idiv F (by omega) dL_isPressed_341 ?_
            refine jj_iload6 F dL_isPressed_342 ?_
            refine jj_iconst F dL_isPressed_344 ?_
            refine jj_irem F (by omega) dL_isPressed_345 ?_
            refine jj_iconst F dL_isPressed_346 ?_
            refine lq_s0 F hP hI ⟨by omega, by omega, by omega⟩ (k := 27) (n0 := 220) ⟨Nat.le_of_ble_eq_true rfl, Nat.le_of_ble_eq_true rfl, Nat.le_of_ble_eq_true rfl, Nat.le_of_ble_eq_true rfl, Nat.le_of_ble_eq_true rfl, Nat.le_of_ble_eq_true rfl, Nat.le_of_ble_eq_true rfl⟩ dL_isPressed_347 (fun G hP => ?_)
            rw [← hK, e16]
            refine jj_aload1 F dL_isPressed_350 ?_
            refine jj_iconst F dL_isPressed_351 ?_
            refine jm_ald F hP (by omega) dL_isPressed_352 ?_
            refine jj_icmp_ne F (tgt := 360) dL_isPressed_353 rfl (by omega) (fun c353 => by exfalso; omega) (fun c353 => ?_)
            refine jj_iconst F dL_isPressed_356 ?_
            refine jj_goto F (tgt := 376) dL_isPressed_357 rfl ?_
            exact jj_zret B dL_isPressed_376 ⟨Nat.le_of_ble_eq_true rfl, Nat.le_of_ble_eq_true rfl⟩ (Or.inr rfl) ⟨1, rfl, rfl, _, _, _, _, _, c + 1, by omega, hL2, hP⟩
          · skip
            by_cases hmd : s 16 K < 0
            · skip
              refine la_no F (ka_stamper F.tr hP hI (by omega) (by omega) (by omega)) 2 (-1763000000) (by unfold t_stamper; rw [if_neg (fun hz => hz hNm), if_neg (by rw [← hK, hnd, ← hPv2]; exact t1)]) (by decide) (fun h => by rw [h]; rfl) (k := 21) (n0 := 184) ⟨Nat.le_of_ble_eq_true rfl, Nat.le_of_ble_eq_true rfl, Nat.le_of_ble_eq_true rfl, Nat.le_of_ble_eq_true rfl, Nat.le_of_ble_eq_true rfl, Nat.le_of_ble_eq_true rfl, Nat.le_of_ble_eq_true rfl⟩ dL_isPressed_248 (fun G hP => ?_)
              refine jj_istore12 F dL_isPressed_251 (hN _ (by decide)) rfl ?_
              refine jj_iload8 F dL_isPressed_253 ?_
              refine jj_if_ge F (tgt := 314) dL_isPressed_255 rfl (by omega) (fun c255 => by exfalso; omega) (fun c255 => ?_)
              refine jj_iload6 F dL_isPressed_258 ?_
              refine jj_if_eq F (tgt := 310) dL_isPressed_260 rfl (by omega) (fun c260 => by exfalso; omega) (fun c260 => ?_)
              refine jj_aload0 F dL_isPressed_263 ?_
              refine jj_iload4 F dL_isPressed_264 ?_
              refine jj_iload6 F dL_isPressed_266 ?_
              refine jj_iconst F dL_isPressed_268 ?_
              refine jj_irem F (by omega) dL_isPressed_269 ?_
              refine jj_if_ne F (tgt := 282) dL_isPressed_270 rfl (by omega) (fun c270 => by exfalso; omega) (fun c270 => ?_)
              refine jj_iload6 F dL_isPressed_273 ?_
              refine jj_iconst F dL_isPressed_275 ?_
              refine jj_idiv F (by omega) dL_isPressed_276 ?_
              refine jj_iconst F dL_isPressed_277 ?_
              refine jj_isub F dL_isPressed_278 ?_
              refine jj_goto F (tgt := 286) dL_isPressed_279 rfl ?_
              refine jj_iload6 F dL_isPressed_286 ?_
              refine jj_iconst F dL_isPressed_288 ?_
              refine jj_irem F (by omega) dL_isPressed_289 ?_
              refine jj_if_ne F (tgt := 297) dL_isPressed_290 rfl (by omega) (fun c290 => by exfalso; omega) (fun c290 => ?_)
              refine jj_iconst F dL_isPressed_293 ?_
              refine jj_goto F (tgt := 303) dL_isPressed_294 rfl ?_
              refine jj_iconst F dL_isPressed_303 ?_
              refine lq_s0 F hP hI ⟨by omega, by omega, by omega⟩ (k := 24) (n0 := 202) ⟨Nat.le_of_ble_eq_true rfl, Nat.le_of_ble_eq_true rfl, Nat.le_of_ble_eq_true rfl, Nat.le_of_ble_eq_true rfl, Nat.le_of_ble_eq_true rfl, Nat.le_of_ble_eq_true rfl, Nat.le_of_ble_eq_true rfl⟩ dL_isPressed_304 (fun G hP => ?_)
              rw [← hPv]
              refine jj_if_lt F (tgt := 314) dL_isPressed_307 rfl (by omega) (fun c307 => ?_) (fun c307 => by exfalso; omega)
              refine jj_iconst F dL_isPressed_314 ?_
              refine jj_istore13 F dL_isPressed_315 (hN _ (by decide)) rfl ?_
              refine jj_iload13 F dL_isPressed_317 ?_
              refine jj_if_eq F (tgt := 364) dL_isPressed_319 rfl (by omega) (fun c319 => ?_) (fun c319 => by exfalso; omega)
              refine jj_iload12 F dL_isPressed_364 ?_
              refine jj_ldc F (v := -1763000000) cn_L_128 (by decide) dL_isPressed_366 ?_
              refine jj_icmp_ne F (tgt := 375) dL_isPressed_368 rfl (by omega) (fun c368 => by exfalso; omega) (fun c368 => ?_)
              refine jj_iconst F dL_isPressed_371 ?_
              refine jj_goto F (tgt := 376) dL_isPressed_372 rfl ?_
              exact jj_zret B dL_isPressed_376 ⟨Nat.le_of_ble_eq_true rfl, Nat.le_of_ble_eq_true rfl⟩ (Or.inr rfl) ⟨1, rfl, rfl, _, _, _, _, _, c, by omega, (hL.mono (by omega)), hP⟩
            · skip
              refine la_no F (ka_stamper F.tr hP hI (by omega) (by omega) (by omega)) 2 (-1763000000) (by unfold t_stamper; rw [if_neg (fun hz => hz hNm), if_neg (by rw [← hK, hnd, ← hPv2]; exact t1)]) (by decide) (fun h => by rw [h]; rfl) (k := 21) (n0 := 184) ⟨Nat.le_of_ble_eq_true rfl, Nat.le_of_ble_eq_true rfl, Nat.le_of_ble_eq_true rfl, Nat.le_of_ble_eq_true rfl, Nat.le_of_ble_eq_true rfl, Nat.le_of_ble_eq_true rfl, Nat.le_of_ble_eq_true rfl⟩ dL_isPressed_248 (fun G hP => ?_)
              refine jj_istore12 F dL_isPressed_251 (hN _ (by decide)) rfl ?_
              refine jj_iload8 F dL_isPressed_253 ?_
              refine jj_if_ge F (tgt := 314) dL_isPressed_255 rfl (by omega) (fun c255 => ?_) (fun c255 => by exfalso; omega)
              refine jj_iconst F dL_isPressed_314 ?_
              refine jj_istore13 F dL_isPressed_315 (hN _ (by decide)) rfl ?_
              refine jj_iload13 F dL_isPressed_317 ?_
              refine jj_if_eq F (tgt := 364) dL_isPressed_319 rfl (by omega) (fun c319 => ?_) (fun c319 => by exfalso; omega)
              refine jj_iload12 F dL_isPressed_364 ?_
              refine jj_ldc F (v := -1763000000) cn_L_128 (by decide) dL_isPressed_366 ?_
              refine jj_icmp_ne F (tgt := 375) dL_isPressed_368 rfl (by omega) (fun c368 => by exfalso; omega) (fun c368 => ?_)
              refine jj_iconst F dL_isPressed_371 ?_
              refine jj_goto F (tgt := 376) dL_isPressed_372 rfl ?_
              exact jj_zret B dL_isPressed_376 ⟨Nat.le_of_ble_eq_true rfl, Nat.le_of_ble_eq_true rfl⟩ (Or.inr rfl) ⟨1, rfl, rfl, _, _, _, _, _, c, by omega, (hL.mono (by omega)), hP⟩
        · skip
          have hnd : sNeed K = K - 1 := by unfold sNeed; rw [if_neg (by omega), if_neg (by omega)]
          rw [hnd] at tc
          obtain ⟨Pv, hPv⟩ : ∃ Pv, Pv = sSt dd (nn / 4) (nn % 4 - 1) := ⟨_, rfl⟩
          have hPv2 : Pv = K - 1 := by rw [hPv]; unfold sSt; omega
          have p4 := hI.2.2.2.1.1 Pv (by omega) (by omega)
          rw [← hPv2] at tc
          rcases tc with ⟨ht, t1, t2⟩ | ⟨ht, t1⟩
          · skip
            obtain ⟨hL2, e16, e13⟩ := LI_stamper (hL.mono (by omega)) (by omega) ht
            have rin := r_stamper_in hNm b0.1 ht
            have hn16 : ∀ i, n_stamper s dd (nn / 4) (nn % 4) 16 i = if i = K then s 0 0 else s 16 i := fun i => by
              have hn : n_stamper s dd (nn / 4) (nn % 4) = sU (sU s 37 0 0) 16 (sSt dd (nn / 4) (nn % 4)) (s 0 0) := if_pos ht
              rw [hn, ← hK]; rfl
            obtain ⟨s2, hs⟩ : ∃ s2, s2 = n_stamper s dd (nn / 4) (nn % 4) := ⟨_, rfl⟩
            rw [← hs] at hL2 e16 e13 hn16
            rw [← hK] at e16
            have e13b : s2 13 0 = s 13 0 := by rw [e13]
            refine la_ok F (ka_stamper F.tr hP hI (by omega) (by omega) (by omega)) ht (k := 21) (n0 := 184) ⟨Nat.le_of_ble_eq_true rfl, Nat.le_of_ble_eq_true rfl, Nat.le_of_ble_eq_true rfl, Nat.le_of_ble_eq_true rfl, Nat.le_of_ble_eq_true rfl, Nat.le_of_ble_eq_true rfl, Nat.le_of_ble_eq_true rfl⟩ dL_isPressed_248 (fun G hP => ?_)
            rw [← hs] at hP
            have hI := hL2.I
            refine jj_istore12 F dL_isPressed_251 (hN _ (by decide)) rfl ?_
            refine jj_iload8 F dL_isPressed_253 ?_
            refine jj_if_ge F (tgt := 314) dL_isPressed_255 rfl (by omega) (fun c255 => by exfalso; omega) (fun c255 => ?_)
            refine jj_iload6 F dL_isPressed_258 ?_
            refine jj_if_eq F (tgt := 310) dL_isPressed_260 rfl (by omega) (fun c260 => by exfalso; omega) (fun c260 => ?_)
            refine jj_aload0 F dL_isPressed_263 ?_
            refine jj_iload4 F dL_isPressed_264 ?_
            refine jj_iload6 F dL_isPressed_266 ?_
            refine jj_iconst F dL_isPressed_268 ?_
            refine jj_irem F (by omega) dL_isPressed_269 ?_
            refine jj_if_ne F (tgt := 282) dL_isPressed_270 rfl (by omega) (fun c270 => ?_) (fun c270 => by exfalso; omega)
            refine jj_iload6 F dL_isPressed_282 ?_
            refine jj_iconst F dL_isPressed_284 ?_
            refine jj_idiv F (by omega) dL_isPressed_285 ?_
            refine jj_iload6 F dL_isPressed_286 ?_
            refine jj_iconst F dL_isPressed_288 ?_
            refine jj_irem F (by omega) dL_isPressed_289 ?_
            refine jj_if_ne F (tgt := 297) dL_isPressed_290 rfl (by omega) (fun c290 => ?_) (fun c290 => by exfalso; omega)
            refine jj_iload6 F dL_isPressed_297 ?_
            refine jj_iconst F dL_isPressed_299 ?_
            refine jj_irem F (by omega) dL_isPressed_300 ?_
            refine jj_iconst F dL_isPressed_301 ?_
            refine jj_isub F dL_isPressed_302 ?_
            refine jj_iconst F dL_isPressed_303 ?_
            refine lq_s0 F hP hI ⟨by omega, by omega, by omega⟩ (k := 24) (n0 := 202) ⟨Nat.le_of_ble_eq_true rfl, Nat.le_of_ble_eq_true rfl, Nat.le_of_ble_eq_true rfl, Nat.le_of_ble_eq_true rfl, Nat.le_of_ble_eq_true rfl, Nat.le_of_ble_eq_true rfl, Nat.le_of_ble_eq_true rfl⟩ dL_isPressed_304 (fun G hP => ?_)
            rw [← hPv, hn16 Pv, if_neg (by omega)]
            refine jj_if_lt F (tgt := 314) dL_isPressed_307 rfl (by omega) (fun c307 => by exfalso; omega) (fun c307 => ?_)
            refine jj_iconst F dL_isPressed_310 ?_
            refine jj_goto F (tgt := 315) dL_isPressed_311 rfl ?_
            refine jj_istore13 F dL_isPressed_315 (hN _ (by decide)) rfl ?_
            refine jj_iload13 F dL_isPressed_317 ?_
            refine jj_if_eq F (tgt := 364) dL_isPressed_319 rfl (by omega) (fun c319 => by exfalso; omega) (fun c319 => ?_)
            refine jj_iload12 F dL_isPressed_322 ?_
            refine jj_iconst F dL_isPressed_324 ?_
            refine jj_icmp_lt F (tgt := 360) dL_isPressed_325 rfl (by omega) (fun c325 => by exfalso; omega) (fun c325 => ?_)
            refine jj_iload12 F dL_isPressed_328 ?_
            refine jj_bipush F (by decide) dL_isPressed_330 ?_
            refine jj_icmp_gt F (tgt := 360) dL_isPressed_332 rfl (by omega) (fun c332 => by exfalso; omega) (fun c332 => ?_)
            refine jj_aload0 F dL_isPressed_335 ?_
            refine jj_iload4 F dL_isPressed_336 ?_
            refine jj_iload6 F dL_isPressed_338 ?_
            refine jj_iconst F dL_isPressed_340 ?_
            refine jj_idiv F (by omega) dL_isPressed_341 ?_
            refine jj_iload6 F dL_isPressed_342 ?_
            refine jj_iconst F dL_isPressed_344 ?_
            refine jj_irem F (by omega) dL_isPressed_345 ?_
            refine jj_iconst F dL_isPressed_346 ?_
            refine lq_s0 F hP hI ⟨by omega, by omega, by omega⟩ (k := 27) (n0 := 220) ⟨Nat.le_of_ble_eq_true rfl, Nat.le_of_ble_eq_true rfl, Nat.le_of_ble_eq_true rfl, Nat.le_of_ble_eq_true rfl, Nat.le_of_ble_eq_true rfl, Nat.le_of_ble_eq_true rfl, Nat.le_of_ble_eq_true rfl⟩ dL_isPressed_347 (fun G hP => ?_)
            rw [← hK, e16]
            refine jj_aload1 F dL_isPressed_350 ?_
            refine jj_iconst F dL_isPressed_351 ?_
            refine jm_ald F hP (by omega) dL_isPressed_352 ?_
            refine jj_icmp_ne F (tgt := 360) dL_isPressed_353 rfl (by omega) (fun c353 => by exfalso; omega) (fun c353 => ?_)
            refine jj_iconst F dL_isPressed_356 ?_
            refine jj_goto F (tgt := 376) dL_isPressed_357 rfl ?_
            exact jj_zret B dL_isPressed_376 ⟨Nat.le_of_ble_eq_true rfl, Nat.le_of_ble_eq_true rfl⟩ (Or.inr rfl) ⟨1, rfl, rfl, _, _, _, _, _, c + 1, by omega, hL2, hP⟩
          · skip
            by_cases hmd : s 16 K < 0
            · skip
              refine la_no F (ka_stamper F.tr hP hI (by omega) (by omega) (by omega)) 2 (-1763000000) (by unfold t_stamper; rw [if_neg (fun hz => hz hNm), if_neg (by rw [← hK, hnd, ← hPv2]; exact t1)]) (by decide) (fun h => by rw [h]; rfl) (k := 21) (n0 := 184) ⟨Nat.le_of_ble_eq_true rfl, Nat.le_of_ble_eq_true rfl, Nat.le_of_ble_eq_true rfl, Nat.le_of_ble_eq_true rfl, Nat.le_of_ble_eq_true rfl, Nat.le_of_ble_eq_true rfl, Nat.le_of_ble_eq_true rfl⟩ dL_isPressed_248 (fun G hP => ?_)
              refine jj_istore12 F dL_isPressed_251 (hN _ (by decide)) rfl ?_
              refine jj_iload8 F dL_isPressed_253 ?_
              refine jj_if_ge F (tgt := 314) dL_isPressed_255 rfl (by omega) (fun c255 => by exfalso; omega) (fun c255 => ?_)
              refine jj_iload6 F dL_isPressed_258 ?_
              refine jj_if_eq F (tgt := 310) dL_isPressed_260 rfl (by omega) (fun c260 => by exfalso; omega) (fun c260 => ?_)
              refine jj_aload0 F dL_isPressed_263 ?_
              refine jj_iload4 F dL_isPressed_264 ?_
              refine jj_iload6 F dL_isPressed_266 ?_
              refine jj_iconst F dL_isPressed_268 ?_
              refine jj_irem F (by omega) dL_isPressed_269 ?_
              refine jj_if_ne F (tgt := 282) dL_isPressed_270 rfl (by omega) (fun c270 => ?_) (fun c270 => by exfalso; omega)
              refine jj_iload6 F dL_isPressed_282 ?_
              refine jj_iconst F dL_isPressed_284 ?_
              refine jj_idiv F (by omega) dL_isPressed_285 ?_
              refine jj_iload6 F dL_isPressed_286 ?_
              refine jj_iconst F dL_isPressed_288 ?_
              refine jj_irem F (by omega) dL_isPressed_289 ?_
              refine jj_if_ne F (tgt := 297) dL_isPressed_290 rfl (by omega) (fun c290 => ?_) (fun c290 => by exfalso; omega)
              refine jj_iload6 F dL_isPressed_297 ?_
              refine jj_iconst F dL_isPressed_299 ?_
              refine jj_irem F (by omega) dL_isPressed_300 ?_
              refine jj_iconst F dL_isPressed_301 ?_
              refine jj_isub F dL_isPressed_302 ?_
              refine jj_iconst F dL_isPressed_303 ?_
              refine lq_s0 F hP hI ⟨by omega, by omega, by omega⟩ (k := 24) (n0 := 202) ⟨Nat.le_of_ble_eq_true rfl, Nat.le_of_ble_eq_true rfl, Nat.le_of_ble_eq_true rfl, Nat.le_of_ble_eq_true rfl, Nat.le_of_ble_eq_true rfl, Nat.le_of_ble_eq_true rfl, Nat.le_of_ble_eq_true rfl⟩ dL_isPressed_304 (fun G hP => ?_)
              rw [← hPv]
              refine jj_if_lt F (tgt := 314) dL_isPressed_307 rfl (by omega) (fun c307 => ?_) (fun c307 => by exfalso; omega)
              refine jj_iconst F dL_isPressed_314 ?_
              refine jj_istore13 F dL_isPressed_315 (hN _ (by decide)) rfl ?_
              refine jj_iload13 F dL_isPressed_317 ?_
              refine jj_if_eq F (tgt := 364) dL_isPressed_319 rfl (by omega) (fun c319 => ?_) (fun c319 => by exfalso; omega)
              refine jj_iload12 F dL_isPressed_364 ?_
              refine jj_ldc F (v := -1763000000) cn_L_128 (by decide) dL_isPressed_366 ?_
              refine jj_icmp_ne F (tgt := 375) dL_isPressed_368 rfl (by omega) (fun c368 => by exfalso; omega) (fun c368 => ?_)
              refine jj_iconst F dL_isPressed_371 ?_
              refine jj_goto F (tgt := 376) dL_isPressed_372 rfl ?_
              exact jj_zret B dL_isPressed_376 ⟨Nat.le_of_ble_eq_true rfl, Nat.le_of_ble_eq_true rfl⟩ (Or.inr rfl) ⟨1, rfl, rfl, _, _, _, _, _, c, by omega, (hL.mono (by omega)), hP⟩
            · skip
              refine la_no F (ka_stamper F.tr hP hI (by omega) (by omega) (by omega)) 2 (-1763000000) (by unfold t_stamper; rw [if_neg (fun hz => hz hNm), if_neg (by rw [← hK, hnd, ← hPv2]; exact t1)]) (by decide) (fun h => by rw [h]; rfl) (k := 21) (n0 := 184) ⟨Nat.le_of_ble_eq_true rfl, Nat.le_of_ble_eq_true rfl, Nat.le_of_ble_eq_true rfl, Nat.le_of_ble_eq_true rfl, Nat.le_of_ble_eq_true rfl, Nat.le_of_ble_eq_true rfl, Nat.le_of_ble_eq_true rfl⟩ dL_isPressed_248 (fun G hP => ?_)
              refine jj_istore12 F dL_isPressed_251 (hN _ (by decide)) rfl ?_
              refine jj_iload8 F dL_isPressed_253 ?_
              refine jj_if_ge F (tgt := 314) dL_isPressed_255 rfl (by omega) (fun c255 => ?_) (fun c255 => by exfalso; omega)
              refine jj_iconst F dL_isPressed_314 ?_
              refine jj_istore13 F dL_isPressed_315 (hN _ (by decide)) rfl ?_
              refine jj_iload13 F dL_isPressed_317 ?_
              refine jj_if_eq F (tgt := 364) dL_isPressed_319 rfl (by omega) (fun c319 => ?_) (fun c319 => by exfalso; omega)
              refine jj_iload12 F dL_isPressed_364 ?_
              refine jj_ldc F (v := -1763000000) cn_L_128 (by decide) dL_isPressed_366 ?_
              refine jj_icmp_ne F (tgt := 375) dL_isPressed_368 rfl (by omega) (fun c368 => by exfalso; omega) (fun c368 => ?_)
              refine jj_iconst F dL_isPressed_371 ?_
              refine jj_goto F (tgt := 376) dL_isPressed_372 rfl ?_
              exact jj_zret B dL_isPressed_376 ⟨Nat.le_of_ble_eq_true rfl, Nat.le_of_ble_eq_true rfl⟩ (Or.inr rfl) ⟨1, rfl, rfl, _, _, _, _, _, c, by omega, (hL.mono (by omega)), hP⟩
    · skip
      refine jj_if_ne F (tgt := 152) dL_isPressed_139 rfl (by omega) (fun c139 => ?_) (fun c139 => ?_)
      · skip
        refine jj_iload5 F dL_isPressed_152 ?_
        refine jj_iconst F dL_isPressed_154 ?_
        refine jj_idiv F (by omega) dL_isPressed_155 ?_
        refine jj_iconst F dL_isPressed_156 ?_
        refine jj_irem F (by omega) dL_isPressed_157 ?_
        exact J158 _ (by omega)
      · skip
        refine jj_iload5 F dL_isPressed_142 ?_
        refine jj_iconst F dL_isPressed_144 ?_
        refine jj_idiv F (by omega) dL_isPressed_145 ?_
        refine jj_bipush F (by decide) dL_isPressed_146 ?_
        refine jj_irem F (by omega) dL_isPressed_148 ?_
        refine jj_goto F (tgt := 158) dL_isPressed_149 rfl ?_
        exact J158 _ (by omega)
