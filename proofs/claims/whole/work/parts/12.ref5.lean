abbrev rm_X9_stamper : Room := { frames := 2, cells := 0, slots := 0, locals := 45 }
set_option maxRecDepth 100000 in
set_option maxHeartbeats 4000000 in
theorem k9_stamper {l : Launch} {D : va_G} {ac : Nat → ClassId} (hl : l.stackTraces = false) {o : Nat} {a : Nat → Nat} {s : Sg} {d m e : Int} {G : jj_G} (hR : RM (ac 0) o a s G) {c : Int} (hI : sInv s c) (hd : jR d) (hm : jR m) (he : jR e) : jj_C l D ac yX9_stamper (.code yX9_stamper cX9_stamper 9 (some .int)) rm_X9_stamper [.ref o, .int (jI d), .int (jI m), .int (jI e)] G (jj_pi (fun r G' => r = r_stamper s d m e ∧ RM (ac 0) o a (n_stamper s d m e) G')) (jj_nx) := by
  refine jj_ofx (own := RX9) (lv0 := [some (.ref o), some (.int (jI d)), some (.int (jI m)), some (.int (jI e)), none, none, none, none, none]) hl (by decide +kernel) rfl rfl (Nat.le_of_ble_eq_true rfl) rfl ?_
  intro X B hN hl0 hdg hac hin
  subst hl0; subst hdg; subst hac
  have F := B.F

  obtain ⟨hI1, hI2, hI3, hI4, hI5, hI6, hI7, hc⟩ := hI
  have i0 := hI1.1
  have i3 := hI3.1
  have r13 := hR.rng 13 0
  have hS : ∀ h : sNm s d m e, 0 ≤ sSt d m e ∧ sSt d m e < 12 * s 13 0 := by intro h; unfold sSt; omega
  have hN2 : ∀ h : sNm s d m e, -1 ≤ sNeed (sSt d m e) ∧ sNeed (sSt d m e) < 120 := by intro h; have := hS h; unfold sNeed; split <;> (try split) <;> omega
  refine jj_aload0 F dX9_stamper_0 ?_
  refine jj_iload1 F dX9_stamper_1 ?_
  refine jj_iload2 F dX9_stamper_2 ?_
  refine jj_iload3 F dX9_stamper_3 ?_
  refine jj_callVr B (k := 0) (n := 0) (k9_isNamed F.tr hR (by omega) (by omega) (by omega) (by omega)) lk_X9_161 hR.1 cs_9 rfl rfl ⟨Nat.le_of_ble_eq_true rfl, Nat.le_of_ble_eq_true rfl, Nat.le_of_ble_eq_true rfl, Nat.le_of_ble_eq_true rfl, Nat.le_of_ble_eq_true rfl⟩ ⟨Nat.le_of_ble_eq_true rfl, Nat.le_of_ble_eq_true rfl, Nat.le_of_ble_eq_true rfl, Nat.le_of_ble_eq_true rfl⟩ jj_tx0 dX9_stamper_4 ?_
  refine jj_istore4 F dX9_stamper_7 (hN _ (by decide)) rfl ?_
  refine jj_iload4 F dX9_stamper_9 ?_
  refine jj_ifb_eq F (tgt := 23) dX9_stamper_11 rfl (fun c11 => ?_) (fun c11 => ?_)
  · skip
    refine jj_iconst F dX9_stamper_23 ?_
    refine jj_istore5 F dX9_stamper_24 (hN _ (by decide)) rfl ?_
    refine jj_iload4 F dX9_stamper_26 ?_
    refine jj_ifb_eq F (tgt := 69) dX9_stamper_28 rfl (fun c28 => ?_) (fun c28 => by first | contradiction | (exfalso; omega))
    refine jj_iconst F dX9_stamper_69 ?_
    refine jj_istore6 F dX9_stamper_70 (hN _ (by decide)) rfl ?_
    refine jj_aload0 F dX9_stamper_72 ?_
    refine jj_iload4 F dX9_stamper_73 ?_
    refine jj_ifb_ne F (tgt := 82) dX9_stamper_75 rfl (fun c75 => by first | contradiction | (exfalso; omega)) (fun c75 => ?_)
    refine jj_iconst F dX9_stamper_78 ?_
    refine jj_goto F (tgt := 92) dX9_stamper_79 rfl ?_
    refine jj_callVi B (k := 0) (n := 0) (k9_goes F.tr hR (show jR 1 by decide)) lk_X9_118 hR.1 cs_9 rfl rfl ⟨Nat.le_of_ble_eq_true rfl, Nat.le_of_ble_eq_true rfl, Nat.le_of_ble_eq_true rfl, Nat.le_of_ble_eq_true rfl, Nat.le_of_ble_eq_true rfl⟩ ⟨Nat.le_of_ble_eq_true rfl, Nat.le_of_ble_eq_true rfl, Nat.le_of_ble_eq_true rfl, Nat.le_of_ble_eq_true rfl⟩ jj_tx0 dX9_stamper_92 (fun r G h => ?_)
    obtain ⟨rfl, hR⟩ := h
    refine jj_eqi (b := 0) rfl ?_
    refine jj_if_ne F (tgt := 100) dX9_stamper_95 rfl (by omega) (fun c95 => by exfalso; omega) (fun c95 => ?_)
    refine jj_iconst F dX9_stamper_98 ?_
    have htt : t_stamper s d m e = 1 := by unfold t_stamper; (repeat (first | rw [if_pos (by omega)] | rw [if_neg (by omega)]))
    exact jj_iret B dX9_stamper_99 ⟨Nat.le_of_ble_eq_true rfl, Nat.le_of_ble_eq_true rfl⟩ (⟨_, rfl, (by unfold r_stamper; first | (refine Eq.trans ?_ (if_pos htt).symm; first | rfl | omega) | (refine Eq.trans ?_ (if_neg (by omega)).symm; rfl)), (by unfold n_stamper; first | (rw [if_pos htt]; exact hR) | (rw [if_neg (by omega)]; rw [htt]; exact hR) | (rw [htt]; exact hR))⟩)
  · skip
    refine jj_iload1 F dX9_stamper_14 ?_
    refine jj_iload2 F dX9_stamper_15 ?_
    refine jj_iload3 F dX9_stamper_16 ?_
    refine jj_callSr B (k := 0) (n := 0) (k9_stamperOf F.tr) lk_X9_164 rfl ⟨Nat.le_of_ble_eq_true rfl, Nat.le_of_ble_eq_true rfl, Nat.le_of_ble_eq_true rfl, Nat.le_of_ble_eq_true rfl, Nat.le_of_ble_eq_true rfl⟩ ⟨Nat.le_of_ble_eq_true rfl, Nat.le_of_ble_eq_true rfl, Nat.le_of_ble_eq_true rfl, Nat.le_of_ble_eq_true rfl⟩ jj_tx0 dX9_stamper_17 ?_
    refine jj_goto F (tgt := 24) dX9_stamper_20 rfl ?_
    refine jj_istore5 F dX9_stamper_24 (hN _ (by decide)) rfl ?_
    refine jj_iload4 F dX9_stamper_26 ?_
    refine jj_ifb_eq F (tgt := 69) dX9_stamper_28 rfl (fun c28 => by first | contradiction | (exfalso; omega)) (fun c28 => ?_)
    refine jj_aload0 F dX9_stamper_31 ?_
    refine m9_get F hR fd_X9_46 (by decide) rfl dX9_stamper_32 ?_
    refine jj_iload5 F dX9_stamper_35 ?_
    refine m9_ald F hR (n := 120) rfl (by have := hS (by omega); have := hN2 (by omega); omega) (by decide) dX9_stamper_37 (fun r_37 => ?_)
    refine jj_iconst F dX9_stamper_38 ?_
    refine jj_icmp_ne F (tgt := 69) dX9_stamper_39 rfl (by omega) (fun c39 => ?_) (fun c39 => ?_)
    · skip
      refine jj_iconst F dX9_stamper_69 ?_
      refine jj_istore6 F dX9_stamper_70 (hN _ (by decide)) rfl ?_
      refine jj_aload0 F dX9_stamper_72 ?_
      refine jj_iload4 F dX9_stamper_73 ?_
      refine jj_ifb_ne F (tgt := 82) dX9_stamper_75 rfl (fun c75 => ?_) (fun c75 => by first | contradiction | (exfalso; omega))
      refine jj_iload6 F dX9_stamper_82 ?_
      refine jj_if_eq F (tgt := 91) dX9_stamper_84 rfl (by omega) (fun c84 => ?_) (fun c84 => by exfalso; omega)
      refine jj_iconst F dX9_stamper_91 ?_
      refine jj_callVi B (k := 0) (n := 0) (k9_goes F.tr hR (show jR 2 by decide)) lk_X9_118 hR.1 cs_9 rfl rfl ⟨Nat.le_of_ble_eq_true rfl, Nat.le_of_ble_eq_true rfl, Nat.le_of_ble_eq_true rfl, Nat.le_of_ble_eq_true rfl, Nat.le_of_ble_eq_true rfl⟩ ⟨Nat.le_of_ble_eq_true rfl, Nat.le_of_ble_eq_true rfl, Nat.le_of_ble_eq_true rfl, Nat.le_of_ble_eq_true rfl⟩ jj_tx0 dX9_stamper_92 (fun r G h => ?_)
      obtain ⟨rfl, hR⟩ := h
      refine jj_eqi (b := 0) rfl ?_
      refine jj_if_ne F (tgt := 100) dX9_stamper_95 rfl (by omega) (fun c95 => by exfalso; omega) (fun c95 => ?_)
      refine jj_iconst F dX9_stamper_98 ?_
      have htt : t_stamper s d m e = 2 := by unfold t_stamper; (repeat (first | rw [if_pos (by omega)] | rw [if_neg (by omega)]))
      exact jj_iret B dX9_stamper_99 ⟨Nat.le_of_ble_eq_true rfl, Nat.le_of_ble_eq_true rfl⟩ (⟨_, rfl, (by unfold r_stamper; first | (refine Eq.trans ?_ (if_pos htt).symm; first | rfl | omega) | (refine Eq.trans ?_ (if_neg (by omega)).symm; rfl)), (by unfold n_stamper; first | (rw [if_pos htt]; exact hR) | (rw [if_neg (by omega)]; rw [htt]; exact hR) | (rw [htt]; exact hR))⟩)
    · skip
      refine jj_iload5 F dX9_stamper_42 ?_
      refine jj_callSr B (k := 0) (n := 0) (k9_needed F.tr (by have := hS (by omega); omega)) lk_X9_167 rfl ⟨Nat.le_of_ble_eq_true rfl, Nat.le_of_ble_eq_true rfl, Nat.le_of_ble_eq_true rfl, Nat.le_of_ble_eq_true rfl, Nat.le_of_ble_eq_true rfl⟩ ⟨Nat.le_of_ble_eq_true rfl, Nat.le_of_ble_eq_true rfl, Nat.le_of_ble_eq_true rfl, Nat.le_of_ble_eq_true rfl⟩ jj_tx0 dX9_stamper_44 ?_
      refine jj_iconst F dX9_stamper_47 ?_
      refine jj_icmp_eq F (tgt := 65) dX9_stamper_48 rfl (by have := hN2 (by omega); omega) (fun c48 => ?_) (fun c48 => ?_)
      · skip
        refine jj_iconst F dX9_stamper_65 ?_
        refine jj_goto F (tgt := 70) dX9_stamper_66 rfl ?_
        refine jj_istore6 F dX9_stamper_70 (hN _ (by decide)) rfl ?_
        refine jj_aload0 F dX9_stamper_72 ?_
        refine jj_iload4 F dX9_stamper_73 ?_
        refine jj_ifb_ne F (tgt := 82) dX9_stamper_75 rfl (fun c75 => ?_) (fun c75 => by first | contradiction | (exfalso; omega))
        refine jj_iload6 F dX9_stamper_82 ?_
        refine jj_if_eq F (tgt := 91) dX9_stamper_84 rfl (by omega) (fun c84 => by exfalso; omega) (fun c84 => ?_)
        refine jj_iconst F dX9_stamper_87 ?_
        refine jj_goto F (tgt := 92) dX9_stamper_88 rfl ?_
        refine jj_callVi B (k := 0) (n := 0) (k9_goes F.tr hR (show jR 0 by decide)) lk_X9_118 hR.1 cs_9 rfl rfl ⟨Nat.le_of_ble_eq_true rfl, Nat.le_of_ble_eq_true rfl, Nat.le_of_ble_eq_true rfl, Nat.le_of_ble_eq_true rfl, Nat.le_of_ble_eq_true rfl⟩ ⟨Nat.le_of_ble_eq_true rfl, Nat.le_of_ble_eq_true rfl, Nat.le_of_ble_eq_true rfl, Nat.le_of_ble_eq_true rfl⟩ jj_tx0 dX9_stamper_92 (fun r G h => ?_)
        obtain ⟨rfl, hR⟩ := h
        refine jj_eqi (b := 1) rfl ?_
        refine jj_if_ne F (tgt := 100) dX9_stamper_95 rfl (by omega) (fun c95 => ?_) (fun c95 => by exfalso; omega)
        refine jj_aload0 F dX9_stamper_100 ?_
        refine m9_get F hR fd_X9_46 (by decide) rfl dX9_stamper_101 ?_
        refine jj_iload5 F dX9_stamper_104 ?_
        refine jj_aload0 F dX9_stamper_106 ?_
        refine m9_get F hR fd_X9_108 (by decide) rfl dX9_stamper_107 ?_
        refine jj_eqi (b := s 0 0) rfl ?_
        refine m9_ast F hR (n := 120) rfl (by have := hS (by omega); omega) (by decide) (by omega) dX9_stamper_110 (fun G hR => ?_)
        refine jj_iconst F dX9_stamper_111 ?_
        refine jj_istore7 F dX9_stamper_112 (hN _ (by decide)) rfl ?_
        refine jj_bipush F (by decide) dX9_stamper_114 ?_
        refine jj_iload1 F dX9_stamper_116 ?_
        refine jj_imul F dX9_stamper_117 ?_
        refine jj_istore8 F dX9_stamper_118 (hN _ (by decide)) rfl ?_
        have htt : t_stamper s d m e = 0 := by unfold t_stamper; (repeat (first | rw [if_pos (by omega)] | rw [if_neg (by omega)]))
        have e16 : n_stamper s d m e = sU (sU s 37 0 0) 16 (sSt d m e) (s 0 0) := by unfold n_stamper; rw [if_pos htt]
        rw [← e16] at hR
        have loop : ∀ (n j : Nat), n + j = 12 → jj_J X G 0 0 120 [some (.ref o), some (.int (jI d)), some (.int (jI m)), some (.int (jI e)), some (.int (jI (sNamed s d m e))), some (.int (jI (sSt d m e))), some (.int (jI 1)), some (.int (jI (sMadeTo (n_stamper s d m e) d j))), some (.int (jI (12 * d + j)))] [] := by
          intro n
          induction n with
          | zero =>
            intro j hj
            have e1 : (j : Int) = 12 := by omega
            refine jj_iload8 F dX9_stamper_120 ?_
            refine jj_bipush F (by decide) dX9_stamper_122 ?_
            refine jj_iload1 F dX9_stamper_124 ?_
            refine jj_imul F dX9_stamper_125 ?_
            refine jj_bipush F (by decide) dX9_stamper_126 ?_
            refine jj_iadd F dX9_stamper_128 ?_
            refine jj_icmp_ge F (tgt := 159) dX9_stamper_129 rfl (by omega) (fun c129 => ?_) (fun c129 => by exfalso; omega)
            refine jj_iload7 F dX9_stamper_159 ?_
            exact jj_iret B dX9_stamper_161 ⟨Nat.le_of_ble_eq_true rfl, Nat.le_of_ble_eq_true rfl⟩ (⟨_, rfl, (by unfold r_stamper; refine Eq.trans ?_ (if_pos htt).symm; rw [show (12 : Nat) = j by omega]), hR⟩)
          | succ n ih =>
            intro j hj
            have e1 : (j : Int) < 12 := by omega
            refine jj_iload8 F dX9_stamper_120 ?_
            refine jj_bipush F (by decide) dX9_stamper_122 ?_
            refine jj_iload1 F dX9_stamper_124 ?_
            refine jj_imul F dX9_stamper_125 ?_
            refine jj_bipush F (by decide) dX9_stamper_126 ?_
            refine jj_iadd F dX9_stamper_128 ?_
            refine jj_icmp_ge F (tgt := 159) dX9_stamper_129 rfl (by omega) (fun c129 => by exfalso; omega) (fun c129 => ?_)
            refine jj_iload7 F dX9_stamper_132 ?_
            refine jj_aload0 F dX9_stamper_134 ?_
            refine m9_get F hR fd_X9_46 (by decide) rfl dX9_stamper_135 ?_
            refine jj_iload8 F dX9_stamper_138 ?_
            refine m9_ald F hR (n := 120) rfl (by omega) (by decide) dX9_stamper_140 (fun r_140 => ?_)
            refine jj_iconst F dX9_stamper_141 ?_
            refine jj_icmp_ne F (tgt := 149) dX9_stamper_142 rfl (by omega) (fun c142 => ?_) (fun c142 => ?_)
            · skip
              refine jj_iconst F dX9_stamper_149 ?_
              refine jj_iadd F dX9_stamper_150 ?_
              refine jj_istore7 F dX9_stamper_151 (hN _ (by decide)) rfl ?_
              refine jj_iinc8 F dX9_stamper_153 (hN _ (by decide)) rfl ?_
              refine jj_goto F (tgt := 120) dX9_stamper_156 rfl ?_
              have ih1 := ih (j + 1) (by omega)
              rw [show (((j + 1 : Nat)) : Int) = (j : Int) + 1 from rfl] at ih1
              rw [show 12 * d + ((j : Int) + 1) = 12 * d + (j : Int) + 1 by omega] at ih1
              simp only [sMadeTo] at ih1
              first | rw [if_pos (by omega)] at ih1 | rw [if_neg (by omega)] at ih1
              exact ih1
            · skip
              refine jj_iconst F dX9_stamper_145 ?_
              refine jj_goto F (tgt := 150) dX9_stamper_146 rfl ?_
              refine jj_iadd F dX9_stamper_150 ?_
              refine jj_istore7 F dX9_stamper_151 (hN _ (by decide)) rfl ?_
              refine jj_iinc8 F dX9_stamper_153 (hN _ (by decide)) rfl ?_
              refine jj_goto F (tgt := 120) dX9_stamper_156 rfl ?_
              have ih1 := ih (j + 1) (by omega)
              rw [show (((j + 1 : Nat)) : Int) = (j : Int) + 1 from rfl] at ih1
              rw [show 12 * d + ((j : Int) + 1) = 12 * d + (j : Int) + 1 by omega] at ih1
              simp only [sMadeTo] at ih1
              first | rw [if_pos (by omega)] at ih1 | rw [if_neg (by omega)] at ih1
              exact ih1
        have l0 := loop 12 0 (by omega)
        rw [show (12 * d + ((0 : Nat) : Int)) = 12 * d by omega] at l0
        exact l0
      · skip
        refine jj_aload0 F dX9_stamper_51 ?_
        refine m9_get F hR fd_X9_46 (by decide) rfl dX9_stamper_52 ?_
        refine jj_iload5 F dX9_stamper_55 ?_
        refine jj_callSr B (k := 0) (n := 0) (k9_needed F.tr (by have := hS (by omega); omega)) lk_X9_167 rfl ⟨Nat.le_of_ble_eq_true rfl, Nat.le_of_ble_eq_true rfl, Nat.le_of_ble_eq_true rfl, Nat.le_of_ble_eq_true rfl, Nat.le_of_ble_eq_true rfl⟩ ⟨Nat.le_of_ble_eq_true rfl, Nat.le_of_ble_eq_true rfl, Nat.le_of_ble_eq_true rfl, Nat.le_of_ble_eq_true rfl⟩ jj_tx0 dX9_stamper_57 ?_
        refine m9_ald F hR (n := 120) rfl (by have := hS (by omega); have := hN2 (by omega); omega) (by decide) dX9_stamper_60 (fun r_60 => ?_)
        refine jj_iconst F dX9_stamper_61 ?_
        refine jj_icmp_eq F (tgt := 69) dX9_stamper_62 rfl (by omega) (fun c62 => ?_) (fun c62 => ?_)
        · skip
          refine jj_iconst F dX9_stamper_69 ?_
          refine jj_istore6 F dX9_stamper_70 (hN _ (by decide)) rfl ?_
          refine jj_aload0 F dX9_stamper_72 ?_
          refine jj_iload4 F dX9_stamper_73 ?_
          refine jj_ifb_ne F (tgt := 82) dX9_stamper_75 rfl (fun c75 => ?_) (fun c75 => by first | contradiction | (exfalso; omega))
          refine jj_iload6 F dX9_stamper_82 ?_
          refine jj_if_eq F (tgt := 91) dX9_stamper_84 rfl (by omega) (fun c84 => ?_) (fun c84 => by exfalso; omega)
          refine jj_iconst F dX9_stamper_91 ?_
          refine jj_callVi B (k := 0) (n := 0) (k9_goes F.tr hR (show jR 2 by decide)) lk_X9_118 hR.1 cs_9 rfl rfl ⟨Nat.le_of_ble_eq_true rfl, Nat.le_of_ble_eq_true rfl, Nat.le_of_ble_eq_true rfl, Nat.le_of_ble_eq_true rfl, Nat.le_of_ble_eq_true rfl⟩ ⟨Nat.le_of_ble_eq_true rfl, Nat.le_of_ble_eq_true rfl, Nat.le_of_ble_eq_true rfl, Nat.le_of_ble_eq_true rfl⟩ jj_tx0 dX9_stamper_92 (fun r G h => ?_)
          obtain ⟨rfl, hR⟩ := h
          refine jj_eqi (b := 0) rfl ?_
          refine jj_if_ne F (tgt := 100) dX9_stamper_95 rfl (by omega) (fun c95 => by exfalso; omega) (fun c95 => ?_)
          refine jj_iconst F dX9_stamper_98 ?_
          have htt : t_stamper s d m e = 2 := by unfold t_stamper; (repeat (first | rw [if_pos (by omega)] | rw [if_neg (by omega)]))
          exact jj_iret B dX9_stamper_99 ⟨Nat.le_of_ble_eq_true rfl, Nat.le_of_ble_eq_true rfl⟩ (⟨_, rfl, (by unfold r_stamper; first | (refine Eq.trans ?_ (if_pos htt).symm; first | rfl | omega) | (refine Eq.trans ?_ (if_neg (by omega)).symm; rfl)), (by unfold n_stamper; first | (rw [if_pos htt]; exact hR) | (rw [if_neg (by omega)]; rw [htt]; exact hR) | (rw [htt]; exact hR))⟩)
        · skip
          refine jj_iconst F dX9_stamper_65 ?_
          refine jj_goto F (tgt := 70) dX9_stamper_66 rfl ?_
          refine jj_istore6 F dX9_stamper_70 (hN _ (by decide)) rfl ?_
          refine jj_aload0 F dX9_stamper_72 ?_
          refine jj_iload4 F dX9_stamper_73 ?_
          refine jj_ifb_ne F (tgt := 82) dX9_stamper_75 rfl (fun c75 => ?_) (fun c75 => by first | contradiction | (exfalso; omega))
          refine jj_iload6 F dX9_stamper_82 ?_
          refine jj_if_eq F (tgt := 91) dX9_stamper_84 rfl (by omega) (fun c84 => by exfalso; omega) (fun c84 => ?_)
          refine jj_iconst F dX9_stamper_87 ?_
          refine jj_goto F (tgt := 92) dX9_stamper_88 rfl ?_
          refine jj_callVi B (k := 0) (n := 0) (k9_goes F.tr hR (show jR 0 by decide)) lk_X9_118 hR.1 cs_9 rfl rfl ⟨Nat.le_of_ble_eq_true rfl, Nat.le_of_ble_eq_true rfl, Nat.le_of_ble_eq_true rfl, Nat.le_of_ble_eq_true rfl, Nat.le_of_ble_eq_true rfl⟩ ⟨Nat.le_of_ble_eq_true rfl, Nat.le_of_ble_eq_true rfl, Nat.le_of_ble_eq_true rfl, Nat.le_of_ble_eq_true rfl⟩ jj_tx0 dX9_stamper_92 (fun r G h => ?_)
          obtain ⟨rfl, hR⟩ := h
          refine jj_eqi (b := 1) rfl ?_
          refine jj_if_ne F (tgt := 100) dX9_stamper_95 rfl (by omega) (fun c95 => ?_) (fun c95 => by exfalso; omega)
          refine jj_aload0 F dX9_stamper_100 ?_
          refine m9_get F hR fd_X9_46 (by decide) rfl dX9_stamper_101 ?_
          refine jj_iload5 F dX9_stamper_104 ?_
          refine jj_aload0 F dX9_stamper_106 ?_
          refine m9_get F hR fd_X9_108 (by decide) rfl dX9_stamper_107 ?_
          refine jj_eqi (b := s 0 0) rfl ?_
          refine m9_ast F hR (n := 120) rfl (by have := hS (by omega); omega) (by decide) (by omega) dX9_stamper_110 (fun G hR => ?_)
          refine jj_iconst F dX9_stamper_111 ?_
          refine jj_istore7 F dX9_stamper_112 (hN _ (by decide)) rfl ?_
          refine jj_bipush F (by decide) dX9_stamper_114 ?_
          refine jj_iload1 F dX9_stamper_116 ?_
          refine jj_imul F dX9_stamper_117 ?_
          refine jj_istore8 F dX9_stamper_118 (hN _ (by decide)) rfl ?_
          have htt : t_stamper s d m e = 0 := by unfold t_stamper; (repeat (first | rw [if_pos (by omega)] | rw [if_neg (by omega)]))
          have e16 : n_stamper s d m e = sU (sU s 37 0 0) 16 (sSt d m e) (s 0 0) := by unfold n_stamper; rw [if_pos htt]
          rw [← e16] at hR
          have loop : ∀ (n j : Nat), n + j = 12 → jj_J X G 0 0 120 [some (.ref o), some (.int (jI d)), some (.int (jI m)), some (.int (jI e)), some (.int (jI (sNamed s d m e))), some (.int (jI (sSt d m e))), some (.int (jI 1)), some (.int (jI (sMadeTo (n_stamper s d m e) d j))), some (.int (jI (12 * d + j)))] [] := by
            intro n
            induction n with
            | zero =>
              intro j hj
              have e1 : (j : Int) = 12 := by omega
              refine jj_iload8 F dX9_stamper_120 ?_
              refine jj_bipush F (by decide) dX9_stamper_122 ?_
              refine jj_iload1 F dX9_stamper_124 ?_
              refine jj_imul F dX9_stamper_125 ?_
              refine jj_bipush F (by decide) dX9_stamper_126 ?_
              refine jj_iadd F dX9_stamper_128 ?_
              refine jj_icmp_ge F (tgt := 159) dX9_stamper_129 rfl (by omega) (fun c129 => ?_) (fun c129 => by exfalso; omega)
              refine jj_iload7 F dX9_stamper_159 ?_
              exact jj_iret B dX9_stamper_161 ⟨Nat.le_of_ble_eq_true rfl, Nat.le_of_ble_eq_true rfl⟩ (⟨_, rfl, (by unfold r_stamper; refine Eq.trans ?_ (if_pos htt).symm; rw [show (12 : Nat) = j by omega]), hR⟩)
            | succ n ih =>
              intro j hj
              have e1 : (j : Int) < 12 := by omega
              refine jj_iload8 F dX9_stamper_120 ?_
              refine jj_bipush F (by decide) dX9_stamper_122 ?_
              refine jj_iload1 F dX9_stamper_124 ?_
              refine jj_imul F dX9_stamper_125 ?_
              refine jj_bipush F (by decide) dX9_stamper_126 ?_
              refine jj_iadd F dX9_stamper_128 ?_
              refine jj_icmp_ge F (tgt := 159) dX9_stamper_129 rfl (by omega) (fun c129 => by exfalso; omega) (fun c129 => ?_)
              refine jj_iload7 F dX9_stamper_132 ?_
              refine jj_aload0 F dX9_stamper_134 ?_
              refine m9_get F hR fd_X9_46 (by decide) rfl dX9_stamper_135 ?_
              refine jj_iload8 F dX9_stamper_138 ?_
              refine m9_ald F hR (n := 120) rfl (by omega) (by decide) dX9_stamper_140 (fun r_140 => ?_)
              refine jj_iconst F dX9_stamper_141 ?_
              refine jj_icmp_ne F (tgt := 149) dX9_stamper_142 rfl (by omega) (fun c142 => ?_) (fun c142 => ?_)
              · skip
                refine jj_iconst F dX9_stamper_149 ?_
                refine jj_iadd F dX9_stamper_150 ?_
                refine jj_istore7 F dX9_stamper_151 (hN _ (by decide)) rfl ?_
                refine jj_iinc8 F dX9_stamper_153 (hN _ (by decide)) rfl ?_
                refine jj_goto F (tgt := 120) dX9_stamper_156 rfl ?_
                have ih1 := ih (j + 1) (by omega)
                rw [show (((j + 1 : Nat)) : Int) = (j : Int) + 1 from rfl] at ih1
                rw [show 12 * d + ((j : Int) + 1) = 12 * d + (j : Int) + 1 by omega] at ih1
                simp only [sMadeTo] at ih1
                first | rw [if_pos (by omega)] at ih1 | rw [if_neg (by omega)] at ih1
                exact ih1
              · skip
                refine jj_iconst F dX9_stamper_145 ?_
                refine jj_goto F (tgt := 150) dX9_stamper_146 rfl ?_
                refine jj_iadd F dX9_stamper_150 ?_
                refine jj_istore7 F dX9_stamper_151 (hN _ (by decide)) rfl ?_
                refine jj_iinc8 F dX9_stamper_153 (hN _ (by decide)) rfl ?_
                refine jj_goto F (tgt := 120) dX9_stamper_156 rfl ?_
                have ih1 := ih (j + 1) (by omega)
                rw [show (((j + 1 : Nat)) : Int) = (j : Int) + 1 from rfl] at ih1
                rw [show 12 * d + ((j : Int) + 1) = 12 * d + (j : Int) + 1 by omega] at ih1
                simp only [sMadeTo] at ih1
                first | rw [if_pos (by omega)] at ih1 | rw [if_neg (by omega)] at ih1
                exact ih1
          have l0 := loop 12 0 (by omega)
          rw [show (12 * d + ((0 : Nat) : Int)) = 12 * d by omega] at l0
          exact l0
abbrev rm_X9_disc : Room := { frames := 2, cells := 0, slots := 0, locals := 45 }
set_option maxRecDepth 100000 in
set_option maxHeartbeats 4000000 in
theorem k9_disc {l : Launch} {D : va_G} {ac : Nat → ClassId} (hl : l.stackTraces = false) {o : Nat} {a : Nat → Nat} {s : Sg} {d m n : Int} {G : jj_G} (hR : RM (ac 0) o a s G) {c : Int} (hI : sInv s c) (hd : jR d) (hm : jR m) (hn : jR n) : jj_C l D ac yX9_disc (.code yX9_disc cX9_disc 6 (some .int)) rm_X9_disc [.ref o, .int (jI d), .int (jI m), .int (jI n)] G (jj_pi (fun r G' => r = r_disc s d m n ∧ RM (ac 0) o a (n_disc s d m n) G')) (jj_nx) := by
  refine jj_ofx (own := RX9) (lv0 := [some (.ref o), some (.int (jI d)), some (.int (jI m)), some (.int (jI n)), none, none]) hl (by decide +kernel) rfl rfl (Nat.le_of_ble_eq_true rfl) rfl ?_
  intro X B hN hl0 hdg hac hin
  subst hl0; subst hdg; subst hac
  have F := B.F

  obtain ⟨hI1, hI2, hI3, hI4, hI5, hI6, hI7, hc⟩ := hI
  have i0 := hI1.1
  have i3 := hI3.1
  have i5 := hI5.1
  have r13 := hR.rng 13 0
  have r22 := hR.rng 22 0
  have hS : ∀ h : sNm s d m n, 0 ≤ sSt d m n ∧ sSt d m n < 12 * s 13 0 := by intro h; unfold sSt; omega
  refine jj_aload0 F dX9_disc_0 ?_
  refine jj_iload1 F dX9_disc_1 ?_
  refine jj_iload2 F dX9_disc_2 ?_
  refine jj_iload3 F dX9_disc_3 ?_
  refine jj_callVr B (k := 0) (n := 0) (k9_isNamed F.tr hR (by omega) (by omega) (by omega) (by omega)) lk_X9_161 hR.1 cs_9 rfl rfl ⟨Nat.le_of_ble_eq_true rfl, Nat.le_of_ble_eq_true rfl, Nat.le_of_ble_eq_true rfl, Nat.le_of_ble_eq_true rfl, Nat.le_of_ble_eq_true rfl⟩ ⟨Nat.le_of_ble_eq_true rfl, Nat.le_of_ble_eq_true rfl, Nat.le_of_ble_eq_true rfl, Nat.le_of_ble_eq_true rfl⟩ jj_tx0 dX9_disc_4 ?_
  refine jj_istore4 F dX9_disc_7 (hN _ (by decide)) rfl ?_
  refine jj_iload4 F dX9_disc_9 ?_
  refine jj_ifb_eq F (tgt := 23) dX9_disc_11 rfl (fun c11 => ?_) (fun c11 => ?_)
  · skip
    refine jj_iconst F dX9_disc_23 ?_
    refine jj_istore5 F dX9_disc_24 (hN _ (by decide)) rfl ?_
    refine jj_aload0 F dX9_disc_26 ?_
    refine jj_iload4 F dX9_disc_27 ?_
    refine jj_ifb_ne F (tgt := 36) dX9_disc_29 rfl (fun c29 => by first | contradiction | (exfalso; omega)) (fun c29 => ?_)
    refine jj_iconst F dX9_disc_32 ?_
    refine jj_goto F (tgt := 74) dX9_disc_33 rfl ?_
    refine jj_callVi B (k := 0) (n := 0) (k9_goes F.tr hR (show jR 1 by decide)) lk_X9_118 hR.1 cs_9 rfl rfl ⟨Nat.le_of_ble_eq_true rfl, Nat.le_of_ble_eq_true rfl, Nat.le_of_ble_eq_true rfl, Nat.le_of_ble_eq_true rfl, Nat.le_of_ble_eq_true rfl⟩ ⟨Nat.le_of_ble_eq_true rfl, Nat.le_of_ble_eq_true rfl, Nat.le_of_ble_eq_true rfl, Nat.le_of_ble_eq_true rfl⟩ jj_tx0 dX9_disc_74 (fun r G h => ?_)
    obtain ⟨rfl, hR⟩ := h
    refine jj_eqi (b := 0) rfl ?_
    refine jj_if_ne F (tgt := 82) dX9_disc_77 rfl (by omega) (fun c77 => by exfalso; omega) (fun c77 => ?_)
    refine jj_iconst F dX9_disc_80 ?_
    have htt : t_disc s d m n = 1 := by unfold t_disc; (repeat (first | rw [if_pos (by omega)] | rw [if_neg (by omega)]))
    exact jj_iret B dX9_disc_81 ⟨Nat.le_of_ble_eq_true rfl, Nat.le_of_ble_eq_true rfl⟩ (⟨_, rfl, (by unfold r_disc; first | (refine Eq.trans ?_ (if_pos htt).symm; first | rfl | omega) | (refine Eq.trans ?_ (if_neg (by omega)).symm; rfl)), (by unfold n_disc; first | (rw [if_pos htt]; exact hR) | (rw [if_neg (by omega)]; rw [htt]; exact hR) | (rw [htt]; exact hR))⟩)
  · skip
    refine jj_iload1 F dX9_disc_14 ?_
    refine jj_iload2 F dX9_disc_15 ?_
    refine jj_iload3 F dX9_disc_16 ?_
    refine jj_callSr B (k := 0) (n := 0) (k9_stamperOf F.tr) lk_X9_164 rfl ⟨Nat.le_of_ble_eq_true rfl, Nat.le_of_ble_eq_true rfl, Nat.le_of_ble_eq_true rfl, Nat.le_of_ble_eq_true rfl, Nat.le_of_ble_eq_true rfl⟩ ⟨Nat.le_of_ble_eq_true rfl, Nat.le_of_ble_eq_true rfl, Nat.le_of_ble_eq_true rfl, Nat.le_of_ble_eq_true rfl⟩ jj_tx0 dX9_disc_17 ?_
    refine jj_goto F (tgt := 24) dX9_disc_20 rfl ?_
    refine jj_istore5 F dX9_disc_24 (hN _ (by decide)) rfl ?_
    refine jj_aload0 F dX9_disc_26 ?_
    refine jj_iload4 F dX9_disc_27 ?_
    refine jj_ifb_ne F (tgt := 36) dX9_disc_29 rfl (fun c29 => ?_) (fun c29 => by first | contradiction | (exfalso; omega))
    refine jj_aload0 F dX9_disc_36 ?_
    refine jj_iload5 F dX9_disc_37 ?_
    refine jj_callVr B (k := 0) (n := 0) (k9_discsOf F.tr hR i5 (by have := hS (by omega); omega)) lk_X9_181 hR.1 cs_9 rfl rfl ⟨Nat.le_of_ble_eq_true rfl, Nat.le_of_ble_eq_true rfl, Nat.le_of_ble_eq_true rfl, Nat.le_of_ble_eq_true rfl, Nat.le_of_ble_eq_true rfl⟩ ⟨Nat.le_of_ble_eq_true rfl, Nat.le_of_ble_eq_true rfl, Nat.le_of_ble_eq_true rfl, Nat.le_of_ble_eq_true rfl⟩ jj_tx0 dX9_disc_39 ?_
    refine jj_aload0 F dX9_disc_42 ?_
    refine m9_get F hR fd_X9_52 (by decide) rfl dX9_disc_43 ?_
    refine jj_iload5 F dX9_disc_46 ?_
    refine m9_ald F hR (n := 120) rfl (by have := hS (by omega); omega) (by decide) dX9_disc_48 (fun r_48 => ?_)
    refine jj_aload0 F dX9_disc_49 ?_
    refine m9_get F hR fd_X9_55 (by decide) rfl dX9_disc_50 ?_
    refine jj_iload5 F dX9_disc_53 ?_
    refine m9_ald F hR (n := 120) rfl (by have := hS (by omega); omega) (by decide) dX9_disc_55 (fun r_55 => ?_)
    refine jj_isub F dX9_disc_56 ?_
    refine jj_icmp_eq F (tgt := 69) dX9_disc_57 rfl (by have h1 := hI4.1 (sSt d m n) (by have := hS (by omega); omega) (by have := hS (by omega); omega); have h2 := hI4.2 (sSt d m n) (by have := hS (by omega); omega) (by have := hS (by omega); omega); have h3 := sDiscs_0 s (sSt d m n); omega) (fun c57 => ?_) (fun c57 => ?_)
    · skip
      refine jj_iconst F dX9_disc_69 ?_
      refine jj_goto F (tgt := 74) dX9_disc_70 rfl ?_
      refine jj_callVi B (k := 0) (n := 0) (k9_goes F.tr hR (show jR 2 by decide)) lk_X9_118 hR.1 cs_9 rfl rfl ⟨Nat.le_of_ble_eq_true rfl, Nat.le_of_ble_eq_true rfl, Nat.le_of_ble_eq_true rfl, Nat.le_of_ble_eq_true rfl, Nat.le_of_ble_eq_true rfl⟩ ⟨Nat.le_of_ble_eq_true rfl, Nat.le_of_ble_eq_true rfl, Nat.le_of_ble_eq_true rfl, Nat.le_of_ble_eq_true rfl⟩ jj_tx0 dX9_disc_74 (fun r G h => ?_)
      obtain ⟨rfl, hR⟩ := h
      refine jj_eqi (b := 0) rfl ?_
      refine jj_if_ne F (tgt := 82) dX9_disc_77 rfl (by omega) (fun c77 => by exfalso; omega) (fun c77 => ?_)
      refine jj_iconst F dX9_disc_80 ?_
      have htt : t_disc s d m n = 2 := by unfold t_disc; (repeat (first | rw [if_pos (by omega)] | rw [if_neg (by omega)]))
      exact jj_iret B dX9_disc_81 ⟨Nat.le_of_ble_eq_true rfl, Nat.le_of_ble_eq_true rfl⟩ (⟨_, rfl, (by unfold r_disc; first | (refine Eq.trans ?_ (if_pos htt).symm; first | rfl | omega) | (refine Eq.trans ?_ (if_neg (by omega)).symm; rfl)), (by unfold n_disc; first | (rw [if_pos htt]; exact hR) | (rw [if_neg (by omega)]; rw [htt]; exact hR) | (rw [htt]; exact hR))⟩)
    · skip
      refine jj_aload0 F dX9_disc_60 ?_
      refine m9_get F hR fd_X9_178 (by decide) rfl dX9_disc_61 ?_
      refine jj_bipush F (by decide) dX9_disc_64 ?_
      refine jj_icmp_ne F (tgt := 73) dX9_disc_66 rfl (by omega) (fun c66 => ?_) (fun c66 => ?_)
      · skip
        refine jj_iconst F dX9_disc_73 ?_
        refine jj_callVi B (k := 0) (n := 0) (k9_goes F.tr hR (show jR 0 by decide)) lk_X9_118 hR.1 cs_9 rfl rfl ⟨Nat.le_of_ble_eq_true rfl, Nat.le_of_ble_eq_true rfl, Nat.le_of_ble_eq_true rfl, Nat.le_of_ble_eq_true rfl, Nat.le_of_ble_eq_true rfl⟩ ⟨Nat.le_of_ble_eq_true rfl, Nat.le_of_ble_eq_true rfl, Nat.le_of_ble_eq_true rfl, Nat.le_of_ble_eq_true rfl⟩ jj_tx0 dX9_disc_74 (fun r G h => ?_)
        obtain ⟨rfl, hR⟩ := h
        refine jj_eqi (b := 1) rfl ?_
        refine jj_if_ne F (tgt := 82) dX9_disc_77 rfl (by omega) (fun c77 => ?_) (fun c77 => by exfalso; omega)
        refine jj_aload0 F dX9_disc_82 ?_
        refine m9_get F hR fd_X9_64 (by decide) rfl dX9_disc_83 ?_
        refine jj_aload0 F dX9_disc_86 ?_
        refine m9_get F hR fd_X9_178 (by decide) rfl dX9_disc_87 ?_
        refine jj_eqi (b := s 22 0) rfl ?_
        refine jj_iload5 F dX9_disc_90 ?_
        refine m9_ast F hR (n := 20) rfl (by omega) (by decide) (by have := hS (by omega); omega) dX9_disc_92 (fun G hR => ?_)
        refine jj_aload0 F dX9_disc_93 ?_
        refine jj_dup F rfl dX9_disc_94 ?_
        refine m9_get F hR fd_X9_178 (by decide) rfl dX9_disc_95 ?_
        refine jj_eqi (b := s 22 0) rfl ?_
        refine jj_iconst F dX9_disc_98 ?_
        refine jj_iadd F dX9_disc_99 ?_
        refine m9_put F hR fd_X9_178 rfl (by omega) (by decide) rfl (by first | rfl | decide) (by first | rfl | decide) dX9_disc_100 (fun G hR => ?_)
        refine jj_aload0 F dX9_disc_103 ?_
        refine m9_get F hR fd_X9_178 (by decide) rfl dX9_disc_104 ?_
        refine jj_eqi (b := s 22 0 + 1) rfl ?_
        refine jj_iconst F dX9_disc_107 ?_
        refine jj_isub F dX9_disc_108 ?_
        have htt : t_disc s d m n = 0 := by unfold t_disc; (repeat (first | rw [if_pos (by omega)] | rw [if_neg (by omega)]))
        exact jj_iret B dX9_disc_109 ⟨Nat.le_of_ble_eq_true rfl, Nat.le_of_ble_eq_true rfl⟩ (⟨_, rfl, (by unfold r_disc; first | (refine Eq.trans ?_ (if_pos htt).symm; first | rfl | omega) | (refine Eq.trans ?_ (if_neg (by omega)).symm; rfl)), (by unfold n_disc; first | (rw [if_pos htt]; exact hR) | (rw [if_neg (by omega)]; rw [htt]; exact hR) | (rw [htt]; exact hR))⟩)
      · skip
        refine jj_iconst F dX9_disc_69 ?_
        refine jj_goto F (tgt := 74) dX9_disc_70 rfl ?_
        refine jj_callVi B (k := 0) (n := 0) (k9_goes F.tr hR (show jR 2 by decide)) lk_X9_118 hR.1 cs_9 rfl rfl ⟨Nat.le_of_ble_eq_true rfl, Nat.le_of_ble_eq_true rfl, Nat.le_of_ble_eq_true rfl, Nat.le_of_ble_eq_true rfl, Nat.le_of_ble_eq_true rfl⟩ ⟨Nat.le_of_ble_eq_true rfl, Nat.le_of_ble_eq_true rfl, Nat.le_of_ble_eq_true rfl, Nat.le_of_ble_eq_true rfl⟩ jj_tx0 dX9_disc_74 (fun r G h => ?_)
        obtain ⟨rfl, hR⟩ := h
        refine jj_eqi (b := 0) rfl ?_
        refine jj_if_ne F (tgt := 82) dX9_disc_77 rfl (by omega) (fun c77 => by exfalso; omega) (fun c77 => ?_)
        refine jj_iconst F dX9_disc_80 ?_
        have htt : t_disc s d m n = 2 := by unfold t_disc; (repeat (first | rw [if_pos (by omega)] | rw [if_neg (by omega)]))
        exact jj_iret B dX9_disc_81 ⟨Nat.le_of_ble_eq_true rfl, Nat.le_of_ble_eq_true rfl⟩ (⟨_, rfl, (by unfold r_disc; first | (refine Eq.trans ?_ (if_pos htt).symm; first | rfl | omega) | (refine Eq.trans ?_ (if_neg (by omega)).symm; rfl)), (by unfold n_disc; first | (rw [if_pos htt]; exact hR) | (rw [if_neg (by omega)]; rw [htt]; exact hR) | (rw [htt]; exact hR))⟩)
abbrev rm_X9_play : Room := { frames := 2, cells := 0, slots := 0, locals := 43 }
set_option maxRecDepth 100000 in
set_option maxHeartbeats 4000000 in
theorem k9_play {l : Launch} {D : va_G} {ac : Nat → ClassId} (hl : l.stackTraces = false) {o : Nat} {a : Nat → Nat} {s : Sg} {d n x : Int} {G : jj_G} (hR : RM (ac 0) o a s G) {c : Int} (hI : sInv s c) (hd : jR d) (hn : jR n) (hx : jR x) : jj_C l D ac yX9_play (.code yX9_play cX9_play 4 (some .int)) rm_X9_play [.ref o, .int (jI d), .int (jI n), .int (jI x)] G (jj_pi (fun r G' => r = r_play s d n x ∧ RM (ac 0) o a (n_play s d n x) G')) (jj_nx) := by
  refine jj_ofx (own := RX9) (lv0 := [some (.ref o), some (.int (jI d)), some (.int (jI n)), some (.int (jI x))]) hl (by decide +kernel) rfl rfl (Nat.le_of_ble_eq_true rfl) rfl ?_
  intro X B hN hl0 hdg hac hin
  subst hl0; subst hdg; subst hac
  have F := B.F

  obtain ⟨hI1, hI2, hI3, hI4, hI5, hI6, hI7, hc⟩ := hI
  have i0 := hI1.1
  have i3 := hI3.1
  have i5 := hI5.1
  have r13 := hR.rng 13 0
  have r22 := hR.rng 22 0
  have hm : (1 ≤ n ∧ n ≤ 3) → (1 ≤ x ∧ x ≤ 50) → 1 ≤ n * x ∧ n * x ≤ 150 := by
    intro h1 h2
    rcases (show n = 1 ∨ n = 2 ∨ n = 3 by omega) with rfl | rfl | rfl <;> omega
  refine jj_aload0 F dX9_play_0 ?_
  refine jj_aload0 F dX9_play_1 ?_
  refine jj_iload1 F dX9_play_2 ?_
  refine jj_callVr B (k := 0) (n := 0) (k9_isDisc F.tr hR (by omega) (by omega)) lk_X9_188 hR.1 cs_9 rfl rfl ⟨Nat.le_of_ble_eq_true rfl, Nat.le_of_ble_eq_true rfl, Nat.le_of_ble_eq_true rfl, Nat.le_of_ble_eq_true rfl, Nat.le_of_ble_eq_true rfl⟩ ⟨Nat.le_of_ble_eq_true rfl, Nat.le_of_ble_eq_true rfl, Nat.le_of_ble_eq_true rfl, Nat.le_of_ble_eq_true rfl⟩ jj_tx0 dX9_play_3 ?_
  refine jj_ifb_ne F (tgt := 13) dX9_play_6 rfl (fun c6 => ?_) (fun c6 => ?_)
  · skip
    refine jj_iload2 F dX9_play_13 ?_
    refine jj_iconst F dX9_play_14 ?_
    refine jj_iconst F dX9_play_15 ?_
    refine jj_callSr B (k := 0) (n := 0) (k9_isIn F.tr (by omega) (by omega) (by omega)) lk_X9_104 rfl ⟨Nat.le_of_ble_eq_true rfl, Nat.le_of_ble_eq_true rfl, Nat.le_of_ble_eq_true rfl, Nat.le_of_ble_eq_true rfl, Nat.le_of_ble_eq_true rfl⟩ ⟨Nat.le_of_ble_eq_true rfl, Nat.le_of_ble_eq_true rfl, Nat.le_of_ble_eq_true rfl, Nat.le_of_ble_eq_true rfl⟩ jj_tx0 dX9_play_16 ?_
    refine jj_ifb_eq F (tgt := 36) dX9_play_19 rfl (fun c19 => ?_) (fun c19 => ?_)
    · skip
      refine jj_iconst F dX9_play_36 ?_
      refine jj_callVi B (k := 0) (n := 0) (k9_goes F.tr hR (show jR 2 by decide)) lk_X9_118 hR.1 cs_9 rfl rfl ⟨Nat.le_of_ble_eq_true rfl, Nat.le_of_ble_eq_true rfl, Nat.le_of_ble_eq_true rfl, Nat.le_of_ble_eq_true rfl, Nat.le_of_ble_eq_true rfl⟩ ⟨Nat.le_of_ble_eq_true rfl, Nat.le_of_ble_eq_true rfl, Nat.le_of_ble_eq_true rfl, Nat.le_of_ble_eq_true rfl⟩ jj_tx0 dX9_play_37 (fun r G h => ?_)
      obtain ⟨rfl, hR⟩ := h
      refine jj_eqi (b := 0) rfl ?_
      refine jj_if_ne F (tgt := 45) dX9_play_40 rfl (by omega) (fun c40 => by exfalso; omega) (fun c40 => ?_)
      refine jj_iconst F dX9_play_43 ?_
      have htt : t_play s d n x = 2 := by unfold t_play; (repeat (first | rw [if_pos (by omega)] | rw [if_neg (by omega)]))
      exact jj_iret B dX9_play_44 ⟨Nat.le_of_ble_eq_true rfl, Nat.le_of_ble_eq_true rfl⟩ (⟨_, rfl, (by unfold r_play; first | (refine Eq.trans ?_ (if_pos htt).symm; first | rfl | omega) | (refine Eq.trans ?_ (if_neg (by omega)).symm; rfl)), (by unfold n_play; first | (rw [if_pos htt]; exact hR) | (rw [if_neg (by omega)]; rw [htt]; exact hR) | (rw [htt]; exact hR))⟩)
    · skip
      refine jj_iload3 F dX9_play_22 ?_
      refine jj_iconst F dX9_play_23 ?_
      refine jj_bipush F (by decide) dX9_play_24 ?_
      refine jj_callSr B (k := 0) (n := 0) (k9_isIn F.tr (by omega) (by omega) (by omega)) lk_X9_104 rfl ⟨Nat.le_of_ble_eq_true rfl, Nat.le_of_ble_eq_true rfl, Nat.le_of_ble_eq_true rfl, Nat.le_of_ble_eq_true rfl, Nat.le_of_ble_eq_true rfl⟩ ⟨Nat.le_of_ble_eq_true rfl, Nat.le_of_ble_eq_true rfl, Nat.le_of_ble_eq_true rfl, Nat.le_of_ble_eq_true rfl⟩ jj_tx0 dX9_play_26 ?_
      refine jj_ifb_eq F (tgt := 36) dX9_play_29 rfl (fun c29 => ?_) (fun c29 => ?_)
      · skip
        refine jj_iconst F dX9_play_36 ?_
        refine jj_callVi B (k := 0) (n := 0) (k9_goes F.tr hR (show jR 2 by decide)) lk_X9_118 hR.1 cs_9 rfl rfl ⟨Nat.le_of_ble_eq_true rfl, Nat.le_of_ble_eq_true rfl, Nat.le_of_ble_eq_true rfl, Nat.le_of_ble_eq_true rfl, Nat.le_of_ble_eq_true rfl⟩ ⟨Nat.le_of_ble_eq_true rfl, Nat.le_of_ble_eq_true rfl, Nat.le_of_ble_eq_true rfl, Nat.le_of_ble_eq_true rfl⟩ jj_tx0 dX9_play_37 (fun r G h => ?_)
        obtain ⟨rfl, hR⟩ := h
        refine jj_eqi (b := 0) rfl ?_
        refine jj_if_ne F (tgt := 45) dX9_play_40 rfl (by omega) (fun c40 => by exfalso; omega) (fun c40 => ?_)
        refine jj_iconst F dX9_play_43 ?_
        have htt : t_play s d n x = 2 := by unfold t_play; (repeat (first | rw [if_pos (by omega)] | rw [if_neg (by omega)]))
        exact jj_iret B dX9_play_44 ⟨Nat.le_of_ble_eq_true rfl, Nat.le_of_ble_eq_true rfl⟩ (⟨_, rfl, (by unfold r_play; first | (refine Eq.trans ?_ (if_pos htt).symm; first | rfl | omega) | (refine Eq.trans ?_ (if_neg (by omega)).symm; rfl)), (by unfold n_play; first | (rw [if_pos htt]; exact hR) | (rw [if_neg (by omega)]; rw [htt]; exact hR) | (rw [htt]; exact hR))⟩)
      · skip
        refine jj_iconst F dX9_play_32 ?_
        refine jj_goto F (tgt := 37) dX9_play_33 rfl ?_
        refine jj_callVi B (k := 0) (n := 0) (k9_goes F.tr hR (show jR 0 by decide)) lk_X9_118 hR.1 cs_9 rfl rfl ⟨Nat.le_of_ble_eq_true rfl, Nat.le_of_ble_eq_true rfl, Nat.le_of_ble_eq_true rfl, Nat.le_of_ble_eq_true rfl, Nat.le_of_ble_eq_true rfl⟩ ⟨Nat.le_of_ble_eq_true rfl, Nat.le_of_ble_eq_true rfl, Nat.le_of_ble_eq_true rfl, Nat.le_of_ble_eq_true rfl⟩ jj_tx0 dX9_play_37 (fun r G h => ?_)
        obtain ⟨rfl, hR⟩ := h
        refine jj_eqi (b := 1) rfl ?_
        refine jj_if_ne F (tgt := 45) dX9_play_40 rfl (by omega) (fun c40 => ?_) (fun c40 => by exfalso; omega)
        refine jj_aload0 F dX9_play_45 ?_
        refine m9_get F hR fd_X9_67 (by decide) rfl dX9_play_46 ?_
        refine jj_iload1 F dX9_play_49 ?_
        refine jj_dup2 F rfl rfl dX9_play_50 ?_
        refine m9_ald F hR (n := 20) rfl (by omega) (by decide) dX9_play_51 (fun r_51 => ?_)
        refine jj_eqi (b := s 24 _) rfl ?_
        have r_51 : jR (s 24 _) := r_51
        refine jj_iload2 F dX9_play_52 ?_
        refine jj_iload3 F dX9_play_53 ?_
        refine jj_imul F dX9_play_54 ?_
        refine jj_iadd F dX9_play_55 ?_
        refine m9_ast F hR (n := 20) rfl (by omega) (by decide) (by have h1 := hI5.2.1 d (by omega) (by omega); have h2 := hm (by omega) (by omega); omega) dX9_play_56 (fun G hR => ?_)
        refine jj_aload0 F dX9_play_57 ?_
        refine m9_get F hR fd_X9_67 (by decide) rfl dX9_play_58 ?_
        refine jj_iload1 F dX9_play_61 ?_
        refine m9_ald F hR (n := 20) rfl (by omega) (by decide) dX9_play_62 (fun r_62 => ?_)
        refine jj_eqi (b := s 24 d + n * x) (by simp [sU, ju]) ?_
        have htt : t_play s d n x = 0 := by unfold t_play; (repeat (first | rw [if_pos (by omega)] | rw [if_neg (by omega)]))
        exact jj_iret B dX9_play_63 ⟨Nat.le_of_ble_eq_true rfl, Nat.le_of_ble_eq_true rfl⟩ (⟨_, rfl, (by unfold r_play; first | (refine Eq.trans ?_ (if_pos htt).symm; first | rfl | omega) | (refine Eq.trans ?_ (if_neg (by omega)).symm; rfl)), (by unfold n_play; first | (rw [if_pos htt]; exact hR) | (rw [if_neg (by omega)]; rw [htt]; exact hR) | (rw [htt]; exact hR))⟩)
  · skip
    refine jj_iconst F dX9_play_9 ?_
    refine jj_goto F (tgt := 37) dX9_play_10 rfl ?_
    refine jj_callVi B (k := 0) (n := 0) (k9_goes F.tr hR (show jR 1 by decide)) lk_X9_118 hR.1 cs_9 rfl rfl ⟨Nat.le_of_ble_eq_true rfl, Nat.le_of_ble_eq_true rfl, Nat.le_of_ble_eq_true rfl, Nat.le_of_ble_eq_true rfl, Nat.le_of_ble_eq_true rfl⟩ ⟨Nat.le_of_ble_eq_true rfl, Nat.le_of_ble_eq_true rfl, Nat.le_of_ble_eq_true rfl, Nat.le_of_ble_eq_true rfl⟩ jj_tx0 dX9_play_37 (fun r G h => ?_)
    obtain ⟨rfl, hR⟩ := h
    refine jj_eqi (b := 0) rfl ?_
    refine jj_if_ne F (tgt := 45) dX9_play_40 rfl (by omega) (fun c40 => by exfalso; omega) (fun c40 => ?_)
    refine jj_iconst F dX9_play_43 ?_
    have htt : t_play s d n x = 1 := by unfold t_play; (repeat (first | rw [if_pos (by omega)] | rw [if_neg (by omega)]))
    exact jj_iret B dX9_play_44 ⟨Nat.le_of_ble_eq_true rfl, Nat.le_of_ble_eq_true rfl⟩ (⟨_, rfl, (by unfold r_play; first | (refine Eq.trans ?_ (if_pos htt).symm; first | rfl | omega) | (refine Eq.trans ?_ (if_neg (by omega)).symm; rfl)), (by unfold n_play; first | (rw [if_pos htt]; exact hR) | (rw [if_neg (by omega)]; rw [htt]; exact hR) | (rw [htt]; exact hR))⟩)
abbrev rm_X9_scratch : Room := { frames := 2, cells := 0, slots := 0, locals := 43 }
set_option maxRecDepth 100000 in
set_option maxHeartbeats 4000000 in
theorem k9_scratch {l : Launch} {D : va_G} {ac : Nat → ClassId} (hl : l.stackTraces = false) {o : Nat} {a : Nat → Nat} {s : Sg} {d p : Int} {G : jj_G} (hR : RM (ac 0) o a s G) {c : Int} (hI : sInv s c) (hd : jR d) (hp : jR p) : jj_C l D ac yX9_scratch (.code yX9_scratch cX9_scratch 3 (some .int)) rm_X9_scratch [.ref o, .int (jI d), .int (jI p)] G (jj_pi (fun r G' => r = r_scratch s d p ∧ RM (ac 0) o a (n_scratch s d p) G')) (jj_nx) := by
  refine jj_ofx (own := RX9) (lv0 := [some (.ref o), some (.int (jI d)), some (.int (jI p))]) hl (by decide +kernel) rfl rfl (Nat.le_of_ble_eq_true rfl) rfl ?_
  intro X B hN hl0 hdg hac hin
  subst hl0; subst hdg; subst hac
  have F := B.F

  obtain ⟨hI1, hI2, hI3, hI4, hI5, hI6, hI7, hc⟩ := hI
  have i0 := hI1.1
  have i3 := hI3.1
  have i5 := hI5.1
  have r13 := hR.rng 13 0
  have r22 := hR.rng 22 0
  refine jj_aload0 F dX9_scratch_0 ?_
  refine jj_aload0 F dX9_scratch_1 ?_
  refine jj_iload1 F dX9_scratch_2 ?_
  refine jj_callVr B (k := 0) (n := 0) (k9_isDisc F.tr hR (by omega) (by omega)) lk_X9_188 hR.1 cs_9 rfl rfl ⟨Nat.le_of_ble_eq_true rfl, Nat.le_of_ble_eq_true rfl, Nat.le_of_ble_eq_true rfl, Nat.le_of_ble_eq_true rfl, Nat.le_of_ble_eq_true rfl⟩ ⟨Nat.le_of_ble_eq_true rfl, Nat.le_of_ble_eq_true rfl, Nat.le_of_ble_eq_true rfl, Nat.le_of_ble_eq_true rfl⟩ jj_tx0 dX9_scratch_3 ?_
  refine jj_ifb_eq F (tgt := 20) dX9_scratch_6 rfl (fun c6 => ?_) (fun c6 => ?_)
  · skip
    refine jj_iconst F dX9_scratch_20 ?_
    refine jj_callVi B (k := 0) (n := 0) (k9_goes F.tr hR (show jR 1 by decide)) lk_X9_118 hR.1 cs_9 rfl rfl ⟨Nat.le_of_ble_eq_true rfl, Nat.le_of_ble_eq_true rfl, Nat.le_of_ble_eq_true rfl, Nat.le_of_ble_eq_true rfl, Nat.le_of_ble_eq_true rfl⟩ ⟨Nat.le_of_ble_eq_true rfl, Nat.le_of_ble_eq_true rfl, Nat.le_of_ble_eq_true rfl, Nat.le_of_ble_eq_true rfl⟩ jj_tx0 dX9_scratch_21 (fun r G h => ?_)
    obtain ⟨rfl, hR⟩ := h
    refine jj_eqi (b := 0) rfl ?_
    refine jj_if_ne F (tgt := 29) dX9_scratch_24 rfl (by omega) (fun c24 => by exfalso; omega) (fun c24 => ?_)
    refine jj_iconst F dX9_scratch_27 ?_
    have htt : t_scr s d p = 1 := by unfold t_scr; (repeat (first | rw [if_pos (by omega)] | rw [if_neg (by omega)]))
    exact jj_iret B dX9_scratch_28 ⟨Nat.le_of_ble_eq_true rfl, Nat.le_of_ble_eq_true rfl⟩ (⟨_, rfl, (by unfold r_scratch; first | (refine Eq.trans ?_ (if_pos htt).symm; unfold n_scratch; rw [if_pos htt]) | (refine Eq.trans ?_ (if_neg (by omega)).symm; rfl)), (by unfold n_scratch; first | (rw [if_pos htt]; exact hR) | (rw [if_neg (by omega)]; rw [htt]; exact hR) | (rw [htt]; exact hR))⟩)
  · skip
    refine jj_iload2 F dX9_scratch_9 ?_
    refine jj_callSr B (k := 0) (n := 0) (k9_isPart F.tr (by omega)) lk_X9_191 rfl ⟨Nat.le_of_ble_eq_true rfl, Nat.le_of_ble_eq_true rfl, Nat.le_of_ble_eq_true rfl, Nat.le_of_ble_eq_true rfl, Nat.le_of_ble_eq_true rfl⟩ ⟨Nat.le_of_ble_eq_true rfl, Nat.le_of_ble_eq_true rfl, Nat.le_of_ble_eq_true rfl, Nat.le_of_ble_eq_true rfl⟩ jj_tx0 dX9_scratch_10 ?_
    refine jj_ifb_eq F (tgt := 20) dX9_scratch_13 rfl (fun c13 => ?_) (fun c13 => ?_)
    · skip
      refine jj_iconst F dX9_scratch_20 ?_
      refine jj_callVi B (k := 0) (n := 0) (k9_goes F.tr hR (show jR 1 by decide)) lk_X9_118 hR.1 cs_9 rfl rfl ⟨Nat.le_of_ble_eq_true rfl, Nat.le_of_ble_eq_true rfl, Nat.le_of_ble_eq_true rfl, Nat.le_of_ble_eq_true rfl, Nat.le_of_ble_eq_true rfl⟩ ⟨Nat.le_of_ble_eq_true rfl, Nat.le_of_ble_eq_true rfl, Nat.le_of_ble_eq_true rfl, Nat.le_of_ble_eq_true rfl⟩ jj_tx0 dX9_scratch_21 (fun r G h => ?_)
      obtain ⟨rfl, hR⟩ := h
      refine jj_eqi (b := 0) rfl ?_
      refine jj_if_ne F (tgt := 29) dX9_scratch_24 rfl (by omega) (fun c24 => by exfalso; omega) (fun c24 => ?_)
      refine jj_iconst F dX9_scratch_27 ?_
      have htt : t_scr s d p = 1 := by unfold t_scr; (repeat (first | rw [if_pos (by omega)] | rw [if_neg (by omega)]))
      exact jj_iret B dX9_scratch_28 ⟨Nat.le_of_ble_eq_true rfl, Nat.le_of_ble_eq_true rfl⟩ (⟨_, rfl, (by unfold r_scratch; first | (refine Eq.trans ?_ (if_pos htt).symm; unfold n_scratch; rw [if_pos htt]) | (refine Eq.trans ?_ (if_neg (by omega)).symm; rfl)), (by unfold n_scratch; first | (rw [if_pos htt]; exact hR) | (rw [if_neg (by omega)]; rw [htt]; exact hR) | (rw [htt]; exact hR))⟩)
    · skip
      refine jj_iconst F dX9_scratch_16 ?_
      refine jj_goto F (tgt := 21) dX9_scratch_17 rfl ?_
      refine jj_callVi B (k := 0) (n := 0) (k9_goes F.tr hR (show jR 0 by decide)) lk_X9_118 hR.1 cs_9 rfl rfl ⟨Nat.le_of_ble_eq_true rfl, Nat.le_of_ble_eq_true rfl, Nat.le_of_ble_eq_true rfl, Nat.le_of_ble_eq_true rfl, Nat.le_of_ble_eq_true rfl⟩ ⟨Nat.le_of_ble_eq_true rfl, Nat.le_of_ble_eq_true rfl, Nat.le_of_ble_eq_true rfl, Nat.le_of_ble_eq_true rfl⟩ jj_tx0 dX9_scratch_21 (fun r G h => ?_)
      obtain ⟨rfl, hR⟩ := h
      refine jj_eqi (b := 1) rfl ?_
      refine jj_if_ne F (tgt := 29) dX9_scratch_24 rfl (by omega) (fun c24 => ?_) (fun c24 => by exfalso; omega)
      refine jj_aload0 F dX9_scratch_29 ?_
      refine m9_get F hR fd_X9_70 (by decide) rfl dX9_scratch_30 ?_
      refine jj_bipush F (by decide) dX9_scratch_33 ?_
      refine jj_iload1 F dX9_scratch_35 ?_
      refine jj_imul F dX9_scratch_36 ?_
      refine jj_iload2 F dX9_scratch_37 ?_
      refine jj_iadd F dX9_scratch_38 ?_
      refine jj_dup2 F rfl rfl dX9_scratch_39 ?_
      refine m9_ald F hR (n := 160) rfl (by omega) (by decide) dX9_scratch_40 (fun r_40 => ?_)
      refine jj_eqi (b := s 25 _) rfl ?_
      have r_40 : jR (s 25 _) := r_40
      refine jj_iconst F dX9_scratch_41 ?_
      refine jj_iadd F dX9_scratch_42 ?_
      refine m9_ast F hR (n := 160) rfl (by omega) (by decide) (by have h1 := hI5.2.2.1 (8 * d + p) (by omega) (by omega); omega) dX9_scratch_43 (fun G hR => ?_)
      refine jj_aload0 F dX9_scratch_44 ?_
      refine jj_iload1 F dX9_scratch_45 ?_
      refine jj_iload2 F dX9_scratch_46 ?_
      refine jj_callVr B (k := 0) (n := 0) (k9_noiseOf F.tr hR (by omega) (by omega) (show 0 ≤ s 24 _ ∧ s 24 _ ≤ 100000 by have := hI5.2.1 d (by omega) (by omega); omega)) lk_X9_194 hR.1 cs_9 rfl rfl ⟨Nat.le_of_ble_eq_true rfl, Nat.le_of_ble_eq_true rfl, Nat.le_of_ble_eq_true rfl, Nat.le_of_ble_eq_true rfl, Nat.le_of_ble_eq_true rfl⟩ ⟨Nat.le_of_ble_eq_true rfl, Nat.le_of_ble_eq_true rfl, Nat.le_of_ble_eq_true rfl, Nat.le_of_ble_eq_true rfl⟩ jj_tx0 dX9_scratch_47 ?_
      have htt : t_scr s d p = 0 := by unfold t_scr; (repeat (first | rw [if_pos (by omega)] | rw [if_neg (by omega)]))
      exact jj_iret B dX9_scratch_50 ⟨Nat.le_of_ble_eq_true rfl, Nat.le_of_ble_eq_true rfl⟩ (⟨_, rfl, (by unfold r_scratch; first | (refine Eq.trans ?_ (if_pos htt).symm; unfold n_scratch; rw [if_pos htt]) | (refine Eq.trans ?_ (if_neg (by omega)).symm; rfl)), (by unfold n_scratch; first | (rw [if_pos htt]; exact hR) | (rw [if_neg (by omega)]; rw [htt]; exact hR) | (rw [htt]; exact hR))⟩)
abbrev rm_X9_noise : Room := { frames := 2, cells := 0, slots := 0, locals := 43 }
set_option maxRecDepth 100000 in
set_option maxHeartbeats 4000000 in
theorem k9_noise {l : Launch} {D : va_G} {ac : Nat → ClassId} (hl : l.stackTraces = false) {o : Nat} {a : Nat → Nat} {s : Sg} {d p : Int} {G : jj_G} (hR : RM (ac 0) o a s G) {c : Int} (hI : sInv s c) (hd : jR d) (hp : jR p) : jj_C l D ac yX9_noise (.code yX9_noise cX9_noise 3 (some .int)) rm_X9_noise [.ref o, .int (jI d), .int (jI p)] G (jj_pi (fun r G' => r = r_noise s d p ∧ RM (ac 0) o a (n_noise s d p) G')) (jj_nx) := by
  refine jj_ofx (own := RX9) (lv0 := [some (.ref o), some (.int (jI d)), some (.int (jI p))]) hl (by decide +kernel) rfl rfl (Nat.le_of_ble_eq_true rfl) rfl ?_
  intro X B hN hl0 hdg hac hin
  subst hl0; subst hdg; subst hac
  have F := B.F

  obtain ⟨hI1, hI2, hI3, hI4, hI5, hI6, hI7, hc⟩ := hI
  have i0 := hI1.1
  have i3 := hI3.1
  have i5 := hI5.1
  have r13 := hR.rng 13 0
  have r22 := hR.rng 22 0
  refine jj_aload0 F dX9_noise_0 ?_
  refine jj_aload0 F dX9_noise_1 ?_
  refine jj_iload1 F dX9_noise_2 ?_
  refine jj_callVr B (k := 0) (n := 0) (k9_isDisc F.tr hR (by omega) (by omega)) lk_X9_188 hR.1 cs_9 rfl rfl ⟨Nat.le_of_ble_eq_true rfl, Nat.le_of_ble_eq_true rfl, Nat.le_of_ble_eq_true rfl, Nat.le_of_ble_eq_true rfl, Nat.le_of_ble_eq_true rfl⟩ ⟨Nat.le_of_ble_eq_true rfl, Nat.le_of_ble_eq_true rfl, Nat.le_of_ble_eq_true rfl, Nat.le_of_ble_eq_true rfl⟩ jj_tx0 dX9_noise_3 ?_
  refine jj_ifb_eq F (tgt := 20) dX9_noise_6 rfl (fun c6 => ?_) (fun c6 => ?_)
  · skip
    refine jj_iconst F dX9_noise_20 ?_
    refine jj_callVi B (k := 0) (n := 0) (k9_goes F.tr hR (show jR 1 by decide)) lk_X9_118 hR.1 cs_9 rfl rfl ⟨Nat.le_of_ble_eq_true rfl, Nat.le_of_ble_eq_true rfl, Nat.le_of_ble_eq_true rfl, Nat.le_of_ble_eq_true rfl, Nat.le_of_ble_eq_true rfl⟩ ⟨Nat.le_of_ble_eq_true rfl, Nat.le_of_ble_eq_true rfl, Nat.le_of_ble_eq_true rfl, Nat.le_of_ble_eq_true rfl⟩ jj_tx0 dX9_noise_21 (fun r G h => ?_)
    obtain ⟨rfl, hR⟩ := h
    refine jj_eqi (b := 0) rfl ?_
    refine jj_if_eq F (tgt := 36) dX9_noise_24 rfl (by omega) (fun c24 => ?_) (fun c24 => by exfalso; omega)
    refine jj_iconst F dX9_noise_36 ?_
    have htt : t_scr s d p = 1 := by unfold t_scr; (repeat (first | rw [if_pos (by omega)] | rw [if_neg (by omega)]))
    exact jj_iret B dX9_noise_37 ⟨Nat.le_of_ble_eq_true rfl, Nat.le_of_ble_eq_true rfl⟩ (⟨_, rfl, (by unfold r_noise; first | (refine Eq.trans ?_ (if_pos htt).symm; first | rfl | omega) | (refine Eq.trans ?_ (if_neg (by omega)).symm; rfl)), (by unfold n_noise; first | (rw [if_pos htt]; exact hR) | (rw [if_neg (by omega)]; rw [htt]; exact hR) | (rw [htt]; exact hR))⟩)
  · skip
    refine jj_iload2 F dX9_noise_9 ?_
    refine jj_callSr B (k := 0) (n := 0) (k9_isPart F.tr (by omega)) lk_X9_191 rfl ⟨Nat.le_of_ble_eq_true rfl, Nat.le_of_ble_eq_true rfl, Nat.le_of_ble_eq_true rfl, Nat.le_of_ble_eq_true rfl, Nat.le_of_ble_eq_true rfl⟩ ⟨Nat.le_of_ble_eq_true rfl, Nat.le_of_ble_eq_true rfl, Nat.le_of_ble_eq_true rfl, Nat.le_of_ble_eq_true rfl⟩ jj_tx0 dX9_noise_10 ?_
    refine jj_ifb_eq F (tgt := 20) dX9_noise_13 rfl (fun c13 => ?_) (fun c13 => ?_)
    · skip
      refine jj_iconst F dX9_noise_20 ?_
      refine jj_callVi B (k := 0) (n := 0) (k9_goes F.tr hR (show jR 1 by decide)) lk_X9_118 hR.1 cs_9 rfl rfl ⟨Nat.le_of_ble_eq_true rfl, Nat.le_of_ble_eq_true rfl, Nat.le_of_ble_eq_true rfl, Nat.le_of_ble_eq_true rfl, Nat.le_of_ble_eq_true rfl⟩ ⟨Nat.le_of_ble_eq_true rfl, Nat.le_of_ble_eq_true rfl, Nat.le_of_ble_eq_true rfl, Nat.le_of_ble_eq_true rfl⟩ jj_tx0 dX9_noise_21 (fun r G h => ?_)
      obtain ⟨rfl, hR⟩ := h
      refine jj_eqi (b := 0) rfl ?_
      refine jj_if_eq F (tgt := 36) dX9_noise_24 rfl (by omega) (fun c24 => ?_) (fun c24 => by exfalso; omega)
      refine jj_iconst F dX9_noise_36 ?_
      have htt : t_scr s d p = 1 := by unfold t_scr; (repeat (first | rw [if_pos (by omega)] | rw [if_neg (by omega)]))
      exact jj_iret B dX9_noise_37 ⟨Nat.le_of_ble_eq_true rfl, Nat.le_of_ble_eq_true rfl⟩ (⟨_, rfl, (by unfold r_noise; first | (refine Eq.trans ?_ (if_pos htt).symm; first | rfl | omega) | (refine Eq.trans ?_ (if_neg (by omega)).symm; rfl)), (by unfold n_noise; first | (rw [if_pos htt]; exact hR) | (rw [if_neg (by omega)]; rw [htt]; exact hR) | (rw [htt]; exact hR))⟩)
    · skip
      refine jj_iconst F dX9_noise_16 ?_
      refine jj_goto F (tgt := 21) dX9_noise_17 rfl ?_
      refine jj_callVi B (k := 0) (n := 0) (k9_goes F.tr hR (show jR 0 by decide)) lk_X9_118 hR.1 cs_9 rfl rfl ⟨Nat.le_of_ble_eq_true rfl, Nat.le_of_ble_eq_true rfl, Nat.le_of_ble_eq_true rfl, Nat.le_of_ble_eq_true rfl, Nat.le_of_ble_eq_true rfl⟩ ⟨Nat.le_of_ble_eq_true rfl, Nat.le_of_ble_eq_true rfl, Nat.le_of_ble_eq_true rfl, Nat.le_of_ble_eq_true rfl⟩ jj_tx0 dX9_noise_21 (fun r G h => ?_)
      obtain ⟨rfl, hR⟩ := h
      refine jj_eqi (b := 1) rfl ?_
      refine jj_if_eq F (tgt := 36) dX9_noise_24 rfl (by omega) (fun c24 => by exfalso; omega) (fun c24 => ?_)
      refine jj_aload0 F dX9_noise_27 ?_
      refine jj_iload1 F dX9_noise_28 ?_
      refine jj_iload2 F dX9_noise_29 ?_
      refine jj_callVr B (k := 0) (n := 0) (k9_noiseOf F.tr hR (by omega) (by omega) (show 0 ≤ s 24 _ ∧ s 24 _ ≤ 100000 by have := hI5.2.1 d (by omega) (by omega); omega)) lk_X9_194 hR.1 cs_9 rfl rfl ⟨Nat.le_of_ble_eq_true rfl, Nat.le_of_ble_eq_true rfl, Nat.le_of_ble_eq_true rfl, Nat.le_of_ble_eq_true rfl, Nat.le_of_ble_eq_true rfl⟩ ⟨Nat.le_of_ble_eq_true rfl, Nat.le_of_ble_eq_true rfl, Nat.le_of_ble_eq_true rfl, Nat.le_of_ble_eq_true rfl⟩ jj_tx0 dX9_noise_30 ?_
      refine jj_eqi ((rfl : sNoise _ _ _ = sNoise s _ _)) ?_
      refine jj_goto F (tgt := 37) dX9_noise_33 rfl ?_
      have htt : t_scr s d p = 0 := by unfold t_scr; (repeat (first | rw [if_pos (by omega)] | rw [if_neg (by omega)]))
      exact jj_iret B dX9_noise_37 ⟨Nat.le_of_ble_eq_true rfl, Nat.le_of_ble_eq_true rfl⟩ (⟨_, rfl, (by unfold r_noise; first | (refine Eq.trans ?_ (if_pos htt).symm; first | rfl | omega) | (refine Eq.trans ?_ (if_neg (by omega)).symm; rfl)), (by unfold n_noise; first | (rw [if_pos htt]; exact hR) | (rw [if_neg (by omega)]; rw [htt]; exact hR) | (rw [htt]; exact hR))⟩)
abbrev rm_X9_grade : Room := { frames := 2, cells := 0, slots := 0, locals := 43 }
set_option maxRecDepth 100000 in
set_option maxHeartbeats 4000000 in
theorem k9_grade {l : Launch} {D : va_G} {ac : Nat → ClassId} (hl : l.stackTraces = false) {o : Nat} {a : Nat → Nat} {s : Sg} {d : Int} {G : jj_G} (hR : RM (ac 0) o a s G) {c : Int} (hI : sInv s c) (hd : jR d) : jj_C l D ac yX9_grade (.code yX9_grade cX9_grade 4 (some .int)) rm_X9_grade [.ref o, .int (jI d)] G (jj_pi (fun r G' => r = r_grade s d ∧ RM (ac 0) o a (n_grade s d) G')) (jj_nx) := by
  refine jj_ofx (own := RX9) (lv0 := [some (.ref o), some (.int (jI d)), none, none]) hl (by decide +kernel) rfl rfl (Nat.le_of_ble_eq_true rfl) rfl ?_
  intro X B hN hl0 hdg hac hin
  subst hl0; subst hdg; subst hac
  have F := B.F

  obtain ⟨hI1, hI2, hI3, hI4, hI5, hI6, hI7, hc⟩ := hI
  have i0 := hI1.1
  have i3 := hI3.1
  have i5 := hI5.1
  have r13 := hR.rng 13 0
  have r22 := hR.rng 22 0
  refine jj_aload0 F dX9_grade_0 ?_
  refine jj_aload0 F dX9_grade_1 ?_
  refine jj_iload1 F dX9_grade_2 ?_
  refine jj_callVr B (k := 0) (n := 0) (k9_isDisc F.tr hR (by omega) (by omega)) lk_X9_188 hR.1 cs_9 rfl rfl ⟨Nat.le_of_ble_eq_true rfl, Nat.le_of_ble_eq_true rfl, Nat.le_of_ble_eq_true rfl, Nat.le_of_ble_eq_true rfl, Nat.le_of_ble_eq_true rfl⟩ ⟨Nat.le_of_ble_eq_true rfl, Nat.le_of_ble_eq_true rfl, Nat.le_of_ble_eq_true rfl, Nat.le_of_ble_eq_true rfl⟩ jj_tx0 dX9_grade_3 ?_
  refine jj_ifb_eq F (tgt := 13) dX9_grade_6 rfl (fun c6 => ?_) (fun c6 => ?_)
  · skip
    refine jj_iconst F dX9_grade_13 ?_
    refine jj_callVi B (k := 0) (n := 0) (k9_goes F.tr hR (show jR 1 by decide)) lk_X9_118 hR.1 cs_9 rfl rfl ⟨Nat.le_of_ble_eq_true rfl, Nat.le_of_ble_eq_true rfl, Nat.le_of_ble_eq_true rfl, Nat.le_of_ble_eq_true rfl, Nat.le_of_ble_eq_true rfl⟩ ⟨Nat.le_of_ble_eq_true rfl, Nat.le_of_ble_eq_true rfl, Nat.le_of_ble_eq_true rfl, Nat.le_of_ble_eq_true rfl⟩ jj_tx0 dX9_grade_14 (fun r G h => ?_)
    obtain ⟨rfl, hR⟩ := h
    refine jj_eqi (b := 0) rfl ?_
    refine jj_if_ne F (tgt := 22) dX9_grade_17 rfl (by omega) (fun c17 => by exfalso; omega) (fun c17 => ?_)
    refine jj_iconst F dX9_grade_20 ?_
    have htt : t_grade s d = 1 := by unfold t_grade; (repeat (first | rw [if_pos (by omega)] | rw [if_neg (by omega)]))
    exact jj_iret B dX9_grade_21 ⟨Nat.le_of_ble_eq_true rfl, Nat.le_of_ble_eq_true rfl⟩ (⟨_, rfl, (by unfold r_grade; first | (refine Eq.trans ?_ (if_pos htt).symm; first | rfl | omega) | (refine Eq.trans ?_ (if_neg (by omega)).symm; rfl)), (by unfold n_grade; first | (rw [if_pos htt]; exact hR) | (rw [if_neg (by omega)]; rw [htt]; exact hR) | (rw [htt]; exact hR))⟩)
  · skip
    refine jj_iconst F dX9_grade_9 ?_
    refine jj_goto F (tgt := 14) dX9_grade_10 rfl ?_
    refine jj_callVi B (k := 0) (n := 0) (k9_goes F.tr hR (show jR 0 by decide)) lk_X9_118 hR.1 cs_9 rfl rfl ⟨Nat.le_of_ble_eq_true rfl, Nat.le_of_ble_eq_true rfl, Nat.le_of_ble_eq_true rfl, Nat.le_of_ble_eq_true rfl, Nat.le_of_ble_eq_true rfl⟩ ⟨Nat.le_of_ble_eq_true rfl, Nat.le_of_ble_eq_true rfl, Nat.le_of_ble_eq_true rfl, Nat.le_of_ble_eq_true rfl⟩ jj_tx0 dX9_grade_14 (fun r G h => ?_)
    obtain ⟨rfl, hR⟩ := h
    refine jj_eqi (b := 1) rfl ?_
    refine jj_if_ne F (tgt := 22) dX9_grade_17 rfl (by omega) (fun c17 => ?_) (fun c17 => by exfalso; omega)
    refine jj_iconst F dX9_grade_22 ?_
    refine jj_istore2 F dX9_grade_23 (hN _ (by decide)) rfl ?_
    refine jj_iconst F dX9_grade_24 ?_
    refine jj_istore3 F dX9_grade_25 (hN _ (by decide)) rfl ?_
    have htt : t_grade s d = 0 := by unfold t_grade; rw [if_pos (by omega)]
    have hno : ∀ p : Int, 0 ≤ p → p < 8 → 0 ≤ sNoise s d p ∧ sNoise s d p ≤ 100000 := by
      intro p h1 h2
      have g1 := hI5.2.1 d (by omega) (by omega)
      have g2 := hI5.2.2.1 (8 * d + p) (by omega) (by omega)
      have g3 : 0 ≤ s 24 d * (p + 1) := Int.mul_nonneg g1.1 (by omega)
      have g4 : s 24 d * (p + 1) ≤ 76800 * (p + 1) := Int.mul_le_mul_of_nonneg_right (by omega) (by omega)
      unfold sNoise
      omega
    have hns : ∀ j : Nat, (j : Int) ≤ 8 → 0 ≤ sNoises s d j ∧ sNoises s d j ≤ 100000 * j := by
      intro j
      induction j with
      | zero => intro _; exact ⟨Int.le_refl _, Int.le_refl _⟩
      | succ j ih =>
        intro hj
        have g1 := ih (by omega)
        have g2 := hno j (by omega) (by omega)
        unfold sNoises
        omega
    have loop : ∀ (n j : Nat), n + j = 8 → jj_J X G 0 0 26 [some (.ref o), some (.int (jI d)), some (.int (jI (sNoises s d j))), some (.int (jI j))] [] := by
      intro n
      induction n with
      | zero =>
        intro j hj
        have e1 : (j : Int) = 8 := by omega
        have g1 := hns j (by omega)
        refine jj_iload3 F dX9_grade_26 ?_
        refine jj_bipush F (by decide) dX9_grade_27 ?_
        refine jj_icmp_ge F (tgt := 47) dX9_grade_29 rfl (by omega) (fun c29 => ?_) (fun c29 => by exfalso; omega)
        refine jj_iload2 F dX9_grade_47 ?_
        refine jj_if_ne F (tgt := 55) dX9_grade_48 rfl (by omega) (fun c48 => ?_) (fun c48 => ?_)
        · skip
          refine jj_iload2 F dX9_grade_55 ?_
          refine jj_bipush F (by decide) dX9_grade_56 ?_
          refine jj_icmp_ge F (tgt := 65) dX9_grade_58 rfl (by omega) (fun c58 => ?_) (fun c58 => ?_)
          · skip
            refine jj_iload2 F dX9_grade_65 ?_
            refine jj_bipush F (by decide) dX9_grade_66 ?_
            refine jj_icmp_ge F (tgt := 75) dX9_grade_68 rfl (by omega) (fun c68 => ?_) (fun c68 => ?_)
            · skip
              refine jj_iload2 F dX9_grade_75 ?_
              refine jj_sipush F (by decide) dX9_grade_76 ?_
              refine jj_icmp_ge F (tgt := 86) dX9_grade_79 rfl (by omega) (fun c79 => ?_) (fun c79 => ?_)
              · skip
                refine jj_iconst F dX9_grade_86 ?_
                exact jj_iret B dX9_grade_87 ⟨Nat.le_of_ble_eq_true rfl, Nat.le_of_ble_eq_true rfl⟩ (⟨_, rfl, (by unfold r_grade; refine Eq.trans ?_ (if_pos htt).symm; rw [show (8 : Nat) = j by omega]; unfold sGrade; (repeat (first | rw [if_pos (by omega)] | rw [if_neg (by omega)]))), (by unfold n_grade; rw [htt]; exact hR)⟩)
              · skip
                refine jj_iconst F dX9_grade_82 ?_
                refine jj_goto F (tgt := 87) dX9_grade_83 rfl ?_
                exact jj_iret B dX9_grade_87 ⟨Nat.le_of_ble_eq_true rfl, Nat.le_of_ble_eq_true rfl⟩ (⟨_, rfl, (by unfold r_grade; refine Eq.trans ?_ (if_pos htt).symm; rw [show (8 : Nat) = j by omega]; unfold sGrade; (repeat (first | rw [if_pos (by omega)] | rw [if_neg (by omega)]))), (by unfold n_grade; rw [htt]; exact hR)⟩)
            · skip
              refine jj_iconst F dX9_grade_71 ?_
              refine jj_goto F (tgt := 87) dX9_grade_72 rfl ?_
              exact jj_iret B dX9_grade_87 ⟨Nat.le_of_ble_eq_true rfl, Nat.le_of_ble_eq_true rfl⟩ (⟨_, rfl, (by unfold r_grade; refine Eq.trans ?_ (if_pos htt).symm; rw [show (8 : Nat) = j by omega]; unfold sGrade; (repeat (first | rw [if_pos (by omega)] | rw [if_neg (by omega)]))), (by unfold n_grade; rw [htt]; exact hR)⟩)
          · skip
            refine jj_iconst F dX9_grade_61 ?_
            refine jj_goto F (tgt := 87) dX9_grade_62 rfl ?_
            exact jj_iret B dX9_grade_87 ⟨Nat.le_of_ble_eq_true rfl, Nat.le_of_ble_eq_true rfl⟩ (⟨_, rfl, (by unfold r_grade; refine Eq.trans ?_ (if_pos htt).symm; rw [show (8 : Nat) = j by omega]; unfold sGrade; (repeat (first | rw [if_pos (by omega)] | rw [if_neg (by omega)]))), (by unfold n_grade; rw [htt]; exact hR)⟩)
        · skip
          refine jj_iconst F dX9_grade_51 ?_
          refine jj_goto F (tgt := 87) dX9_grade_52 rfl ?_
          exact jj_iret B dX9_grade_87 ⟨Nat.le_of_ble_eq_true rfl, Nat.le_of_ble_eq_true rfl⟩ (⟨_, rfl, (by unfold r_grade; refine Eq.trans ?_ (if_pos htt).symm; rw [show (8 : Nat) = j by omega]; unfold sGrade; (repeat (first | rw [if_pos (by omega)] | rw [if_neg (by omega)]))), (by unfold n_grade; rw [htt]; exact hR)⟩)
      | succ n ih =>
        intro j hj
        have e1 : (j : Int) < 8 := by omega
        refine jj_iload3 F dX9_grade_26 ?_
        refine jj_bipush F (by decide) dX9_grade_27 ?_
        refine jj_icmp_ge F (tgt := 47) dX9_grade_29 rfl (by omega) (fun c29 => by exfalso; omega) (fun c29 => ?_)
        refine jj_iload2 F dX9_grade_32 ?_
        refine jj_aload0 F dX9_grade_33 ?_
        refine jj_iload1 F dX9_grade_34 ?_
        refine jj_iload3 F dX9_grade_35 ?_
        refine jj_callVr B (k := 0) (n := 0) (k9_noiseOf F.tr hR (by omega) (by omega) (show 0 ≤ s 24 _ ∧ s 24 _ ≤ 100000 by have := hI5.2.1 d (by omega) (by omega); omega)) lk_X9_194 hR.1 cs_9 rfl rfl ⟨Nat.le_of_ble_eq_true rfl, Nat.le_of_ble_eq_true rfl, Nat.le_of_ble_eq_true rfl, Nat.le_of_ble_eq_true rfl, Nat.le_of_ble_eq_true rfl⟩ ⟨Nat.le_of_ble_eq_true rfl, Nat.le_of_ble_eq_true rfl, Nat.le_of_ble_eq_true rfl, Nat.le_of_ble_eq_true rfl⟩ jj_tx0 dX9_grade_36 ?_
        refine jj_eqi ((rfl : sNoise _ _ _ = sNoise s _ _)) ?_
        refine jj_iadd F dX9_grade_39 ?_
        refine jj_istore2 F dX9_grade_40 (hN _ (by decide)) rfl ?_
        refine jj_iinc3 F dX9_grade_41 (hN _ (by decide)) rfl ?_
        refine jj_goto F (tgt := 26) dX9_grade_44 rfl ?_
        have ih1 := ih (j + 1) (by omega)
        rw [show (((j + 1 : Nat)) : Int) = (j : Int) + 1 from rfl] at ih1
        exact ih1
    exact loop 8 0 (by omega)
abbrev rm_X9_repair : Room := { frames := 2, cells := 0, slots := 0, locals := 42 }
set_option maxRecDepth 100000 in
set_option maxHeartbeats 4000000 in
theorem k9_repair {l : Launch} {D : va_G} {ac : Nat → ClassId} (hl : l.stackTraces = false) {o : Nat} {a : Nat → Nat} {s : Sg} {p : Int} {G : jj_G} (hR : RM (ac 0) o a s G) {c : Int} (hI : sInv s c) (hp : jR p) : jj_C l D ac yX9_repair (.code yX9_repair cX9_repair 2 (some .int)) rm_X9_repair [.ref o, .int (jI p)] G (jj_pi (fun r G' => r = r_repair s p ∧ RM (ac 0) o a (n_repair s p) G')) (jj_nx) := by
  refine jj_ofx (own := RX9) (lv0 := [some (.ref o), some (.int (jI p))]) hl (by decide +kernel) rfl rfl (Nat.le_of_ble_eq_true rfl) rfl ?_
  intro X B hN hl0 hdg hac hin
  subst hl0; subst hdg; subst hac
  have F := B.F

  obtain ⟨hI1, hI2, hI3, hI4, hI5, hI6, hI7, hc⟩ := hI
  have i6 := hI6.1
  have i62 := hI6.2.1
  have i63 := hI6.2.2.1
  have r26 := hR.rng 26 0
  have r28 := hR.rng 28 0
  refine jj_aload0 F dX9_repair_0 ?_
  refine jj_iload1 F dX9_repair_1 ?_
  refine jj_callSr B (k := 0) (n := 0) (k9_isPart F.tr (by omega)) lk_X9_191 rfl ⟨Nat.le_of_ble_eq_true rfl, Nat.le_of_ble_eq_true rfl, Nat.le_of_ble_eq_true rfl, Nat.le_of_ble_eq_true rfl, Nat.le_of_ble_eq_true rfl⟩ ⟨Nat.le_of_ble_eq_true rfl, Nat.le_of_ble_eq_true rfl, Nat.le_of_ble_eq_true rfl, Nat.le_of_ble_eq_true rfl⟩ jj_tx0 dX9_repair_2 ?_
  refine jj_ifb_ne F (tgt := 12) dX9_repair_5 rfl (fun c5 => ?_) (fun c5 => ?_)
  · skip
    refine jj_aload0 F dX9_repair_12 ?_
    refine m9_get F hR fd_X9_206 (by decide) rfl dX9_repair_13 ?_
    refine jj_if_eq F (tgt := 28) dX9_repair_16 rfl (by omega) (fun c16 => ?_) (fun c16 => ?_)
    · skip
      refine jj_iconst F dX9_repair_28 ?_
      refine jj_goto F (tgt := 33) dX9_repair_29 rfl ?_
      refine jj_callVi B (k := 0) (n := 0) (k9_goes F.tr hR (show jR 2 by decide)) lk_X9_118 hR.1 cs_9 rfl rfl ⟨Nat.le_of_ble_eq_true rfl, Nat.le_of_ble_eq_true rfl, Nat.le_of_ble_eq_true rfl, Nat.le_of_ble_eq_true rfl, Nat.le_of_ble_eq_true rfl⟩ ⟨Nat.le_of_ble_eq_true rfl, Nat.le_of_ble_eq_true rfl, Nat.le_of_ble_eq_true rfl, Nat.le_of_ble_eq_true rfl⟩ jj_tx0 dX9_repair_33 (fun r G h => ?_)
      obtain ⟨rfl, hR⟩ := h
      refine jj_eqi (b := 0) rfl ?_
      refine jj_if_ne F (tgt := 41) dX9_repair_36 rfl (by omega) (fun c36 => by exfalso; omega) (fun c36 => ?_)
      refine jj_iconst F dX9_repair_39 ?_
      have htt : t_repair s p = 2 := by unfold t_repair; (repeat (first | rw [if_pos (by omega)] | rw [if_neg (by omega)]))
      exact jj_iret B dX9_repair_40 ⟨Nat.le_of_ble_eq_true rfl, Nat.le_of_ble_eq_true rfl⟩ (⟨_, rfl, (by unfold r_repair; first | (refine Eq.trans ?_ (if_pos htt).symm; first | rfl | omega) | (refine Eq.trans ?_ (if_neg (by omega)).symm; rfl)), (by unfold n_repair; first | (rw [if_pos htt]; exact hR) | (rw [if_neg (by omega)]; rw [htt]; exact hR) | (rw [htt]; exact hR))⟩)
    · skip
      refine jj_aload0 F dX9_repair_19 ?_
      refine m9_get F hR fd_X9_210 (by decide) rfl dX9_repair_20 ?_
      refine jj_bipush F (by decide) dX9_repair_23 ?_
      refine jj_icmp_ne F (tgt := 32) dX9_repair_25 rfl (by omega) (fun c25 => ?_) (fun c25 => ?_)
      · skip
        refine jj_iconst F dX9_repair_32 ?_
        refine jj_callVi B (k := 0) (n := 0) (k9_goes F.tr hR (show jR 0 by decide)) lk_X9_118 hR.1 cs_9 rfl rfl ⟨Nat.le_of_ble_eq_true rfl, Nat.le_of_ble_eq_true rfl, Nat.le_of_ble_eq_true rfl, Nat.le_of_ble_eq_true rfl, Nat.le_of_ble_eq_true rfl⟩ ⟨Nat.le_of_ble_eq_true rfl, Nat.le_of_ble_eq_true rfl, Nat.le_of_ble_eq_true rfl, Nat.le_of_ble_eq_true rfl⟩ jj_tx0 dX9_repair_33 (fun r G h => ?_)
        obtain ⟨rfl, hR⟩ := h
        refine jj_eqi (b := 1) rfl ?_
        refine jj_if_ne F (tgt := 41) dX9_repair_36 rfl (by omega) (fun c36 => ?_) (fun c36 => by exfalso; omega)
        refine jj_aload0 F dX9_repair_41 ?_
        refine m9_get F hR fd_X9_76 (by decide) rfl dX9_repair_42 ?_
        refine jj_aload0 F dX9_repair_45 ?_
        refine m9_get F hR fd_X9_210 (by decide) rfl dX9_repair_46 ?_
        refine jj_eqi (b := s 28 0) rfl ?_
        refine jj_iload1 F dX9_repair_49 ?_
        refine m9_ast F hR (n := 20) rfl (by omega) (by decide) (by omega) dX9_repair_50 (fun G hR => ?_)
        refine jj_aload0 F dX9_repair_51 ?_
        refine m9_get F hR fd_X9_79 (by decide) rfl dX9_repair_52 ?_
        refine jj_aload0 F dX9_repair_55 ?_
        refine m9_get F hR fd_X9_210 (by decide) rfl dX9_repair_56 ?_
        refine jj_eqi (b := s 28 0) rfl ?_
        refine jj_aload0 F dX9_repair_59 ?_
        refine m9_get F hR fd_X9_73 (by decide) rfl dX9_repair_60 ?_
        refine jj_iload1 F dX9_repair_63 ?_
        refine m9_ald F hR (n := 8) rfl (by omega) (by decide) dX9_repair_64 (fun r_64 => ?_)
        refine jj_eqi (b := s 27 _) rfl ?_
        have r_64 : jR (s 27 _) := r_64
        refine m9_ast F hR (n := 20) rfl (by omega) (by decide) (by have := i62 p (by omega) (by omega); omega) dX9_repair_65 (fun G hR => ?_)
        refine jj_aload0 F dX9_repair_66 ?_
        refine jj_dup F rfl dX9_repair_67 ?_
        refine m9_get F hR fd_X9_210 (by decide) rfl dX9_repair_68 ?_
        refine jj_eqi (b := s 28 0) rfl ?_
        refine jj_iconst F dX9_repair_71 ?_
        refine jj_iadd F dX9_repair_72 ?_
        refine m9_put F hR fd_X9_210 rfl (by omega) (by decide) rfl (by first | rfl | decide) (by first | rfl | decide) dX9_repair_73 (fun G hR => ?_)
        refine jj_aload0 F dX9_repair_76 ?_
        refine m9_get F hR fd_X9_73 (by decide) rfl dX9_repair_77 ?_
        refine jj_iload1 F dX9_repair_80 ?_
        refine jj_dup2 F rfl rfl dX9_repair_81 ?_
        refine m9_ald F hR (n := 8) rfl (by omega) (by decide) dX9_repair_82 (fun r_82 => ?_)
        refine jj_eqi (b := s 27 _) rfl ?_
        have r_82 : jR (s 27 _) := r_82
        refine jj_iconst F dX9_repair_83 ?_
        refine jj_idiv F (by have := i62 p (by omega) (by omega); omega) dX9_repair_84 ?_
        refine m9_ast F hR (n := 8) rfl (by omega) (by decide) (by have := i62 p (by omega) (by omega); omega) dX9_repair_85 (fun G hR => ?_)
        refine jj_aload0 F dX9_repair_86 ?_
        refine m9_get F hR fd_X9_73 (by decide) rfl dX9_repair_87 ?_
        refine jj_iload1 F dX9_repair_90 ?_
        refine m9_ald F hR (n := 8) rfl (by omega) (by decide) dX9_repair_91 (fun r_91 => ?_)
        refine jj_eqi (b := s 27 p / 2) (by simp [sU, ju]) ?_
        have htt : t_repair s p = 0 := by unfold t_repair; (repeat (first | rw [if_pos (by omega)] | rw [if_neg (by omega)]))
        exact jj_iret B dX9_repair_92 ⟨Nat.le_of_ble_eq_true rfl, Nat.le_of_ble_eq_true rfl⟩ (⟨_, rfl, (by unfold r_repair; first | (refine Eq.trans ?_ (if_pos htt).symm; first | rfl | omega) | (refine Eq.trans ?_ (if_neg (by omega)).symm; rfl)), (by unfold n_repair; first | (rw [if_pos htt]; exact hR) | (rw [if_neg (by omega)]; rw [htt]; exact hR) | (rw [htt]; exact hR))⟩)
      · skip
        refine jj_iconst F dX9_repair_28 ?_
        refine jj_goto F (tgt := 33) dX9_repair_29 rfl ?_
        refine jj_callVi B (k := 0) (n := 0) (k9_goes F.tr hR (show jR 2 by decide)) lk_X9_118 hR.1 cs_9 rfl rfl ⟨Nat.le_of_ble_eq_true rfl, Nat.le_of_ble_eq_true rfl, Nat.le_of_ble_eq_true rfl, Nat.le_of_ble_eq_true rfl, Nat.le_of_ble_eq_true rfl⟩ ⟨Nat.le_of_ble_eq_true rfl, Nat.le_of_ble_eq_true rfl, Nat.le_of_ble_eq_true rfl, Nat.le_of_ble_eq_true rfl⟩ jj_tx0 dX9_repair_33 (fun r G h => ?_)
        obtain ⟨rfl, hR⟩ := h
        refine jj_eqi (b := 0) rfl ?_
        refine jj_if_ne F (tgt := 41) dX9_repair_36 rfl (by omega) (fun c36 => by exfalso; omega) (fun c36 => ?_)
        refine jj_iconst F dX9_repair_39 ?_
        have htt : t_repair s p = 2 := by unfold t_repair; (repeat (first | rw [if_pos (by omega)] | rw [if_neg (by omega)]))
        exact jj_iret B dX9_repair_40 ⟨Nat.le_of_ble_eq_true rfl, Nat.le_of_ble_eq_true rfl⟩ (⟨_, rfl, (by unfold r_repair; first | (refine Eq.trans ?_ (if_pos htt).symm; first | rfl | omega) | (refine Eq.trans ?_ (if_neg (by omega)).symm; rfl)), (by unfold n_repair; first | (rw [if_pos htt]; exact hR) | (rw [if_neg (by omega)]; rw [htt]; exact hR) | (rw [htt]; exact hR))⟩)
  · skip
    refine jj_iconst F dX9_repair_8 ?_
    refine jj_goto F (tgt := 33) dX9_repair_9 rfl ?_
    refine jj_callVi B (k := 0) (n := 0) (k9_goes F.tr hR (show jR 1 by decide)) lk_X9_118 hR.1 cs_9 rfl rfl ⟨Nat.le_of_ble_eq_true rfl, Nat.le_of_ble_eq_true rfl, Nat.le_of_ble_eq_true rfl, Nat.le_of_ble_eq_true rfl, Nat.le_of_ble_eq_true rfl⟩ ⟨Nat.le_of_ble_eq_true rfl, Nat.le_of_ble_eq_true rfl, Nat.le_of_ble_eq_true rfl, Nat.le_of_ble_eq_true rfl⟩ jj_tx0 dX9_repair_33 (fun r G h => ?_)
    obtain ⟨rfl, hR⟩ := h
    refine jj_eqi (b := 0) rfl ?_
    refine jj_if_ne F (tgt := 41) dX9_repair_36 rfl (by omega) (fun c36 => by exfalso; omega) (fun c36 => ?_)
    refine jj_iconst F dX9_repair_39 ?_
    have htt : t_repair s p = 1 := by unfold t_repair; (repeat (first | rw [if_pos (by omega)] | rw [if_neg (by omega)]))
    exact jj_iret B dX9_repair_40 ⟨Nat.le_of_ble_eq_true rfl, Nat.le_of_ble_eq_true rfl⟩ (⟨_, rfl, (by unfold r_repair; first | (refine Eq.trans ?_ (if_pos htt).symm; first | rfl | omega) | (refine Eq.trans ?_ (if_neg (by omega)).symm; rfl)), (by unfold n_repair; first | (rw [if_pos htt]; exact hR) | (rw [if_neg (by omega)]; rw [htt]; exact hR) | (rw [htt]; exact hR))⟩)
abbrev rm_X9_undo : Room := { frames := 1, cells := 0, slots := 0, locals := 21 }
set_option maxRecDepth 100000 in
set_option maxHeartbeats 4000000 in
theorem k9_undo {l : Launch} {D : va_G} {ac : Nat → ClassId} (hl : l.stackTraces = false) {o : Nat} {a : Nat → Nat} {s : Sg}  {G : jj_G} (hR : RM (ac 0) o a s G) {c : Int} (hI : sInv s c)  : jj_C l D ac yX9_undo (.code yX9_undo cX9_undo 1 (some .int)) rm_X9_undo [.ref o] G (jj_pi (fun r G' => r = r_undo s ∧ RM (ac 0) o a (n_undo s) G')) (jj_nx) := by
  refine jj_ofx (own := RX9) (lv0 := [some (.ref o)]) hl (by decide +kernel) rfl rfl (Nat.le_of_ble_eq_true rfl) rfl ?_
  intro X B hN hl0 hdg hac hin
  subst hl0; subst hdg; subst hac
  have F := B.F

  obtain ⟨hI1, hI2, hI3, hI4, hI5, hI6, hI7, hc⟩ := hI
  have i6 := hI6.1
  have i62 := hI6.2.1
  have i63 := hI6.2.2.1
  have r26 := hR.rng 26 0
  have r28 := hR.rng 28 0
  have i64 : ¬ s 28 0 = 0 → (0 ≤ s 29 (s 28 0 - 1) ∧ s 29 (s 28 0 - 1) < 8) ∧ (0 ≤ s 30 (s 28 0 - 1) ∧ s 30 (s 28 0 - 1) ≤ 1000000) := fun h => hI6.2.2.2 (s 28 0 - 1) (by omega) (by omega)
  refine jj_aload0 F dX9_undo_0 ?_
  refine jj_aload0 F dX9_undo_1 ?_
  refine m9_get F hR fd_X9_210 (by decide) rfl dX9_undo_2 ?_
  refine jj_if_ne F (tgt := 12) dX9_undo_5 rfl (by omega) (fun c5 => ?_) (fun c5 => ?_)
  · skip
    refine jj_iconst F dX9_undo_12 ?_
    refine jj_callVi B (k := 0) (n := 0) (k9_goes F.tr hR (show jR 0 by decide)) lk_X9_118 hR.1 cs_9 rfl rfl ⟨Nat.le_of_ble_eq_true rfl, Nat.le_of_ble_eq_true rfl, Nat.le_of_ble_eq_true rfl, Nat.le_of_ble_eq_true rfl, Nat.le_of_ble_eq_true rfl⟩ ⟨Nat.le_of_ble_eq_true rfl, Nat.le_of_ble_eq_true rfl, Nat.le_of_ble_eq_true rfl, Nat.le_of_ble_eq_true rfl⟩ jj_tx0 dX9_undo_13 (fun r G h => ?_)
    obtain ⟨rfl, hR⟩ := h
    refine jj_eqi (b := 1) rfl ?_
    refine jj_if_ne F (tgt := 21) dX9_undo_16 rfl (by omega) (fun c16 => ?_) (fun c16 => by exfalso; omega)
    refine jj_aload0 F dX9_undo_21 ?_
    refine jj_dup F rfl dX9_undo_22 ?_
    refine m9_get F hR fd_X9_210 (by decide) rfl dX9_undo_23 ?_
    refine jj_eqi (b := s 28 0) rfl ?_
    refine jj_iconst F dX9_undo_26 ?_
    refine jj_isub F dX9_undo_27 ?_
    refine m9_put F hR fd_X9_210 rfl (by omega) (by decide) rfl (by first | rfl | decide) (by first | rfl | decide) dX9_undo_28 (fun G hR => ?_)
    refine jj_aload0 F dX9_undo_31 ?_
    refine m9_get F hR fd_X9_73 (by decide) rfl dX9_undo_32 ?_
    refine jj_aload0 F dX9_undo_35 ?_
    refine m9_get F hR fd_X9_76 (by decide) rfl dX9_undo_36 ?_
    refine jj_aload0 F dX9_undo_39 ?_
    refine m9_get F hR fd_X9_210 (by decide) rfl dX9_undo_40 ?_
    refine jj_eqi (b := s 28 0 - 1) rfl ?_
    refine m9_ald F hR (n := 20) rfl (by omega) (by decide) dX9_undo_43 (fun r_43 => ?_)
    refine jj_eqi (b := s 29 _) rfl ?_
    have r_43 : jR (s 29 _) := r_43
    refine jj_aload0 F dX9_undo_44 ?_
    refine m9_get F hR fd_X9_79 (by decide) rfl dX9_undo_45 ?_
    refine jj_aload0 F dX9_undo_48 ?_
    refine m9_get F hR fd_X9_210 (by decide) rfl dX9_undo_49 ?_
    refine jj_eqi (b := s 28 0 - 1) rfl ?_
    refine m9_ald F hR (n := 20) rfl (by omega) (by decide) dX9_undo_52 (fun r_52 => ?_)
    refine jj_eqi (b := s 30 _) rfl ?_
    have r_52 : jR (s 30 _) := r_52
    refine m9_ast F hR (n := 8) rfl (by omega) (by decide) (by omega) dX9_undo_53 (fun G hR => ?_)
    refine jj_aload0 F dX9_undo_54 ?_
    refine m9_get F hR fd_X9_76 (by decide) rfl dX9_undo_55 ?_
    refine jj_aload0 F dX9_undo_58 ?_
    refine m9_get F hR fd_X9_210 (by decide) rfl dX9_undo_59 ?_
    refine jj_eqi (b := s 28 0 - 1) rfl ?_
    refine m9_ald F hR (n := 20) rfl (by omega) (by decide) dX9_undo_62 (fun r_62 => ?_)
    refine jj_eqi (b := s 29 _) rfl ?_
    have r_62 : jR (s 29 _) := r_62
    have htt : t_undo s = 0 := by unfold t_undo; (repeat (first | rw [if_pos (by omega)] | rw [if_neg (by omega)]))
    exact jj_iret B dX9_undo_63 ⟨Nat.le_of_ble_eq_true rfl, Nat.le_of_ble_eq_true rfl⟩ (⟨_, rfl, (by unfold r_undo; first | (refine Eq.trans ?_ (if_pos htt).symm; first | rfl | omega) | (refine Eq.trans ?_ (if_neg (by omega)).symm; rfl)), (by unfold n_undo; first | (rw [if_pos htt]; exact hR) | (rw [if_neg (by omega)]; rw [htt]; exact hR) | (rw [htt]; exact hR))⟩)
  · skip
    refine jj_iconst F dX9_undo_8 ?_
    refine jj_goto F (tgt := 13) dX9_undo_9 rfl ?_
    refine jj_callVi B (k := 0) (n := 0) (k9_goes F.tr hR (show jR 1 by decide)) lk_X9_118 hR.1 cs_9 rfl rfl ⟨Nat.le_of_ble_eq_true rfl, Nat.le_of_ble_eq_true rfl, Nat.le_of_ble_eq_true rfl, Nat.le_of_ble_eq_true rfl, Nat.le_of_ble_eq_true rfl⟩ ⟨Nat.le_of_ble_eq_true rfl, Nat.le_of_ble_eq_true rfl, Nat.le_of_ble_eq_true rfl, Nat.le_of_ble_eq_true rfl⟩ jj_tx0 dX9_undo_13 (fun r G h => ?_)
    obtain ⟨rfl, hR⟩ := h
    refine jj_eqi (b := 0) rfl ?_
    refine jj_if_ne F (tgt := 21) dX9_undo_16 rfl (by omega) (fun c16 => by exfalso; omega) (fun c16 => ?_)
    refine jj_iconst F dX9_undo_19 ?_
    have htt : t_undo s = 1 := by unfold t_undo; (repeat (first | rw [if_pos (by omega)] | rw [if_neg (by omega)]))
    exact jj_iret B dX9_undo_20 ⟨Nat.le_of_ble_eq_true rfl, Nat.le_of_ble_eq_true rfl⟩ (⟨_, rfl, (by unfold r_undo; first | (refine Eq.trans ?_ (if_pos htt).symm; first | rfl | omega) | (refine Eq.trans ?_ (if_neg (by omega)).symm; rfl)), (by unfold n_undo; first | (rw [if_pos htt]; exact hR) | (rw [if_neg (by omega)]; rw [htt]; exact hR) | (rw [htt]; exact hR))⟩)
abbrev rm_X9_fileIs : Room := { frames := 2, cells := 0, slots := 0, locals := 42 }
set_option maxRecDepth 100000 in
set_option maxHeartbeats 4000000 in
theorem k9_fileIs {l : Launch} {D : va_G} {ac : Nat → ClassId} (hl : l.stackTraces = false) {o : Nat} {a : Nat → Nat} {s : Sg} {p : Int} {G : jj_G} (hR : RM (ac 0) o a s G) {c : Int} (hI : sInv s c) (hp : jR p) : jj_C l D ac yX9_fileIs (.code yX9_fileIs cX9_fileIs 2 (some .int)) rm_X9_fileIs [.ref o, .int (jI p)] G (jj_pi (fun r G' => r = r_fileIs s p ∧ RM (ac 0) o a (n_fileIs s p) G')) (jj_nx) := by
  refine jj_ofx (own := RX9) (lv0 := [some (.ref o), some (.int (jI p))]) hl (by decide +kernel) rfl rfl (Nat.le_of_ble_eq_true rfl) rfl ?_
  intro X B hN hl0 hdg hac hin
  subst hl0; subst hdg; subst hac
  have F := B.F

  obtain ⟨hI1, hI2, hI3, hI4, hI5, hI6, hI7, hc⟩ := hI
  have i6 := hI6.1
  have i62 := hI6.2.1
  have i63 := hI6.2.2.1
  have r26 := hR.rng 26 0
  have r28 := hR.rng 28 0
  refine jj_aload0 F dX9_fileIs_0 ?_
  refine jj_iload1 F dX9_fileIs_1 ?_
  refine jj_callSr B (k := 0) (n := 0) (k9_isPart F.tr (by omega)) lk_X9_191 rfl ⟨Nat.le_of_ble_eq_true rfl, Nat.le_of_ble_eq_true rfl, Nat.le_of_ble_eq_true rfl, Nat.le_of_ble_eq_true rfl, Nat.le_of_ble_eq_true rfl⟩ ⟨Nat.le_of_ble_eq_true rfl, Nat.le_of_ble_eq_true rfl, Nat.le_of_ble_eq_true rfl, Nat.le_of_ble_eq_true rfl⟩ jj_tx0 dX9_fileIs_2 ?_
  refine jj_ifb_eq F (tgt := 12) dX9_fileIs_5 rfl (fun c5 => ?_) (fun c5 => ?_)
  · skip
    refine jj_iconst F dX9_fileIs_12 ?_
    refine jj_callVi B (k := 0) (n := 0) (k9_goes F.tr hR (show jR 1 by decide)) lk_X9_118 hR.1 cs_9 rfl rfl ⟨Nat.le_of_ble_eq_true rfl, Nat.le_of_ble_eq_true rfl, Nat.le_of_ble_eq_true rfl, Nat.le_of_ble_eq_true rfl, Nat.le_of_ble_eq_true rfl⟩ ⟨Nat.le_of_ble_eq_true rfl, Nat.le_of_ble_eq_true rfl, Nat.le_of_ble_eq_true rfl, Nat.le_of_ble_eq_true rfl⟩ jj_tx0 dX9_fileIs_13 (fun r G h => ?_)
    obtain ⟨rfl, hR⟩ := h
    refine jj_eqi (b := 0) rfl ?_
    refine jj_if_eq F (tgt := 39) dX9_fileIs_16 rfl (by omega) (fun c16 => ?_) (fun c16 => by exfalso; omega)
    refine jj_iconst F dX9_fileIs_39 ?_
    have htt : t_part p = 1 := by unfold t_part; (repeat (first | rw [if_pos (by omega)] | rw [if_neg (by omega)]))
    exact jj_iret B dX9_fileIs_40 ⟨Nat.le_of_ble_eq_true rfl, Nat.le_of_ble_eq_true rfl⟩ (⟨_, rfl, (by unfold r_fileIs; first | (refine Eq.trans ?_ (if_pos htt).symm; (repeat (first | rw [if_pos (by omega)] | rw [if_neg (by omega)])); try rfl) | (refine Eq.trans ?_ (if_neg (by omega)).symm; rfl)), (by unfold n_fileIs; first | (rw [if_pos htt]; exact hR) | (rw [if_neg (by omega)]; rw [htt]; exact hR) | (rw [htt]; exact hR))⟩)
  · skip
    refine jj_iconst F dX9_fileIs_8 ?_
    refine jj_goto F (tgt := 13) dX9_fileIs_9 rfl ?_
    refine jj_callVi B (k := 0) (n := 0) (k9_goes F.tr hR (show jR 0 by decide)) lk_X9_118 hR.1 cs_9 rfl rfl ⟨Nat.le_of_ble_eq_true rfl, Nat.le_of_ble_eq_true rfl, Nat.le_of_ble_eq_true rfl, Nat.le_of_ble_eq_true rfl, Nat.le_of_ble_eq_true rfl⟩ ⟨Nat.le_of_ble_eq_true rfl, Nat.le_of_ble_eq_true rfl, Nat.le_of_ble_eq_true rfl, Nat.le_of_ble_eq_true rfl⟩ jj_tx0 dX9_fileIs_13 (fun r G h => ?_)
    obtain ⟨rfl, hR⟩ := h
    refine jj_eqi (b := 1) rfl ?_
    refine jj_if_eq F (tgt := 39) dX9_fileIs_16 rfl (by omega) (fun c16 => by exfalso; omega) (fun c16 => ?_)
    refine jj_aload0 F dX9_fileIs_19 ?_
    refine m9_get F hR fd_X9_206 (by decide) rfl dX9_fileIs_20 ?_
    refine jj_eqi (b := s 26 0) rfl ?_
    refine jj_if_eq F (tgt := 35) dX9_fileIs_23 rfl (by omega) (fun c23 => ?_) (fun c23 => ?_)
    · skip
      refine jj_iconst F dX9_fileIs_35 ?_
      refine jj_goto F (tgt := 40) dX9_fileIs_36 rfl ?_
      have htt : t_part p = 0 := by unfold t_part; (repeat (first | rw [if_pos (by omega)] | rw [if_neg (by omega)]))
      exact jj_iret B dX9_fileIs_40 ⟨Nat.le_of_ble_eq_true rfl, Nat.le_of_ble_eq_true rfl⟩ (⟨_, rfl, (by unfold r_fileIs; first | (refine Eq.trans ?_ (if_pos htt).symm; (repeat (first | rw [if_pos (by omega)] | rw [if_neg (by omega)])); try rfl) | (refine Eq.trans ?_ (if_neg (by omega)).symm; rfl)), (by unfold n_fileIs; first | (rw [if_pos htt]; exact hR) | (rw [if_neg (by omega)]; rw [htt]; exact hR) | (rw [htt]; exact hR))⟩)
    · skip
      refine jj_aload0 F dX9_fileIs_26 ?_
      refine m9_get F hR fd_X9_73 (by decide) rfl dX9_fileIs_27 ?_
      refine jj_iload1 F dX9_fileIs_30 ?_
      refine m9_ald F hR (n := 8) rfl (by omega) (by decide) dX9_fileIs_31 (fun r_31 => ?_)
      refine jj_eqi (b := s 27 _) rfl ?_
      have r_31 : jR (s 27 _) := r_31
      refine jj_goto F (tgt := 40) dX9_fileIs_32 rfl ?_
      have htt : t_part p = 0 := by unfold t_part; (repeat (first | rw [if_pos (by omega)] | rw [if_neg (by omega)]))
      exact jj_iret B dX9_fileIs_40 ⟨Nat.le_of_ble_eq_true rfl, Nat.le_of_ble_eq_true rfl⟩ (⟨_, rfl, (by unfold r_fileIs; first | (refine Eq.trans ?_ (if_pos htt).symm; (repeat (first | rw [if_pos (by omega)] | rw [if_neg (by omega)])); try rfl) | (refine Eq.trans ?_ (if_neg (by omega)).symm; rfl)), (by unfold n_fileIs; first | (rw [if_pos htt]; exact hR) | (rw [if_neg (by omega)]; rw [htt]; exact hR) | (rw [htt]; exact hR))⟩)
abbrev rm_X9_contract : Room := { frames := 2, cells := 0, slots := 0, locals := 42 }
set_option maxRecDepth 100000 in
set_option maxHeartbeats 4000000 in
theorem k9_contract {l : Launch} {D : va_G} {ac : Nat → ClassId} (hl : l.stackTraces = false) {o : Nat} {a : Nat → Nat} {s : Sg} {q x y : Int} {G : jj_G} (hR : RM (ac 0) o a s G) {c : Int} (hI : sInv s c) (hq : jR q) (hx : jR x) (hy : jR y) : jj_C l D ac yX9_contract (.code yX9_contract cX9_contract 4 (some .int)) rm_X9_contract [.ref o, .int (jI q), .int (jI x), .int (jI y)] G (jj_pi (fun r G' => r = r_contract s q x y ∧ RM (ac 0) o a (n_contract s q x y) G')) (jj_nx) := by
  refine jj_ofx (own := RX9) (lv0 := [some (.ref o), some (.int (jI q)), some (.int (jI x)), some (.int (jI y))]) hl (by decide +kernel) rfl rfl (Nat.le_of_ble_eq_true rfl) rfl ?_
  intro X B hN hl0 hdg hac hin
  subst hl0; subst hdg; subst hac
  have F := B.F

  obtain ⟨hI1, hI2, hI3, hI4, hI5, hI6, hI7, hc⟩ := hI
  refine jj_aload0 F dX9_contract_0 ?_
  refine jj_iload1 F dX9_contract_1 ?_
  refine jj_callSr B (k := 0) (n := 0) (k9_isArtist F.tr (by omega)) lk_X9_111 rfl ⟨Nat.le_of_ble_eq_true rfl, Nat.le_of_ble_eq_true rfl, Nat.le_of_ble_eq_true rfl, Nat.le_of_ble_eq_true rfl, Nat.le_of_ble_eq_true rfl⟩ ⟨Nat.le_of_ble_eq_true rfl, Nat.le_of_ble_eq_true rfl, Nat.le_of_ble_eq_true rfl, Nat.le_of_ble_eq_true rfl⟩ jj_tx0 dX9_contract_2 ?_
  refine jj_ifb_ne F (tgt := 12) dX9_contract_5 rfl (fun c5 => ?_) (fun c5 => ?_)
  · skip
    refine jj_iload2 F dX9_contract_12 ?_
    refine jj_iconst F dX9_contract_13 ?_
    refine jj_sipush F (by decide) dX9_contract_14 ?_
    refine jj_callSr B (k := 0) (n := 0) (k9_isIn F.tr (by omega) (by omega) (by omega)) lk_X9_104 rfl ⟨Nat.le_of_ble_eq_true rfl, Nat.le_of_ble_eq_true rfl, Nat.le_of_ble_eq_true rfl, Nat.le_of_ble_eq_true rfl, Nat.le_of_ble_eq_true rfl⟩ ⟨Nat.le_of_ble_eq_true rfl, Nat.le_of_ble_eq_true rfl, Nat.le_of_ble_eq_true rfl, Nat.le_of_ble_eq_true rfl⟩ jj_tx0 dX9_contract_17 ?_
    refine jj_ifb_eq F (tgt := 37) dX9_contract_20 rfl (fun c20 => ?_) (fun c20 => ?_)
    · skip
      refine jj_iconst F dX9_contract_37 ?_
      refine jj_callVi B (k := 0) (n := 0) (k9_goes F.tr hR (show jR 2 by decide)) lk_X9_118 hR.1 cs_9 rfl rfl ⟨Nat.le_of_ble_eq_true rfl, Nat.le_of_ble_eq_true rfl, Nat.le_of_ble_eq_true rfl, Nat.le_of_ble_eq_true rfl, Nat.le_of_ble_eq_true rfl⟩ ⟨Nat.le_of_ble_eq_true rfl, Nat.le_of_ble_eq_true rfl, Nat.le_of_ble_eq_true rfl, Nat.le_of_ble_eq_true rfl⟩ jj_tx0 dX9_contract_38 (fun r G h => ?_)
      obtain ⟨rfl, hR⟩ := h
      refine jj_eqi (b := 0) rfl ?_
      refine jj_if_ne F (tgt := 46) dX9_contract_41 rfl (by omega) (fun c41 => by exfalso; omega) (fun c41 => ?_)
      refine jj_iconst F dX9_contract_44 ?_
      have htt : t_contract q x y = 2 := by unfold t_contract; (repeat (first | rw [if_pos (by omega)] | rw [if_neg (by omega)]))
      exact jj_iret B dX9_contract_45 ⟨Nat.le_of_ble_eq_true rfl, Nat.le_of_ble_eq_true rfl⟩ (⟨_, rfl, (by unfold r_contract; first | (refine Eq.trans ?_ (if_pos htt).symm; first | rfl | omega) | (refine Eq.trans ?_ (if_neg (by omega)).symm; rfl)), (by unfold n_contract; first | (rw [if_pos htt]; exact hR) | (rw [if_neg (by omega)]; rw [htt]; exact hR) | (rw [htt]; exact hR))⟩)
    · skip
      refine jj_iload3 F dX9_contract_23 ?_
      refine jj_iconst F dX9_contract_24 ?_
      refine jj_ldc F (v := 999999) cn_X9_213 (by decide) dX9_contract_25 ?_
      refine jj_callSr B (k := 0) (n := 0) (k9_isIn F.tr (by omega) (by omega) (by omega)) lk_X9_104 rfl ⟨Nat.le_of_ble_eq_true rfl, Nat.le_of_ble_eq_true rfl, Nat.le_of_ble_eq_true rfl, Nat.le_of_ble_eq_true rfl, Nat.le_of_ble_eq_true rfl⟩ ⟨Nat.le_of_ble_eq_true rfl, Nat.le_of_ble_eq_true rfl, Nat.le_of_ble_eq_true rfl, Nat.le_of_ble_eq_true rfl⟩ jj_tx0 dX9_contract_27 ?_
      refine jj_ifb_eq F (tgt := 37) dX9_contract_30 rfl (fun c30 => ?_) (fun c30 => ?_)
      · skip
        refine jj_iconst F dX9_contract_37 ?_
        refine jj_callVi B (k := 0) (n := 0) (k9_goes F.tr hR (show jR 2 by decide)) lk_X9_118 hR.1 cs_9 rfl rfl ⟨Nat.le_of_ble_eq_true rfl, Nat.le_of_ble_eq_true rfl, Nat.le_of_ble_eq_true rfl, Nat.le_of_ble_eq_true rfl, Nat.le_of_ble_eq_true rfl⟩ ⟨Nat.le_of_ble_eq_true rfl, Nat.le_of_ble_eq_true rfl, Nat.le_of_ble_eq_true rfl, Nat.le_of_ble_eq_true rfl⟩ jj_tx0 dX9_contract_38 (fun r G h => ?_)
        obtain ⟨rfl, hR⟩ := h
        refine jj_eqi (b := 0) rfl ?_
        refine jj_if_ne F (tgt := 46) dX9_contract_41 rfl (by omega) (fun c41 => by exfalso; omega) (fun c41 => ?_)
        refine jj_iconst F dX9_contract_44 ?_
        have htt : t_contract q x y = 2 := by unfold t_contract; (repeat (first | rw [if_pos (by omega)] | rw [if_neg (by omega)]))
        exact jj_iret B dX9_contract_45 ⟨Nat.le_of_ble_eq_true rfl, Nat.le_of_ble_eq_true rfl⟩ (⟨_, rfl, (by unfold r_contract; first | (refine Eq.trans ?_ (if_pos htt).symm; first | rfl | omega) | (refine Eq.trans ?_ (if_neg (by omega)).symm; rfl)), (by unfold n_contract; first | (rw [if_pos htt]; exact hR) | (rw [if_neg (by omega)]; rw [htt]; exact hR) | (rw [htt]; exact hR))⟩)
      · skip
        refine jj_iconst F dX9_contract_33 ?_
        refine jj_goto F (tgt := 38) dX9_contract_34 rfl ?_
        refine jj_callVi B (k := 0) (n := 0) (k9_goes F.tr hR (show jR 0 by decide)) lk_X9_118 hR.1 cs_9 rfl rfl ⟨Nat.le_of_ble_eq_true rfl, Nat.le_of_ble_eq_true rfl, Nat.le_of_ble_eq_true rfl, Nat.le_of_ble_eq_true rfl, Nat.le_of_ble_eq_true rfl⟩ ⟨Nat.le_of_ble_eq_true rfl, Nat.le_of_ble_eq_true rfl, Nat.le_of_ble_eq_true rfl, Nat.le_of_ble_eq_true rfl⟩ jj_tx0 dX9_contract_38 (fun r G h => ?_)
        obtain ⟨rfl, hR⟩ := h
        refine jj_eqi (b := 1) rfl ?_
        refine jj_if_ne F (tgt := 46) dX9_contract_41 rfl (by omega) (fun c41 => ?_) (fun c41 => by exfalso; omega)
        refine jj_aload0 F dX9_contract_46 ?_
        refine m9_get F hR fd_X9_91 (by decide) rfl dX9_contract_47 ?_
        refine jj_iload1 F dX9_contract_50 ?_
        refine jj_iload2 F dX9_contract_51 ?_
        refine m9_ast F hR (n := 6) rfl (by omega) (by decide) (by omega) dX9_contract_52 (fun G hR => ?_)
        refine jj_aload0 F dX9_contract_53 ?_
        refine m9_get F hR fd_X9_94 (by decide) rfl dX9_contract_54 ?_
        refine jj_iload1 F dX9_contract_57 ?_
        refine jj_dup2 F rfl rfl dX9_contract_58 ?_
        refine m9_ald F hR (n := 6) rfl (by omega) (by decide) dX9_contract_59 (fun r_59 => ?_)
        refine jj_eqi (b := s 36 _) rfl ?_
        have r_59 : jR (s 36 _) := r_59
        refine jj_iload3 F dX9_contract_60 ?_
        refine jj_isub F dX9_contract_61 ?_
        refine jj_jw ?_
        refine m9_ast F hR (n := 6) rfl (by omega) (by decide) (jW_rng _) dX9_contract_62 (fun G hR => ?_)
        refine jj_aload0 F dX9_contract_63 ?_
        refine m9_get F hR fd_X9_94 (by decide) rfl dX9_contract_64 ?_
        refine jj_iload1 F dX9_contract_67 ?_
        refine m9_ald F hR (n := 6) rfl (by omega) (by decide) dX9_contract_68 (fun r_68 => ?_)
        refine jj_eqi (b := jW (s 36 q - y)) (by simp [sU, ju, jW]) ?_
        have htt : t_contract q x y = 0 := by unfold t_contract; (repeat (first | rw [if_pos (by omega)] | rw [if_neg (by omega)]))
        exact jj_iret B dX9_contract_69 ⟨Nat.le_of_ble_eq_true rfl, Nat.le_of_ble_eq_true rfl⟩ (⟨_, rfl, (by unfold r_contract; first | (refine Eq.trans ?_ (if_pos htt).symm; first | rfl | omega) | (refine Eq.trans ?_ (if_neg (by omega)).symm; rfl)), (by unfold n_contract; first | (rw [if_pos htt]; exact hR) | (rw [if_neg (by omega)]; rw [htt]; exact hR) | (rw [htt]; exact hR))⟩)
  · skip
    refine jj_iconst F dX9_contract_8 ?_
    refine jj_goto F (tgt := 38) dX9_contract_9 rfl ?_
    refine jj_callVi B (k := 0) (n := 0) (k9_goes F.tr hR (show jR 1 by decide)) lk_X9_118 hR.1 cs_9 rfl rfl ⟨Nat.le_of_ble_eq_true rfl, Nat.le_of_ble_eq_true rfl, Nat.le_of_ble_eq_true rfl, Nat.le_of_ble_eq_true rfl, Nat.le_of_ble_eq_true rfl⟩ ⟨Nat.le_of_ble_eq_true rfl, Nat.le_of_ble_eq_true rfl, Nat.le_of_ble_eq_true rfl, Nat.le_of_ble_eq_true rfl⟩ jj_tx0 dX9_contract_38 (fun r G h => ?_)
    obtain ⟨rfl, hR⟩ := h
    refine jj_eqi (b := 0) rfl ?_
    refine jj_if_ne F (tgt := 46) dX9_contract_41 rfl (by omega) (fun c41 => by exfalso; omega) (fun c41 => ?_)
    refine jj_iconst F dX9_contract_44 ?_
    have htt : t_contract q x y = 1 := by unfold t_contract; (repeat (first | rw [if_pos (by omega)] | rw [if_neg (by omega)]))
    exact jj_iret B dX9_contract_45 ⟨Nat.le_of_ble_eq_true rfl, Nat.le_of_ble_eq_true rfl⟩ (⟨_, rfl, (by unfold r_contract; first | (refine Eq.trans ?_ (if_pos htt).symm; first | rfl | omega) | (refine Eq.trans ?_ (if_neg (by omega)).symm; rfl)), (by unfold n_contract; first | (rw [if_pos htt]; exact hR) | (rw [if_neg (by omega)]; rw [htt]; exact hR) | (rw [htt]; exact hR))⟩)
abbrev rm_X9_account : Room := { frames := 2, cells := 0, slots := 0, locals := 42 }
set_option maxRecDepth 100000 in
set_option maxHeartbeats 4000000 in
theorem k9_account {l : Launch} {D : va_G} {ac : Nat → ClassId} (hl : l.stackTraces = false) {o : Nat} {a : Nat → Nat} {s : Sg} {q : Int} {G : jj_G} (hR : RM (ac 0) o a s G) {c : Int} (hI : sInv s c) (hq : jR q) : jj_C l D ac yX9_account (.code yX9_account cX9_account 2 (some .int)) rm_X9_account [.ref o, .int (jI q)] G (jj_pi (fun r G' => r = r_account s q ∧ RM (ac 0) o a (n_account s q) G')) (jj_nx) := by
  refine jj_ofx (own := RX9) (lv0 := [some (.ref o), some (.int (jI q))]) hl (by decide +kernel) rfl rfl (Nat.le_of_ble_eq_true rfl) rfl ?_
  intro X B hN hl0 hdg hac hin
  subst hl0; subst hdg; subst hac
  have F := B.F

  obtain ⟨hI1, hI2, hI3, hI4, hI5, hI6, hI7, hc⟩ := hI
  refine jj_aload0 F dX9_account_0 ?_
  refine jj_iload1 F dX9_account_1 ?_
  refine jj_callSr B (k := 0) (n := 0) (k9_isArtist F.tr (by omega)) lk_X9_111 rfl ⟨Nat.le_of_ble_eq_true rfl, Nat.le_of_ble_eq_true rfl, Nat.le_of_ble_eq_true rfl, Nat.le_of_ble_eq_true rfl, Nat.le_of_ble_eq_true rfl⟩ ⟨Nat.le_of_ble_eq_true rfl, Nat.le_of_ble_eq_true rfl, Nat.le_of_ble_eq_true rfl, Nat.le_of_ble_eq_true rfl⟩ jj_tx0 dX9_account_2 ?_
  refine jj_ifb_eq F (tgt := 12) dX9_account_5 rfl (fun c5 => ?_) (fun c5 => ?_)
  · skip
    refine jj_iconst F dX9_account_12 ?_
    refine jj_callVi B (k := 0) (n := 0) (k9_goes F.tr hR (show jR 1 by decide)) lk_X9_118 hR.1 cs_9 rfl rfl ⟨Nat.le_of_ble_eq_true rfl, Nat.le_of_ble_eq_true rfl, Nat.le_of_ble_eq_true rfl, Nat.le_of_ble_eq_true rfl, Nat.le_of_ble_eq_true rfl⟩ ⟨Nat.le_of_ble_eq_true rfl, Nat.le_of_ble_eq_true rfl, Nat.le_of_ble_eq_true rfl, Nat.le_of_ble_eq_true rfl⟩ jj_tx0 dX9_account_13 (fun r G h => ?_)
    obtain ⟨rfl, hR⟩ := h
    refine jj_eqi (b := 0) rfl ?_
    refine jj_if_eq F (tgt := 28) dX9_account_16 rfl (by omega) (fun c16 => ?_) (fun c16 => by exfalso; omega)
    refine jj_iconst F dX9_account_28 ?_
    have htt : t_artist q = 1 := by unfold t_artist; (repeat (first | rw [if_pos (by omega)] | rw [if_neg (by omega)]))
    exact jj_iret B dX9_account_29 ⟨Nat.le_of_ble_eq_true rfl, Nat.le_of_ble_eq_true rfl⟩ (⟨_, rfl, (by unfold r_account; first | (refine Eq.trans ?_ (if_pos htt).symm; first | rfl | omega) | (refine Eq.trans ?_ (if_neg (by omega)).symm; rfl)), (by unfold n_account; first | (rw [if_pos htt]; exact hR) | (rw [if_neg (by omega)]; rw [htt]; exact hR) | (rw [htt]; exact hR))⟩)
  · skip
    refine jj_iconst F dX9_account_8 ?_
    refine jj_goto F (tgt := 13) dX9_account_9 rfl ?_
    refine jj_callVi B (k := 0) (n := 0) (k9_goes F.tr hR (show jR 0 by decide)) lk_X9_118 hR.1 cs_9 rfl rfl ⟨Nat.le_of_ble_eq_true rfl, Nat.le_of_ble_eq_true rfl, Nat.le_of_ble_eq_true rfl, Nat.le_of_ble_eq_true rfl, Nat.le_of_ble_eq_true rfl⟩ ⟨Nat.le_of_ble_eq_true rfl, Nat.le_of_ble_eq_true rfl, Nat.le_of_ble_eq_true rfl, Nat.le_of_ble_eq_true rfl⟩ jj_tx0 dX9_account_13 (fun r G h => ?_)
    obtain ⟨rfl, hR⟩ := h
    refine jj_eqi (b := 1) rfl ?_
    refine jj_if_eq F (tgt := 28) dX9_account_16 rfl (by omega) (fun c16 => by exfalso; omega) (fun c16 => ?_)
    refine jj_aload0 F dX9_account_19 ?_
    refine m9_get F hR fd_X9_94 (by decide) rfl dX9_account_20 ?_
    refine jj_iload1 F dX9_account_23 ?_
    refine m9_ald F hR (n := 6) rfl (by omega) (by decide) dX9_account_24 (fun r_24 => ?_)
    refine jj_eqi (b := s 36 _) rfl ?_
    have r_24 : jR (s 36 _) := r_24
    refine jj_goto F (tgt := 29) dX9_account_25 rfl ?_
    have htt : t_artist q = 0 := by unfold t_artist; (repeat (first | rw [if_pos (by omega)] | rw [if_neg (by omega)]))
    exact jj_iret B dX9_account_29 ⟨Nat.le_of_ble_eq_true rfl, Nat.le_of_ble_eq_true rfl⟩ (⟨_, rfl, (by unfold r_account; first | (refine Eq.trans ?_ (if_pos htt).symm; first | rfl | omega) | (refine Eq.trans ?_ (if_neg (by omega)).symm; rfl)), (by unfold n_account; first | (rw [if_pos htt]; exact hR) | (rw [if_neg (by omega)]; rw [htt]; exact hR) | (rw [htt]; exact hR))⟩)
abbrev rm_X9_accountAnew : Room := { frames := 2, cells := 0, slots := 0, locals := 42 }
set_option maxRecDepth 100000 in
set_option maxHeartbeats 4000000 in
theorem k9_accountAnew {l : Launch} {D : va_G} {ac : Nat → ClassId} (hl : l.stackTraces = false) {o : Nat} {a : Nat → Nat} {s : Sg} {q : Int} {G : jj_G} (hR : RM (ac 0) o a s G) {c : Int} (hI : sInv s c) (hq : jR q) : jj_C l D ac yX9_accountAnew (.code yX9_accountAnew cX9_accountAnew 2 (some .int)) rm_X9_accountAnew [.ref o, .int (jI q)] G (jj_pi (fun r G' => r = r_account s q ∧ RM (ac 0) o a (n_account s q) G')) (jj_nx) := by
  refine jj_ofx (own := RX9) (lv0 := [some (.ref o), some (.int (jI q))]) hl (by decide +kernel) rfl rfl (Nat.le_of_ble_eq_true rfl) rfl ?_
  intro X B hN hl0 hdg hac hin
  subst hl0; subst hdg; subst hac
  have F := B.F

  obtain ⟨hI1, hI2, hI3, hI4, hI5, hI6, hI7, hc⟩ := hI
  refine jj_aload0 F dX9_accountAnew_0 ?_
  refine jj_iload1 F dX9_accountAnew_1 ?_
  refine jj_callSr B (k := 0) (n := 0) (k9_isArtist F.tr (by omega)) lk_X9_111 rfl ⟨Nat.le_of_ble_eq_true rfl, Nat.le_of_ble_eq_true rfl, Nat.le_of_ble_eq_true rfl, Nat.le_of_ble_eq_true rfl, Nat.le_of_ble_eq_true rfl⟩ ⟨Nat.le_of_ble_eq_true rfl, Nat.le_of_ble_eq_true rfl, Nat.le_of_ble_eq_true rfl, Nat.le_of_ble_eq_true rfl⟩ jj_tx0 dX9_accountAnew_2 ?_
  refine jj_ifb_eq F (tgt := 12) dX9_accountAnew_5 rfl (fun c5 => ?_) (fun c5 => ?_)
  · skip
    refine jj_iconst F dX9_accountAnew_12 ?_
    refine jj_callVi B (k := 0) (n := 0) (k9_goes F.tr hR (show jR 1 by decide)) lk_X9_118 hR.1 cs_9 rfl rfl ⟨Nat.le_of_ble_eq_true rfl, Nat.le_of_ble_eq_true rfl, Nat.le_of_ble_eq_true rfl, Nat.le_of_ble_eq_true rfl, Nat.le_of_ble_eq_true rfl⟩ ⟨Nat.le_of_ble_eq_true rfl, Nat.le_of_ble_eq_true rfl, Nat.le_of_ble_eq_true rfl, Nat.le_of_ble_eq_true rfl⟩ jj_tx0 dX9_accountAnew_13 (fun r G h => ?_)
    obtain ⟨rfl, hR⟩ := h
    refine jj_eqi (b := 0) rfl ?_
    refine jj_if_eq F (tgt := 28) dX9_accountAnew_16 rfl (by omega) (fun c16 => ?_) (fun c16 => by exfalso; omega)
    refine jj_iconst F dX9_accountAnew_28 ?_
    have htt : t_artist q = 1 := by unfold t_artist; (repeat (first | rw [if_pos (by omega)] | rw [if_neg (by omega)]))
    exact jj_iret B dX9_accountAnew_29 ⟨Nat.le_of_ble_eq_true rfl, Nat.le_of_ble_eq_true rfl⟩ (⟨_, rfl, (by unfold r_account; first | (refine Eq.trans ?_ (if_pos htt).symm; first | rfl | omega) | (refine Eq.trans ?_ (if_neg (by omega)).symm; rfl)), (by unfold n_account; first | (rw [if_pos htt]; exact hR) | (rw [if_neg (by omega)]; rw [htt]; exact hR) | (rw [htt]; exact hR))⟩)
  · skip
    refine jj_iconst F dX9_accountAnew_8 ?_
    refine jj_goto F (tgt := 13) dX9_accountAnew_9 rfl ?_
    refine jj_callVi B (k := 0) (n := 0) (k9_goes F.tr hR (show jR 0 by decide)) lk_X9_118 hR.1 cs_9 rfl rfl ⟨Nat.le_of_ble_eq_true rfl, Nat.le_of_ble_eq_true rfl, Nat.le_of_ble_eq_true rfl, Nat.le_of_ble_eq_true rfl, Nat.le_of_ble_eq_true rfl⟩ ⟨Nat.le_of_ble_eq_true rfl, Nat.le_of_ble_eq_true rfl, Nat.le_of_ble_eq_true rfl, Nat.le_of_ble_eq_true rfl⟩ jj_tx0 dX9_accountAnew_13 (fun r G h => ?_)
    obtain ⟨rfl, hR⟩ := h
    refine jj_eqi (b := 1) rfl ?_
    refine jj_if_eq F (tgt := 28) dX9_accountAnew_16 rfl (by omega) (fun c16 => by exfalso; omega) (fun c16 => ?_)
    refine jj_aload0 F dX9_accountAnew_19 ?_
    refine m9_get F hR fd_X9_94 (by decide) rfl dX9_accountAnew_20 ?_
    refine jj_iload1 F dX9_accountAnew_23 ?_
    refine m9_ald F hR (n := 6) rfl (by omega) (by decide) dX9_accountAnew_24 (fun r_24 => ?_)
    refine jj_eqi (b := s 36 _) rfl ?_
    have r_24 : jR (s 36 _) := r_24
    refine jj_goto F (tgt := 29) dX9_accountAnew_25 rfl ?_
    have htt : t_artist q = 0 := by unfold t_artist; (repeat (first | rw [if_pos (by omega)] | rw [if_neg (by omega)]))
    exact jj_iret B dX9_accountAnew_29 ⟨Nat.le_of_ble_eq_true rfl, Nat.le_of_ble_eq_true rfl⟩ (⟨_, rfl, (by unfold r_account; first | (refine Eq.trans ?_ (if_pos htt).symm; first | rfl | omega) | (refine Eq.trans ?_ (if_neg (by omega)).symm; rfl)), (by unfold n_account; first | (rw [if_pos htt]; exact hR) | (rw [if_neg (by omega)]; rw [htt]; exact hR) | (rw [htt]; exact hR))⟩)
abbrev rm_X9_payOut : Room := { frames := 2, cells := 0, slots := 0, locals := 42 }
set_option maxRecDepth 100000 in
set_option maxHeartbeats 4000000 in
theorem k9_payOut {l : Launch} {D : va_G} {ac : Nat → ClassId} (hl : l.stackTraces = false) {o : Nat} {a : Nat → Nat} {s : Sg} {q : Int} {G : jj_G} (hR : RM (ac 0) o a s G) {c : Int} (hI : sInv s c) (hq : jR q) : jj_C l D ac yX9_payOut (.code yX9_payOut cX9_payOut 3 (some .int)) rm_X9_payOut [.ref o, .int (jI q)] G (jj_pi (fun r G' => r = r_payOut s q ∧ RM (ac 0) o a (n_payOut s q) G')) (jj_nx) := by
  refine jj_ofx (own := RX9) (lv0 := [some (.ref o), some (.int (jI q)), none]) hl (by decide +kernel) rfl rfl (Nat.le_of_ble_eq_true rfl) rfl ?_
  intro X B hN hl0 hdg hac hin
  subst hl0; subst hdg; subst hac
  have F := B.F

  obtain ⟨hI1, hI2, hI3, hI4, hI5, hI6, hI7, hc⟩ := hI
  have r36 := hR.rng 36 q
  refine jj_aload0 F dX9_payOut_0 ?_
  refine jj_iload1 F dX9_payOut_1 ?_
  refine jj_callSr B (k := 0) (n := 0) (k9_isArtist F.tr (by omega)) lk_X9_111 rfl ⟨Nat.le_of_ble_eq_true rfl, Nat.le_of_ble_eq_true rfl, Nat.le_of_ble_eq_true rfl, Nat.le_of_ble_eq_true rfl, Nat.le_of_ble_eq_true rfl⟩ ⟨Nat.le_of_ble_eq_true rfl, Nat.le_of_ble_eq_true rfl, Nat.le_of_ble_eq_true rfl, Nat.le_of_ble_eq_true rfl⟩ jj_tx0 dX9_payOut_2 ?_
  refine jj_ifb_eq F (tgt := 12) dX9_payOut_5 rfl (fun c5 => ?_) (fun c5 => ?_)
  · skip
    refine jj_iconst F dX9_payOut_12 ?_
    refine jj_callVi B (k := 0) (n := 0) (k9_goes F.tr hR (show jR 1 by decide)) lk_X9_118 hR.1 cs_9 rfl rfl ⟨Nat.le_of_ble_eq_true rfl, Nat.le_of_ble_eq_true rfl, Nat.le_of_ble_eq_true rfl, Nat.le_of_ble_eq_true rfl, Nat.le_of_ble_eq_true rfl⟩ ⟨Nat.le_of_ble_eq_true rfl, Nat.le_of_ble_eq_true rfl, Nat.le_of_ble_eq_true rfl, Nat.le_of_ble_eq_true rfl⟩ jj_tx0 dX9_payOut_13 (fun r G h => ?_)
    obtain ⟨rfl, hR⟩ := h
    refine jj_eqi (b := 0) rfl ?_
    refine jj_if_ne F (tgt := 21) dX9_payOut_16 rfl (by omega) (fun c16 => by exfalso; omega) (fun c16 => ?_)
    refine jj_iconst F dX9_payOut_19 ?_
    have htt : t_artist q = 1 := by unfold t_artist; (repeat (first | rw [if_pos (by omega)] | rw [if_neg (by omega)]))
    exact jj_iret B dX9_payOut_20 ⟨Nat.le_of_ble_eq_true rfl, Nat.le_of_ble_eq_true rfl⟩ (⟨_, rfl, (by unfold r_payOut; first | (refine Eq.trans ?_ (if_pos htt).symm; (first | rw [if_pos (by omega)] | rw [if_neg (by omega)])) | (refine Eq.trans ?_ (if_neg (by omega)).symm; rfl)), (by unfold n_payOut; first | (rw [if_pos htt]; (first | rw [if_pos (by omega)] | rw [if_neg (by omega)]); exact hR) | (rw [if_neg (by omega)]; rw [htt]; exact hR) | (rw [htt]; exact hR))⟩)
  · skip
    refine jj_iconst F dX9_payOut_8 ?_
    refine jj_goto F (tgt := 13) dX9_payOut_9 rfl ?_
    refine jj_callVi B (k := 0) (n := 0) (k9_goes F.tr hR (show jR 0 by decide)) lk_X9_118 hR.1 cs_9 rfl rfl ⟨Nat.le_of_ble_eq_true rfl, Nat.le_of_ble_eq_true rfl, Nat.le_of_ble_eq_true rfl, Nat.le_of_ble_eq_true rfl, Nat.le_of_ble_eq_true rfl⟩ ⟨Nat.le_of_ble_eq_true rfl, Nat.le_of_ble_eq_true rfl, Nat.le_of_ble_eq_true rfl, Nat.le_of_ble_eq_true rfl⟩ jj_tx0 dX9_payOut_13 (fun r G h => ?_)
    obtain ⟨rfl, hR⟩ := h
    refine jj_eqi (b := 1) rfl ?_
    refine jj_if_ne F (tgt := 21) dX9_payOut_16 rfl (by omega) (fun c16 => ?_) (fun c16 => by exfalso; omega)
    refine jj_aload0 F dX9_payOut_21 ?_
    refine m9_get F hR fd_X9_94 (by decide) rfl dX9_payOut_22 ?_
    refine jj_iload1 F dX9_payOut_25 ?_
    refine m9_ald F hR (n := 6) rfl (by omega) (by decide) dX9_payOut_26 (fun r_26 => ?_)
    refine jj_eqi (b := s 36 _) rfl ?_
    have r_26 : jR (s 36 _) := r_26
    refine jj_if_le F (tgt := 39) dX9_payOut_27 rfl (by omega) (fun c27 => ?_) (fun c27 => ?_)
    · skip
      refine jj_iconst F dX9_payOut_39 ?_
      refine jj_istore2 F dX9_payOut_40 (hN _ (by decide)) rfl ?_
      refine jj_aload0 F dX9_payOut_41 ?_
      refine m9_get F hR fd_X9_94 (by decide) rfl dX9_payOut_42 ?_
      refine jj_iload1 F dX9_payOut_45 ?_
      refine jj_dup2 F rfl rfl dX9_payOut_46 ?_
      refine m9_ald F hR (n := 6) rfl (by omega) (by decide) dX9_payOut_47 (fun r_47 => ?_)
      refine jj_eqi (b := s 36 _) rfl ?_
      have r_47 : jR (s 36 _) := r_47
      refine jj_iload2 F dX9_payOut_48 ?_
      refine jj_isub F dX9_payOut_49 ?_
      refine m9_ast F hR (n := 6) rfl (by omega) (by decide) (by omega) dX9_payOut_50 (fun G hR => ?_)
      refine jj_iload2 F dX9_payOut_51 ?_
      have htt : t_artist q = 0 := by unfold t_artist; (repeat (first | rw [if_pos (by omega)] | rw [if_neg (by omega)]))
      exact jj_iret B dX9_payOut_52 ⟨Nat.le_of_ble_eq_true rfl, Nat.le_of_ble_eq_true rfl⟩ (⟨_, rfl, (by unfold r_payOut; first | (refine Eq.trans ?_ (if_pos htt).symm; (first | rw [if_pos (by omega)] | rw [if_neg (by omega)])) | (refine Eq.trans ?_ (if_neg (by omega)).symm; rfl)), (by unfold n_payOut; first | (rw [if_pos htt]; (first | rw [if_pos (by omega)] | rw [if_neg (by omega)]); exact hR) | (rw [if_neg (by omega)]; rw [htt]; exact hR) | (rw [htt]; exact hR))⟩)
    · skip
      refine jj_aload0 F dX9_payOut_30 ?_
      refine m9_get F hR fd_X9_94 (by decide) rfl dX9_payOut_31 ?_
      refine jj_iload1 F dX9_payOut_34 ?_
      refine m9_ald F hR (n := 6) rfl (by omega) (by decide) dX9_payOut_35 (fun r_35 => ?_)
      refine jj_eqi (b := s 36 _) rfl ?_
      have r_35 : jR (s 36 _) := r_35
      refine jj_goto F (tgt := 40) dX9_payOut_36 rfl ?_
      refine jj_istore2 F dX9_payOut_40 (hN _ (by decide)) rfl ?_
      refine jj_aload0 F dX9_payOut_41 ?_
      refine m9_get F hR fd_X9_94 (by decide) rfl dX9_payOut_42 ?_
      refine jj_iload1 F dX9_payOut_45 ?_
      refine jj_dup2 F rfl rfl dX9_payOut_46 ?_
      refine m9_ald F hR (n := 6) rfl (by omega) (by decide) dX9_payOut_47 (fun r_47 => ?_)
      refine jj_eqi (b := s 36 _) rfl ?_
      have r_47 : jR (s 36 _) := r_47
      refine jj_iload2 F dX9_payOut_48 ?_
      refine jj_isub F dX9_payOut_49 ?_
      refine m9_ast F hR (n := 6) rfl (by omega) (by decide) (by omega) dX9_payOut_50 (fun G hR => ?_)
      refine jj_iload2 F dX9_payOut_51 ?_
      have htt : t_artist q = 0 := by unfold t_artist; (repeat (first | rw [if_pos (by omega)] | rw [if_neg (by omega)]))
      exact jj_iret B dX9_payOut_52 ⟨Nat.le_of_ble_eq_true rfl, Nat.le_of_ble_eq_true rfl⟩ (⟨_, rfl, (by unfold r_payOut; first | (refine Eq.trans ?_ (if_pos htt).symm; (first | rw [if_pos (by omega)] | rw [if_neg (by omega)])) | (refine Eq.trans ?_ (if_neg (by omega)).symm; rfl)), (by unfold n_payOut; first | (rw [if_pos htt]; (first | rw [if_pos (by omega)] | rw [if_neg (by omega)]); exact hR) | (rw [if_neg (by omega)]; rw [htt]; exact hR) | (rw [htt]; exact hR))⟩)
abbrev rm_X9_pass : Room := { frames := 1, cells := 0, slots := 0, locals := 22 }
set_option maxRecDepth 100000 in
set_option maxHeartbeats 4000000 in
theorem k9_pass {l : Launch} {D : va_G} {ac : Nat → ClassId} (hl : l.stackTraces = false) {o : Nat} {a : Nat → Nat} {s : Sg} {x : Int} {G : jj_G} (hR : RM (ac 0) o a s G) {c : Int} (hI : sInv s c) (hx : jR x) : jj_C l D ac yX9_pass (.code yX9_pass cX9_pass 3 (some .int)) rm_X9_pass [.ref o, .int (jI x)] G (jj_pi (fun r G' => r = r_pass s x ∧ RM (ac 0) o a (n_pass s x) G')) (jj_nx) := by
  refine jj_ofx (own := RX9) (lv0 := [some (.ref o), some (.int (jI x)), none]) hl (by decide +kernel) rfl rfl (Nat.le_of_ble_eq_true rfl) rfl ?_
  intro X B hN hl0 hdg hac hin
  subst hl0; subst hdg; subst hac
  have F := B.F

  obtain ⟨hI1, hI2, hI3, hI4, hI5, hI6, hI7, hc⟩ := hI
  have i0 := hI1.1
  have r0 := hR.rng 0 0
  refine jj_iload1 F dX9_pass_0 ?_
  refine jj_iconst F dX9_pass_1 ?_
  refine jj_sipush F (by decide) dX9_pass_2 ?_
  refine jj_callSr B (k := 0) (n := 0) (k9_isIn F.tr (by omega) (by omega) (by omega)) lk_X9_104 rfl ⟨Nat.le_of_ble_eq_true rfl, Nat.le_of_ble_eq_true rfl, Nat.le_of_ble_eq_true rfl, Nat.le_of_ble_eq_true rfl, Nat.le_of_ble_eq_true rfl⟩ ⟨Nat.le_of_ble_eq_true rfl, Nat.le_of_ble_eq_true rfl, Nat.le_of_ble_eq_true rfl, Nat.le_of_ble_eq_true rfl⟩ jj_tx0 dX9_pass_5 ?_
  refine jj_istore2 F dX9_pass_8 (hN _ (by decide)) rfl ?_
  refine jj_aload0 F dX9_pass_9 ?_
  refine jj_iload2 F dX9_pass_10 ?_
  refine jj_ifb_ne F (tgt := 18) dX9_pass_11 rfl (fun c11 => ?_) (fun c11 => ?_)
  · skip
    refine jj_aload0 F dX9_pass_18 ?_
    refine m9_get F hR fd_X9_108 (by decide) rfl dX9_pass_19 ?_
    refine jj_iload1 F dX9_pass_22 ?_
    refine jj_iadd F dX9_pass_23 ?_
    refine jj_sipush F (by decide) dX9_pass_24 ?_
    refine jj_icmp_le F (tgt := 34) dX9_pass_27 rfl (by omega) (fun c27 => ?_) (fun c27 => ?_)
    · skip
      refine jj_iconst F dX9_pass_34 ?_
      refine jj_callVi B (k := 0) (n := 0) (k9_goes F.tr hR (show jR 0 by decide)) lk_X9_118 hR.1 cs_9 rfl rfl ⟨Nat.le_of_ble_eq_true rfl, Nat.le_of_ble_eq_true rfl, Nat.le_of_ble_eq_true rfl, Nat.le_of_ble_eq_true rfl, Nat.le_of_ble_eq_true rfl⟩ ⟨Nat.le_of_ble_eq_true rfl, Nat.le_of_ble_eq_true rfl, Nat.le_of_ble_eq_true rfl, Nat.le_of_ble_eq_true rfl⟩ jj_tx0 dX9_pass_35 (fun r G h => ?_)
      obtain ⟨rfl, hR⟩ := h
      refine jj_eqi (b := 1) rfl ?_
      refine jj_if_ne F (tgt := 43) dX9_pass_38 rfl (by omega) (fun c38 => ?_) (fun c38 => by exfalso; omega)
      refine jj_aload0 F dX9_pass_43 ?_
      refine jj_dup F rfl dX9_pass_44 ?_
      refine m9_get F hR fd_X9_108 (by decide) rfl dX9_pass_45 ?_
      refine jj_eqi (b := s 0 0) rfl ?_
      refine jj_iload1 F dX9_pass_48 ?_
      refine jj_iadd F dX9_pass_49 ?_
      refine m9_put F hR fd_X9_108 rfl (by omega) (by decide) rfl (by first | rfl | decide) (by first | rfl | decide) dX9_pass_50 (fun G hR => ?_)
      refine jj_aload0 F dX9_pass_53 ?_
      refine m9_get F hR fd_X9_108 (by decide) rfl dX9_pass_54 ?_
      refine jj_eqi (b := s 0 0 + x) rfl ?_
      have htt : t_pass s x = 0 := by unfold t_pass; (repeat (first | rw [if_pos (by omega)] | rw [if_neg (by omega)]))
      exact jj_iret B dX9_pass_57 ⟨Nat.le_of_ble_eq_true rfl, Nat.le_of_ble_eq_true rfl⟩ (⟨_, rfl, (by unfold r_pass; first | (refine Eq.trans ?_ (if_pos htt).symm; first | rfl | omega) | (refine Eq.trans ?_ (if_neg (by omega)).symm; rfl)), (by unfold n_pass; first | (rw [if_pos htt]; exact hR) | (rw [if_neg (by omega)]; rw [htt]; exact hR) | (rw [htt]; exact hR))⟩)
    · skip
      refine jj_iconst F dX9_pass_30 ?_
      refine jj_goto F (tgt := 35) dX9_pass_31 rfl ?_
      refine jj_callVi B (k := 0) (n := 0) (k9_goes F.tr hR (show jR 2 by decide)) lk_X9_118 hR.1 cs_9 rfl rfl ⟨Nat.le_of_ble_eq_true rfl, Nat.le_of_ble_eq_true rfl, Nat.le_of_ble_eq_true rfl, Nat.le_of_ble_eq_true rfl, Nat.le_of_ble_eq_true rfl⟩ ⟨Nat.le_of_ble_eq_true rfl, Nat.le_of_ble_eq_true rfl, Nat.le_of_ble_eq_true rfl, Nat.le_of_ble_eq_true rfl⟩ jj_tx0 dX9_pass_35 (fun r G h => ?_)
      obtain ⟨rfl, hR⟩ := h
      refine jj_eqi (b := 0) rfl ?_
      refine jj_if_ne F (tgt := 43) dX9_pass_38 rfl (by omega) (fun c38 => by exfalso; omega) (fun c38 => ?_)
      refine jj_iconst F dX9_pass_41 ?_
      have htt : t_pass s x = 2 := by unfold t_pass; (repeat (first | rw [if_pos (by omega)] | rw [if_neg (by omega)]))
      exact jj_iret B dX9_pass_42 ⟨Nat.le_of_ble_eq_true rfl, Nat.le_of_ble_eq_true rfl⟩ (⟨_, rfl, (by unfold r_pass; first | (refine Eq.trans ?_ (if_pos htt).symm; first | rfl | omega) | (refine Eq.trans ?_ (if_neg (by omega)).symm; rfl)), (by unfold n_pass; first | (rw [if_pos htt]; exact hR) | (rw [if_neg (by omega)]; rw [htt]; exact hR) | (rw [htt]; exact hR))⟩)
  · skip
    refine jj_iconst F dX9_pass_14 ?_
    refine jj_goto F (tgt := 35) dX9_pass_15 rfl ?_
    refine jj_callVi B (k := 0) (n := 0) (k9_goes F.tr hR (show jR 1 by decide)) lk_X9_118 hR.1 cs_9 rfl rfl ⟨Nat.le_of_ble_eq_true rfl, Nat.le_of_ble_eq_true rfl, Nat.le_of_ble_eq_true rfl, Nat.le_of_ble_eq_true rfl, Nat.le_of_ble_eq_true rfl⟩ ⟨Nat.le_of_ble_eq_true rfl, Nat.le_of_ble_eq_true rfl, Nat.le_of_ble_eq_true rfl, Nat.le_of_ble_eq_true rfl⟩ jj_tx0 dX9_pass_35 (fun r G h => ?_)
    obtain ⟨rfl, hR⟩ := h
    refine jj_eqi (b := 0) rfl ?_
    refine jj_if_ne F (tgt := 43) dX9_pass_38 rfl (by omega) (fun c38 => by exfalso; omega) (fun c38 => ?_)
    refine jj_iconst F dX9_pass_41 ?_
    have htt : t_pass s x = 1 := by unfold t_pass; (repeat (first | rw [if_pos (by omega)] | rw [if_neg (by omega)]))
    exact jj_iret B dX9_pass_42 ⟨Nat.le_of_ble_eq_true rfl, Nat.le_of_ble_eq_true rfl⟩ (⟨_, rfl, (by unfold r_pass; first | (refine Eq.trans ?_ (if_pos htt).symm; first | rfl | omega) | (refine Eq.trans ?_ (if_neg (by omega)).symm; rfl)), (by unfold n_pass; first | (rw [if_pos htt]; exact hR) | (rw [if_neg (by omega)]; rw [htt]; exact hR) | (rw [htt]; exact hR))⟩)
