abbrev rm_X9_session : Room := { frames := 2, cells := 0, slots := 0, locals := 42 }
set_option maxRecDepth 100000 in
set_option maxHeartbeats 4000000 in
theorem k9_session {l : Launch} {D : va_G} {ac : Nat → ClassId} (hl : l.stackTraces = false) {o : Nat} {a : Nat → Nat} {s : Sg} {x y z : Int} {G : jj_G} (hR : RM (ac 0) o a s G) {c : Int} (hI : sInv s c) (hx : jR x) (hy : jR y) (hz : jR z) : jj_C l D ac yX9_session (.code yX9_session cX9_session 5 (some .int)) rm_X9_session [.ref o, .int (jI x), .int (jI y), .int (jI z)] G (jj_pi (fun r G' => r = r_session s x y z ∧ RM (ac 0) o a (n_session s x y z) G')) (jj_nx) := by
  refine jj_ofx (own := RX9) (lv0 := [some (.ref o), some (.int (jI x)), some (.int (jI y)), some (.int (jI z)), none]) hl (by decide +kernel) rfl rfl (Nat.le_of_ble_eq_true rfl) rfl ?_
  intro X B hN hl0 hdg hac hin
  subst hl0; subst hdg; subst hac
  have F := B.F

  obtain ⟨hI1, hI2, hI3, hI4, hI5, hI6, hI7, hc⟩ := hI
  have i0 := hI1.1
  have i1 := hI1.2.1
  have r1 := hR.rng 1 0
  refine jj_iload1 F dX9_session_0 ?_
  refine jj_callSr B (k := 0) (n := 0) (k9_isArtist F.tr (by omega)) lk_X9_111 rfl ⟨Nat.le_of_ble_eq_true rfl, Nat.le_of_ble_eq_true rfl, Nat.le_of_ble_eq_true rfl, Nat.le_of_ble_eq_true rfl, Nat.le_of_ble_eq_true rfl⟩ ⟨Nat.le_of_ble_eq_true rfl, Nat.le_of_ble_eq_true rfl, Nat.le_of_ble_eq_true rfl, Nat.le_of_ble_eq_true rfl⟩ jj_tx0 dX9_session_1 ?_
  refine jj_ifb_eq F (tgt := 18) dX9_session_4 rfl (fun c4 => ?_) (fun c4 => ?_)
  · skip
    refine jj_iconst F dX9_session_18 ?_
    refine jj_istore4 F dX9_session_19 (hN _ (by decide)) rfl ?_
    refine jj_aload0 F dX9_session_21 ?_
    refine jj_iload4 F dX9_session_22 ?_
    refine jj_if_ne F (tgt := 31) dX9_session_24 rfl (by omega) (fun c24 => by exfalso; omega) (fun c24 => ?_)
    refine jj_iconst F dX9_session_27 ?_
    refine jj_goto F (tgt := 60) dX9_session_28 rfl ?_
    refine jj_callVi B (k := 0) (n := 0) (k9_goes F.tr hR (show jR 1 by decide)) lk_X9_118 hR.1 cs_9 rfl rfl ⟨Nat.le_of_ble_eq_true rfl, Nat.le_of_ble_eq_true rfl, Nat.le_of_ble_eq_true rfl, Nat.le_of_ble_eq_true rfl, Nat.le_of_ble_eq_true rfl⟩ ⟨Nat.le_of_ble_eq_true rfl, Nat.le_of_ble_eq_true rfl, Nat.le_of_ble_eq_true rfl, Nat.le_of_ble_eq_true rfl⟩ jj_tx0 dX9_session_60 (fun r G h => ?_)
    obtain ⟨rfl, hR⟩ := h
    refine jj_eqi (b := 0) rfl ?_
    refine jj_if_ne F (tgt := 68) dX9_session_63 rfl (by omega) (fun c63 => by exfalso; omega) (fun c63 => ?_)
    refine jj_iconst F dX9_session_66 ?_
    have htt : t_session s x y z = 1 := by unfold t_session; (repeat (first | rw [if_pos (by omega)] | rw [if_neg (by omega)]))
    exact jj_iret B dX9_session_67 ⟨Nat.le_of_ble_eq_true rfl, Nat.le_of_ble_eq_true rfl⟩ (⟨_, rfl, (by unfold r_session; first | (refine Eq.trans ?_ (if_pos htt).symm; first | rfl | omega) | (refine Eq.trans ?_ (if_neg (by omega)).symm; rfl)), (by unfold n_session; first | (rw [if_pos htt]; exact hR) | (rw [if_neg (by omega)]; rw [htt]; exact hR) | (rw [htt]; exact hR))⟩)
  · skip
    refine jj_iload3 F dX9_session_7 ?_
    refine jj_callSr B (k := 0) (n := 0) (k9_isVault F.tr (by omega)) lk_X9_115 rfl ⟨Nat.le_of_ble_eq_true rfl, Nat.le_of_ble_eq_true rfl, Nat.le_of_ble_eq_true rfl, Nat.le_of_ble_eq_true rfl, Nat.le_of_ble_eq_true rfl⟩ ⟨Nat.le_of_ble_eq_true rfl, Nat.le_of_ble_eq_true rfl, Nat.le_of_ble_eq_true rfl, Nat.le_of_ble_eq_true rfl⟩ jj_tx0 dX9_session_8 ?_
    refine jj_ifb_eq F (tgt := 18) dX9_session_11 rfl (fun c11 => ?_) (fun c11 => ?_)
    · skip
      refine jj_iconst F dX9_session_18 ?_
      refine jj_istore4 F dX9_session_19 (hN _ (by decide)) rfl ?_
      refine jj_aload0 F dX9_session_21 ?_
      refine jj_iload4 F dX9_session_22 ?_
      refine jj_if_ne F (tgt := 31) dX9_session_24 rfl (by omega) (fun c24 => by exfalso; omega) (fun c24 => ?_)
      refine jj_iconst F dX9_session_27 ?_
      refine jj_goto F (tgt := 60) dX9_session_28 rfl ?_
      refine jj_callVi B (k := 0) (n := 0) (k9_goes F.tr hR (show jR 1 by decide)) lk_X9_118 hR.1 cs_9 rfl rfl ⟨Nat.le_of_ble_eq_true rfl, Nat.le_of_ble_eq_true rfl, Nat.le_of_ble_eq_true rfl, Nat.le_of_ble_eq_true rfl, Nat.le_of_ble_eq_true rfl⟩ ⟨Nat.le_of_ble_eq_true rfl, Nat.le_of_ble_eq_true rfl, Nat.le_of_ble_eq_true rfl, Nat.le_of_ble_eq_true rfl⟩ jj_tx0 dX9_session_60 (fun r G h => ?_)
      obtain ⟨rfl, hR⟩ := h
      refine jj_eqi (b := 0) rfl ?_
      refine jj_if_ne F (tgt := 68) dX9_session_63 rfl (by omega) (fun c63 => by exfalso; omega) (fun c63 => ?_)
      refine jj_iconst F dX9_session_66 ?_
      have htt : t_session s x y z = 1 := by unfold t_session; (repeat (first | rw [if_pos (by omega)] | rw [if_neg (by omega)]))
      exact jj_iret B dX9_session_67 ⟨Nat.le_of_ble_eq_true rfl, Nat.le_of_ble_eq_true rfl⟩ (⟨_, rfl, (by unfold r_session; first | (refine Eq.trans ?_ (if_pos htt).symm; first | rfl | omega) | (refine Eq.trans ?_ (if_neg (by omega)).symm; rfl)), (by unfold n_session; first | (rw [if_pos htt]; exact hR) | (rw [if_neg (by omega)]; rw [htt]; exact hR) | (rw [htt]; exact hR))⟩)
    · skip
      refine jj_iconst F dX9_session_14 ?_
      refine jj_goto F (tgt := 19) dX9_session_15 rfl ?_
      refine jj_istore4 F dX9_session_19 (hN _ (by decide)) rfl ?_
      refine jj_aload0 F dX9_session_21 ?_
      refine jj_iload4 F dX9_session_22 ?_
      refine jj_if_ne F (tgt := 31) dX9_session_24 rfl (by omega) (fun c24 => ?_) (fun c24 => by exfalso; omega)
      refine jj_iload2 F dX9_session_31 ?_
      refine jj_iconst F dX9_session_32 ?_
      refine jj_sipush F (by decide) dX9_session_33 ?_
      refine jj_callSr B (k := 0) (n := 0) (k9_isIn F.tr (by omega) (by omega) (by omega)) lk_X9_104 rfl ⟨Nat.le_of_ble_eq_true rfl, Nat.le_of_ble_eq_true rfl, Nat.le_of_ble_eq_true rfl, Nat.le_of_ble_eq_true rfl, Nat.le_of_ble_eq_true rfl⟩ ⟨Nat.le_of_ble_eq_true rfl, Nat.le_of_ble_eq_true rfl, Nat.le_of_ble_eq_true rfl, Nat.le_of_ble_eq_true rfl⟩ jj_tx0 dX9_session_36 ?_
      refine jj_ifb_ne F (tgt := 46) dX9_session_39 rfl (fun c39 => ?_) (fun c39 => ?_)
      · skip
        refine jj_aload0 F dX9_session_46 ?_
        refine m9_get F hR fd_X9_101 (by decide) rfl dX9_session_47 ?_
        refine jj_bipush F (by decide) dX9_session_50 ?_
        refine jj_icmp_ne F (tgt := 59) dX9_session_52 rfl (by omega) (fun c52 => ?_) (fun c52 => ?_)
        · skip
          refine jj_iconst F dX9_session_59 ?_
          refine jj_callVi B (k := 0) (n := 0) (k9_goes F.tr hR (show jR 0 by decide)) lk_X9_118 hR.1 cs_9 rfl rfl ⟨Nat.le_of_ble_eq_true rfl, Nat.le_of_ble_eq_true rfl, Nat.le_of_ble_eq_true rfl, Nat.le_of_ble_eq_true rfl, Nat.le_of_ble_eq_true rfl⟩ ⟨Nat.le_of_ble_eq_true rfl, Nat.le_of_ble_eq_true rfl, Nat.le_of_ble_eq_true rfl, Nat.le_of_ble_eq_true rfl⟩ jj_tx0 dX9_session_60 (fun r G h => ?_)
          obtain ⟨rfl, hR⟩ := h
          refine jj_eqi (b := 1) rfl ?_
          refine jj_if_ne F (tgt := 68) dX9_session_63 rfl (by omega) (fun c63 => ?_) (fun c63 => by exfalso; omega)
          refine jj_aload0 F dX9_session_68 ?_
          refine m9_get F hR fd_X9_22 (by decide) rfl dX9_session_69 ?_
          refine jj_aload0 F dX9_session_72 ?_
          refine m9_get F hR fd_X9_101 (by decide) rfl dX9_session_73 ?_
          refine jj_eqi (b := s 1 0) rfl ?_
          refine jj_iload1 F dX9_session_76 ?_
          refine m9_ast F hR (n := 30) rfl (by omega) (by decide) (by omega) dX9_session_77 (fun G hR => ?_)
          refine jj_aload0 F dX9_session_78 ?_
          refine jj_aload0 F dX9_session_79 ?_
          refine m9_get F hR fd_X9_101 (by decide) rfl dX9_session_80 ?_
          refine jj_eqi (b := s 1 0) rfl ?_
          refine jj_iconst F dX9_session_83 ?_
          refine jj_iload2 F dX9_session_84 ?_
          refine jj_callVv B (k := 0) (n := 0) (k9_puts F.tr hR (show 0 ≤ s 1 0 ∧ s 1 0 < 30 by omega) (show 0 ≤ s 7 (s 1 0) ∧ s 7 (s 1 0) < 20 by rw [(hI1.2.2.2.1 (s 1 0) (by omega) (by omega)).1]; omega) (by omega) (by omega) (by omega)) lk_X9_121 hR.1 cs_9 rfl rfl ⟨Nat.le_of_ble_eq_true rfl, Nat.le_of_ble_eq_true rfl, Nat.le_of_ble_eq_true rfl, Nat.le_of_ble_eq_true rfl, Nat.le_of_ble_eq_true rfl⟩ ⟨Nat.le_of_ble_eq_true rfl, Nat.le_of_ble_eq_true rfl, Nat.le_of_ble_eq_true rfl, Nat.le_of_ble_eq_true rfl⟩ jj_tx0 dX9_session_85 (fun G hR => ?_)
          refine jj_aload0 F dX9_session_88 ?_
          refine jj_iconst F dX9_session_89 ?_
          refine jj_iload3 F dX9_session_90 ?_
          refine jj_callVi B (k := 0) (n := 0) (k9_makes F.tr hR (show 0 ≤ s 1 0 ∧ s 1 0 < 30 by omega) (by omega) (by omega)) lk_X9_125 hR.1 cs_9 rfl rfl ⟨Nat.le_of_ble_eq_true rfl, Nat.le_of_ble_eq_true rfl, Nat.le_of_ble_eq_true rfl, Nat.le_of_ble_eq_true rfl, Nat.le_of_ble_eq_true rfl⟩ ⟨Nat.le_of_ble_eq_true rfl, Nat.le_of_ble_eq_true rfl, Nat.le_of_ble_eq_true rfl, Nat.le_of_ble_eq_true rfl⟩ jj_tx0 dX9_session_91 (fun r G h => ?_)
          obtain ⟨rfl, hR⟩ := h
          have htt : t_session s x y z = 0 := by unfold t_session; (repeat (first | rw [if_pos (by omega)] | rw [if_neg (by omega)]))
          exact jj_iret B dX9_session_94 ⟨Nat.le_of_ble_eq_true rfl, Nat.le_of_ble_eq_true rfl⟩ (⟨_, rfl, (by unfold r_session; first | (refine Eq.trans ?_ (if_pos htt).symm; first | rfl | omega) | (refine Eq.trans ?_ (if_neg (by omega)).symm; rfl)), (by unfold n_session; first | (rw [if_pos htt]; exact hR) | (rw [if_neg (by omega)]; rw [htt]; exact hR) | (rw [htt]; exact hR))⟩)
        · skip
          refine jj_iconst F dX9_session_55 ?_
          refine jj_goto F (tgt := 60) dX9_session_56 rfl ?_
          refine jj_callVi B (k := 0) (n := 0) (k9_goes F.tr hR (show jR 3 by decide)) lk_X9_118 hR.1 cs_9 rfl rfl ⟨Nat.le_of_ble_eq_true rfl, Nat.le_of_ble_eq_true rfl, Nat.le_of_ble_eq_true rfl, Nat.le_of_ble_eq_true rfl, Nat.le_of_ble_eq_true rfl⟩ ⟨Nat.le_of_ble_eq_true rfl, Nat.le_of_ble_eq_true rfl, Nat.le_of_ble_eq_true rfl, Nat.le_of_ble_eq_true rfl⟩ jj_tx0 dX9_session_60 (fun r G h => ?_)
          obtain ⟨rfl, hR⟩ := h
          refine jj_eqi (b := 0) rfl ?_
          refine jj_if_ne F (tgt := 68) dX9_session_63 rfl (by omega) (fun c63 => by exfalso; omega) (fun c63 => ?_)
          refine jj_iconst F dX9_session_66 ?_
          have htt : t_session s x y z = 3 := by unfold t_session; (repeat (first | rw [if_pos (by omega)] | rw [if_neg (by omega)]))
          exact jj_iret B dX9_session_67 ⟨Nat.le_of_ble_eq_true rfl, Nat.le_of_ble_eq_true rfl⟩ (⟨_, rfl, (by unfold r_session; first | (refine Eq.trans ?_ (if_pos htt).symm; first | rfl | omega) | (refine Eq.trans ?_ (if_neg (by omega)).symm; rfl)), (by unfold n_session; first | (rw [if_pos htt]; exact hR) | (rw [if_neg (by omega)]; rw [htt]; exact hR) | (rw [htt]; exact hR))⟩)
      · skip
        refine jj_iconst F dX9_session_42 ?_
        refine jj_goto F (tgt := 60) dX9_session_43 rfl ?_
        refine jj_callVi B (k := 0) (n := 0) (k9_goes F.tr hR (show jR 2 by decide)) lk_X9_118 hR.1 cs_9 rfl rfl ⟨Nat.le_of_ble_eq_true rfl, Nat.le_of_ble_eq_true rfl, Nat.le_of_ble_eq_true rfl, Nat.le_of_ble_eq_true rfl, Nat.le_of_ble_eq_true rfl⟩ ⟨Nat.le_of_ble_eq_true rfl, Nat.le_of_ble_eq_true rfl, Nat.le_of_ble_eq_true rfl, Nat.le_of_ble_eq_true rfl⟩ jj_tx0 dX9_session_60 (fun r G h => ?_)
        obtain ⟨rfl, hR⟩ := h
        refine jj_eqi (b := 0) rfl ?_
        refine jj_if_ne F (tgt := 68) dX9_session_63 rfl (by omega) (fun c63 => by exfalso; omega) (fun c63 => ?_)
        refine jj_iconst F dX9_session_66 ?_
        have htt : t_session s x y z = 2 := by unfold t_session; (repeat (first | rw [if_pos (by omega)] | rw [if_neg (by omega)]))
        exact jj_iret B dX9_session_67 ⟨Nat.le_of_ble_eq_true rfl, Nat.le_of_ble_eq_true rfl⟩ (⟨_, rfl, (by unfold r_session; first | (refine Eq.trans ?_ (if_pos htt).symm; first | rfl | omega) | (refine Eq.trans ?_ (if_neg (by omega)).symm; rfl)), (by unfold n_session; first | (rw [if_pos htt]; exact hR) | (rw [if_neg (by omega)]; rw [htt]; exact hR) | (rw [htt]; exact hR))⟩)
abbrev rm_X9_shed : Room := { frames := 2, cells := 0, slots := 0, locals := 43 }
set_option maxRecDepth 100000 in
set_option maxHeartbeats 4000000 in
theorem k9_shed {l : Launch} {D : va_G} {ac : Nat → ClassId} (hl : l.stackTraces = false) {o : Nat} {a : Nat → Nat} {s : Sg} {t : Int} {G : jj_G} (hR : RM (ac 0) o a s G) {c : Int} (hI : sInv s c) (ht : jR t) : jj_C l D ac yX9_shed (.code yX9_shed cX9_shed 3 none) rm_X9_shed [.ref o, .int (jI t)] G (jj_pv (fun G' => RM (ac 0) o a (n_shed s t) G')) (jj_nx) := by
  refine jj_ofx (own := RX9) (lv0 := [some (.ref o), some (.int (jI t)), none]) hl (by decide +kernel) rfl rfl (Nat.le_of_ble_eq_true rfl) rfl ?_
  intro X B hN hl0 hdg hac hin
  subst hl0; subst hdg; subst hac
  have F := B.F

  obtain ⟨hI1, hI2, hI3, hI4, hI5, hI6, hI7, hc⟩ := hI
  have i0 := hI1.1
  have i1 := hI1.2.1
  have r1 := hR.rng 1 0
  refine jj_aload0 F dX9_shed_0 ?_
  refine jj_iload1 F dX9_shed_1 ?_
  refine jj_callVr B (k := 0) (n := 0) (k9_isTape F.tr hR (by omega) (by omega)) lk_X9_129 hR.1 cs_9 rfl rfl ⟨Nat.le_of_ble_eq_true rfl, Nat.le_of_ble_eq_true rfl, Nat.le_of_ble_eq_true rfl, Nat.le_of_ble_eq_true rfl, Nat.le_of_ble_eq_true rfl⟩ ⟨Nat.le_of_ble_eq_true rfl, Nat.le_of_ble_eq_true rfl, Nat.le_of_ble_eq_true rfl, Nat.le_of_ble_eq_true rfl⟩ jj_tx0 dX9_shed_2 ?_
  refine jj_istore2 F dX9_shed_5 (hN _ (by decide)) rfl ?_
  refine jj_aload0 F dX9_shed_6 ?_
  refine jj_iload2 F dX9_shed_7 ?_
  refine jj_ifb_ne F (tgt := 15) dX9_shed_8 rfl (fun c8 => ?_) (fun c8 => ?_)
  · skip
    refine jj_aload0 F dX9_shed_15 ?_
    refine m9_get F hR fd_X9_7 (by decide) rfl dX9_shed_16 ?_
    refine jj_iload1 F dX9_shed_19 ?_
    refine m9_ald F hR (n := 30) rfl (by omega) (by decide) dX9_shed_20 (fun r_20 => ?_)
    refine jj_if_ne F (tgt := 28) dX9_shed_21 rfl (by omega) (fun c21 => ?_) (fun c21 => ?_)
    · skip
      refine jj_iconst F dX9_shed_28 ?_
      refine jj_callVi B (k := 0) (n := 0) (k9_goes F.tr hR (show jR 2 by decide)) lk_X9_118 hR.1 cs_9 rfl rfl ⟨Nat.le_of_ble_eq_true rfl, Nat.le_of_ble_eq_true rfl, Nat.le_of_ble_eq_true rfl, Nat.le_of_ble_eq_true rfl, Nat.le_of_ble_eq_true rfl⟩ ⟨Nat.le_of_ble_eq_true rfl, Nat.le_of_ble_eq_true rfl, Nat.le_of_ble_eq_true rfl, Nat.le_of_ble_eq_true rfl⟩ jj_tx0 dX9_shed_29 (fun r G h => ?_)
      obtain ⟨rfl, hR⟩ := h
      refine jj_eqi (b := 0) rfl ?_
      refine jj_if_eq F (tgt := 42) dX9_shed_32 rfl (by omega) (fun c32 => ?_) (fun c32 => by exfalso; omega)
      have htt : t_tape s t 0 = 2 := by unfold t_tape; (repeat (first | rw [if_pos (by omega)] | rw [if_neg (by omega)]))
      exact jj_vret B dX9_shed_42 ⟨Nat.le_of_ble_eq_true rfl, Nat.le_of_ble_eq_true rfl⟩ (⟨rfl, (by unfold n_shed; first | (rw [if_pos htt]; exact hR) | (rw [if_neg (by omega)]; rw [htt]; exact hR) | (rw [htt]; exact hR))⟩)
    · skip
      refine jj_iconst F dX9_shed_24 ?_
      refine jj_goto F (tgt := 29) dX9_shed_25 rfl ?_
      refine jj_callVi B (k := 0) (n := 0) (k9_goes F.tr hR (show jR 0 by decide)) lk_X9_118 hR.1 cs_9 rfl rfl ⟨Nat.le_of_ble_eq_true rfl, Nat.le_of_ble_eq_true rfl, Nat.le_of_ble_eq_true rfl, Nat.le_of_ble_eq_true rfl, Nat.le_of_ble_eq_true rfl⟩ ⟨Nat.le_of_ble_eq_true rfl, Nat.le_of_ble_eq_true rfl, Nat.le_of_ble_eq_true rfl, Nat.le_of_ble_eq_true rfl⟩ jj_tx0 dX9_shed_29 (fun r G h => ?_)
      obtain ⟨rfl, hR⟩ := h
      refine jj_eqi (b := 1) rfl ?_
      refine jj_if_eq F (tgt := 42) dX9_shed_32 rfl (by omega) (fun c32 => by exfalso; omega) (fun c32 => ?_)
      refine jj_aload0 F dX9_shed_35 ?_
      refine m9_get F hR fd_X9_7 (by decide) rfl dX9_shed_36 ?_
      refine jj_iload1 F dX9_shed_39 ?_
      refine jj_iconst F dX9_shed_40 ?_
      refine m9_ast F hR (n := 30) rfl (by omega) (by decide) (by omega) dX9_shed_41 (fun G hR => ?_)
      have htt : t_tape s t 0 = 0 := by unfold t_tape; (repeat (first | rw [if_pos (by omega)] | rw [if_neg (by omega)]))
      exact jj_vret B dX9_shed_42 ⟨Nat.le_of_ble_eq_true rfl, Nat.le_of_ble_eq_true rfl⟩ (⟨rfl, (by unfold n_shed; first | (rw [if_pos htt]; exact hR) | (rw [if_neg (by omega)]; rw [htt]; exact hR) | (rw [htt]; exact hR))⟩)
  · skip
    refine jj_iconst F dX9_shed_11 ?_
    refine jj_goto F (tgt := 29) dX9_shed_12 rfl ?_
    refine jj_callVi B (k := 0) (n := 0) (k9_goes F.tr hR (show jR 1 by decide)) lk_X9_118 hR.1 cs_9 rfl rfl ⟨Nat.le_of_ble_eq_true rfl, Nat.le_of_ble_eq_true rfl, Nat.le_of_ble_eq_true rfl, Nat.le_of_ble_eq_true rfl, Nat.le_of_ble_eq_true rfl⟩ ⟨Nat.le_of_ble_eq_true rfl, Nat.le_of_ble_eq_true rfl, Nat.le_of_ble_eq_true rfl, Nat.le_of_ble_eq_true rfl⟩ jj_tx0 dX9_shed_29 (fun r G h => ?_)
    obtain ⟨rfl, hR⟩ := h
    refine jj_eqi (b := 0) rfl ?_
    refine jj_if_eq F (tgt := 42) dX9_shed_32 rfl (by omega) (fun c32 => ?_) (fun c32 => by exfalso; omega)
    have htt : t_tape s t 0 = 1 := by unfold t_tape; (repeat (first | rw [if_pos (by omega)] | rw [if_neg (by omega)]))
    exact jj_vret B dX9_shed_42 ⟨Nat.le_of_ble_eq_true rfl, Nat.le_of_ble_eq_true rfl⟩ (⟨rfl, (by unfold n_shed; first | (rw [if_pos htt]; exact hR) | (rw [if_neg (by omega)]; rw [htt]; exact hR) | (rw [htt]; exact hR))⟩)
abbrev rm_X9_bake : Room := { frames := 2, cells := 0, slots := 0, locals := 43 }
set_option maxRecDepth 100000 in
set_option maxHeartbeats 4000000 in
theorem k9_bake {l : Launch} {D : va_G} {ac : Nat → ClassId} (hl : l.stackTraces = false) {o : Nat} {a : Nat → Nat} {s : Sg} {t : Int} {G : jj_G} (hR : RM (ac 0) o a s G) {c : Int} (hI : sInv s c) (ht : jR t) : jj_C l D ac yX9_bake (.code yX9_bake cX9_bake 3 (some .int)) rm_X9_bake [.ref o, .int (jI t)] G (jj_pi (fun r G' => r = r_bake s t ∧ RM (ac 0) o a (n_bake s t) G')) (jj_nx) := by
  refine jj_ofx (own := RX9) (lv0 := [some (.ref o), some (.int (jI t)), none]) hl (by decide +kernel) rfl rfl (Nat.le_of_ble_eq_true rfl) rfl ?_
  intro X B hN hl0 hdg hac hin
  subst hl0; subst hdg; subst hac
  have F := B.F

  obtain ⟨hI1, hI2, hI3, hI4, hI5, hI6, hI7, hc⟩ := hI
  have i0 := hI1.1
  have i1 := hI1.2.1
  have r1 := hR.rng 1 0
  refine jj_aload0 F dX9_bake_0 ?_
  refine jj_iload1 F dX9_bake_1 ?_
  refine jj_callVr B (k := 0) (n := 0) (k9_isTape F.tr hR (by omega) (by omega)) lk_X9_129 hR.1 cs_9 rfl rfl ⟨Nat.le_of_ble_eq_true rfl, Nat.le_of_ble_eq_true rfl, Nat.le_of_ble_eq_true rfl, Nat.le_of_ble_eq_true rfl, Nat.le_of_ble_eq_true rfl⟩ ⟨Nat.le_of_ble_eq_true rfl, Nat.le_of_ble_eq_true rfl, Nat.le_of_ble_eq_true rfl, Nat.le_of_ble_eq_true rfl⟩ jj_tx0 dX9_bake_2 ?_
  refine jj_istore2 F dX9_bake_5 (hN _ (by decide)) rfl ?_
  refine jj_aload0 F dX9_bake_6 ?_
  refine jj_iload2 F dX9_bake_7 ?_
  refine jj_ifb_ne F (tgt := 15) dX9_bake_8 rfl (fun c8 => ?_) (fun c8 => ?_)
  · skip
    refine jj_aload0 F dX9_bake_15 ?_
    refine m9_get F hR fd_X9_7 (by decide) rfl dX9_bake_16 ?_
    refine jj_iload1 F dX9_bake_19 ?_
    refine m9_ald F hR (n := 30) rfl (by omega) (by decide) dX9_bake_20 (fun r_20 => ?_)
    refine jj_iconst F dX9_bake_21 ?_
    refine jj_icmp_ne F (tgt := 29) dX9_bake_22 rfl (by omega) (fun c22 => ?_) (fun c22 => ?_)
    · skip
      refine jj_iconst F dX9_bake_29 ?_
      refine jj_callVi B (k := 0) (n := 0) (k9_goes F.tr hR (show jR 2 by decide)) lk_X9_118 hR.1 cs_9 rfl rfl ⟨Nat.le_of_ble_eq_true rfl, Nat.le_of_ble_eq_true rfl, Nat.le_of_ble_eq_true rfl, Nat.le_of_ble_eq_true rfl, Nat.le_of_ble_eq_true rfl⟩ ⟨Nat.le_of_ble_eq_true rfl, Nat.le_of_ble_eq_true rfl, Nat.le_of_ble_eq_true rfl, Nat.le_of_ble_eq_true rfl⟩ jj_tx0 dX9_bake_30 (fun r G h => ?_)
      obtain ⟨rfl, hR⟩ := h
      refine jj_eqi (b := 0) rfl ?_
      refine jj_if_ne F (tgt := 38) dX9_bake_33 rfl (by omega) (fun c33 => by exfalso; omega) (fun c33 => ?_)
      refine jj_iconst F dX9_bake_36 ?_
      have htt : t_tape s t 1 = 2 := by unfold t_tape; (repeat (first | rw [if_pos (by omega)] | rw [if_neg (by omega)]))
      exact jj_iret B dX9_bake_37 ⟨Nat.le_of_ble_eq_true rfl, Nat.le_of_ble_eq_true rfl⟩ (⟨_, rfl, (by unfold r_bake; first | (refine Eq.trans ?_ (if_pos htt).symm; first | rfl | omega) | (refine Eq.trans ?_ (if_neg (by omega)).symm; rfl)), (by unfold n_bake; first | (rw [if_pos htt]; exact hR) | (rw [if_neg (by omega)]; rw [htt]; exact hR) | (rw [htt]; exact hR))⟩)
    · skip
      refine jj_iconst F dX9_bake_25 ?_
      refine jj_goto F (tgt := 30) dX9_bake_26 rfl ?_
      refine jj_callVi B (k := 0) (n := 0) (k9_goes F.tr hR (show jR 0 by decide)) lk_X9_118 hR.1 cs_9 rfl rfl ⟨Nat.le_of_ble_eq_true rfl, Nat.le_of_ble_eq_true rfl, Nat.le_of_ble_eq_true rfl, Nat.le_of_ble_eq_true rfl, Nat.le_of_ble_eq_true rfl⟩ ⟨Nat.le_of_ble_eq_true rfl, Nat.le_of_ble_eq_true rfl, Nat.le_of_ble_eq_true rfl, Nat.le_of_ble_eq_true rfl⟩ jj_tx0 dX9_bake_30 (fun r G h => ?_)
      obtain ⟨rfl, hR⟩ := h
      refine jj_eqi (b := 1) rfl ?_
      refine jj_if_ne F (tgt := 38) dX9_bake_33 rfl (by omega) (fun c33 => ?_) (fun c33 => by exfalso; omega)
      refine jj_aload0 F dX9_bake_38 ?_
      refine m9_get F hR fd_X9_7 (by decide) rfl dX9_bake_39 ?_
      refine jj_iload1 F dX9_bake_42 ?_
      refine jj_iconst F dX9_bake_43 ?_
      refine m9_ast F hR (n := 30) rfl (by omega) (by decide) (by omega) dX9_bake_44 (fun G hR => ?_)
      refine jj_aload0 F dX9_bake_45 ?_
      refine m9_get F hR fd_X9_13 (by decide) rfl dX9_bake_46 ?_
      refine jj_iload1 F dX9_bake_49 ?_
      refine jj_aload0 F dX9_bake_50 ?_
      refine m9_get F hR fd_X9_108 (by decide) rfl dX9_bake_51 ?_
      refine jj_eqi (b := s 0 0) rfl ?_
      refine m9_ast F hR (n := 30) rfl (by omega) (by decide) (by omega) dX9_bake_54 (fun G hR => ?_)
      refine jj_aload0 F dX9_bake_55 ?_
      refine m9_get F hR fd_X9_108 (by decide) rfl dX9_bake_56 ?_
      refine jj_eqi (b := s 0 0) rfl ?_
      refine jj_bipush F (by decide) dX9_bake_59 ?_
      refine jj_iadd F dX9_bake_61 ?_
      have htt : t_tape s t 1 = 0 := by unfold t_tape; (repeat (first | rw [if_pos (by omega)] | rw [if_neg (by omega)]))
      exact jj_iret B dX9_bake_62 ⟨Nat.le_of_ble_eq_true rfl, Nat.le_of_ble_eq_true rfl⟩ (⟨_, rfl, (by unfold r_bake; first | (refine Eq.trans ?_ (if_pos htt).symm; first | rfl | omega) | (refine Eq.trans ?_ (if_neg (by omega)).symm; rfl)), (by unfold n_bake; first | (rw [if_pos htt]; exact hR) | (rw [if_neg (by omega)]; rw [htt]; exact hR) | (rw [htt]; exact hR))⟩)
  · skip
    refine jj_iconst F dX9_bake_11 ?_
    refine jj_goto F (tgt := 30) dX9_bake_12 rfl ?_
    refine jj_callVi B (k := 0) (n := 0) (k9_goes F.tr hR (show jR 1 by decide)) lk_X9_118 hR.1 cs_9 rfl rfl ⟨Nat.le_of_ble_eq_true rfl, Nat.le_of_ble_eq_true rfl, Nat.le_of_ble_eq_true rfl, Nat.le_of_ble_eq_true rfl, Nat.le_of_ble_eq_true rfl⟩ ⟨Nat.le_of_ble_eq_true rfl, Nat.le_of_ble_eq_true rfl, Nat.le_of_ble_eq_true rfl, Nat.le_of_ble_eq_true rfl⟩ jj_tx0 dX9_bake_30 (fun r G h => ?_)
    obtain ⟨rfl, hR⟩ := h
    refine jj_eqi (b := 0) rfl ?_
    refine jj_if_ne F (tgt := 38) dX9_bake_33 rfl (by omega) (fun c33 => by exfalso; omega) (fun c33 => ?_)
    refine jj_iconst F dX9_bake_36 ?_
    have htt : t_tape s t 1 = 1 := by unfold t_tape; (repeat (first | rw [if_pos (by omega)] | rw [if_neg (by omega)]))
    exact jj_iret B dX9_bake_37 ⟨Nat.le_of_ble_eq_true rfl, Nat.le_of_ble_eq_true rfl⟩ (⟨_, rfl, (by unfold r_bake; first | (refine Eq.trans ?_ (if_pos htt).symm; first | rfl | omega) | (refine Eq.trans ?_ (if_neg (by omega)).symm; rfl)), (by unfold n_bake; first | (rw [if_pos htt]; exact hR) | (rw [if_neg (by omega)]; rw [htt]; exact hR) | (rw [htt]; exact hR))⟩)
abbrev rm_X9_takes : Room := { frames := 2, cells := 0, slots := 0, locals := 43 }
set_option maxRecDepth 100000 in
set_option maxHeartbeats 4000000 in
theorem k9_takes {l : Launch} {D : va_G} {ac : Nat → ClassId} (hl : l.stackTraces = false) {o : Nat} {a : Nat → Nat} {s : Sg} {t : Int} {G : jj_G} (hR : RM (ac 0) o a s G) {c : Int} (hI : sInv s c) (ht : jR t) : jj_C l D ac yX9_takes (.code yX9_takes cX9_takes 2 (some .int)) rm_X9_takes [.ref o, .int (jI t)] G (jj_pi (fun r G' => r = r_takes s t ∧ RM (ac 0) o a (n_takes s t) G')) (jj_nx) := by
  refine jj_ofx (own := RX9) (lv0 := [some (.ref o), some (.int (jI t))]) hl (by decide +kernel) rfl rfl (Nat.le_of_ble_eq_true rfl) rfl ?_
  intro X B hN hl0 hdg hac hin
  subst hl0; subst hdg; subst hac
  have F := B.F

  obtain ⟨hI1, hI2, hI3, hI4, hI5, hI6, hI7, hc⟩ := hI
  have i0 := hI1.1
  have i1 := hI1.2.1
  have r1 := hR.rng 1 0
  refine jj_aload0 F dX9_takes_0 ?_
  refine jj_aload0 F dX9_takes_1 ?_
  refine jj_iload1 F dX9_takes_2 ?_
  refine jj_callVr B (k := 0) (n := 0) (k9_isTape F.tr hR (by omega) (by omega)) lk_X9_129 hR.1 cs_9 rfl rfl ⟨Nat.le_of_ble_eq_true rfl, Nat.le_of_ble_eq_true rfl, Nat.le_of_ble_eq_true rfl, Nat.le_of_ble_eq_true rfl, Nat.le_of_ble_eq_true rfl⟩ ⟨Nat.le_of_ble_eq_true rfl, Nat.le_of_ble_eq_true rfl, Nat.le_of_ble_eq_true rfl, Nat.le_of_ble_eq_true rfl⟩ jj_tx0 dX9_takes_3 ?_
  refine jj_ifb_eq F (tgt := 13) dX9_takes_6 rfl (fun c6 => ?_) (fun c6 => ?_)
  · skip
    refine jj_iconst F dX9_takes_13 ?_
    refine jj_callVi B (k := 0) (n := 0) (k9_goes F.tr hR (show jR 1 by decide)) lk_X9_118 hR.1 cs_9 rfl rfl ⟨Nat.le_of_ble_eq_true rfl, Nat.le_of_ble_eq_true rfl, Nat.le_of_ble_eq_true rfl, Nat.le_of_ble_eq_true rfl, Nat.le_of_ble_eq_true rfl⟩ ⟨Nat.le_of_ble_eq_true rfl, Nat.le_of_ble_eq_true rfl, Nat.le_of_ble_eq_true rfl, Nat.le_of_ble_eq_true rfl⟩ jj_tx0 dX9_takes_14 (fun r G h => ?_)
    obtain ⟨rfl, hR⟩ := h
    refine jj_eqi (b := 0) rfl ?_
    refine jj_if_eq F (tgt := 28) dX9_takes_17 rfl (by omega) (fun c17 => ?_) (fun c17 => by exfalso; omega)
    refine jj_iconst F dX9_takes_28 ?_
    have htt : t_is s t = 1 := by unfold t_is; (repeat (first | rw [if_pos (by omega)] | rw [if_neg (by omega)]))
    exact jj_iret B dX9_takes_29 ⟨Nat.le_of_ble_eq_true rfl, Nat.le_of_ble_eq_true rfl⟩ (⟨_, rfl, (by unfold r_takes; first | (refine Eq.trans ?_ (if_pos htt).symm; first | rfl | omega) | (refine Eq.trans ?_ (if_neg (by omega)).symm; rfl)), (by unfold n_takes; first | (rw [if_pos htt]; exact hR) | (rw [if_neg (by omega)]; rw [htt]; exact hR) | (rw [htt]; exact hR))⟩)
  · skip
    refine jj_iconst F dX9_takes_9 ?_
    refine jj_goto F (tgt := 14) dX9_takes_10 rfl ?_
    refine jj_callVi B (k := 0) (n := 0) (k9_goes F.tr hR (show jR 0 by decide)) lk_X9_118 hR.1 cs_9 rfl rfl ⟨Nat.le_of_ble_eq_true rfl, Nat.le_of_ble_eq_true rfl, Nat.le_of_ble_eq_true rfl, Nat.le_of_ble_eq_true rfl, Nat.le_of_ble_eq_true rfl⟩ ⟨Nat.le_of_ble_eq_true rfl, Nat.le_of_ble_eq_true rfl, Nat.le_of_ble_eq_true rfl, Nat.le_of_ble_eq_true rfl⟩ jj_tx0 dX9_takes_14 (fun r G h => ?_)
    obtain ⟨rfl, hR⟩ := h
    refine jj_eqi (b := 1) rfl ?_
    refine jj_if_eq F (tgt := 28) dX9_takes_17 rfl (by omega) (fun c17 => by exfalso; omega) (fun c17 => ?_)
    refine jj_aload0 F dX9_takes_20 ?_
    refine jj_iload1 F dX9_takes_21 ?_
    refine jj_callVr B (k := 0) (n := 0) (k9_takesOf F.tr hR (by omega) (show 0 ≤ s 7 t ∧ s 7 t ≤ 20 by have := (hI1.2.2.1 t (by omega) (by omega)).2.2.2.2.2; omega)) lk_X9_146 hR.1 cs_9 rfl rfl ⟨Nat.le_of_ble_eq_true rfl, Nat.le_of_ble_eq_true rfl, Nat.le_of_ble_eq_true rfl, Nat.le_of_ble_eq_true rfl, Nat.le_of_ble_eq_true rfl⟩ ⟨Nat.le_of_ble_eq_true rfl, Nat.le_of_ble_eq_true rfl, Nat.le_of_ble_eq_true rfl, Nat.le_of_ble_eq_true rfl⟩ jj_tx0 dX9_takes_22 ?_
    refine jj_eqi (congrFun (sTakes_c (s := s) (by rfl) (by rfl)) _) ?_
    refine jj_goto F (tgt := 29) dX9_takes_25 rfl ?_
    have htt : t_is s t = 0 := by unfold t_is; (repeat (first | rw [if_pos (by omega)] | rw [if_neg (by omega)]))
    exact jj_iret B dX9_takes_29 ⟨Nat.le_of_ble_eq_true rfl, Nat.le_of_ble_eq_true rfl⟩ (⟨_, rfl, (by unfold r_takes; first | (refine Eq.trans ?_ (if_pos htt).symm; first | rfl | omega) | (refine Eq.trans ?_ (if_neg (by omega)).symm; rfl)), (by unfold n_takes; first | (rw [if_pos htt]; exact hR) | (rw [if_neg (by omega)]; rw [htt]; exact hR) | (rw [htt]; exact hR))⟩)
abbrev rm_X9_takesAnew : Room := { frames := 2, cells := 0, slots := 0, locals := 43 }
set_option maxRecDepth 100000 in
set_option maxHeartbeats 4000000 in
theorem k9_takesAnew {l : Launch} {D : va_G} {ac : Nat → ClassId} (hl : l.stackTraces = false) {o : Nat} {a : Nat → Nat} {s : Sg} {t : Int} {G : jj_G} (hR : RM (ac 0) o a s G) {c : Int} (hI : sInv s c) (ht : jR t) : jj_C l D ac yX9_takesAnew (.code yX9_takesAnew cX9_takesAnew 2 (some .int)) rm_X9_takesAnew [.ref o, .int (jI t)] G (jj_pi (fun r G' => r = r_takes s t ∧ RM (ac 0) o a (n_takes s t) G')) (jj_nx) := by
  refine jj_ofx (own := RX9) (lv0 := [some (.ref o), some (.int (jI t))]) hl (by decide +kernel) rfl rfl (Nat.le_of_ble_eq_true rfl) rfl ?_
  intro X B hN hl0 hdg hac hin
  subst hl0; subst hdg; subst hac
  have F := B.F

  obtain ⟨hI1, hI2, hI3, hI4, hI5, hI6, hI7, hc⟩ := hI
  have i0 := hI1.1
  have i1 := hI1.2.1
  have r1 := hR.rng 1 0
  refine jj_aload0 F dX9_takesAnew_0 ?_
  refine jj_aload0 F dX9_takesAnew_1 ?_
  refine jj_iload1 F dX9_takesAnew_2 ?_
  refine jj_callVr B (k := 0) (n := 0) (k9_isTape F.tr hR (by omega) (by omega)) lk_X9_129 hR.1 cs_9 rfl rfl ⟨Nat.le_of_ble_eq_true rfl, Nat.le_of_ble_eq_true rfl, Nat.le_of_ble_eq_true rfl, Nat.le_of_ble_eq_true rfl, Nat.le_of_ble_eq_true rfl⟩ ⟨Nat.le_of_ble_eq_true rfl, Nat.le_of_ble_eq_true rfl, Nat.le_of_ble_eq_true rfl, Nat.le_of_ble_eq_true rfl⟩ jj_tx0 dX9_takesAnew_3 ?_
  refine jj_ifb_eq F (tgt := 13) dX9_takesAnew_6 rfl (fun c6 => ?_) (fun c6 => ?_)
  · skip
    refine jj_iconst F dX9_takesAnew_13 ?_
    refine jj_callVi B (k := 0) (n := 0) (k9_goes F.tr hR (show jR 1 by decide)) lk_X9_118 hR.1 cs_9 rfl rfl ⟨Nat.le_of_ble_eq_true rfl, Nat.le_of_ble_eq_true rfl, Nat.le_of_ble_eq_true rfl, Nat.le_of_ble_eq_true rfl, Nat.le_of_ble_eq_true rfl⟩ ⟨Nat.le_of_ble_eq_true rfl, Nat.le_of_ble_eq_true rfl, Nat.le_of_ble_eq_true rfl, Nat.le_of_ble_eq_true rfl⟩ jj_tx0 dX9_takesAnew_14 (fun r G h => ?_)
    obtain ⟨rfl, hR⟩ := h
    refine jj_eqi (b := 0) rfl ?_
    refine jj_if_eq F (tgt := 28) dX9_takesAnew_17 rfl (by omega) (fun c17 => ?_) (fun c17 => by exfalso; omega)
    refine jj_iconst F dX9_takesAnew_28 ?_
    have htt : t_is s t = 1 := by unfold t_is; (repeat (first | rw [if_pos (by omega)] | rw [if_neg (by omega)]))
    exact jj_iret B dX9_takesAnew_29 ⟨Nat.le_of_ble_eq_true rfl, Nat.le_of_ble_eq_true rfl⟩ (⟨_, rfl, (by unfold r_takes; first | (refine Eq.trans ?_ (if_pos htt).symm; first | rfl | omega) | (refine Eq.trans ?_ (if_neg (by omega)).symm; rfl)), (by unfold n_takes; first | (rw [if_pos htt]; exact hR) | (rw [if_neg (by omega)]; rw [htt]; exact hR) | (rw [htt]; exact hR))⟩)
  · skip
    refine jj_iconst F dX9_takesAnew_9 ?_
    refine jj_goto F (tgt := 14) dX9_takesAnew_10 rfl ?_
    refine jj_callVi B (k := 0) (n := 0) (k9_goes F.tr hR (show jR 0 by decide)) lk_X9_118 hR.1 cs_9 rfl rfl ⟨Nat.le_of_ble_eq_true rfl, Nat.le_of_ble_eq_true rfl, Nat.le_of_ble_eq_true rfl, Nat.le_of_ble_eq_true rfl, Nat.le_of_ble_eq_true rfl⟩ ⟨Nat.le_of_ble_eq_true rfl, Nat.le_of_ble_eq_true rfl, Nat.le_of_ble_eq_true rfl, Nat.le_of_ble_eq_true rfl⟩ jj_tx0 dX9_takesAnew_14 (fun r G h => ?_)
    obtain ⟨rfl, hR⟩ := h
    refine jj_eqi (b := 1) rfl ?_
    refine jj_if_eq F (tgt := 28) dX9_takesAnew_17 rfl (by omega) (fun c17 => by exfalso; omega) (fun c17 => ?_)
    refine jj_aload0 F dX9_takesAnew_20 ?_
    refine jj_iload1 F dX9_takesAnew_21 ?_
    refine jj_callVr B (k := 0) (n := 0) (k9_takesOf F.tr hR (by omega) (show 0 ≤ s 7 t ∧ s 7 t ≤ 20 by have := (hI1.2.2.1 t (by omega) (by omega)).2.2.2.2.2; omega)) lk_X9_146 hR.1 cs_9 rfl rfl ⟨Nat.le_of_ble_eq_true rfl, Nat.le_of_ble_eq_true rfl, Nat.le_of_ble_eq_true rfl, Nat.le_of_ble_eq_true rfl, Nat.le_of_ble_eq_true rfl⟩ ⟨Nat.le_of_ble_eq_true rfl, Nat.le_of_ble_eq_true rfl, Nat.le_of_ble_eq_true rfl, Nat.le_of_ble_eq_true rfl⟩ jj_tx0 dX9_takesAnew_22 ?_
    refine jj_eqi (congrFun (sTakes_c (s := s) (by rfl) (by rfl)) _) ?_
    refine jj_goto F (tgt := 29) dX9_takesAnew_25 rfl ?_
    have htt : t_is s t = 0 := by unfold t_is; (repeat (first | rw [if_pos (by omega)] | rw [if_neg (by omega)]))
    exact jj_iret B dX9_takesAnew_29 ⟨Nat.le_of_ble_eq_true rfl, Nat.le_of_ble_eq_true rfl⟩ (⟨_, rfl, (by unfold r_takes; first | (refine Eq.trans ?_ (if_pos htt).symm; first | rfl | omega) | (refine Eq.trans ?_ (if_neg (by omega)).symm; rfl)), (by unfold n_takes; first | (rw [if_pos htt]; exact hR) | (rw [if_neg (by omega)]; rw [htt]; exact hR) | (rw [htt]; exact hR))⟩)
abbrev rm_X9_tapeIs : Room := { frames := 2, cells := 0, slots := 0, locals := 43 }
set_option maxRecDepth 100000 in
set_option maxHeartbeats 4000000 in
theorem k9_tapeIs {l : Launch} {D : va_G} {ac : Nat → ClassId} (hl : l.stackTraces = false) {o : Nat} {a : Nat → Nat} {s : Sg} {t w : Int} {G : jj_G} (hR : RM (ac 0) o a s G) {c : Int} (hI : sInv s c) (ht : jR t) (hw : jR w) : jj_C l D ac yX9_tapeIs (.code yX9_tapeIs cX9_tapeIs 3 (some .int)) rm_X9_tapeIs [.ref o, .int (jI t), .int (jI w)] G (jj_pi (fun r G' => r = r_tapeIs s t w ∧ RM (ac 0) o a (n_tapeIs s t w) G')) (jj_nx) := by
  refine jj_ofx (own := RX9) (lv0 := [some (.ref o), some (.int (jI t)), some (.int (jI w))]) hl (by decide +kernel) rfl rfl (Nat.le_of_ble_eq_true rfl) rfl ?_
  intro X B hN hl0 hdg hac hin
  subst hl0; subst hdg; subst hac
  have F := B.F

  obtain ⟨hI1, hI2, hI3, hI4, hI5, hI6, hI7, hc⟩ := hI
  have i0 := hI1.1
  have i1 := hI1.2.1
  have r1 := hR.rng 1 0
  refine jj_aload0 F dX9_tapeIs_0 ?_
  refine jj_aload0 F dX9_tapeIs_1 ?_
  refine jj_iload1 F dX9_tapeIs_2 ?_
  refine jj_callVr B (k := 0) (n := 0) (k9_isTape F.tr hR (by omega) (by omega)) lk_X9_129 hR.1 cs_9 rfl rfl ⟨Nat.le_of_ble_eq_true rfl, Nat.le_of_ble_eq_true rfl, Nat.le_of_ble_eq_true rfl, Nat.le_of_ble_eq_true rfl, Nat.le_of_ble_eq_true rfl⟩ ⟨Nat.le_of_ble_eq_true rfl, Nat.le_of_ble_eq_true rfl, Nat.le_of_ble_eq_true rfl, Nat.le_of_ble_eq_true rfl⟩ jj_tx0 dX9_tapeIs_3 ?_
  refine jj_ifb_ne F (tgt := 13) dX9_tapeIs_6 rfl (fun c6 => ?_) (fun c6 => ?_)
  · skip
    refine jj_iload2 F dX9_tapeIs_13 ?_
    refine jj_iconst F dX9_tapeIs_14 ?_
    refine jj_iconst F dX9_tapeIs_15 ?_
    refine jj_callSr B (k := 0) (n := 0) (k9_isIn F.tr (by omega) (by omega) (by omega)) lk_X9_104 rfl ⟨Nat.le_of_ble_eq_true rfl, Nat.le_of_ble_eq_true rfl, Nat.le_of_ble_eq_true rfl, Nat.le_of_ble_eq_true rfl, Nat.le_of_ble_eq_true rfl⟩ ⟨Nat.le_of_ble_eq_true rfl, Nat.le_of_ble_eq_true rfl, Nat.le_of_ble_eq_true rfl, Nat.le_of_ble_eq_true rfl⟩ jj_tx0 dX9_tapeIs_16 ?_
    refine jj_ifb_eq F (tgt := 26) dX9_tapeIs_19 rfl (fun c19 => ?_) (fun c19 => ?_)
    · skip
      refine jj_iconst F dX9_tapeIs_26 ?_
      refine jj_callVi B (k := 0) (n := 0) (k9_goes F.tr hR (show jR 2 by decide)) lk_X9_118 hR.1 cs_9 rfl rfl ⟨Nat.le_of_ble_eq_true rfl, Nat.le_of_ble_eq_true rfl, Nat.le_of_ble_eq_true rfl, Nat.le_of_ble_eq_true rfl, Nat.le_of_ble_eq_true rfl⟩ ⟨Nat.le_of_ble_eq_true rfl, Nat.le_of_ble_eq_true rfl, Nat.le_of_ble_eq_true rfl, Nat.le_of_ble_eq_true rfl⟩ jj_tx0 dX9_tapeIs_27 (fun r G h => ?_)
      obtain ⟨rfl, hR⟩ := h
      refine jj_eqi (b := 0) rfl ?_
      refine jj_if_ne F (tgt := 35) dX9_tapeIs_30 rfl (by omega) (fun c30 => by exfalso; omega) (fun c30 => ?_)
      refine jj_iconst F dX9_tapeIs_33 ?_
      have htt : t_tapeIs s t w = 2 := by unfold t_tapeIs; (repeat (first | rw [if_pos (by omega)] | rw [if_neg (by omega)]))
      exact jj_iret B dX9_tapeIs_34 ⟨Nat.le_of_ble_eq_true rfl, Nat.le_of_ble_eq_true rfl⟩ (⟨_, rfl, (by unfold r_tapeIs; first | (refine Eq.trans ?_ (if_pos htt).symm; (repeat (first | rw [if_pos (by omega)] | rw [if_neg (by omega)])); try (first | rfl | (have c58 : sPlay s t = 0 := c58; omega) | (have c58 : ¬ sPlay s t = 0 := c58; have := sPlay_01 s t; omega))) | (refine Eq.trans ?_ (if_neg (by omega)).symm; rfl)), (by unfold n_tapeIs; first | (rw [if_pos htt]; exact hR) | (rw [if_neg (by omega)]; rw [htt]; exact hR) | (rw [htt]; exact hR))⟩)
    · skip
      refine jj_iconst F dX9_tapeIs_22 ?_
      refine jj_goto F (tgt := 27) dX9_tapeIs_23 rfl ?_
      refine jj_callVi B (k := 0) (n := 0) (k9_goes F.tr hR (show jR 0 by decide)) lk_X9_118 hR.1 cs_9 rfl rfl ⟨Nat.le_of_ble_eq_true rfl, Nat.le_of_ble_eq_true rfl, Nat.le_of_ble_eq_true rfl, Nat.le_of_ble_eq_true rfl, Nat.le_of_ble_eq_true rfl⟩ ⟨Nat.le_of_ble_eq_true rfl, Nat.le_of_ble_eq_true rfl, Nat.le_of_ble_eq_true rfl, Nat.le_of_ble_eq_true rfl⟩ jj_tx0 dX9_tapeIs_27 (fun r G h => ?_)
      obtain ⟨rfl, hR⟩ := h
      refine jj_eqi (b := 1) rfl ?_
      refine jj_if_ne F (tgt := 35) dX9_tapeIs_30 rfl (by omega) (fun c30 => ?_) (fun c30 => by exfalso; omega)
      refine jj_iload2 F dX9_tapeIs_35 ?_
      refine jj_if_ne F (tgt := 48) dX9_tapeIs_36 rfl (by omega) (fun c36 => ?_) (fun c36 => ?_)
      · skip
        refine jj_iload2 F dX9_tapeIs_48 ?_
        refine jj_iconst F dX9_tapeIs_49 ?_
        refine jj_icmp_ne F (tgt := 69) dX9_tapeIs_50 rfl (by omega) (fun c50 => ?_) (fun c50 => ?_)
        · skip
          refine jj_iload2 F dX9_tapeIs_69 ?_
          refine jj_iconst F dX9_tapeIs_70 ?_
          refine jj_icmp_ne F (tgt := 82) dX9_tapeIs_71 rfl (by omega) (fun c71 => ?_) (fun c71 => ?_)
          · skip
            refine jj_iload2 F dX9_tapeIs_82 ?_
            refine jj_iconst F dX9_tapeIs_83 ?_
            refine jj_icmp_ne F (tgt := 96) dX9_tapeIs_84 rfl (by omega) (fun c84 => ?_) (fun c84 => ?_)
            · skip
              refine jj_iload2 F dX9_tapeIs_96 ?_
              refine jj_iconst F dX9_tapeIs_97 ?_
              refine jj_icmp_ne F (tgt := 110) dX9_tapeIs_98 rfl (by omega) (fun c98 => ?_) (fun c98 => ?_)
              · skip
                refine jj_aload0 F dX9_tapeIs_110 ?_
                refine m9_get F hR fd_X9_25 (by decide) rfl dX9_tapeIs_111 ?_
                refine jj_iload1 F dX9_tapeIs_114 ?_
                refine m9_ald F hR (n := 30) rfl (by omega) (by decide) dX9_tapeIs_115 (fun r_115 => ?_)
                refine jj_eqi (b := s 7 _) rfl ?_
                have r_115 : jR (s 7 _) := r_115
                have htt : t_tapeIs s t w = 0 := by unfold t_tapeIs; (repeat (first | rw [if_pos (by omega)] | rw [if_neg (by omega)]))
                exact jj_iret B dX9_tapeIs_116 ⟨Nat.le_of_ble_eq_true rfl, Nat.le_of_ble_eq_true rfl⟩ (⟨_, rfl, (by unfold r_tapeIs; first | (refine Eq.trans ?_ (if_pos htt).symm; (repeat (first | rw [if_pos (by omega)] | rw [if_neg (by omega)])); try (first | rfl | (have c58 : sPlay s t = 0 := c58; omega) | (have c58 : ¬ sPlay s t = 0 := c58; have := sPlay_01 s t; omega))) | (refine Eq.trans ?_ (if_neg (by omega)).symm; rfl)), (by unfold n_tapeIs; first | (rw [if_pos htt]; exact hR) | (rw [if_neg (by omega)]; rw [htt]; exact hR) | (rw [htt]; exact hR))⟩)
              · skip
                refine jj_aload0 F dX9_tapeIs_101 ?_
                refine m9_get F hR fd_X9_19 (by decide) rfl dX9_tapeIs_102 ?_
                refine jj_iload1 F dX9_tapeIs_105 ?_
                refine m9_ald F hR (n := 30) rfl (by omega) (by decide) dX9_tapeIs_106 (fun r_106 => ?_)
                refine jj_eqi (b := s 5 _) rfl ?_
                have r_106 : jR (s 5 _) := r_106
                refine jj_goto F (tgt := 116) dX9_tapeIs_107 rfl ?_
                have htt : t_tapeIs s t w = 0 := by unfold t_tapeIs; (repeat (first | rw [if_pos (by omega)] | rw [if_neg (by omega)]))
                exact jj_iret B dX9_tapeIs_116 ⟨Nat.le_of_ble_eq_true rfl, Nat.le_of_ble_eq_true rfl⟩ (⟨_, rfl, (by unfold r_tapeIs; first | (refine Eq.trans ?_ (if_pos htt).symm; (repeat (first | rw [if_pos (by omega)] | rw [if_neg (by omega)])); try (first | rfl | (have c58 : sPlay s t = 0 := c58; omega) | (have c58 : ¬ sPlay s t = 0 := c58; have := sPlay_01 s t; omega))) | (refine Eq.trans ?_ (if_neg (by omega)).symm; rfl)), (by unfold n_tapeIs; first | (rw [if_pos htt]; exact hR) | (rw [if_neg (by omega)]; rw [htt]; exact hR) | (rw [htt]; exact hR))⟩)
            · skip
              refine jj_aload0 F dX9_tapeIs_87 ?_
              refine m9_get F hR fd_X9_16 (by decide) rfl dX9_tapeIs_88 ?_
              refine jj_iload1 F dX9_tapeIs_91 ?_
              refine m9_ald F hR (n := 30) rfl (by omega) (by decide) dX9_tapeIs_92 (fun r_92 => ?_)
              refine jj_eqi (b := s 4 _) rfl ?_
              have r_92 : jR (s 4 _) := r_92
              refine jj_goto F (tgt := 116) dX9_tapeIs_93 rfl ?_
              have htt : t_tapeIs s t w = 0 := by unfold t_tapeIs; (repeat (first | rw [if_pos (by omega)] | rw [if_neg (by omega)]))
              exact jj_iret B dX9_tapeIs_116 ⟨Nat.le_of_ble_eq_true rfl, Nat.le_of_ble_eq_true rfl⟩ (⟨_, rfl, (by unfold r_tapeIs; first | (refine Eq.trans ?_ (if_pos htt).symm; (repeat (first | rw [if_pos (by omega)] | rw [if_neg (by omega)])); try (first | rfl | (have c58 : sPlay s t = 0 := c58; omega) | (have c58 : ¬ sPlay s t = 0 := c58; have := sPlay_01 s t; omega))) | (refine Eq.trans ?_ (if_neg (by omega)).symm; rfl)), (by unfold n_tapeIs; first | (rw [if_pos htt]; exact hR) | (rw [if_neg (by omega)]; rw [htt]; exact hR) | (rw [htt]; exact hR))⟩)
          · skip
            refine jj_aload0 F dX9_tapeIs_74 ?_
            refine jj_iload1 F dX9_tapeIs_75 ?_
            refine jj_callVr B (k := 0) (n := 0) (k9_length F.tr hR (by omega) (show 0 ≤ s 7 t ∧ s 7 t ≤ 20 by have := (hI1.2.2.1 t (by omega) (by omega)).2.2.2.2.2; omega)) lk_X9_132 hR.1 cs_9 rfl rfl ⟨Nat.le_of_ble_eq_true rfl, Nat.le_of_ble_eq_true rfl, Nat.le_of_ble_eq_true rfl, Nat.le_of_ble_eq_true rfl, Nat.le_of_ble_eq_true rfl⟩ ⟨Nat.le_of_ble_eq_true rfl, Nat.le_of_ble_eq_true rfl, Nat.le_of_ble_eq_true rfl, Nat.le_of_ble_eq_true rfl⟩ jj_tx0 dX9_tapeIs_76 ?_
            refine jj_eqi (congrFun (sLen_c (s := s) (by rfl) (by rfl) (by rfl)) _) ?_
            refine jj_goto F (tgt := 116) dX9_tapeIs_79 rfl ?_
            have htt : t_tapeIs s t w = 0 := by unfold t_tapeIs; (repeat (first | rw [if_pos (by omega)] | rw [if_neg (by omega)]))
            exact jj_iret B dX9_tapeIs_116 ⟨Nat.le_of_ble_eq_true rfl, Nat.le_of_ble_eq_true rfl⟩ (⟨_, rfl, (by unfold r_tapeIs; first | (refine Eq.trans ?_ (if_pos htt).symm; (repeat (first | rw [if_pos (by omega)] | rw [if_neg (by omega)])); try (first | rfl | (have c58 : sPlay s t = 0 := c58; omega) | (have c58 : ¬ sPlay s t = 0 := c58; have := sPlay_01 s t; omega))) | (refine Eq.trans ?_ (if_neg (by omega)).symm; rfl)), (by unfold n_tapeIs; first | (rw [if_pos htt]; exact hR) | (rw [if_neg (by omega)]; rw [htt]; exact hR) | (rw [htt]; exact hR))⟩)
        · skip
          refine jj_aload0 F dX9_tapeIs_53 ?_
          refine jj_iload1 F dX9_tapeIs_54 ?_
          refine jj_callVr B (k := 0) (n := 0) (k9_isPlayable F.tr hR (by omega) (show 0 ≤ s 0 0 ∧ s 0 0 ≤ 9999 by omega) (show 0 ≤ s 3 t ∧ s 3 t ≤ 9999 by have := (hI1.2.2.1 t (by omega) (by omega)).2.1; omega)) lk_X9_136 hR.1 cs_9 rfl rfl ⟨Nat.le_of_ble_eq_true rfl, Nat.le_of_ble_eq_true rfl, Nat.le_of_ble_eq_true rfl, Nat.le_of_ble_eq_true rfl, Nat.le_of_ble_eq_true rfl⟩ ⟨Nat.le_of_ble_eq_true rfl, Nat.le_of_ble_eq_true rfl, Nat.le_of_ble_eq_true rfl, Nat.le_of_ble_eq_true rfl⟩ jj_tx0 dX9_tapeIs_55 ?_
          refine jj_eqi ((rfl : sPlay _ _ = sPlay s _)) ?_
          refine jj_if_eq F (tgt := 65) dX9_tapeIs_58 rfl (sPlay_r _ _) (fun c58 => ?_) (fun c58 => ?_)
          · skip
            refine jj_iconst F dX9_tapeIs_65 ?_
            refine jj_goto F (tgt := 116) dX9_tapeIs_66 rfl ?_
            have htt : t_tapeIs s t w = 0 := by unfold t_tapeIs; (repeat (first | rw [if_pos (by omega)] | rw [if_neg (by omega)]))
            exact jj_iret B dX9_tapeIs_116 ⟨Nat.le_of_ble_eq_true rfl, Nat.le_of_ble_eq_true rfl⟩ (⟨_, rfl, (by unfold r_tapeIs; first | (refine Eq.trans ?_ (if_pos htt).symm; (repeat (first | rw [if_pos (by omega)] | rw [if_neg (by omega)])); try (first | rfl | (have c58 : sPlay s t = 0 := c58; omega) | (have c58 : ¬ sPlay s t = 0 := c58; have := sPlay_01 s t; omega))) | (refine Eq.trans ?_ (if_neg (by omega)).symm; rfl)), (by unfold n_tapeIs; first | (rw [if_pos htt]; exact hR) | (rw [if_neg (by omega)]; rw [htt]; exact hR) | (rw [htt]; exact hR))⟩)
          · skip
            refine jj_iconst F dX9_tapeIs_61 ?_
            refine jj_goto F (tgt := 116) dX9_tapeIs_62 rfl ?_
            have htt : t_tapeIs s t w = 0 := by unfold t_tapeIs; (repeat (first | rw [if_pos (by omega)] | rw [if_neg (by omega)]))
            exact jj_iret B dX9_tapeIs_116 ⟨Nat.le_of_ble_eq_true rfl, Nat.le_of_ble_eq_true rfl⟩ (⟨_, rfl, (by unfold r_tapeIs; first | (refine Eq.trans ?_ (if_pos htt).symm; (repeat (first | rw [if_pos (by omega)] | rw [if_neg (by omega)])); try (first | rfl | (have c58 : sPlay s t = 0 := c58; omega) | (have c58 : ¬ sPlay s t = 0 := c58; have := sPlay_01 s t; omega))) | (refine Eq.trans ?_ (if_neg (by omega)).symm; rfl)), (by unfold n_tapeIs; first | (rw [if_pos htt]; exact hR) | (rw [if_neg (by omega)]; rw [htt]; exact hR) | (rw [htt]; exact hR))⟩)
      · skip
        refine jj_aload0 F dX9_tapeIs_39 ?_
        refine m9_get F hR fd_X9_7 (by decide) rfl dX9_tapeIs_40 ?_
        refine jj_iload1 F dX9_tapeIs_43 ?_
        refine m9_ald F hR (n := 30) rfl (by omega) (by decide) dX9_tapeIs_44 (fun r_44 => ?_)
        refine jj_eqi (b := s 2 _) rfl ?_
        have r_44 : jR (s 2 _) := r_44
        refine jj_goto F (tgt := 116) dX9_tapeIs_45 rfl ?_
        have htt : t_tapeIs s t w = 0 := by unfold t_tapeIs; (repeat (first | rw [if_pos (by omega)] | rw [if_neg (by omega)]))
        exact jj_iret B dX9_tapeIs_116 ⟨Nat.le_of_ble_eq_true rfl, Nat.le_of_ble_eq_true rfl⟩ (⟨_, rfl, (by unfold r_tapeIs; first | (refine Eq.trans ?_ (if_pos htt).symm; (repeat (first | rw [if_pos (by omega)] | rw [if_neg (by omega)])); try (first | rfl | (have c58 : sPlay s t = 0 := c58; omega) | (have c58 : ¬ sPlay s t = 0 := c58; have := sPlay_01 s t; omega))) | (refine Eq.trans ?_ (if_neg (by omega)).symm; rfl)), (by unfold n_tapeIs; first | (rw [if_pos htt]; exact hR) | (rw [if_neg (by omega)]; rw [htt]; exact hR) | (rw [htt]; exact hR))⟩)
  · skip
    refine jj_iconst F dX9_tapeIs_9 ?_
    refine jj_goto F (tgt := 27) dX9_tapeIs_10 rfl ?_
    refine jj_callVi B (k := 0) (n := 0) (k9_goes F.tr hR (show jR 1 by decide)) lk_X9_118 hR.1 cs_9 rfl rfl ⟨Nat.le_of_ble_eq_true rfl, Nat.le_of_ble_eq_true rfl, Nat.le_of_ble_eq_true rfl, Nat.le_of_ble_eq_true rfl, Nat.le_of_ble_eq_true rfl⟩ ⟨Nat.le_of_ble_eq_true rfl, Nat.le_of_ble_eq_true rfl, Nat.le_of_ble_eq_true rfl, Nat.le_of_ble_eq_true rfl⟩ jj_tx0 dX9_tapeIs_27 (fun r G h => ?_)
    obtain ⟨rfl, hR⟩ := h
    refine jj_eqi (b := 0) rfl ?_
    refine jj_if_ne F (tgt := 35) dX9_tapeIs_30 rfl (by omega) (fun c30 => by exfalso; omega) (fun c30 => ?_)
    refine jj_iconst F dX9_tapeIs_33 ?_
    have htt : t_tapeIs s t w = 1 := by unfold t_tapeIs; (repeat (first | rw [if_pos (by omega)] | rw [if_neg (by omega)]))
    exact jj_iret B dX9_tapeIs_34 ⟨Nat.le_of_ble_eq_true rfl, Nat.le_of_ble_eq_true rfl⟩ (⟨_, rfl, (by unfold r_tapeIs; first | (refine Eq.trans ?_ (if_pos htt).symm; (repeat (first | rw [if_pos (by omega)] | rw [if_neg (by omega)])); try (first | rfl | (have c58 : sPlay s t = 0 := c58; omega) | (have c58 : ¬ sPlay s t = 0 := c58; have := sPlay_01 s t; omega))) | (refine Eq.trans ?_ (if_neg (by omega)).symm; rfl)), (by unfold n_tapeIs; first | (rw [if_pos htt]; exact hR) | (rw [if_neg (by omega)]; rw [htt]; exact hR) | (rw [htt]; exact hR))⟩)
abbrev rm_X9_add : Room := { frames := 2, cells := 0, slots := 0, locals := 43 }
set_option maxRecDepth 100000 in
set_option maxHeartbeats 4000000 in
theorem k9_add {l : Launch} {D : va_G} {ac : Nat → ClassId} (hl : l.stackTraces = false) {o : Nat} {a : Nat → Nat} {s : Sg} {t : Int} {G : jj_G} (hR : RM (ac 0) o a s G) {c : Int} (hI : sInv s c) (ht : jR t) : jj_C l D ac yX9_add (.code yX9_add cX9_add 3 (some .int)) rm_X9_add [.ref o, .int (jI t)] G (jj_pi (fun r G' => r = r_add s t ∧ RM (ac 0) o a (n_add s t) G')) (jj_nx) := by
  refine jj_ofx (own := RX9) (lv0 := [some (.ref o), some (.int (jI t)), none]) hl (by decide +kernel) rfl rfl (Nat.le_of_ble_eq_true rfl) rfl ?_
  intro X B hN hl0 hdg hac hin
  subst hl0; subst hdg; subst hac
  have F := B.F

  obtain ⟨hI1, hI2, hI3, hI4, hI5, hI6, hI7, hc⟩ := hI
  have i0 := hI1.1
  have i1 := hI1.2.1
  have r1 := hR.rng 1 0
  have i2 := hI2.1
  refine jj_aload0 F dX9_add_0 ?_
  refine jj_iload1 F dX9_add_1 ?_
  refine jj_callVr B (k := 0) (n := 0) (k9_isTape F.tr hR (by omega) (by omega)) lk_X9_129 hR.1 cs_9 rfl rfl ⟨Nat.le_of_ble_eq_true rfl, Nat.le_of_ble_eq_true rfl, Nat.le_of_ble_eq_true rfl, Nat.le_of_ble_eq_true rfl, Nat.le_of_ble_eq_true rfl⟩ ⟨Nat.le_of_ble_eq_true rfl, Nat.le_of_ble_eq_true rfl, Nat.le_of_ble_eq_true rfl, Nat.le_of_ble_eq_true rfl⟩ jj_tx0 dX9_add_2 ?_
  refine jj_istore2 F dX9_add_5 (hN _ (by decide)) rfl ?_
  refine jj_aload0 F dX9_add_6 ?_
  refine jj_iload2 F dX9_add_7 ?_
  refine jj_ifb_ne F (tgt := 15) dX9_add_8 rfl (fun c8 => ?_) (fun c8 => ?_)
  · skip
    refine jj_aload0 F dX9_add_15 ?_
    refine jj_iload1 F dX9_add_16 ?_
    refine jj_callVr B (k := 0) (n := 0) (k9_isPlayable F.tr hR (by omega) (show 0 ≤ s 0 0 ∧ s 0 0 ≤ 9999 by omega) (show 0 ≤ s 3 t ∧ s 3 t ≤ 9999 by have := (hI1.2.2.1 t (by omega) (by omega)).2.1; omega)) lk_X9_136 hR.1 cs_9 rfl rfl ⟨Nat.le_of_ble_eq_true rfl, Nat.le_of_ble_eq_true rfl, Nat.le_of_ble_eq_true rfl, Nat.le_of_ble_eq_true rfl, Nat.le_of_ble_eq_true rfl⟩ ⟨Nat.le_of_ble_eq_true rfl, Nat.le_of_ble_eq_true rfl, Nat.le_of_ble_eq_true rfl, Nat.le_of_ble_eq_true rfl⟩ jj_tx0 dX9_add_17 ?_
    refine jj_if_eq F (tgt := 32) dX9_add_20 rfl (sPlay_r _ _) (fun c20 => ?_) (fun c20 => ?_)
    · skip
      refine jj_iconst F dX9_add_32 ?_
      refine jj_goto F (tgt := 37) dX9_add_33 rfl ?_
      refine jj_callVi B (k := 0) (n := 0) (k9_goes F.tr hR (show jR 2 by decide)) lk_X9_118 hR.1 cs_9 rfl rfl ⟨Nat.le_of_ble_eq_true rfl, Nat.le_of_ble_eq_true rfl, Nat.le_of_ble_eq_true rfl, Nat.le_of_ble_eq_true rfl, Nat.le_of_ble_eq_true rfl⟩ ⟨Nat.le_of_ble_eq_true rfl, Nat.le_of_ble_eq_true rfl, Nat.le_of_ble_eq_true rfl, Nat.le_of_ble_eq_true rfl⟩ jj_tx0 dX9_add_37 (fun r G h => ?_)
      obtain ⟨rfl, hR⟩ := h
      refine jj_eqi (b := 0) rfl ?_
      refine jj_if_ne F (tgt := 45) dX9_add_40 rfl (by omega) (fun c40 => by exfalso; omega) (fun c40 => ?_)
      refine jj_iconst F dX9_add_43 ?_
      have htt : t_add s t = 2 := by unfold t_add; (repeat (first | rw [if_pos (by omega)] | rw [if_neg (by omega)]))
      exact jj_iret B dX9_add_44 ⟨Nat.le_of_ble_eq_true rfl, Nat.le_of_ble_eq_true rfl⟩ (⟨_, rfl, (by unfold r_add; first | (refine Eq.trans ?_ (if_pos htt).symm; first | rfl | omega) | (refine Eq.trans ?_ (if_neg (by omega)).symm; rfl)), (by unfold n_add; first | (rw [if_pos htt]; exact hR) | (rw [if_neg (by omega)]; rw [htt]; exact hR) | (rw [htt]; exact hR))⟩)
    · skip
      refine jj_aload0 F dX9_add_23 ?_
      refine m9_get F hR fd_X9_152 (by decide) rfl dX9_add_24 ?_
      refine jj_bipush F (by decide) dX9_add_27 ?_
      refine jj_icmp_ne F (tgt := 36) dX9_add_29 rfl (by omega) (fun c29 => ?_) (fun c29 => ?_)
      · skip
        refine jj_iconst F dX9_add_36 ?_
        refine jj_callVi B (k := 0) (n := 0) (k9_goes F.tr hR (show jR 0 by decide)) lk_X9_118 hR.1 cs_9 rfl rfl ⟨Nat.le_of_ble_eq_true rfl, Nat.le_of_ble_eq_true rfl, Nat.le_of_ble_eq_true rfl, Nat.le_of_ble_eq_true rfl, Nat.le_of_ble_eq_true rfl⟩ ⟨Nat.le_of_ble_eq_true rfl, Nat.le_of_ble_eq_true rfl, Nat.le_of_ble_eq_true rfl, Nat.le_of_ble_eq_true rfl⟩ jj_tx0 dX9_add_37 (fun r G h => ?_)
        obtain ⟨rfl, hR⟩ := h
        refine jj_eqi (b := 1) rfl ?_
        refine jj_if_ne F (tgt := 45) dX9_add_40 rfl (by omega) (fun c40 => ?_) (fun c40 => by exfalso; omega)
        refine jj_aload0 F dX9_add_45 ?_
        refine m9_get F hR fd_X9_37 (by decide) rfl dX9_add_46 ?_
        refine jj_aload0 F dX9_add_49 ?_
        refine m9_get F hR fd_X9_152 (by decide) rfl dX9_add_50 ?_
        refine jj_eqi (b := s 11 0) rfl ?_
        refine jj_iload1 F dX9_add_53 ?_
        refine m9_ast F hR (n := 6) rfl (by omega) (by decide) (by omega) dX9_add_54 (fun G hR => ?_)
        refine jj_aload0 F dX9_add_55 ?_
        refine jj_dup F rfl dX9_add_56 ?_
        refine m9_get F hR fd_X9_152 (by decide) rfl dX9_add_57 ?_
        refine jj_eqi (b := s 11 0) rfl ?_
        refine jj_iconst F dX9_add_60 ?_
        refine jj_iadd F dX9_add_61 ?_
        refine m9_put F hR fd_X9_152 rfl (by omega) (by decide) rfl (by first | rfl | decide) (by first | rfl | decide) dX9_add_62 (fun G hR => ?_)
        refine jj_aload0 F dX9_add_65 ?_
        refine m9_get F hR fd_X9_152 (by decide) rfl dX9_add_66 ?_
        refine jj_eqi (b := s 11 0 + 1) rfl ?_
        have htt : t_add s t = 0 := by unfold t_add; (repeat (first | rw [if_pos (by omega)] | rw [if_neg (by omega)]))
        exact jj_iret B dX9_add_69 ⟨Nat.le_of_ble_eq_true rfl, Nat.le_of_ble_eq_true rfl⟩ (⟨_, rfl, (by unfold r_add; first | (refine Eq.trans ?_ (if_pos htt).symm; first | rfl | omega) | (refine Eq.trans ?_ (if_neg (by omega)).symm; rfl)), (by unfold n_add; first | (rw [if_pos htt]; exact hR) | (rw [if_neg (by omega)]; rw [htt]; exact hR) | (rw [htt]; exact hR))⟩)
      · skip
        refine jj_iconst F dX9_add_32 ?_
        refine jj_goto F (tgt := 37) dX9_add_33 rfl ?_
        refine jj_callVi B (k := 0) (n := 0) (k9_goes F.tr hR (show jR 2 by decide)) lk_X9_118 hR.1 cs_9 rfl rfl ⟨Nat.le_of_ble_eq_true rfl, Nat.le_of_ble_eq_true rfl, Nat.le_of_ble_eq_true rfl, Nat.le_of_ble_eq_true rfl, Nat.le_of_ble_eq_true rfl⟩ ⟨Nat.le_of_ble_eq_true rfl, Nat.le_of_ble_eq_true rfl, Nat.le_of_ble_eq_true rfl, Nat.le_of_ble_eq_true rfl⟩ jj_tx0 dX9_add_37 (fun r G h => ?_)
        obtain ⟨rfl, hR⟩ := h
        refine jj_eqi (b := 0) rfl ?_
        refine jj_if_ne F (tgt := 45) dX9_add_40 rfl (by omega) (fun c40 => by exfalso; omega) (fun c40 => ?_)
        refine jj_iconst F dX9_add_43 ?_
        have htt : t_add s t = 2 := by unfold t_add; (repeat (first | rw [if_pos (by omega)] | rw [if_neg (by omega)]))
        exact jj_iret B dX9_add_44 ⟨Nat.le_of_ble_eq_true rfl, Nat.le_of_ble_eq_true rfl⟩ (⟨_, rfl, (by unfold r_add; first | (refine Eq.trans ?_ (if_pos htt).symm; first | rfl | omega) | (refine Eq.trans ?_ (if_neg (by omega)).symm; rfl)), (by unfold n_add; first | (rw [if_pos htt]; exact hR) | (rw [if_neg (by omega)]; rw [htt]; exact hR) | (rw [htt]; exact hR))⟩)
  · skip
    refine jj_iconst F dX9_add_11 ?_
    refine jj_goto F (tgt := 37) dX9_add_12 rfl ?_
    refine jj_callVi B (k := 0) (n := 0) (k9_goes F.tr hR (show jR 1 by decide)) lk_X9_118 hR.1 cs_9 rfl rfl ⟨Nat.le_of_ble_eq_true rfl, Nat.le_of_ble_eq_true rfl, Nat.le_of_ble_eq_true rfl, Nat.le_of_ble_eq_true rfl, Nat.le_of_ble_eq_true rfl⟩ ⟨Nat.le_of_ble_eq_true rfl, Nat.le_of_ble_eq_true rfl, Nat.le_of_ble_eq_true rfl, Nat.le_of_ble_eq_true rfl⟩ jj_tx0 dX9_add_37 (fun r G h => ?_)
    obtain ⟨rfl, hR⟩ := h
    refine jj_eqi (b := 0) rfl ?_
    refine jj_if_ne F (tgt := 45) dX9_add_40 rfl (by omega) (fun c40 => by exfalso; omega) (fun c40 => ?_)
    refine jj_iconst F dX9_add_43 ?_
    have htt : t_add s t = 1 := by unfold t_add; (repeat (first | rw [if_pos (by omega)] | rw [if_neg (by omega)]))
    exact jj_iret B dX9_add_44 ⟨Nat.le_of_ble_eq_true rfl, Nat.le_of_ble_eq_true rfl⟩ (⟨_, rfl, (by unfold r_add; first | (refine Eq.trans ?_ (if_pos htt).symm; first | rfl | omega) | (refine Eq.trans ?_ (if_neg (by omega)).symm; rfl)), (by unfold n_add; first | (rw [if_pos htt]; exact hR) | (rw [if_neg (by omega)]; rw [htt]; exact hR) | (rw [htt]; exact hR))⟩)
