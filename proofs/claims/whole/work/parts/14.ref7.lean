abbrev rm_X9_takesOff : Room := { frames := 2, cells := 0, slots := 0, locals := 50 }
set_option maxRecDepth 100000 in
set_option maxHeartbeats 4000000 in
theorem k9_takesOff {l : Launch} {D : va_G} {ac : Nat → ClassId} (hl : l.stackTraces = false) {o : Nat} {a : Nat → Nat} {s : Sg} {z m : Int} {G : jj_G} (hR : RM (ac 0) o a s G) (hz : 0 ≤ z ∧ z < 100) (hm : 0 ≤ m ∧ m ≤ s 33 z) (h33 : 0 ≤ s 33 z ∧ s 33 z ≤ 500) (h32 : 0 ≤ s 32 z ∧ s 32 z < 120) (h34 : ∀ q : Int, 0 ≤ q → q < 6 → 0 ≤ s 34 (6 * z + q) ∧ s 34 (6 * z + q) ≤ 9999) (hse : ∀ q : Int, 0 ≤ sSec s (s 32 z / 12) q ∧ sSec s (s 32 z / 12) q ≤ 2000) (hal : 1 ≤ sSec s (s 32 z / 12) (-1) ∧ sSec s (s 32 z / 12) (-1) ≤ 2000) : jj_C l D ac yX9_takesOff (.code yX9_takesOff cX9_takesOff 4 none) rm_X9_takesOff [.ref o, .int (jI z), .int (jI m)] G (jj_pv (fun G' => RM (ac 0) o a (sOff s z m) G')) (jj_nx) := by
  refine jj_ofx (own := RX9) (lv0 := [some (.ref o), some (.int (jI z)), some (.int (jI m)), none]) hl (by decide +kernel) rfl rfl (Nat.le_of_ble_eq_true rfl) rfl ?_
  intro X B hN hl0 hdg hac hin
  subst hl0; subst hdg; subst hac
  have F := B.F

  refine jj_iconst F dX9_takesOff_0 ?_
  refine jj_istore3 F dX9_takesOff_1 (hN _ (by decide)) rfl ?_
  have loop : ∀ (n j : Nat) (G : jj_G), n + j = 6 → RM (jj_ac X 0) o a (sOffTo s z m j) G → jj_J X G 0 0 2 [some (.ref o), some (.int (jI z)), some (.int (jI m)), some (.int (jI j))] [] := by
    intro n
    induction n with
    | zero =>
      intro j G hj hR
      have e1 : (j : Int) = 6 := by omega
      refine jj_iload3 F dX9_takesOff_2 ?_
      refine jj_bipush F (by decide) dX9_takesOff_3 ?_
      refine jj_icmp_ge F (tgt := 50) dX9_takesOff_5 rfl (by omega) (fun c5 => ?_) (fun c5 => by exfalso; omega)
      refine jj_aload0 F dX9_takesOff_50 ?_
      refine m9_get F hR fd_X9_85 (by decide) rfl dX9_takesOff_51 ?_
      refine jj_iload1 F dX9_takesOff_54 ?_
      refine jj_dup2 F rfl rfl dX9_takesOff_55 ?_
      refine m9_ald F hR (n := 100) rfl (by omega) (by decide) dX9_takesOff_56 (fun r_56 => ?_)
      refine jj_eqi (b := s 33 z) (congrFun (sOffTo_n (by decide) j) _) ?_
      refine jj_iload2 F dX9_takesOff_57 ?_
      refine jj_isub F dX9_takesOff_58 ?_
      refine m9_ast F hR (n := 100) rfl (by omega) (by decide) (by omega) dX9_takesOff_59 (fun G hR => ?_)
      exact jj_vret B dX9_takesOff_60 ⟨Nat.le_of_ble_eq_true rfl, Nat.le_of_ble_eq_true rfl⟩ (⟨rfl, by unfold sOff; rw [show (6 : Nat) = j by omega]; exact hR⟩)
    | succ n ih =>
      intro j G hj hR
      have e1 : (j : Int) < 6 := by omega
      refine jj_iload3 F dX9_takesOff_2 ?_
      refine jj_bipush F (by decide) dX9_takesOff_3 ?_
      refine jj_icmp_ge F (tgt := 50) dX9_takesOff_5 rfl (by omega) (fun c5 => by exfalso; omega) (fun c5 => ?_)
      refine jj_aload0 F dX9_takesOff_8 ?_
      refine m9_get F hR fd_X9_94 (by decide) rfl dX9_takesOff_9 ?_
      refine jj_iload3 F dX9_takesOff_12 ?_
      refine jj_dup2 F rfl rfl dX9_takesOff_13 ?_
      refine m9_ald F hR (n := 6) rfl (by omega) (by decide) dX9_takesOff_14 (fun r_14 => ?_)
      refine jj_eqi (b := s 36 j) (sOffTo_i j (Int.le_refl _)) ?_
      refine jj_aload0 F dX9_takesOff_15 ?_
      refine jj_iload1 F dX9_takesOff_16 ?_
      refine jj_iload3 F dX9_takesOff_17 ?_
      refine jj_aload0 F dX9_takesOff_18 ?_
      refine m9_get F hR fd_X9_85 (by decide) rfl dX9_takesOff_19 ?_
      refine jj_iload1 F dX9_takesOff_22 ?_
      refine m9_ald F hR (n := 100) rfl (by omega) (by decide) dX9_takesOff_23 (fun r_23 => ?_)
      refine jj_eqi (b := s 33 z) (congrFun (sOffTo_n (by decide) j) _) ?_
      refine jj_iload2 F dX9_takesOff_24 ?_
      refine jj_isub F dX9_takesOff_25 ?_
      refine jj_callVr B (k := 0) (n := 0) (k9_dueOf F.tr hR hz (by omega) (by omega) (by rw [sOffTo_n (by decide)]; exact h32) (by rw [sOffTo_n (by decide)]; exact h34 j (by omega) (by omega)) (by rw [sSec_c (s' := sOffTo s z m j) (s := s) (sOffTo_n (by decide) j), sOffTo_n (by decide)]; exact hse) (by rw [sSec_c (s' := sOffTo s z m j) (s := s) (sOffTo_n (by decide) j), sOffTo_n (by decide)]; exact hal)) lk_X9_175 hR.1 cs_9 rfl rfl ⟨Nat.le_of_ble_eq_true rfl, Nat.le_of_ble_eq_true rfl, Nat.le_of_ble_eq_true rfl, Nat.le_of_ble_eq_true rfl, Nat.le_of_ble_eq_true rfl⟩ ⟨Nat.le_of_ble_eq_true rfl, Nat.le_of_ble_eq_true rfl, Nat.le_of_ble_eq_true rfl, Nat.le_of_ble_eq_true rfl⟩ jj_tx0 dX9_takesOff_26 ?_
      refine jj_eqi (congrFun (congrFun (congrFun (sDue_c (s := s) (sOffTo_n (by decide) j) (sOffTo_n (by decide) j) (sOffTo_n (by decide) j)) _) _) _) ?_
      refine jj_aload0 F dX9_takesOff_29 ?_
      refine jj_iload1 F dX9_takesOff_30 ?_
      refine jj_iload3 F dX9_takesOff_31 ?_
      refine jj_aload0 F dX9_takesOff_32 ?_
      refine m9_get F hR fd_X9_85 (by decide) rfl dX9_takesOff_33 ?_
      refine jj_iload1 F dX9_takesOff_36 ?_
      refine m9_ald F hR (n := 100) rfl (by omega) (by decide) dX9_takesOff_37 (fun r_37 => ?_)
      refine jj_eqi (b := s 33 z) (congrFun (sOffTo_n (by decide) j) _) ?_
      refine jj_callVr B (k := 0) (n := 0) (k9_dueOf F.tr hR hz (by omega) (by omega) (by rw [sOffTo_n (by decide)]; exact h32) (by rw [sOffTo_n (by decide)]; exact h34 j (by omega) (by omega)) (by rw [sSec_c (s' := sOffTo s z m j) (s := s) (sOffTo_n (by decide) j), sOffTo_n (by decide)]; exact hse) (by rw [sSec_c (s' := sOffTo s z m j) (s := s) (sOffTo_n (by decide) j), sOffTo_n (by decide)]; exact hal)) lk_X9_175 hR.1 cs_9 rfl rfl ⟨Nat.le_of_ble_eq_true rfl, Nat.le_of_ble_eq_true rfl, Nat.le_of_ble_eq_true rfl, Nat.le_of_ble_eq_true rfl, Nat.le_of_ble_eq_true rfl⟩ ⟨Nat.le_of_ble_eq_true rfl, Nat.le_of_ble_eq_true rfl, Nat.le_of_ble_eq_true rfl, Nat.le_of_ble_eq_true rfl⟩ jj_tx0 dX9_takesOff_38 ?_
      refine jj_eqi (congrFun (congrFun (congrFun (sDue_c (s := s) (sOffTo_n (by decide) j) (sOffTo_n (by decide) j) (sOffTo_n (by decide) j)) _) _) _) ?_
      refine jj_isub F dX9_takesOff_41 ?_
      refine jj_iadd F dX9_takesOff_42 ?_
      refine jj_jw ?_
      refine m9_ast F hR (n := 6) rfl (by omega) (by decide) (jW_rng _) dX9_takesOff_43 (fun G hR => ?_)
      refine jj_iinc3 F dX9_takesOff_44 (hN _ (by decide)) rfl ?_
      refine jj_goto F (tgt := 2) dX9_takesOff_47 rfl ?_
      have ih1 := ih (j + 1) G (by omega) hR
      rw [show (((j + 1 : Nat)) : Int) = (j : Int) + 1 from rfl] at ih1
      exact ih1
  exact loop 6 0 G (by omega) hR
abbrev rm_X9_sell : Room := { frames := 2, cells := 0, slots := 0, locals := 50 }
set_option maxRecDepth 100000 in
set_option maxHeartbeats 4000000 in
theorem k9_sell {l : Launch} {D : va_G} {ac : Nat → ClassId} (hl : l.stackTraces = false) {o : Nat} {a : Nat → Nat} {s : Sg} {d m e x : Int} {G : jj_G} (hR : RM (ac 0) o a s G) {c : Int} (hI : sInv s c) (hd : jR d) (hm : jR m) (he : jR e) (hx : jR x) : jj_C l D ac yX9_sell (.code yX9_sell cX9_sell 8 (some .int)) rm_X9_sell [.ref o, .int (jI d), .int (jI m), .int (jI e), .int (jI x)] G (jj_pi (fun r G' => r = r_sell s d m e x ∧ RM (ac 0) o a (n_sell s d m e x) G')) (jj_nx) := by
  refine jj_ofx (own := RX9) (lv0 := [some (.ref o), some (.int (jI d)), some (.int (jI m)), some (.int (jI e)), some (.int (jI x)), none, none, none]) hl (by decide +kernel) rfl rfl (Nat.le_of_ble_eq_true rfl) rfl ?_
  intro X B hN hl0 hdg hac hin
  subst hl0; subst hdg; subst hac
  have F := B.F

  obtain ⟨hI1, hI2, hI3, hI4, hI5, hI6, hI7, hc⟩ := hI
  have i0 := hI1.1
  have i3 := hI3.1
  have i7 := hI7.1
  have r13 := hR.rng 13 0
  have r31 := hR.rng 31 0
  have hS : ∀ h : sNm s d m e, 0 ≤ sSt d m e ∧ sSt d m e < 12 * s 13 0 := by intro h; unfold sSt; omega
  have i4 : ∀ h : sNm s d m e, (0 ≤ s 17 (sSt d m e) ∧ s 17 (sSt d m e) ≤ 500) ∧ (0 ≤ s 19 (sSt d m e) ∧ s 19 (sSt d m e) ≤ s 18 (sSt d m e) ∧ s 18 (sSt d m e) ≤ s 17 (sSt d m e)) ∧ (0 ≤ sDiscs s (sSt d m e)) ∧ sDiscs s (sSt d m e) ≤ s 18 (sSt d m e) - s 19 (sSt d m e) := by
    intro h
    have h2 := hS h
    have h1 := hI4.1 (sSt d m e) (by omega) (by omega)
    exact ⟨h1.2.1, h1.2.2.1, sDiscs_0 _ _, hI4.2 (sSt d m e) (by omega) (by omega)⟩
  refine jj_aload0 F dX9_sell_0 ?_
  refine jj_iload1 F dX9_sell_1 ?_
  refine jj_iload2 F dX9_sell_2 ?_
  refine jj_iload3 F dX9_sell_3 ?_
  refine jj_callVr B (k := 0) (n := 0) (k9_isNamed F.tr hR (by omega) (by omega) (by omega) (by omega)) lk_X9_161 hR.1 cs_9 rfl rfl ⟨Nat.le_of_ble_eq_true rfl, Nat.le_of_ble_eq_true rfl, Nat.le_of_ble_eq_true rfl, Nat.le_of_ble_eq_true rfl, Nat.le_of_ble_eq_true rfl⟩ ⟨Nat.le_of_ble_eq_true rfl, Nat.le_of_ble_eq_true rfl, Nat.le_of_ble_eq_true rfl, Nat.le_of_ble_eq_true rfl⟩ jj_tx0 dX9_sell_4 ?_
  refine jj_istore5 F dX9_sell_7 (hN _ (by decide)) rfl ?_
  refine jj_iload5 F dX9_sell_9 ?_
  refine jj_ifb_eq F (tgt := 23) dX9_sell_11 rfl (fun c11 => ?_) (fun c11 => ?_)
  · skip
    refine jj_iconst F dX9_sell_23 ?_
    refine jj_istore6 F dX9_sell_24 (hN _ (by decide)) rfl ?_
    refine jj_aload0 F dX9_sell_26 ?_
    refine jj_iload5 F dX9_sell_27 ?_
    refine jj_ifb_ne F (tgt := 36) dX9_sell_29 rfl (fun c29 => by first | contradiction | (exfalso; omega)) (fun c29 => ?_)
    refine jj_iconst F dX9_sell_32 ?_
    refine jj_goto F (tgt := 86) dX9_sell_33 rfl ?_
    refine jj_callVi B (k := 0) (n := 0) (k9_goes F.tr hR (show jR 1 by decide)) lk_X9_118 hR.1 cs_9 rfl rfl ⟨Nat.le_of_ble_eq_true rfl, Nat.le_of_ble_eq_true rfl, Nat.le_of_ble_eq_true rfl, Nat.le_of_ble_eq_true rfl, Nat.le_of_ble_eq_true rfl⟩ ⟨Nat.le_of_ble_eq_true rfl, Nat.le_of_ble_eq_true rfl, Nat.le_of_ble_eq_true rfl, Nat.le_of_ble_eq_true rfl⟩ jj_tx0 dX9_sell_86 (fun r G h => ?_)
    obtain ⟨rfl, hR⟩ := h
    refine jj_eqi (b := 0) rfl ?_
    refine jj_if_ne F (tgt := 94) dX9_sell_89 rfl (by omega) (fun c89 => by exfalso; omega) (fun c89 => ?_)
    refine jj_iconst F dX9_sell_92 ?_
    have htt : t_sell s d m e x = 1 := by unfold t_sell; (repeat (first | rw [if_pos (by omega)] | rw [if_neg (by omega)]))
    exact jj_iret B dX9_sell_93 ⟨Nat.le_of_ble_eq_true rfl, Nat.le_of_ble_eq_true rfl⟩ (⟨_, rfl, (by unfold r_sell; first | (refine Eq.trans ?_ (if_pos htt).symm; first | rfl | omega) | (refine Eq.trans ?_ (if_neg (by omega)).symm; rfl)), (by unfold n_sell; first | (rw [if_pos htt]; exact hR) | (rw [if_neg (by omega)]; rw [htt]; exact hR) | (rw [htt]; exact hR))⟩)
  · skip
    refine jj_iload1 F dX9_sell_14 ?_
    refine jj_iload2 F dX9_sell_15 ?_
    refine jj_iload3 F dX9_sell_16 ?_
    refine jj_callSr B (k := 0) (n := 0) (k9_stamperOf F.tr) lk_X9_164 rfl ⟨Nat.le_of_ble_eq_true rfl, Nat.le_of_ble_eq_true rfl, Nat.le_of_ble_eq_true rfl, Nat.le_of_ble_eq_true rfl, Nat.le_of_ble_eq_true rfl⟩ ⟨Nat.le_of_ble_eq_true rfl, Nat.le_of_ble_eq_true rfl, Nat.le_of_ble_eq_true rfl, Nat.le_of_ble_eq_true rfl⟩ jj_tx0 dX9_sell_17 ?_
    refine jj_goto F (tgt := 24) dX9_sell_20 rfl ?_
    refine jj_istore6 F dX9_sell_24 (hN _ (by decide)) rfl ?_
    refine jj_aload0 F dX9_sell_26 ?_
    refine jj_iload5 F dX9_sell_27 ?_
    refine jj_ifb_ne F (tgt := 36) dX9_sell_29 rfl (fun c29 => ?_) (fun c29 => by first | contradiction | (exfalso; omega))
    refine jj_iload4 F dX9_sell_36 ?_
    refine jj_iconst F dX9_sell_38 ?_
    refine jj_sipush F (by decide) dX9_sell_39 ?_
    refine jj_callSr B (k := 0) (n := 0) (k9_isIn F.tr (by omega) (by omega) (by omega)) lk_X9_104 rfl ⟨Nat.le_of_ble_eq_true rfl, Nat.le_of_ble_eq_true rfl, Nat.le_of_ble_eq_true rfl, Nat.le_of_ble_eq_true rfl, Nat.le_of_ble_eq_true rfl⟩ ⟨Nat.le_of_ble_eq_true rfl, Nat.le_of_ble_eq_true rfl, Nat.le_of_ble_eq_true rfl, Nat.le_of_ble_eq_true rfl⟩ jj_tx0 dX9_sell_42 ?_
    refine jj_ifb_ne F (tgt := 52) dX9_sell_45 rfl (fun c45 => ?_) (fun c45 => ?_)
    · skip
      refine jj_aload0 F dX9_sell_52 ?_
      refine m9_get F hR fd_X9_49 (by decide) rfl dX9_sell_53 ?_
      refine jj_iload6 F dX9_sell_56 ?_
      refine m9_ald F hR (n := 120) rfl (by have := hS (by omega); omega) (by decide) dX9_sell_58 (fun r_58 => ?_)
      refine jj_aload0 F dX9_sell_59 ?_
      refine m9_get F hR fd_X9_52 (by decide) rfl dX9_sell_60 ?_
      refine jj_iload6 F dX9_sell_63 ?_
      refine m9_ald F hR (n := 120) rfl (by have := hS (by omega); omega) (by decide) dX9_sell_65 (fun r_65 => ?_)
      refine jj_isub F dX9_sell_66 ?_
      refine jj_iload4 F dX9_sell_67 ?_
      refine jj_icmp_lt F (tgt := 81) dX9_sell_69 rfl (by have := i4 (by omega); omega) (fun c69 => ?_) (fun c69 => ?_)
      · skip
        refine jj_iconst F dX9_sell_81 ?_
        refine jj_goto F (tgt := 86) dX9_sell_82 rfl ?_
        refine jj_callVi B (k := 0) (n := 0) (k9_goes F.tr hR (show jR 3 by decide)) lk_X9_118 hR.1 cs_9 rfl rfl ⟨Nat.le_of_ble_eq_true rfl, Nat.le_of_ble_eq_true rfl, Nat.le_of_ble_eq_true rfl, Nat.le_of_ble_eq_true rfl, Nat.le_of_ble_eq_true rfl⟩ ⟨Nat.le_of_ble_eq_true rfl, Nat.le_of_ble_eq_true rfl, Nat.le_of_ble_eq_true rfl, Nat.le_of_ble_eq_true rfl⟩ jj_tx0 dX9_sell_86 (fun r G h => ?_)
        obtain ⟨rfl, hR⟩ := h
        refine jj_eqi (b := 0) rfl ?_
        refine jj_if_ne F (tgt := 94) dX9_sell_89 rfl (by omega) (fun c89 => by exfalso; omega) (fun c89 => ?_)
        refine jj_iconst F dX9_sell_92 ?_
        have htt : t_sell s d m e x = 3 := by unfold t_sell; (repeat (first | rw [if_pos (by omega)] | rw [if_neg (by omega)]))
        exact jj_iret B dX9_sell_93 ⟨Nat.le_of_ble_eq_true rfl, Nat.le_of_ble_eq_true rfl⟩ (⟨_, rfl, (by unfold r_sell; first | (refine Eq.trans ?_ (if_pos htt).symm; first | rfl | omega) | (refine Eq.trans ?_ (if_neg (by omega)).symm; rfl)), (by unfold n_sell; first | (rw [if_pos htt]; exact hR) | (rw [if_neg (by omega)]; rw [htt]; exact hR) | (rw [htt]; exact hR))⟩)
      · skip
        refine jj_aload0 F dX9_sell_72 ?_
        refine m9_get F hR fd_X9_172 (by decide) rfl dX9_sell_73 ?_
        refine jj_bipush F (by decide) dX9_sell_76 ?_
        refine jj_icmp_ne F (tgt := 85) dX9_sell_78 rfl (by omega) (fun c78 => ?_) (fun c78 => ?_)
        · skip
          refine jj_iconst F dX9_sell_85 ?_
          refine jj_callVi B (k := 0) (n := 0) (k9_goes F.tr hR (show jR 0 by decide)) lk_X9_118 hR.1 cs_9 rfl rfl ⟨Nat.le_of_ble_eq_true rfl, Nat.le_of_ble_eq_true rfl, Nat.le_of_ble_eq_true rfl, Nat.le_of_ble_eq_true rfl, Nat.le_of_ble_eq_true rfl⟩ ⟨Nat.le_of_ble_eq_true rfl, Nat.le_of_ble_eq_true rfl, Nat.le_of_ble_eq_true rfl, Nat.le_of_ble_eq_true rfl⟩ jj_tx0 dX9_sell_86 (fun r G h => ?_)
          obtain ⟨rfl, hR⟩ := h
          refine jj_eqi (b := 1) rfl ?_
          refine jj_if_ne F (tgt := 94) dX9_sell_89 rfl (by omega) (fun c89 => ?_) (fun c89 => by exfalso; omega)
          refine jj_aload0 F dX9_sell_94 ?_
          refine m9_get F hR fd_X9_52 (by decide) rfl dX9_sell_95 ?_
          refine jj_iload6 F dX9_sell_98 ?_
          refine jj_dup2 F rfl rfl dX9_sell_100 ?_
          refine m9_ald F hR (n := 120) rfl (by have := hS (by omega); omega) (by decide) dX9_sell_101 (fun r_101 => ?_)
          refine jj_eqi (b := s 18 _) rfl ?_
          have r_101 : jR (s 18 _) := r_101
          refine jj_iload4 F dX9_sell_102 ?_
          refine jj_iadd F dX9_sell_104 ?_
          refine m9_ast F hR (n := 120) rfl (by have := hS (by omega); omega) (by decide) (by have := i4 (by omega); omega) dX9_sell_105 (fun G hR => ?_)
          refine jj_aload0 F dX9_sell_106 ?_
          refine m9_get F hR fd_X9_82 (by decide) rfl dX9_sell_107 ?_
          refine jj_aload0 F dX9_sell_110 ?_
          refine m9_get F hR fd_X9_172 (by decide) rfl dX9_sell_111 ?_
          refine jj_eqi (b := s 31 0) rfl ?_
          refine jj_iload6 F dX9_sell_114 ?_
          refine m9_ast F hR (n := 100) rfl (by omega) (by decide) (by have := hS (by omega); omega) dX9_sell_116 (fun G hR => ?_)
          refine jj_aload0 F dX9_sell_117 ?_
          refine m9_get F hR fd_X9_85 (by decide) rfl dX9_sell_118 ?_
          refine jj_aload0 F dX9_sell_121 ?_
          refine m9_get F hR fd_X9_172 (by decide) rfl dX9_sell_122 ?_
          refine jj_eqi (b := s 31 0) rfl ?_
          refine jj_iload4 F dX9_sell_125 ?_
          refine m9_ast F hR (n := 100) rfl (by omega) (by decide) (by omega) dX9_sell_127 (fun G hR => ?_)
          refine jj_iconst F dX9_sell_128 ?_
          refine jj_istore7 F dX9_sell_129 (hN _ (by decide)) rfl ?_
          have htt : t_sell s d m e x = 0 := by unfold t_sell; (repeat (first | rw [if_pos (by omega)] | rw [if_neg (by omega)]))
          have h4 := i4 (by omega)
          have h5 := hS (by omega)
          obtain ⟨k, hk⟩ : ∃ k, k = sSt d m e := ⟨_, rfl⟩
          rw [← hk] at hR h4 h5
          rw [← hk]
          have hkd : 0 ≤ k / 12 ∧ k / 12 < s 13 0 := by omega
          have hse : ∀ q : Int, 0 ≤ sSec s (k / 12) q ∧ sSec s (k / 12) q ≤ 2000 := fun q => sSec_in hI3 hkd q
          have hal := hI3.2.2.1 (k / 12) hkd.1 hkd.2
          have loop : ∀ (n j : Nat) (G : jj_G), n + j = 6 → RM (jj_ac X 0) o a (sSellTo s k x j) G → jj_J X G 0 0 131 [some (.ref o), some (.int (jI d)), some (.int (jI m)), some (.int (jI e)), some (.int (jI x)), some (.int (jI (sNamed s d m e))), some (.int (jI k)), some (.int (jI j))] [] := by
            intro n
            induction n with
            | zero =>
              intro j G hj hR
              have e1 : (j : Int) = 6 := by omega
              refine jj_iload7 F dX9_sell_131 ?_
              refine jj_bipush F (by decide) dX9_sell_133 ?_
              refine jj_icmp_ge F (tgt := 188) dX9_sell_135 rfl (by omega) (fun c135 => ?_) (fun c135 => by exfalso; omega)
              refine jj_aload0 F dX9_sell_188 ?_
              refine jj_dup F rfl dX9_sell_189 ?_
              refine m9_get F hR fd_X9_172 (by decide) rfl dX9_sell_190 ?_
              refine jj_eqi (b := s 31 0) (congrFun (sSellTo_n (by decide) j) 0) ?_
              refine jj_iconst F dX9_sell_193 ?_
              refine jj_iadd F dX9_sell_194 ?_
              refine m9_put F hR fd_X9_172 rfl (by omega) (by decide) rfl (by first | rfl | decide) (by first | rfl | decide) dX9_sell_195 (fun G hR => ?_)
              refine jj_aload0 F dX9_sell_198 ?_
              refine m9_get F hR fd_X9_52 (by decide) rfl dX9_sell_199 ?_
              refine jj_iload6 F dX9_sell_202 ?_
              refine m9_ald F hR (n := 120) rfl (by omega) (by decide) dX9_sell_204 (fun r_204 => ?_)
              refine jj_eqi (b := s 18 k + x) (by rw [sU_n (by decide)]; exact sSellTo_18 j) ?_
              refine jj_aload0 F dX9_sell_205 ?_
              refine m9_get F hR fd_X9_55 (by decide) rfl dX9_sell_206 ?_
              refine jj_iload6 F dX9_sell_209 ?_
              refine m9_ald F hR (n := 120) rfl (by omega) (by decide) dX9_sell_211 (fun r_211 => ?_)
              refine jj_eqi (b := s 19 k) (by rw [sU_n (by decide)]; exact congrFun (sSellTo_n (by decide) j) _) ?_
              refine jj_isub F dX9_sell_212 ?_
              exact jj_iret B dX9_sell_213 ⟨Nat.le_of_ble_eq_true rfl, Nat.le_of_ble_eq_true rfl⟩ (⟨_, rfl, (by unfold r_sell; refine Eq.trans ?_ (if_pos htt).symm; rw [← hk]), (by unfold n_sell; rw [if_pos htt, ← hk, show (6 : Nat) = j by omega]; exact hR)⟩)
            | succ n ih =>
              intro j G hj hR
              have e1 : (j : Int) < 6 := by omega
              refine jj_iload7 F dX9_sell_131 ?_
              refine jj_bipush F (by decide) dX9_sell_133 ?_
              refine jj_icmp_ge F (tgt := 188) dX9_sell_135 rfl (by omega) (fun c135 => by exfalso; omega) (fun c135 => ?_)
              refine jj_aload0 F dX9_sell_138 ?_
              refine m9_get F hR fd_X9_88 (by decide) rfl dX9_sell_139 ?_
              refine jj_bipush F (by decide) dX9_sell_142 ?_
              refine jj_aload0 F dX9_sell_144 ?_
              refine m9_get F hR fd_X9_172 (by decide) rfl dX9_sell_145 ?_
              refine jj_eqi (b := s 31 0) (congrFun (sSellTo_n (by decide) j) 0) ?_
              refine jj_imul F dX9_sell_148 ?_
              refine jj_iload7 F dX9_sell_149 ?_
              refine jj_iadd F dX9_sell_151 ?_
              refine jj_aload0 F dX9_sell_152 ?_
              refine m9_get F hR fd_X9_91 (by decide) rfl dX9_sell_153 ?_
              refine jj_iload7 F dX9_sell_156 ?_
              refine m9_ald F hR (n := 6) rfl (by omega) (by decide) dX9_sell_158 (fun r_158 => ?_)
              refine jj_eqi (b := s 35 j) (congrFun (sSellTo_n (by decide) j) _) ?_
              refine m9_ast F hR (n := 600) rfl (by omega) (by decide) (by have := hI7.2.2.2 j (by omega) (by omega); omega) dX9_sell_159 (fun G hR => ?_)
              refine jj_aload0 F dX9_sell_160 ?_
              refine m9_get F hR fd_X9_94 (by decide) rfl dX9_sell_161 ?_
              refine jj_iload7 F dX9_sell_164 ?_
              refine jj_dup2 F rfl rfl dX9_sell_166 ?_
              refine m9_ald F hR (n := 6) rfl (by omega) (by decide) dX9_sell_167 (fun r_167 => ?_)
              refine jj_eqi (b := s 36 j) (by rw [sU_n (by decide)]; exact sSellTo_36 j (Int.le_refl _)) ?_
              refine jj_aload0 F dX9_sell_168 ?_
              refine jj_aload0 F dX9_sell_169 ?_
              refine m9_get F hR fd_X9_172 (by decide) rfl dX9_sell_170 ?_
              refine jj_eqi (b := s 31 0) (by rw [sU_n (by decide)]; exact congrFun (sSellTo_n (by decide) j) 0) ?_
              refine jj_iload7 F dX9_sell_173 ?_
              refine jj_iload4 F dX9_sell_175 ?_
              refine jj_callVr B (k := 0) (n := 0) (k9_dueOf F.tr hR (by omega) (by omega) (by omega) (by rw [sU_n (by decide), sSellTo_32]; omega) (by rw [sU_s]; exact hI7.2.2.2 j (by omega) (by omega)) (by rw [sU_n (k := 34) (k' := 32) (by decide), sSellTo_32, sSec_c (s := s) (show _ = _ by rw [sU_n (by decide), sSellTo_n (by decide)])]; exact hse) (by rw [sU_n (k := 34) (k' := 32) (by decide), sSellTo_32, sSec_c (s := s) (show _ = _ by rw [sU_n (by decide), sSellTo_n (by decide)])]; omega)) lk_X9_175 hR.1 cs_9 rfl rfl ⟨Nat.le_of_ble_eq_true rfl, Nat.le_of_ble_eq_true rfl, Nat.le_of_ble_eq_true rfl, Nat.le_of_ble_eq_true rfl, Nat.le_of_ble_eq_true rfl⟩ ⟨Nat.le_of_ble_eq_true rfl, Nat.le_of_ble_eq_true rfl, Nat.le_of_ble_eq_true rfl, Nat.le_of_ble_eq_true rfl⟩ jj_tx0 dX9_sell_177 ?_
              refine jj_eqi (sSell_due (by omega)) ?_
              refine jj_iadd F dX9_sell_180 ?_
              refine jj_jw ?_
              refine m9_ast F hR (n := 6) rfl (by omega) (by decide) (jW_rng _) dX9_sell_181 (fun G hR => ?_)
              refine jj_iinc7 F dX9_sell_182 (hN _ (by decide)) rfl ?_
              refine jj_goto F (tgt := 131) dX9_sell_185 rfl ?_
              have ih1 := ih (j + 1) G (by omega) hR
              rw [show (((j + 1 : Nat)) : Int) = (j : Int) + 1 from rfl] at ih1
              exact ih1
          exact loop 6 0 G (by omega) hR
        · skip
          refine jj_iconst F dX9_sell_81 ?_
          refine jj_goto F (tgt := 86) dX9_sell_82 rfl ?_
          refine jj_callVi B (k := 0) (n := 0) (k9_goes F.tr hR (show jR 3 by decide)) lk_X9_118 hR.1 cs_9 rfl rfl ⟨Nat.le_of_ble_eq_true rfl, Nat.le_of_ble_eq_true rfl, Nat.le_of_ble_eq_true rfl, Nat.le_of_ble_eq_true rfl, Nat.le_of_ble_eq_true rfl⟩ ⟨Nat.le_of_ble_eq_true rfl, Nat.le_of_ble_eq_true rfl, Nat.le_of_ble_eq_true rfl, Nat.le_of_ble_eq_true rfl⟩ jj_tx0 dX9_sell_86 (fun r G h => ?_)
          obtain ⟨rfl, hR⟩ := h
          refine jj_eqi (b := 0) rfl ?_
          refine jj_if_ne F (tgt := 94) dX9_sell_89 rfl (by omega) (fun c89 => by exfalso; omega) (fun c89 => ?_)
          refine jj_iconst F dX9_sell_92 ?_
          have htt : t_sell s d m e x = 3 := by unfold t_sell; (repeat (first | rw [if_pos (by omega)] | rw [if_neg (by omega)]))
          exact jj_iret B dX9_sell_93 ⟨Nat.le_of_ble_eq_true rfl, Nat.le_of_ble_eq_true rfl⟩ (⟨_, rfl, (by unfold r_sell; first | (refine Eq.trans ?_ (if_pos htt).symm; first | rfl | omega) | (refine Eq.trans ?_ (if_neg (by omega)).symm; rfl)), (by unfold n_sell; first | (rw [if_pos htt]; exact hR) | (rw [if_neg (by omega)]; rw [htt]; exact hR) | (rw [htt]; exact hR))⟩)
    · skip
      refine jj_iconst F dX9_sell_48 ?_
      refine jj_goto F (tgt := 86) dX9_sell_49 rfl ?_
      refine jj_callVi B (k := 0) (n := 0) (k9_goes F.tr hR (show jR 2 by decide)) lk_X9_118 hR.1 cs_9 rfl rfl ⟨Nat.le_of_ble_eq_true rfl, Nat.le_of_ble_eq_true rfl, Nat.le_of_ble_eq_true rfl, Nat.le_of_ble_eq_true rfl, Nat.le_of_ble_eq_true rfl⟩ ⟨Nat.le_of_ble_eq_true rfl, Nat.le_of_ble_eq_true rfl, Nat.le_of_ble_eq_true rfl, Nat.le_of_ble_eq_true rfl⟩ jj_tx0 dX9_sell_86 (fun r G h => ?_)
      obtain ⟨rfl, hR⟩ := h
      refine jj_eqi (b := 0) rfl ?_
      refine jj_if_ne F (tgt := 94) dX9_sell_89 rfl (by omega) (fun c89 => by exfalso; omega) (fun c89 => ?_)
      refine jj_iconst F dX9_sell_92 ?_
      have htt : t_sell s d m e x = 2 := by unfold t_sell; (repeat (first | rw [if_pos (by omega)] | rw [if_neg (by omega)]))
      exact jj_iret B dX9_sell_93 ⟨Nat.le_of_ble_eq_true rfl, Nat.le_of_ble_eq_true rfl⟩ (⟨_, rfl, (by unfold r_sell; first | (refine Eq.trans ?_ (if_pos htt).symm; first | rfl | omega) | (refine Eq.trans ?_ (if_neg (by omega)).symm; rfl)), (by unfold n_sell; first | (rw [if_pos htt]; exact hR) | (rw [if_neg (by omega)]; rw [htt]; exact hR) | (rw [htt]; exact hR))⟩)
abbrev rm_X9_back : Room := { frames := 3, cells := 0, slots := 0, locals := 73 }
set_option maxRecDepth 100000 in
set_option maxHeartbeats 4000000 in
theorem k9_back {l : Launch} {D : va_G} {ac : Nat → ClassId} (hl : l.stackTraces = false) {o : Nat} {a : Nat → Nat} {s : Sg} {d m e x : Int} {G : jj_G} (hR : RM (ac 0) o a s G) {c : Int} (hI : sInv s c) (hd : jR d) (hm : jR m) (he : jR e) (hx : jR x) : jj_C l D ac yX9_back (.code yX9_back cX9_back 10 (some .int)) rm_X9_back [.ref o, .int (jI d), .int (jI m), .int (jI e), .int (jI x)] G (jj_pi (fun r G' => r = r_back s d m e x ∧ RM (ac 0) o a (n_back s d m e x) G')) (jj_nx) := by
  refine jj_ofx (own := RX9) (lv0 := [some (.ref o), some (.int (jI d)), some (.int (jI m)), some (.int (jI e)), some (.int (jI x)), none, none, none, none, none]) hl (by decide +kernel) rfl rfl (Nat.le_of_ble_eq_true rfl) rfl ?_
  intro X B hN hl0 hdg hac hin
  subst hl0; subst hdg; subst hac
  have F := B.F

  obtain ⟨hI1, hI2, hI3, hI4, hI5, hI6, hI7, hc⟩ := hI
  have i0 := hI1.1
  have i3 := hI3.1
  have i7 := hI7.1
  have r13 := hR.rng 13 0
  have r31 := hR.rng 31 0
  have hS : ∀ h : sNm s d m e, 0 ≤ sSt d m e ∧ sSt d m e < 12 * s 13 0 := by intro h; unfold sSt; omega
  have i4 : ∀ h : sNm s d m e, (0 ≤ s 17 (sSt d m e) ∧ s 17 (sSt d m e) ≤ 500) ∧ (0 ≤ s 19 (sSt d m e) ∧ s 19 (sSt d m e) ≤ s 18 (sSt d m e) ∧ s 18 (sSt d m e) ≤ s 17 (sSt d m e)) ∧ (0 ≤ sDiscs s (sSt d m e)) ∧ sDiscs s (sSt d m e) ≤ s 18 (sSt d m e) - s 19 (sSt d m e) := by
    intro h
    have h2 := hS h
    have h1 := hI4.1 (sSt d m e) (by omega) (by omega)
    exact ⟨h1.2.1, h1.2.2.1, sDiscs_0 _ _, hI4.2 (sSt d m e) (by omega) (by omega)⟩
  refine jj_aload0 F dX9_back_0 ?_
  refine jj_iload1 F dX9_back_1 ?_
  refine jj_iload2 F dX9_back_2 ?_
  refine jj_iload3 F dX9_back_3 ?_
  refine jj_callVr B (k := 0) (n := 0) (k9_isNamed F.tr hR (by omega) (by omega) (by omega) (by omega)) lk_X9_161 hR.1 cs_9 rfl rfl ⟨Nat.le_of_ble_eq_true rfl, Nat.le_of_ble_eq_true rfl, Nat.le_of_ble_eq_true rfl, Nat.le_of_ble_eq_true rfl, Nat.le_of_ble_eq_true rfl⟩ ⟨Nat.le_of_ble_eq_true rfl, Nat.le_of_ble_eq_true rfl, Nat.le_of_ble_eq_true rfl, Nat.le_of_ble_eq_true rfl⟩ jj_tx0 dX9_back_4 ?_
  refine jj_istore5 F dX9_back_7 (hN _ (by decide)) rfl ?_
  refine jj_iload5 F dX9_back_9 ?_
  refine jj_ifb_eq F (tgt := 23) dX9_back_11 rfl (fun c11 => ?_) (fun c11 => ?_)
  · skip
    refine jj_iconst F dX9_back_23 ?_
    refine jj_istore6 F dX9_back_24 (hN _ (by decide)) rfl ?_
    refine jj_aload0 F dX9_back_26 ?_
    refine jj_iload5 F dX9_back_27 ?_
    refine jj_ifb_ne F (tgt := 36) dX9_back_29 rfl (fun c29 => by first | contradiction | (exfalso; omega)) (fun c29 => ?_)
    refine jj_iconst F dX9_back_32 ?_
    refine jj_goto F (tgt := 84) dX9_back_33 rfl ?_
    refine jj_callVi B (k := 0) (n := 0) (k9_goes F.tr hR (show jR 1 by decide)) lk_X9_118 hR.1 cs_9 rfl rfl ⟨Nat.le_of_ble_eq_true rfl, Nat.le_of_ble_eq_true rfl, Nat.le_of_ble_eq_true rfl, Nat.le_of_ble_eq_true rfl, Nat.le_of_ble_eq_true rfl⟩ ⟨Nat.le_of_ble_eq_true rfl, Nat.le_of_ble_eq_true rfl, Nat.le_of_ble_eq_true rfl, Nat.le_of_ble_eq_true rfl⟩ jj_tx0 dX9_back_84 (fun r G h => ?_)
    obtain ⟨rfl, hR⟩ := h
    refine jj_eqi (b := 0) rfl ?_
    refine jj_if_ne F (tgt := 92) dX9_back_87 rfl (by omega) (fun c87 => by exfalso; omega) (fun c87 => ?_)
    refine jj_iconst F dX9_back_90 ?_
    have htt : t_back s d m e x = 1 := by unfold t_back; (repeat (first | rw [if_pos (by omega)] | rw [if_neg (by omega)]))
    exact jj_iret B dX9_back_91 ⟨Nat.le_of_ble_eq_true rfl, Nat.le_of_ble_eq_true rfl⟩ (⟨_, rfl, (by unfold r_back; first | (refine Eq.trans ?_ (if_pos htt).symm; first | rfl | omega) | (refine Eq.trans ?_ (if_neg (by omega)).symm; rfl)), (by unfold n_back; first | (rw [if_pos htt]; exact hR) | (rw [if_neg (by omega)]; rw [htt]; exact hR) | (rw [htt]; exact hR))⟩)
  · skip
    refine jj_iload1 F dX9_back_14 ?_
    refine jj_iload2 F dX9_back_15 ?_
    refine jj_iload3 F dX9_back_16 ?_
    refine jj_callSr B (k := 0) (n := 0) (k9_stamperOf F.tr) lk_X9_164 rfl ⟨Nat.le_of_ble_eq_true rfl, Nat.le_of_ble_eq_true rfl, Nat.le_of_ble_eq_true rfl, Nat.le_of_ble_eq_true rfl, Nat.le_of_ble_eq_true rfl⟩ ⟨Nat.le_of_ble_eq_true rfl, Nat.le_of_ble_eq_true rfl, Nat.le_of_ble_eq_true rfl, Nat.le_of_ble_eq_true rfl⟩ jj_tx0 dX9_back_17 ?_
    refine jj_goto F (tgt := 24) dX9_back_20 rfl ?_
    refine jj_istore6 F dX9_back_24 (hN _ (by decide)) rfl ?_
    refine jj_aload0 F dX9_back_26 ?_
    refine jj_iload5 F dX9_back_27 ?_
    refine jj_ifb_ne F (tgt := 36) dX9_back_29 rfl (fun c29 => ?_) (fun c29 => by first | contradiction | (exfalso; omega))
    refine jj_iload4 F dX9_back_36 ?_
    refine jj_iconst F dX9_back_38 ?_
    refine jj_sipush F (by decide) dX9_back_39 ?_
    refine jj_callSr B (k := 0) (n := 0) (k9_isIn F.tr (by omega) (by omega) (by omega)) lk_X9_104 rfl ⟨Nat.le_of_ble_eq_true rfl, Nat.le_of_ble_eq_true rfl, Nat.le_of_ble_eq_true rfl, Nat.le_of_ble_eq_true rfl, Nat.le_of_ble_eq_true rfl⟩ ⟨Nat.le_of_ble_eq_true rfl, Nat.le_of_ble_eq_true rfl, Nat.le_of_ble_eq_true rfl, Nat.le_of_ble_eq_true rfl⟩ jj_tx0 dX9_back_42 ?_
    refine jj_ifb_ne F (tgt := 52) dX9_back_45 rfl (fun c45 => ?_) (fun c45 => ?_)
    · skip
      refine jj_aload0 F dX9_back_52 ?_
      refine m9_get F hR fd_X9_52 (by decide) rfl dX9_back_53 ?_
      refine jj_iload6 F dX9_back_56 ?_
      refine m9_ald F hR (n := 120) rfl (by have := hS (by omega); omega) (by decide) dX9_back_58 (fun r_58 => ?_)
      refine jj_aload0 F dX9_back_59 ?_
      refine m9_get F hR fd_X9_55 (by decide) rfl dX9_back_60 ?_
      refine jj_iload6 F dX9_back_63 ?_
      refine m9_ald F hR (n := 120) rfl (by have := hS (by omega); omega) (by decide) dX9_back_65 (fun r_65 => ?_)
      refine jj_isub F dX9_back_66 ?_
      refine jj_aload0 F dX9_back_67 ?_
      refine jj_iload6 F dX9_back_68 ?_
      refine jj_callVr B (k := 0) (n := 0) (k9_discsOf F.tr hR hI5.1 (by have := hS (by omega); omega)) lk_X9_181 hR.1 cs_9 rfl rfl ⟨Nat.le_of_ble_eq_true rfl, Nat.le_of_ble_eq_true rfl, Nat.le_of_ble_eq_true rfl, Nat.le_of_ble_eq_true rfl, Nat.le_of_ble_eq_true rfl⟩ ⟨Nat.le_of_ble_eq_true rfl, Nat.le_of_ble_eq_true rfl, Nat.le_of_ble_eq_true rfl, Nat.le_of_ble_eq_true rfl⟩ jj_tx0 dX9_back_70 ?_
      refine jj_isub F dX9_back_73 ?_
      refine jj_iload4 F dX9_back_74 ?_
      refine jj_icmp_ge F (tgt := 83) dX9_back_76 rfl (by have := i4 (by omega); omega) (fun c76 => ?_) (fun c76 => ?_)
      · skip
        refine jj_iconst F dX9_back_83 ?_
        refine jj_callVi B (k := 0) (n := 0) (k9_goes F.tr hR (show jR 0 by decide)) lk_X9_118 hR.1 cs_9 rfl rfl ⟨Nat.le_of_ble_eq_true rfl, Nat.le_of_ble_eq_true rfl, Nat.le_of_ble_eq_true rfl, Nat.le_of_ble_eq_true rfl, Nat.le_of_ble_eq_true rfl⟩ ⟨Nat.le_of_ble_eq_true rfl, Nat.le_of_ble_eq_true rfl, Nat.le_of_ble_eq_true rfl, Nat.le_of_ble_eq_true rfl⟩ jj_tx0 dX9_back_84 (fun r G h => ?_)
        obtain ⟨rfl, hR⟩ := h
        refine jj_eqi (b := 1) rfl ?_
        refine jj_if_ne F (tgt := 92) dX9_back_87 rfl (by omega) (fun c87 => ?_) (fun c87 => by exfalso; omega)
        refine jj_iload4 F dX9_back_92 ?_
        refine jj_istore7 F dX9_back_94 (hN _ (by decide)) rfl ?_
        refine jj_aload0 F dX9_back_96 ?_
        refine m9_get F hR fd_X9_172 (by decide) rfl dX9_back_97 ?_
        refine jj_eqi (b := s 31 0) rfl ?_
        refine jj_iconst F dX9_back_100 ?_
        refine jj_isub F dX9_back_101 ?_
        refine jj_istore8 F dX9_back_102 (hN _ (by decide)) rfl ?_
        have htt : t_back s d m e x = 0 := by unfold t_back; (repeat (first | rw [if_pos (by omega)] | rw [if_neg (by omega)]))
        have h4 := i4 (by omega)
        have h5 := hS (by omega)
        obtain ⟨k, hk⟩ : ∃ k, k = sSt d m e := ⟨_, rfl⟩
        rw [← hk] at h4 h5
        rw [← hk]
        have hsl : ∀ i : Int, 0 ≤ i → i < s 31 0 → (0 ≤ s 32 i ∧ s 32 i < 12 * s 13 0) ∧ (0 ≤ s 33 i ∧ s 33 i ≤ 500) := hI7.2.1
        have hrr : ∀ j : Nat, (j : Int) ≤ s 31 0 → 0 ≤ sBackR s k x j ∧ sBackR s k x j ≤ x := by
          intro j
          induction j with
          | zero => intro _; unfold sBackR; omega
          | succ j ih =>
            intro hj
            have g1 := ih (by omega)
            have g2 := hsl (s 31 0 - 1 - j) (by omega) (by omega)
            unfold sBackR
            split
            · split <;> omega
            · exact g1
        have loop : ∀ (n j : Nat) (x9 : Option Value) (G : jj_G), n + j = (s 31 0).toNat → RM (jj_ac X 0) o a (sBackS s k x j) G → jj_J X G 0 0 104 [some (.ref o), some (.int (jI d)), some (.int (jI m)), some (.int (jI e)), some (.int (jI x)), some (.int (jI (sNamed s d m e))), some (.int (jI k)), some (.int (jI (sBackR s k x j))), some (.int (jI (s 31 0 - 1 - j))), x9] [] := by
          intro n
          induction n with
          | zero =>
            intro j x9 G hj hR
            have e1 : (j : Int) = s 31 0 := by omega
            refine jj_iload8 F dX9_back_104 ?_
            refine jj_if_lt F (tgt := 168) dX9_back_106 rfl (by omega) (fun c106 => ?_) (fun c106 => by exfalso; omega)
            refine jj_aload0 F dX9_back_168 ?_
            refine m9_get F hR fd_X9_55 (by decide) rfl dX9_back_169 ?_
            refine jj_iload6 F dX9_back_172 ?_
            refine jj_dup2 F rfl rfl dX9_back_174 ?_
            refine m9_ald F hR (n := 120) rfl (by omega) (by decide) dX9_back_175 (fun r_175 => ?_)
            refine jj_eqi (b := s 19 k) (congrFun (sBackS_n (by decide) j) _) ?_
            refine jj_iload4 F dX9_back_176 ?_
            refine jj_iadd F dX9_back_178 ?_
            refine m9_ast F hR (n := 120) rfl (by omega) (by decide) (by omega) dX9_back_179 (fun G hR => ?_)
            refine jj_aload0 F dX9_back_180 ?_
            refine m9_get F hR fd_X9_52 (by decide) rfl dX9_back_181 ?_
            refine jj_iload6 F dX9_back_184 ?_
            refine m9_ald F hR (n := 120) rfl (by omega) (by decide) dX9_back_186 (fun r_186 => ?_)
            refine jj_eqi (b := s 18 k) (by rw [sU_n (by decide)]; exact congrFun (sBackS_n (by decide) j) _) ?_
            refine jj_aload0 F dX9_back_187 ?_
            refine m9_get F hR fd_X9_55 (by decide) rfl dX9_back_188 ?_
            refine jj_iload6 F dX9_back_191 ?_
            refine m9_ald F hR (n := 120) rfl (by omega) (by decide) dX9_back_193 (fun r_193 => ?_)
            refine jj_eqi (b := s 19 k + x) sU_s ?_
            refine jj_isub F dX9_back_194 ?_
            exact jj_iret B dX9_back_195 ⟨Nat.le_of_ble_eq_true rfl, Nat.le_of_ble_eq_true rfl⟩ (⟨_, rfl, (by unfold r_back; refine Eq.trans ?_ (if_pos htt).symm; rw [← hk]), (by unfold n_back; rw [if_pos htt, ← hk, show (s 31 0).toNat = j by omega]; exact hR)⟩)
          | succ n ih =>
            intro j x9 G hj hR
            have e1 : (j : Int) < s 31 0 := by omega
            refine jj_iload8 F dX9_back_104 ?_
            refine jj_if_lt F (tgt := 168) dX9_back_106 rfl (by omega) (fun c106 => by exfalso; omega) (fun c106 => ?_)
            refine jj_aload0 F dX9_back_109 ?_
            refine m9_get F hR fd_X9_82 (by decide) rfl dX9_back_110 ?_
            refine jj_iload8 F dX9_back_113 ?_
            refine m9_ald F hR (n := 100) rfl (by omega) (by decide) dX9_back_115 (fun r_115 => ?_)
            refine jj_eqi (b := s 32 (s 31 0 - 1 - j)) (congrFun (sBackS_n (by decide) j) _) ?_
            refine jj_iload6 F dX9_back_116 ?_
            refine jj_icmp_ne F (tgt := 162) dX9_back_118 rfl (by have := (hsl (s 31 0 - 1 - j) (by omega) (by omega)).1; omega) (fun c118 => ?_) (fun c118 => ?_)
            · skip
              refine jj_iinc8 F dX9_back_162 (hN _ (by decide)) rfl ?_
              refine jj_goto F (tgt := 104) dX9_back_165 rfl ?_
              have g2 := hsl (s 31 0 - 1 - j) (by omega) (by omega)
              have g3 := hrr j (by omega)
              have hR2 : RM (jj_ac X 0) o a (sBackS s k x (j + 1)) G := by
                have e7 : sBackS s k x (j + 1) = sBackS s k x j := if_neg (by omega)
                rw [e7]; exact hR
              have ih1 := ih (j + 1) x9 G (by omega) hR2
              rw [show (((j + 1 : Nat)) : Int) = (j : Int) + 1 from rfl] at ih1
              simp only [sBackR] at ih1
              rw [if_neg (by omega)] at ih1
              rw [show s 31 0 - 1 - ((j : Int) + 1) = s 31 0 - 1 - (j : Int) + (-1) by omega] at ih1
              exact ih1
            · skip
              refine jj_aload0 F dX9_back_121 ?_
              refine m9_get F hR fd_X9_85 (by decide) rfl dX9_back_122 ?_
              refine jj_iload8 F dX9_back_125 ?_
              refine m9_ald F hR (n := 100) rfl (by omega) (by decide) dX9_back_127 (fun r_127 => ?_)
              refine jj_eqi (b := s 33 (s 31 0 - 1 - j)) (sBackS_33 j (by omega)) ?_
              refine jj_iload7 F dX9_back_128 ?_
              refine jj_icmp_ge F (tgt := 143) dX9_back_130 rfl (by have := (hsl (s 31 0 - 1 - j) (by omega) (by omega)).2; have := hrr j (by omega); omega) (fun c130 => ?_) (fun c130 => ?_)
              · skip
                refine jj_iload7 F dX9_back_143 ?_
                refine jj_istore9 F dX9_back_145 (hN _ (by decide)) rfl ?_
                refine jj_aload0 F dX9_back_147 ?_
                refine jj_iload8 F dX9_back_148 ?_
                refine jj_iload9 F dX9_back_150 ?_
                refine jj_callVv B (k := 0) (n := 0) (k9_takesOff F.tr hR (by omega) (by rw [sBackS_33 j (by omega)]; have := hrr j (by omega); have := hsl (s 31 0 - 1 - j) (by omega) (by omega); omega) (by rw [sBackS_33 j (by omega)]; exact (hsl (s 31 0 - 1 - j) (by omega) (by omega)).2) (by rw [sBackS_n (by decide)]; have := (hsl (s 31 0 - 1 - j) (by omega) (by omega)).1; omega) (fun q h1 h2 => by rw [sBackS_n (by decide)]; exact hI7.2.2.1 _ (by omega) (by omega)) (by rw [sBackS_n (i := 32) (by decide), sSec_c (s := s) (sBackS_n (by decide) j)]; exact fun q => sSec_in hI3 (by have := (hsl (s 31 0 - 1 - j) (by omega) (by omega)).1; omega) q) (by rw [sBackS_n (i := 32) (by decide), sSec_c (s := s) (sBackS_n (by decide) j)]; have := hI3.2.2.1 (s 32 (s 31 0 - 1 - j) / 12) (by have := (hsl (s 31 0 - 1 - j) (by omega) (by omega)).1; omega) (by have := (hsl (s 31 0 - 1 - j) (by omega) (by omega)).1; omega); omega)) lk_X9_184 hR.1 cs_9 rfl rfl ⟨Nat.le_of_ble_eq_true rfl, Nat.le_of_ble_eq_true rfl, Nat.le_of_ble_eq_true rfl, Nat.le_of_ble_eq_true rfl, Nat.le_of_ble_eq_true rfl⟩ ⟨Nat.le_of_ble_eq_true rfl, Nat.le_of_ble_eq_true rfl, Nat.le_of_ble_eq_true rfl, Nat.le_of_ble_eq_true rfl⟩ jj_tx0 dX9_back_152 (fun G hR => ?_)
                refine jj_iload7 F dX9_back_155 ?_
                refine jj_iload9 F dX9_back_157 ?_
                refine jj_isub F dX9_back_159 ?_
                refine jj_istore7 F dX9_back_160 (hN _ (by decide)) rfl ?_
                refine jj_iinc8 F dX9_back_162 (hN _ (by decide)) rfl ?_
                refine jj_goto F (tgt := 104) dX9_back_165 rfl ?_
                have g2 := hsl (s 31 0 - 1 - j) (by omega) (by omega)
                have g3 := hrr j (by omega)
                have e8 : (if s 33 (s 31 0 - 1 - j) < sBackR s k x j then s 33 (s 31 0 - 1 - j) else sBackR s k x j) = sBackR s k x j := by split <;> omega
                have hR2 : RM (jj_ac X 0) o a (sBackS s k x (j + 1)) G := by
                  have e7 : sBackS s k x (j + 1) = sOff (sBackS s k x j) (s 31 0 - 1 - j) (sBackR s k x j) := by rw [← e8]; exact if_pos (by omega)
                  rw [e7]; exact hR
                have ih1 := ih (j + 1) (some (.int (jI (sBackR s k x j)))) G (by omega) hR2
                rw [show (((j + 1 : Nat)) : Int) = (j : Int) + 1 from rfl] at ih1
                simp only [sBackR] at ih1
                rw [if_pos (by omega), e8] at ih1
                rw [show s 31 0 - 1 - ((j : Int) + 1) = s 31 0 - 1 - (j : Int) + (-1) by omega] at ih1
                exact ih1
              · skip
                refine jj_aload0 F dX9_back_133 ?_
                refine m9_get F hR fd_X9_85 (by decide) rfl dX9_back_134 ?_
                refine jj_iload8 F dX9_back_137 ?_
                refine m9_ald F hR (n := 100) rfl (by omega) (by decide) dX9_back_139 (fun r_139 => ?_)
                refine jj_eqi (b := s 33 (s 31 0 - 1 - j)) (sBackS_33 j (by omega)) ?_
                refine jj_goto F (tgt := 145) dX9_back_140 rfl ?_
                refine jj_istore9 F dX9_back_145 (hN _ (by decide)) rfl ?_
                refine jj_aload0 F dX9_back_147 ?_
                refine jj_iload8 F dX9_back_148 ?_
                refine jj_iload9 F dX9_back_150 ?_
                refine jj_callVv B (k := 0) (n := 0) (k9_takesOff F.tr hR (by omega) (by rw [sBackS_33 j (by omega)]; have := hrr j (by omega); have := hsl (s 31 0 - 1 - j) (by omega) (by omega); omega) (by rw [sBackS_33 j (by omega)]; exact (hsl (s 31 0 - 1 - j) (by omega) (by omega)).2) (by rw [sBackS_n (by decide)]; have := (hsl (s 31 0 - 1 - j) (by omega) (by omega)).1; omega) (fun q h1 h2 => by rw [sBackS_n (by decide)]; exact hI7.2.2.1 _ (by omega) (by omega)) (by rw [sBackS_n (i := 32) (by decide), sSec_c (s := s) (sBackS_n (by decide) j)]; exact fun q => sSec_in hI3 (by have := (hsl (s 31 0 - 1 - j) (by omega) (by omega)).1; omega) q) (by rw [sBackS_n (i := 32) (by decide), sSec_c (s := s) (sBackS_n (by decide) j)]; have := hI3.2.2.1 (s 32 (s 31 0 - 1 - j) / 12) (by have := (hsl (s 31 0 - 1 - j) (by omega) (by omega)).1; omega) (by have := (hsl (s 31 0 - 1 - j) (by omega) (by omega)).1; omega); omega)) lk_X9_184 hR.1 cs_9 rfl rfl ⟨Nat.le_of_ble_eq_true rfl, Nat.le_of_ble_eq_true rfl, Nat.le_of_ble_eq_true rfl, Nat.le_of_ble_eq_true rfl, Nat.le_of_ble_eq_true rfl⟩ ⟨Nat.le_of_ble_eq_true rfl, Nat.le_of_ble_eq_true rfl, Nat.le_of_ble_eq_true rfl, Nat.le_of_ble_eq_true rfl⟩ jj_tx0 dX9_back_152 (fun G hR => ?_)
                refine jj_iload7 F dX9_back_155 ?_
                refine jj_iload9 F dX9_back_157 ?_
                refine jj_isub F dX9_back_159 ?_
                refine jj_istore7 F dX9_back_160 (hN _ (by decide)) rfl ?_
                refine jj_iinc8 F dX9_back_162 (hN _ (by decide)) rfl ?_
                refine jj_goto F (tgt := 104) dX9_back_165 rfl ?_
                have g2 := hsl (s 31 0 - 1 - j) (by omega) (by omega)
                have g3 := hrr j (by omega)
                have e8 : (if s 33 (s 31 0 - 1 - j) < sBackR s k x j then s 33 (s 31 0 - 1 - j) else sBackR s k x j) = s 33 (s 31 0 - 1 - j) := by split <;> omega
                have hR2 : RM (jj_ac X 0) o a (sBackS s k x (j + 1)) G := by
                  have e7 : sBackS s k x (j + 1) = sOff (sBackS s k x j) (s 31 0 - 1 - j) (s 33 (s 31 0 - 1 - j)) := by rw [← e8]; exact if_pos (by omega)
                  rw [e7]; exact hR
                have ih1 := ih (j + 1) (some (.int (jI (s 33 (s 31 0 - 1 - j))))) G (by omega) hR2
                rw [show (((j + 1 : Nat)) : Int) = (j : Int) + 1 from rfl] at ih1
                simp only [sBackR] at ih1
                rw [if_pos (by omega), e8] at ih1
                rw [show s 31 0 - 1 - ((j : Int) + 1) = s 31 0 - 1 - (j : Int) + (-1) by omega] at ih1
                exact ih1
        have l0 := loop (s 31 0).toNat 0 none G (by omega) hR
        rw [show s 31 0 - 1 - ((0 : Nat) : Int) = s 31 0 - 1 by omega] at l0
        exact l0
      · skip
        refine jj_iconst F dX9_back_79 ?_
        refine jj_goto F (tgt := 84) dX9_back_80 rfl ?_
        refine jj_callVi B (k := 0) (n := 0) (k9_goes F.tr hR (show jR 3 by decide)) lk_X9_118 hR.1 cs_9 rfl rfl ⟨Nat.le_of_ble_eq_true rfl, Nat.le_of_ble_eq_true rfl, Nat.le_of_ble_eq_true rfl, Nat.le_of_ble_eq_true rfl, Nat.le_of_ble_eq_true rfl⟩ ⟨Nat.le_of_ble_eq_true rfl, Nat.le_of_ble_eq_true rfl, Nat.le_of_ble_eq_true rfl, Nat.le_of_ble_eq_true rfl⟩ jj_tx0 dX9_back_84 (fun r G h => ?_)
        obtain ⟨rfl, hR⟩ := h
        refine jj_eqi (b := 0) rfl ?_
        refine jj_if_ne F (tgt := 92) dX9_back_87 rfl (by omega) (fun c87 => by exfalso; omega) (fun c87 => ?_)
        refine jj_iconst F dX9_back_90 ?_
        have htt : t_back s d m e x = 3 := by unfold t_back; (repeat (first | rw [if_pos (by omega)] | rw [if_neg (by omega)]))
        exact jj_iret B dX9_back_91 ⟨Nat.le_of_ble_eq_true rfl, Nat.le_of_ble_eq_true rfl⟩ (⟨_, rfl, (by unfold r_back; first | (refine Eq.trans ?_ (if_pos htt).symm; first | rfl | omega) | (refine Eq.trans ?_ (if_neg (by omega)).symm; rfl)), (by unfold n_back; first | (rw [if_pos htt]; exact hR) | (rw [if_neg (by omega)]; rw [htt]; exact hR) | (rw [htt]; exact hR))⟩)
    · skip
      refine jj_iconst F dX9_back_48 ?_
      refine jj_goto F (tgt := 84) dX9_back_49 rfl ?_
      refine jj_callVi B (k := 0) (n := 0) (k9_goes F.tr hR (show jR 2 by decide)) lk_X9_118 hR.1 cs_9 rfl rfl ⟨Nat.le_of_ble_eq_true rfl, Nat.le_of_ble_eq_true rfl, Nat.le_of_ble_eq_true rfl, Nat.le_of_ble_eq_true rfl, Nat.le_of_ble_eq_true rfl⟩ ⟨Nat.le_of_ble_eq_true rfl, Nat.le_of_ble_eq_true rfl, Nat.le_of_ble_eq_true rfl, Nat.le_of_ble_eq_true rfl⟩ jj_tx0 dX9_back_84 (fun r G h => ?_)
      obtain ⟨rfl, hR⟩ := h
      refine jj_eqi (b := 0) rfl ?_
      refine jj_if_ne F (tgt := 92) dX9_back_87 rfl (by omega) (fun c87 => by exfalso; omega) (fun c87 => ?_)
      refine jj_iconst F dX9_back_90 ?_
      have htt : t_back s d m e x = 2 := by unfold t_back; (repeat (first | rw [if_pos (by omega)] | rw [if_neg (by omega)]))
      exact jj_iret B dX9_back_91 ⟨Nat.le_of_ble_eq_true rfl, Nat.le_of_ble_eq_true rfl⟩ (⟨_, rfl, (by unfold r_back; first | (refine Eq.trans ?_ (if_pos htt).symm; first | rfl | omega) | (refine Eq.trans ?_ (if_neg (by omega)).symm; rfl)), (by unfold n_back; first | (rw [if_pos htt]; exact hR) | (rw [if_neg (by omega)]; rw [htt]; exact hR) | (rw [htt]; exact hR))⟩)
