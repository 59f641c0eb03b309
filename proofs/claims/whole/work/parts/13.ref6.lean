abbrev rm_X9_join : Room := { frames := 2, cells := 0, slots := 0, locals := 47 }
set_option maxRecDepth 100000 in
set_option maxHeartbeats 4000000 in
theorem k9_join {l : Launch} {D : va_G} {ac : Nat → ClassId} (hl : l.stackTraces = false) {o : Nat} {a : Nat → Nat} {s : Sg} {q p : Int} {G : jj_G} (hR : RM (ac 0) o a s G) {c : Int} (hI : sInv s c) (hq : jR q) (hp : jR p) : jj_C l D ac yX9_join (.code yX9_join cX9_join 3 (some .int)) rm_X9_join [.ref o, .int (jI q), .int (jI p)] G (jj_pi (fun r G' => r = r_join s q p ∧ RM (ac 0) o a (n_join s q p) G')) (jj_nx) := by
  refine jj_ofx (own := RX9) (lv0 := [some (.ref o), some (.int (jI q)), some (.int (jI p))]) hl (by decide +kernel) rfl rfl (Nat.le_of_ble_eq_true rfl) rfl ?_
  intro X B hN hl0 hdg hac hin
  subst hl0; subst hdg; subst hac
  have F := B.F

  obtain ⟨hI1, hI2, hI3, hI4, hI5, hI6, hI7, hc⟩ := hI
  have i0 := hI1.1
  have i3 := hI3.1
  have i5 := hI5.1
  have r13 := hR.rng 13 0
  have r22 := hR.rng 22 0
  have h01 := sOne_01 s q
  have hA01 : sAre s q = 0 ∨ sAre s q = 1 := by unfold sAre; split; exact Or.inr rfl; exact Or.inl rfl
  refine jj_aload0 F dX9_join_0 ?_
  refine jj_iload2 F dX9_join_1 ?_
  refine jj_callSr B (k := 0) (n := 0) (k9_isPart F.tr (by omega)) lk_X9_191 rfl ⟨Nat.le_of_ble_eq_true rfl, Nat.le_of_ble_eq_true rfl, Nat.le_of_ble_eq_true rfl, Nat.le_of_ble_eq_true rfl, Nat.le_of_ble_eq_true rfl⟩ ⟨Nat.le_of_ble_eq_true rfl, Nat.le_of_ble_eq_true rfl, Nat.le_of_ble_eq_true rfl, Nat.le_of_ble_eq_true rfl⟩ jj_tx0 dX9_join_2 ?_
  refine jj_ifb_ne F (tgt := 12) dX9_join_5 rfl (fun c5 => ?_) (fun c5 => ?_)
  · skip
    refine jj_aload0 F dX9_join_12 ?_
    refine jj_iload1 F dX9_join_13 ?_
    refine jj_callVr B (k := 0) (n := 0) (k9_areDiscs F.tr hR hq) lk_X9_197 hR.1 cs_9 rfl rfl ⟨Nat.le_of_ble_eq_true rfl, Nat.le_of_ble_eq_true rfl, Nat.le_of_ble_eq_true rfl, Nat.le_of_ble_eq_true rfl, Nat.le_of_ble_eq_true rfl⟩ ⟨Nat.le_of_ble_eq_true rfl, Nat.le_of_ble_eq_true rfl, Nat.le_of_ble_eq_true rfl, Nat.le_of_ble_eq_true rfl⟩ jj_tx0 dX9_join_14 ?_
    refine jj_ifb_ne F (tgt := 24) dX9_join_17 rfl (fun c17 => ?_) (fun c17 => ?_)
    · skip
      have hA : ¬ sAre s q = 0 := by unfold sAre; rw [if_pos c17]; decide
      refine jj_aload0 F dX9_join_24 ?_
      refine jj_iload1 F dX9_join_25 ?_
      refine jj_callVr B (k := 0) (n := 0) (k9_areOfOneSide F.tr hR i5 (fun j hj => by have := hI5.2.2.2.1 j (by omega) hj; omega) (fun j hj => sSideTo_in j (fun i hi => by have := hI5.2.2.2.1 i (by omega) (by omega); omega))) lk_X9_200 hR.1 cs_9 rfl rfl ⟨Nat.le_of_ble_eq_true rfl, Nat.le_of_ble_eq_true rfl, Nat.le_of_ble_eq_true rfl, Nat.le_of_ble_eq_true rfl, Nat.le_of_ble_eq_true rfl⟩ ⟨Nat.le_of_ble_eq_true rfl, Nat.le_of_ble_eq_true rfl, Nat.le_of_ble_eq_true rfl, Nat.le_of_ble_eq_true rfl⟩ jj_tx0 dX9_join_26 ?_
      refine jj_if_eq F (tgt := 36) dX9_join_29 rfl (sOne_r _ _) (fun c29 => ?_) (fun c29 => ?_)
      · skip
        refine jj_iconst F dX9_join_36 ?_
        refine jj_callVi B (k := 0) (n := 0) (k9_goes F.tr hR (show jR 3 by decide)) lk_X9_118 hR.1 cs_9 rfl rfl ⟨Nat.le_of_ble_eq_true rfl, Nat.le_of_ble_eq_true rfl, Nat.le_of_ble_eq_true rfl, Nat.le_of_ble_eq_true rfl, Nat.le_of_ble_eq_true rfl⟩ ⟨Nat.le_of_ble_eq_true rfl, Nat.le_of_ble_eq_true rfl, Nat.le_of_ble_eq_true rfl, Nat.le_of_ble_eq_true rfl⟩ jj_tx0 dX9_join_37 (fun r G h => ?_)
        obtain ⟨rfl, hR⟩ := h
        refine jj_eqi (b := 0) rfl ?_
        refine jj_if_ne F (tgt := 45) dX9_join_40 rfl (by omega) (fun c40 => by exfalso; omega) (fun c40 => ?_)
        refine jj_iconst F dX9_join_43 ?_
        have htt : t_join s q p = 3 := by unfold t_join; (repeat (first | rw [if_pos (by omega)] | rw [if_neg (by omega)]))
        exact jj_iret B dX9_join_44 ⟨Nat.le_of_ble_eq_true rfl, Nat.le_of_ble_eq_true rfl⟩ (⟨_, rfl, (by unfold r_join; first | (refine Eq.trans ?_ (if_pos htt).symm; first | rfl | omega) | (refine Eq.trans ?_ (if_neg (by omega)).symm; rfl)), (by unfold n_join; first | (rw [if_pos htt]; exact hR) | (rw [if_neg (by omega)]; rw [htt]; exact hR) | (rw [htt]; exact hR))⟩)
      · skip
        refine jj_iconst F dX9_join_32 ?_
        refine jj_goto F (tgt := 37) dX9_join_33 rfl ?_
        refine jj_callVi B (k := 0) (n := 0) (k9_goes F.tr hR (show jR 0 by decide)) lk_X9_118 hR.1 cs_9 rfl rfl ⟨Nat.le_of_ble_eq_true rfl, Nat.le_of_ble_eq_true rfl, Nat.le_of_ble_eq_true rfl, Nat.le_of_ble_eq_true rfl, Nat.le_of_ble_eq_true rfl⟩ ⟨Nat.le_of_ble_eq_true rfl, Nat.le_of_ble_eq_true rfl, Nat.le_of_ble_eq_true rfl, Nat.le_of_ble_eq_true rfl⟩ jj_tx0 dX9_join_37 (fun r G h => ?_)
        obtain ⟨rfl, hR⟩ := h
        refine jj_eqi (b := 1) rfl ?_
        refine jj_if_ne F (tgt := 45) dX9_join_40 rfl (by omega) (fun c40 => ?_) (fun c40 => by exfalso; omega)
        refine jj_aload0 F dX9_join_45 ?_
        refine jj_iload1 F dX9_join_46 ?_
        refine jj_iload2 F dX9_join_47 ?_
        refine jj_callVr B (k := 0) (n := 0) (k9_joinOf F.tr hR i5 (by omega) (fun d hd => by have := hI5.2.1 d hd.1 hd.2; exact (show 0 ≤ s 24 d ∧ s 24 d ≤ 100000 by omega)) (fun d hd => by have := sNoise_in hI5 hc hd (p := p) (by omega); exact (show 0 ≤ sNoise s d p ∧ sNoise s d p ≤ 1000000 by omega))) lk_X9_203 hR.1 cs_9 rfl rfl ⟨Nat.le_of_ble_eq_true rfl, Nat.le_of_ble_eq_true rfl, Nat.le_of_ble_eq_true rfl, Nat.le_of_ble_eq_true rfl, Nat.le_of_ble_eq_true rfl⟩ ⟨Nat.le_of_ble_eq_true rfl, Nat.le_of_ble_eq_true rfl, Nat.le_of_ble_eq_true rfl, Nat.le_of_ble_eq_true rfl⟩ jj_tx0 dX9_join_48 ?_
        refine jj_eqi (sJoin_c (s := s) (by rfl) (by rfl) (by rfl) (by rfl)) ?_
        have htt : t_join s q p = 0 := by unfold t_join; (repeat (first | rw [if_pos (by omega)] | rw [if_neg (by omega)]))
        exact jj_iret B dX9_join_51 ⟨Nat.le_of_ble_eq_true rfl, Nat.le_of_ble_eq_true rfl⟩ (⟨_, rfl, (by unfold r_join; first | (refine Eq.trans ?_ (if_pos htt).symm; first | rfl | omega) | (refine Eq.trans ?_ (if_neg (by omega)).symm; rfl)), (by unfold n_join; first | (rw [if_pos htt]; exact hR) | (rw [if_neg (by omega)]; rw [htt]; exact hR) | (rw [htt]; exact hR))⟩)
    · skip
      have hA : sAre s q = 0 := by unfold sAre; rw [if_neg c17]
      refine jj_iconst F dX9_join_20 ?_
      refine jj_goto F (tgt := 37) dX9_join_21 rfl ?_
      refine jj_callVi B (k := 0) (n := 0) (k9_goes F.tr hR (show jR 2 by decide)) lk_X9_118 hR.1 cs_9 rfl rfl ⟨Nat.le_of_ble_eq_true rfl, Nat.le_of_ble_eq_true rfl, Nat.le_of_ble_eq_true rfl, Nat.le_of_ble_eq_true rfl, Nat.le_of_ble_eq_true rfl⟩ ⟨Nat.le_of_ble_eq_true rfl, Nat.le_of_ble_eq_true rfl, Nat.le_of_ble_eq_true rfl, Nat.le_of_ble_eq_true rfl⟩ jj_tx0 dX9_join_37 (fun r G h => ?_)
      obtain ⟨rfl, hR⟩ := h
      refine jj_eqi (b := 0) rfl ?_
      refine jj_if_ne F (tgt := 45) dX9_join_40 rfl (by omega) (fun c40 => by exfalso; omega) (fun c40 => ?_)
      refine jj_iconst F dX9_join_43 ?_
      have htt : t_join s q p = 2 := by unfold t_join; (repeat (first | rw [if_pos (by omega)] | rw [if_neg (by omega)]))
      exact jj_iret B dX9_join_44 ⟨Nat.le_of_ble_eq_true rfl, Nat.le_of_ble_eq_true rfl⟩ (⟨_, rfl, (by unfold r_join; first | (refine Eq.trans ?_ (if_pos htt).symm; first | rfl | omega) | (refine Eq.trans ?_ (if_neg (by omega)).symm; rfl)), (by unfold n_join; first | (rw [if_pos htt]; exact hR) | (rw [if_neg (by omega)]; rw [htt]; exact hR) | (rw [htt]; exact hR))⟩)
  · skip
    refine jj_iconst F dX9_join_8 ?_
    refine jj_goto F (tgt := 37) dX9_join_9 rfl ?_
    refine jj_callVi B (k := 0) (n := 0) (k9_goes F.tr hR (show jR 1 by decide)) lk_X9_118 hR.1 cs_9 rfl rfl ⟨Nat.le_of_ble_eq_true rfl, Nat.le_of_ble_eq_true rfl, Nat.le_of_ble_eq_true rfl, Nat.le_of_ble_eq_true rfl, Nat.le_of_ble_eq_true rfl⟩ ⟨Nat.le_of_ble_eq_true rfl, Nat.le_of_ble_eq_true rfl, Nat.le_of_ble_eq_true rfl, Nat.le_of_ble_eq_true rfl⟩ jj_tx0 dX9_join_37 (fun r G h => ?_)
    obtain ⟨rfl, hR⟩ := h
    refine jj_eqi (b := 0) rfl ?_
    refine jj_if_ne F (tgt := 45) dX9_join_40 rfl (by omega) (fun c40 => by exfalso; omega) (fun c40 => ?_)
    refine jj_iconst F dX9_join_43 ?_
    have htt : t_join s q p = 1 := by unfold t_join; (repeat (first | rw [if_pos (by omega)] | rw [if_neg (by omega)]))
    exact jj_iret B dX9_join_44 ⟨Nat.le_of_ble_eq_true rfl, Nat.le_of_ble_eq_true rfl⟩ (⟨_, rfl, (by unfold r_join; first | (refine Eq.trans ?_ (if_pos htt).symm; first | rfl | omega) | (refine Eq.trans ?_ (if_neg (by omega)).symm; rfl)), (by unfold n_join; first | (rw [if_pos htt]; exact hR) | (rw [if_neg (by omega)]; rw [htt]; exact hR) | (rw [htt]; exact hR))⟩)
abbrev rm_X9_file : Room := { frames := 2, cells := 0, slots := 0, locals := 47 }
set_option maxRecDepth 100000 in
set_option maxHeartbeats 4000000 in
theorem k9_file {l : Launch} {D : va_G} {ac : Nat → ClassId} (hl : l.stackTraces = false) {o : Nat} {a : Nat → Nat} {s : Sg} {q : Int} {G : jj_G} (hR : RM (ac 0) o a s G) {c : Int} (hI : sInv s c) (hq : jR q) : jj_C l D ac yX9_file (.code yX9_file cX9_file 4 (some .int)) rm_X9_file [.ref o, .int (jI q)] G (jj_pi (fun r G' => r = r_file s q ∧ RM (ac 0) o a (n_file s q) G')) (jj_nx) := by
  refine jj_ofx (own := RX9) (lv0 := [some (.ref o), some (.int (jI q)), none, none]) hl (by decide +kernel) rfl rfl (Nat.le_of_ble_eq_true rfl) rfl ?_
  intro X B hN hl0 hdg hac hin
  subst hl0; subst hdg; subst hac
  have F := B.F

  obtain ⟨hI1, hI2, hI3, hI4, hI5, hI6, hI7, hc⟩ := hI
  have i0 := hI1.1
  have i3 := hI3.1
  have i5 := hI5.1
  have r13 := hR.rng 13 0
  have r22 := hR.rng 22 0
  have h01 := sOne_01 s q
  have hA01 : sAre s q = 0 ∨ sAre s q = 1 := by unfold sAre; split; exact Or.inr rfl; exact Or.inl rfl
  refine jj_aload0 F dX9_file_0 ?_
  refine jj_aload0 F dX9_file_1 ?_
  refine jj_iload1 F dX9_file_2 ?_
  refine jj_callVr B (k := 0) (n := 0) (k9_areDiscs F.tr hR hq) lk_X9_197 hR.1 cs_9 rfl rfl ⟨Nat.le_of_ble_eq_true rfl, Nat.le_of_ble_eq_true rfl, Nat.le_of_ble_eq_true rfl, Nat.le_of_ble_eq_true rfl, Nat.le_of_ble_eq_true rfl⟩ ⟨Nat.le_of_ble_eq_true rfl, Nat.le_of_ble_eq_true rfl, Nat.le_of_ble_eq_true rfl, Nat.le_of_ble_eq_true rfl⟩ jj_tx0 dX9_file_3 ?_
  refine jj_ifb_ne F (tgt := 13) dX9_file_6 rfl (fun c6 => ?_) (fun c6 => ?_)
  · skip
    have hA : ¬ sAre s q = 0 := by unfold sAre; rw [if_pos c6]; decide
    refine jj_aload0 F dX9_file_13 ?_
    refine jj_iload1 F dX9_file_14 ?_
    refine jj_callVr B (k := 0) (n := 0) (k9_areOfOneSide F.tr hR i5 (fun j hj => by have := hI5.2.2.2.1 j (by omega) hj; omega) (fun j hj => sSideTo_in j (fun i hi => by have := hI5.2.2.2.1 i (by omega) (by omega); omega))) lk_X9_200 hR.1 cs_9 rfl rfl ⟨Nat.le_of_ble_eq_true rfl, Nat.le_of_ble_eq_true rfl, Nat.le_of_ble_eq_true rfl, Nat.le_of_ble_eq_true rfl, Nat.le_of_ble_eq_true rfl⟩ ⟨Nat.le_of_ble_eq_true rfl, Nat.le_of_ble_eq_true rfl, Nat.le_of_ble_eq_true rfl, Nat.le_of_ble_eq_true rfl⟩ jj_tx0 dX9_file_15 ?_
    refine jj_if_eq F (tgt := 25) dX9_file_18 rfl (sOne_r _ _) (fun c18 => ?_) (fun c18 => ?_)
    · skip
      refine jj_iconst F dX9_file_25 ?_
      refine jj_callVi B (k := 0) (n := 0) (k9_goes F.tr hR (show jR 2 by decide)) lk_X9_118 hR.1 cs_9 rfl rfl ⟨Nat.le_of_ble_eq_true rfl, Nat.le_of_ble_eq_true rfl, Nat.le_of_ble_eq_true rfl, Nat.le_of_ble_eq_true rfl, Nat.le_of_ble_eq_true rfl⟩ ⟨Nat.le_of_ble_eq_true rfl, Nat.le_of_ble_eq_true rfl, Nat.le_of_ble_eq_true rfl, Nat.le_of_ble_eq_true rfl⟩ jj_tx0 dX9_file_26 (fun r G h => ?_)
      obtain ⟨rfl, hR⟩ := h
      refine jj_eqi (b := 0) rfl ?_
      refine jj_if_ne F (tgt := 34) dX9_file_29 rfl (by omega) (fun c29 => by exfalso; omega) (fun c29 => ?_)
      refine jj_iconst F dX9_file_32 ?_
      have htt : t_file s q = 2 := by unfold t_file; (repeat (first | rw [if_pos (by omega)] | rw [if_neg (by omega)]))
      exact jj_iret B dX9_file_33 ⟨Nat.le_of_ble_eq_true rfl, Nat.le_of_ble_eq_true rfl⟩ (⟨_, rfl, (by unfold r_file; first | (refine Eq.trans ?_ (if_pos htt).symm; first | rfl | omega) | (refine Eq.trans ?_ (if_neg (by omega)).symm; rfl)), (by unfold n_file; first | (rw [if_pos htt]; exact hR) | (rw [if_neg (by omega)]; rw [htt]; exact hR) | (rw [htt]; exact hR))⟩)
    · skip
      refine jj_iconst F dX9_file_21 ?_
      refine jj_goto F (tgt := 26) dX9_file_22 rfl ?_
      refine jj_callVi B (k := 0) (n := 0) (k9_goes F.tr hR (show jR 0 by decide)) lk_X9_118 hR.1 cs_9 rfl rfl ⟨Nat.le_of_ble_eq_true rfl, Nat.le_of_ble_eq_true rfl, Nat.le_of_ble_eq_true rfl, Nat.le_of_ble_eq_true rfl, Nat.le_of_ble_eq_true rfl⟩ ⟨Nat.le_of_ble_eq_true rfl, Nat.le_of_ble_eq_true rfl, Nat.le_of_ble_eq_true rfl, Nat.le_of_ble_eq_true rfl⟩ jj_tx0 dX9_file_26 (fun r G h => ?_)
      obtain ⟨rfl, hR⟩ := h
      refine jj_eqi (b := 1) rfl ?_
      refine jj_if_ne F (tgt := 34) dX9_file_29 rfl (by omega) (fun c29 => ?_) (fun c29 => by exfalso; omega)
      refine jj_iconst F dX9_file_34 ?_
      refine jj_istore2 F dX9_file_35 (hN _ (by decide)) rfl ?_
      refine jj_iconst F dX9_file_36 ?_
      refine jj_istore3 F dX9_file_37 (hN _ (by decide)) rfl ?_
      have htt : t_file s q = 0 := by unfold t_file; rw [if_neg hA, if_neg (by omega)]
      have hji : ∀ p : Int, 0 ≤ sJoin s q p ∧ sJoin s q p < s 22 0 := fun p => sJoin_in hq hA i5
      have hno : ∀ p : Int, 0 ≤ p → p < 8 → 0 ≤ sNoise s (sJoin s q p) p ∧ sNoise s (sJoin s q p) p ≤ 100000 := fun p h1 h2 => sNoise_in hI5 hc (by have := hji p; omega) ⟨h1, h2⟩
      have loop : ∀ (n j : Nat) (G : jj_G), n + j = 8 → RM (jj_ac X 0) o a (sFileTo s q j) G → jj_J X G 0 0 38 [some (.ref o), some (.int (jI q)), some (.int (jI (sFileN s q j))), some (.int (jI j))] [] := by
        intro n
        induction n with
        | zero =>
          intro j G hj hR
          have e1 : (j : Int) = 8 := by omega
          refine jj_iload3 F dX9_file_38 ?_
          refine jj_bipush F (by decide) dX9_file_39 ?_
          refine jj_icmp_ge F (tgt := 76) dX9_file_41 rfl (by omega) (fun c41 => ?_) (fun c41 => by exfalso; omega)
          refine jj_aload0 F dX9_file_76 ?_
          refine jj_iconst F dX9_file_77 ?_
          refine m9_put F hR fd_X9_206 rfl (by omega) (by decide) rfl (by first | rfl | decide) (by first | rfl | decide) dX9_file_78 (fun G hR => ?_)
          refine jj_aload0 F dX9_file_81 ?_
          refine jj_iconst F dX9_file_82 ?_
          refine m9_put F hR fd_X9_210 rfl (by omega) (by decide) rfl (by first | rfl | decide) (by first | rfl | decide) dX9_file_83 (fun G hR => ?_)
          refine jj_iload2 F dX9_file_86 ?_
          exact jj_iret B dX9_file_87 ⟨Nat.le_of_ble_eq_true rfl, Nat.le_of_ble_eq_true rfl⟩ (⟨_, rfl, (by unfold r_file; refine Eq.trans ?_ (if_pos htt).symm; rw [show (8 : Nat) = j by omega]), (by unfold n_file; rw [if_pos htt, show (8 : Nat) = j by omega]; exact hR)⟩)
        | succ n ih =>
          intro j G hj hR
          have e1 : (j : Int) < 8 := by omega
          refine jj_iload3 F dX9_file_38 ?_
          refine jj_bipush F (by decide) dX9_file_39 ?_
          refine jj_icmp_ge F (tgt := 76) dX9_file_41 rfl (by omega) (fun c41 => by exfalso; omega) (fun c41 => ?_)
          refine jj_aload0 F dX9_file_44 ?_
          refine m9_get F hR fd_X9_73 (by decide) rfl dX9_file_45 ?_
          refine jj_iload3 F dX9_file_48 ?_
          refine jj_aload0 F dX9_file_49 ?_
          refine jj_aload0 F dX9_file_50 ?_
          refine jj_iload1 F dX9_file_51 ?_
          refine jj_iload3 F dX9_file_52 ?_
          refine jj_callVr B (k := 0) (n := 0) (k9_joinOf F.tr hR (by rw [sFileTo_n (by decide)]; exact i5) (by omega) (fun d hd => by rw [sFileTo_n (by decide)]; have := hI5.2.1 d hd.1 hd.2; omega) (fun d hd => by rw [sNoise_c (sFileTo_n (by decide) j) (sFileTo_n (by decide) j)]; have := sNoise_in hI5 hc hd (p := (j : Int)) (by omega); omega)) lk_X9_203 hR.1 cs_9 rfl rfl ⟨Nat.le_of_ble_eq_true rfl, Nat.le_of_ble_eq_true rfl, Nat.le_of_ble_eq_true rfl, Nat.le_of_ble_eq_true rfl, Nat.le_of_ble_eq_true rfl⟩ ⟨Nat.le_of_ble_eq_true rfl, Nat.le_of_ble_eq_true rfl, Nat.le_of_ble_eq_true rfl, Nat.le_of_ble_eq_true rfl⟩ jj_tx0 dX9_file_53 ?_
          refine jj_eqi (sJoin_c (s := s) (sFileTo_n (by decide) j) (sFileTo_n (by decide) j) (sFileTo_n (by decide) j) (sFileTo_n (by decide) j)) ?_
          refine jj_iload3 F dX9_file_56 ?_
          refine jj_callVr B (k := 0) (n := 0) (k9_noiseOf F.tr hR (by have := hji j; omega) (by omega) (by rw [sFileTo_n (by decide)]; have := hI5.2.1 (sJoin s q j) (by have := hji j; omega) (by have := hji j; omega); omega)) lk_X9_194 hR.1 cs_9 rfl rfl ⟨Nat.le_of_ble_eq_true rfl, Nat.le_of_ble_eq_true rfl, Nat.le_of_ble_eq_true rfl, Nat.le_of_ble_eq_true rfl, Nat.le_of_ble_eq_true rfl⟩ ⟨Nat.le_of_ble_eq_true rfl, Nat.le_of_ble_eq_true rfl, Nat.le_of_ble_eq_true rfl, Nat.le_of_ble_eq_true rfl⟩ jj_tx0 dX9_file_57 ?_
          refine jj_eqi (congrFun (congrFun (sNoise_c (s := s) (sFileTo_n (by decide) j) (sFileTo_n (by decide) j)) _) _) ?_
          refine m9_ast F hR (n := 8) rfl (by omega) (by decide) (by have := hno j (by omega) (by omega); omega) dX9_file_60 (fun G hR => ?_)
          refine jj_iload2 F dX9_file_61 ?_
          refine jj_aload0 F dX9_file_62 ?_
          refine m9_get F hR fd_X9_73 (by decide) rfl dX9_file_63 ?_
          refine jj_iload3 F dX9_file_66 ?_
          refine m9_ald F hR (n := 8) rfl (by omega) (by decide) dX9_file_67 (fun r_67 => ?_)
          refine jj_eqi (b := sNoise s (sJoin s q j) j) sU_s ?_
          refine jj_iadd F dX9_file_68 ?_
          refine jj_istore2 F dX9_file_69 (hN _ (by decide)) rfl ?_
          refine jj_iinc3 F dX9_file_70 (hN _ (by decide)) rfl ?_
          refine jj_goto F (tgt := 38) dX9_file_73 rfl ?_
          have ih1 := ih (j + 1) G (by omega) hR
          rw [show (((j + 1 : Nat)) : Int) = (j : Int) + 1 from rfl] at ih1
          exact ih1
      exact loop 8 0 G (by omega) hR
  · skip
    have hA : sAre s q = 0 := by unfold sAre; rw [if_neg c6]
    refine jj_iconst F dX9_file_9 ?_
    refine jj_goto F (tgt := 26) dX9_file_10 rfl ?_
    refine jj_callVi B (k := 0) (n := 0) (k9_goes F.tr hR (show jR 1 by decide)) lk_X9_118 hR.1 cs_9 rfl rfl ⟨Nat.le_of_ble_eq_true rfl, Nat.le_of_ble_eq_true rfl, Nat.le_of_ble_eq_true rfl, Nat.le_of_ble_eq_true rfl, Nat.le_of_ble_eq_true rfl⟩ ⟨Nat.le_of_ble_eq_true rfl, Nat.le_of_ble_eq_true rfl, Nat.le_of_ble_eq_true rfl, Nat.le_of_ble_eq_true rfl⟩ jj_tx0 dX9_file_26 (fun r G h => ?_)
    obtain ⟨rfl, hR⟩ := h
    refine jj_eqi (b := 0) rfl ?_
    refine jj_if_ne F (tgt := 34) dX9_file_29 rfl (by omega) (fun c29 => by exfalso; omega) (fun c29 => ?_)
    refine jj_iconst F dX9_file_32 ?_
    have htt : t_file s q = 1 := by unfold t_file; (repeat (first | rw [if_pos (by omega)] | rw [if_neg (by omega)]))
    exact jj_iret B dX9_file_33 ⟨Nat.le_of_ble_eq_true rfl, Nat.le_of_ble_eq_true rfl⟩ (⟨_, rfl, (by unfold r_file; first | (refine Eq.trans ?_ (if_pos htt).symm; first | rfl | omega) | (refine Eq.trans ?_ (if_neg (by omega)).symm; rfl)), (by unfold n_file; first | (rw [if_pos htt]; exact hR) | (rw [if_neg (by omega)]; rw [htt]; exact hR) | (rw [htt]; exact hR))⟩)
abbrev rm_X9_isLost : Room := { frames := 2, cells := 0, slots := 0, locals := 43 }
set_option maxRecDepth 100000 in
set_option maxHeartbeats 4000000 in
theorem k9_isLost {l : Launch} {D : va_G} {ac : Nat → ClassId} (hl : l.stackTraces = false) {o : Nat} {a : Nat → Nat} {s : Sg} {x : Int} {G : jj_G} (hR : RM (ac 0) o a s G) {c : Int} (hI : sInv s c) (hx : jR x) : jj_C l D ac yX9_isLost (.code yX9_isLost cX9_isLost 4 (some .boolean)) rm_X9_isLost [.ref o, .int (jI x)] G (jj_pi (fun r G' => r = r_isLost s x ∧ RM (ac 0) o a (n_isLost s x) G')) (jj_nx) := by
  refine jj_ofx (own := RX9) (lv0 := [some (.ref o), some (.int (jI x)), none, none]) hl (by decide +kernel) rfl rfl (Nat.le_of_ble_eq_true rfl) rfl ?_
  intro X B hN hl0 hdg hac hin
  subst hl0; subst hdg; subst hac
  have F := B.F

  obtain ⟨hI1, hI2, hI3, hI4, hI5, hI6, hI7, hc⟩ := hI
  have i0 := hI1.1
  have i1 := hI1.2.1
  have r1 := hR.rng 1 0
  have r13 := hR.rng 13 0
  have i3 := hI3.1
  refine jj_aload0 F dX9_isLost_0 ?_
  refine jj_aload0 F dX9_isLost_1 ?_
  refine jj_iload1 F dX9_isLost_2 ?_
  refine jj_callVr B (k := 0) (n := 0) (k9_isTape F.tr hR (by omega) (by omega)) lk_X9_129 hR.1 cs_9 rfl rfl ⟨Nat.le_of_ble_eq_true rfl, Nat.le_of_ble_eq_true rfl, Nat.le_of_ble_eq_true rfl, Nat.le_of_ble_eq_true rfl, Nat.le_of_ble_eq_true rfl⟩ ⟨Nat.le_of_ble_eq_true rfl, Nat.le_of_ble_eq_true rfl, Nat.le_of_ble_eq_true rfl, Nat.le_of_ble_eq_true rfl⟩ jj_tx0 dX9_isLost_3 ?_
  refine jj_ifb_eq F (tgt := 23) dX9_isLost_6 rfl (fun c6 => ?_) (fun c6 => ?_)
  · skip
    refine jj_iconst F dX9_isLost_23 ?_
    refine jj_callVi B (k := 0) (n := 0) (k9_goes F.tr hR (show jR 1 by decide)) lk_X9_118 hR.1 cs_9 rfl rfl ⟨Nat.le_of_ble_eq_true rfl, Nat.le_of_ble_eq_true rfl, Nat.le_of_ble_eq_true rfl, Nat.le_of_ble_eq_true rfl, Nat.le_of_ble_eq_true rfl⟩ ⟨Nat.le_of_ble_eq_true rfl, Nat.le_of_ble_eq_true rfl, Nat.le_of_ble_eq_true rfl, Nat.le_of_ble_eq_true rfl⟩ jj_tx0 dX9_isLost_24 (fun r G h => ?_)
    obtain ⟨rfl, hR⟩ := h
    refine jj_eqi (b := 0) rfl ?_
    refine jj_if_ne F (tgt := 32) dX9_isLost_27 rfl (by omega) (fun c27 => by exfalso; omega) (fun c27 => ?_)
    refine jj_iconst F dX9_isLost_30 ?_
    have htt : t_isLost s x = 1 := by unfold t_isLost; (repeat (first | rw [if_pos (by omega)] | rw [if_neg (by omega)]))
    exact jj_zret B dX9_isLost_31 ⟨Nat.le_of_ble_eq_true rfl, Nat.le_of_ble_eq_true rfl⟩ (by omega) (⟨_, rfl, (by unfold r_isLost; first | (refine Eq.trans ?_ (if_pos htt).symm; first | rfl | omega) | (refine Eq.trans ?_ (if_neg (by omega)).symm; rfl)), (by unfold n_isLost; first | (rw [if_pos htt]; exact hR) | (rw [if_neg (by omega)]; rw [htt]; exact hR) | (rw [htt]; exact hR))⟩)
  · skip
    refine jj_aload0 F dX9_isLost_9 ?_
    refine m9_get F hR fd_X9_22 (by decide) rfl dX9_isLost_10 ?_
    refine jj_iload1 F dX9_isLost_13 ?_
    refine m9_ald F hR (n := 30) rfl (by omega) (by decide) dX9_isLost_14 (fun r_14 => ?_)
    refine jj_iconst F dX9_isLost_15 ?_
    refine jj_icmp_eq F (tgt := 23) dX9_isLost_16 rfl (by omega) (fun c16 => ?_) (fun c16 => ?_)
    · skip
      refine jj_iconst F dX9_isLost_23 ?_
      refine jj_callVi B (k := 0) (n := 0) (k9_goes F.tr hR (show jR 1 by decide)) lk_X9_118 hR.1 cs_9 rfl rfl ⟨Nat.le_of_ble_eq_true rfl, Nat.le_of_ble_eq_true rfl, Nat.le_of_ble_eq_true rfl, Nat.le_of_ble_eq_true rfl, Nat.le_of_ble_eq_true rfl⟩ ⟨Nat.le_of_ble_eq_true rfl, Nat.le_of_ble_eq_true rfl, Nat.le_of_ble_eq_true rfl, Nat.le_of_ble_eq_true rfl⟩ jj_tx0 dX9_isLost_24 (fun r G h => ?_)
      obtain ⟨rfl, hR⟩ := h
      refine jj_eqi (b := 0) rfl ?_
      refine jj_if_ne F (tgt := 32) dX9_isLost_27 rfl (by omega) (fun c27 => by exfalso; omega) (fun c27 => ?_)
      refine jj_iconst F dX9_isLost_30 ?_
      have htt : t_isLost s x = 1 := by unfold t_isLost; (repeat (first | rw [if_pos (by omega)] | rw [if_neg (by omega)]))
      exact jj_zret B dX9_isLost_31 ⟨Nat.le_of_ble_eq_true rfl, Nat.le_of_ble_eq_true rfl⟩ (by omega) (⟨_, rfl, (by unfold r_isLost; first | (refine Eq.trans ?_ (if_pos htt).symm; first | rfl | omega) | (refine Eq.trans ?_ (if_neg (by omega)).symm; rfl)), (by unfold n_isLost; first | (rw [if_pos htt]; exact hR) | (rw [if_neg (by omega)]; rw [htt]; exact hR) | (rw [htt]; exact hR))⟩)
    · skip
      refine jj_iconst F dX9_isLost_19 ?_
      refine jj_goto F (tgt := 24) dX9_isLost_20 rfl ?_
      refine jj_callVi B (k := 0) (n := 0) (k9_goes F.tr hR (show jR 0 by decide)) lk_X9_118 hR.1 cs_9 rfl rfl ⟨Nat.le_of_ble_eq_true rfl, Nat.le_of_ble_eq_true rfl, Nat.le_of_ble_eq_true rfl, Nat.le_of_ble_eq_true rfl, Nat.le_of_ble_eq_true rfl⟩ ⟨Nat.le_of_ble_eq_true rfl, Nat.le_of_ble_eq_true rfl, Nat.le_of_ble_eq_true rfl, Nat.le_of_ble_eq_true rfl⟩ jj_tx0 dX9_isLost_24 (fun r G h => ?_)
      obtain ⟨rfl, hR⟩ := h
      refine jj_eqi (b := 1) rfl ?_
      refine jj_if_ne F (tgt := 32) dX9_isLost_27 rfl (by omega) (fun c27 => ?_) (fun c27 => by exfalso; omega)
      refine jj_iconst F dX9_isLost_32 ?_
      refine jj_istore2 F dX9_isLost_33 (hN _ (by decide)) rfl ?_
      refine jj_iconst F dX9_isLost_34 ?_
      refine jj_istore3 F dX9_isLost_35 (hN _ (by decide)) rfl ?_
      have htt : t_isLost s x = 0 := by unfold t_isLost; rw [if_pos (by omega)]
      have loop : ∀ (n j : Nat), n + j = (s 1 0).toNat → jj_J X G 0 0 36 [some (.ref o), some (.int (jI x)), some (.int (jI (sKeptT s x j))), some (.int (jI j))] [] := by
        intro n
        induction n with
        | zero =>
          intro j hj
          have e1 : (j : Int) = s 1 0 := by omega
          refine jj_iload3 F dX9_isLost_36 ?_
          refine jj_aload0 F dX9_isLost_37 ?_
          refine m9_get F hR fd_X9_101 (by decide) rfl dX9_isLost_38 ?_
          refine jj_eqi (b := s 1 0) rfl ?_
          refine jj_icmp_ge F (tgt := 83) dX9_isLost_41 rfl (by omega) (fun c41 => ?_) (fun c41 => by exfalso; omega)
          refine jj_iconst F dX9_isLost_83 ?_
          refine jj_istore3 F dX9_isLost_84 (hN _ (by decide)) rfl ?_
          have eT : (s 1 0).toNat = j := by omega
          obtain ⟨b, hbe⟩ : ∃ b, b = sKeptT s x (s 1 0).toNat := ⟨_, rfl⟩
          have hb01 : b = 0 ∨ b = 1 := by rw [hbe]; exact sKeptT_01 s x _
          rw [← eT, ← hbe]
          have loop2 : ∀ (n k : Nat), n + k = (12 * s 13 0).toNat → jj_J X G 0 0 85 [some (.ref o), some (.int (jI x)), some (.int (jI (sKeptS s x b k))), some (.int (jI k))] [] := by
            intro n
            induction n with
            | zero =>
              intro k hk
              have e1 : (k : Int) = 12 * s 13 0 := by omega
              have e5 := sKeptS_01 s x b hb01 k
              refine jj_iload3 F dX9_isLost_85 ?_
              refine jj_bipush F (by decide) dX9_isLost_86 ?_
              refine jj_aload0 F dX9_isLost_88 ?_
              refine m9_get F hR fd_X9_149 (by decide) rfl dX9_isLost_89 ?_
              refine jj_eqi (b := s 13 0) rfl ?_
              refine jj_imul F dX9_isLost_92 ?_
              refine jj_icmp_ge F (tgt := 144) dX9_isLost_93 rfl (by omega) (fun c93 => ?_) (fun c93 => by exfalso; omega)
              refine jj_iload2 F dX9_isLost_144 ?_
              refine jj_if_ne F (tgt := 152) dX9_isLost_145 rfl (by have := sKeptS_01 s x b hb01 k; omega) (fun c145 => ?_) (fun c145 => ?_)
              · skip
                refine jj_iconst F dX9_isLost_152 ?_
                exact jj_zret B dX9_isLost_153 ⟨Nat.le_of_ble_eq_true rfl, Nat.le_of_ble_eq_true rfl⟩ (by omega) (⟨_, rfl, (by unfold r_isLost; refine Eq.trans ?_ (if_pos htt).symm; rw [show (12 * s 13 0).toNat = k by omega, ← hbe]; first | rw [if_pos (by omega)] | rw [if_neg (by omega)]), (by unfold n_isLost; rw [htt]; exact hR)⟩)
              · skip
                refine jj_iconst F dX9_isLost_148 ?_
                refine jj_goto F (tgt := 153) dX9_isLost_149 rfl ?_
                exact jj_zret B dX9_isLost_153 ⟨Nat.le_of_ble_eq_true rfl, Nat.le_of_ble_eq_true rfl⟩ (by omega) (⟨_, rfl, (by unfold r_isLost; refine Eq.trans ?_ (if_pos htt).symm; rw [show (12 * s 13 0).toNat = k by omega, ← hbe]; first | rw [if_pos (by omega)] | rw [if_neg (by omega)]), (by unfold n_isLost; rw [htt]; exact hR)⟩)
            | succ n ih =>
              intro k hk
              have e1 : (k : Int) < 12 * s 13 0 := by omega
              refine jj_iload3 F dX9_isLost_85 ?_
              refine jj_bipush F (by decide) dX9_isLost_86 ?_
              refine jj_aload0 F dX9_isLost_88 ?_
              refine m9_get F hR fd_X9_149 (by decide) rfl dX9_isLost_89 ?_
              refine jj_eqi (b := s 13 0) rfl ?_
              refine jj_imul F dX9_isLost_92 ?_
              refine jj_icmp_ge F (tgt := 144) dX9_isLost_93 rfl (by omega) (fun c93 => by exfalso; omega) (fun c93 => ?_)
              refine jj_iload2 F dX9_isLost_96 ?_
              refine jj_if_ne F (tgt := 132) dX9_isLost_97 rfl (by have := sKeptS_01 s x b hb01 k; omega) (fun c97 => ?_) (fun c97 => ?_)
              · skip
                refine jj_iconst F dX9_isLost_132 ?_
                refine jj_goto F (tgt := 137) dX9_isLost_133 rfl ?_
                refine jj_istore2 F dX9_isLost_137 (hN _ (by decide)) rfl ?_
                refine jj_iinc3 F dX9_isLost_138 (hN _ (by decide)) rfl ?_
                refine jj_goto F (tgt := 85) dX9_isLost_141 rfl ?_
                have ih1 := ih (k + 1) (by omega)
                rw [show (((k + 1 : Nat)) : Int) = (k : Int) + 1 from rfl] at ih1
                simp only [sKeptS] at ih1
                have e5 := sKeptS_01 s x b hb01 k
                rw [if_neg (by omega)] at ih1
                exact ih1
              · skip
                refine jj_aload0 F dX9_isLost_100 ?_
                refine m9_get F hR fd_X9_52 (by decide) rfl dX9_isLost_101 ?_
                refine jj_iload3 F dX9_isLost_104 ?_
                refine m9_ald F hR (n := 120) rfl (by omega) (by decide) dX9_isLost_105 (fun r_105 => ?_)
                refine jj_eqi (b := s 18 _) rfl ?_
                have r_105 : jR (s 18 _) := r_105
                refine jj_aload0 F dX9_isLost_106 ?_
                refine m9_get F hR fd_X9_55 (by decide) rfl dX9_isLost_107 ?_
                refine jj_iload3 F dX9_isLost_110 ?_
                refine m9_ald F hR (n := 120) rfl (by omega) (by decide) dX9_isLost_111 (fun r_111 => ?_)
                refine jj_eqi (b := s 19 _) rfl ?_
                have r_111 : jR (s 19 _) := r_111
                refine jj_icmp_le F (tgt := 136) dX9_isLost_112 rfl (by omega) (fun c112 => ?_) (fun c112 => ?_)
                · skip
                  refine jj_iconst F dX9_isLost_136 ?_
                  refine jj_istore2 F dX9_isLost_137 (hN _ (by decide)) rfl ?_
                  refine jj_iinc3 F dX9_isLost_138 (hN _ (by decide)) rfl ?_
                  refine jj_goto F (tgt := 85) dX9_isLost_141 rfl ?_
                  have ih1 := ih (k + 1) (by omega)
                  rw [show (((k + 1 : Nat)) : Int) = (k : Int) + 1 from rfl] at ih1
                  simp only [sKeptS] at ih1
                  have e5 := sKeptS_01 s x b hb01 k
                  rw [if_pos (by omega), if_neg (fun h => by omega)] at ih1
                  exact ih1
                · skip
                  refine jj_aload0 F dX9_isLost_115 ?_
                  refine m9_get F hR fd_X9_43 (by decide) rfl dX9_isLost_116 ?_
                  refine jj_iload3 F dX9_isLost_119 ?_
                  refine jj_bipush F (by decide) dX9_isLost_120 ?_
                  refine jj_idiv F (by omega) dX9_isLost_122 ?_
                  refine m9_ald F hR (n := 10) rfl (by omega) (by decide) dX9_isLost_123 (fun r_123 => ?_)
                  refine jj_eqi (b := s 15 _) rfl ?_
                  have r_123 : jR (s 15 _) := r_123
                  refine jj_iload1 F dX9_isLost_124 ?_
                  refine jj_ishr F dX9_isLost_125 ?_
                  refine jj_iconst F dX9_isLost_126 ?_
                  refine jj_iand F dX9_isLost_127 ?_
                  refine jj_iconst F dX9_isLost_128 ?_
                  refine jj_icmpx_ne F (tgt := 136) dX9_isLost_129 rfl (fun c129 => ?_) (fun c129 => ?_)
                  · skip
                    have hH := sHas_0 c129
                    refine jj_iconst F dX9_isLost_136 ?_
                    refine jj_istore2 F dX9_isLost_137 (hN _ (by decide)) rfl ?_
                    refine jj_iinc3 F dX9_isLost_138 (hN _ (by decide)) rfl ?_
                    refine jj_goto F (tgt := 85) dX9_isLost_141 rfl ?_
                    have ih1 := ih (k + 1) (by omega)
                    rw [show (((k + 1 : Nat)) : Int) = (k : Int) + 1 from rfl] at ih1
                    simp only [sKeptS] at ih1
                    have e5 := sKeptS_01 s x b hb01 k
                    rw [if_pos (by omega), if_neg (fun h => by omega)] at ih1
                    exact ih1
                  · skip
                    have hH := sHas_1 c129
                    refine jj_iconst F dX9_isLost_132 ?_
                    refine jj_goto F (tgt := 137) dX9_isLost_133 rfl ?_
                    refine jj_istore2 F dX9_isLost_137 (hN _ (by decide)) rfl ?_
                    refine jj_iinc3 F dX9_isLost_138 (hN _ (by decide)) rfl ?_
                    refine jj_goto F (tgt := 85) dX9_isLost_141 rfl ?_
                    have ih1 := ih (k + 1) (by omega)
                    rw [show (((k + 1 : Nat)) : Int) = (k : Int) + 1 from rfl] at ih1
                    simp only [sKeptS] at ih1
                    have e5 := sKeptS_01 s x b hb01 k
                    rw [if_pos (by omega), if_pos ⟨by omega, hH⟩] at ih1
                    exact ih1
          exact loop2 (12 * s 13 0).toNat 0 (by omega)
        | succ n ih =>
          intro j hj
          have e1 : (j : Int) < s 1 0 := by omega
          refine jj_iload3 F dX9_isLost_36 ?_
          refine jj_aload0 F dX9_isLost_37 ?_
          refine m9_get F hR fd_X9_101 (by decide) rfl dX9_isLost_38 ?_
          refine jj_eqi (b := s 1 0) rfl ?_
          refine jj_icmp_ge F (tgt := 83) dX9_isLost_41 rfl (by omega) (fun c41 => by exfalso; omega) (fun c41 => ?_)
          refine jj_iload2 F dX9_isLost_44 ?_
          refine jj_if_ne F (tgt := 71) dX9_isLost_45 rfl (by have := sKeptT_01 s x j; omega) (fun c45 => ?_) (fun c45 => ?_)
          · skip
            refine jj_iconst F dX9_isLost_71 ?_
            refine jj_goto F (tgt := 76) dX9_isLost_72 rfl ?_
            refine jj_istore2 F dX9_isLost_76 (hN _ (by decide)) rfl ?_
            refine jj_iinc3 F dX9_isLost_77 (hN _ (by decide)) rfl ?_
            refine jj_goto F (tgt := 36) dX9_isLost_80 rfl ?_
            have ih1 := ih (j + 1) (by omega)
            rw [show (((j + 1 : Nat)) : Int) = (j : Int) + 1 from rfl] at ih1
            simp only [sKeptT] at ih1
            have e5 := sKeptT_01 s x j
            rw [if_neg (by omega)] at ih1
            exact ih1
          · skip
            refine jj_aload0 F dX9_isLost_48 ?_
            refine m9_get F hR fd_X9_7 (by decide) rfl dX9_isLost_49 ?_
            refine jj_iload3 F dX9_isLost_52 ?_
            refine m9_ald F hR (n := 30) rfl (by omega) (by decide) dX9_isLost_53 (fun r_53 => ?_)
            refine jj_eqi (b := s 2 _) rfl ?_
            have r_53 : jR (s 2 _) := r_53
            refine jj_iconst F dX9_isLost_54 ?_
            refine jj_icmp_eq F (tgt := 75) dX9_isLost_55 rfl (by omega) (fun c55 => ?_) (fun c55 => ?_)
            · skip
              refine jj_iconst F dX9_isLost_75 ?_
              refine jj_istore2 F dX9_isLost_76 (hN _ (by decide)) rfl ?_
              refine jj_iinc3 F dX9_isLost_77 (hN _ (by decide)) rfl ?_
              refine jj_goto F (tgt := 36) dX9_isLost_80 rfl ?_
              have ih1 := ih (j + 1) (by omega)
              rw [show (((j + 1 : Nat)) : Int) = (j : Int) + 1 from rfl] at ih1
              simp only [sKeptT] at ih1
              have e5 := sKeptT_01 s x j
              rw [if_pos (by omega), if_neg (fun h => by omega)] at ih1
              exact ih1
            · skip
              refine jj_aload0 F dX9_isLost_58 ?_
              refine jj_iload3 F dX9_isLost_59 ?_
              refine jj_callVr B (k := 0) (n := 0) (k9_takesOf F.tr hR (by omega) (show 0 ≤ s 7 j ∧ s 7 j ≤ 20 by have := (hI1.2.2.1 j (by omega) (by omega)).2.2.2.2.2; omega)) lk_X9_146 hR.1 cs_9 rfl rfl ⟨Nat.le_of_ble_eq_true rfl, Nat.le_of_ble_eq_true rfl, Nat.le_of_ble_eq_true rfl, Nat.le_of_ble_eq_true rfl, Nat.le_of_ble_eq_true rfl⟩ ⟨Nat.le_of_ble_eq_true rfl, Nat.le_of_ble_eq_true rfl, Nat.le_of_ble_eq_true rfl, Nat.le_of_ble_eq_true rfl⟩ jj_tx0 dX9_isLost_60 ?_
              refine jj_eqi (congrFun (sTakes_c (s := s) (by rfl) (by rfl)) _) ?_
              refine jj_iload1 F dX9_isLost_63 ?_
              refine jj_ishr F dX9_isLost_64 ?_
              refine jj_iconst F dX9_isLost_65 ?_
              refine jj_iand F dX9_isLost_66 ?_
              refine jj_iconst F dX9_isLost_67 ?_
              refine jj_icmpx_ne F (tgt := 75) dX9_isLost_68 rfl (fun c68 => ?_) (fun c68 => ?_)
              · skip
                have hH := sHas_0 c68
                refine jj_iconst F dX9_isLost_75 ?_
                refine jj_istore2 F dX9_isLost_76 (hN _ (by decide)) rfl ?_
                refine jj_iinc3 F dX9_isLost_77 (hN _ (by decide)) rfl ?_
                refine jj_goto F (tgt := 36) dX9_isLost_80 rfl ?_
                have ih1 := ih (j + 1) (by omega)
                rw [show (((j + 1 : Nat)) : Int) = (j : Int) + 1 from rfl] at ih1
                simp only [sKeptT] at ih1
                have e5 := sKeptT_01 s x j
                rw [if_pos (by omega), if_neg (fun h => by omega)] at ih1
                exact ih1
              · skip
                have hH := sHas_1 c68
                refine jj_iconst F dX9_isLost_71 ?_
                refine jj_goto F (tgt := 76) dX9_isLost_72 rfl ?_
                refine jj_istore2 F dX9_isLost_76 (hN _ (by decide)) rfl ?_
                refine jj_iinc3 F dX9_isLost_77 (hN _ (by decide)) rfl ?_
                refine jj_goto F (tgt := 36) dX9_isLost_80 rfl ?_
                have ih1 := ih (j + 1) (by omega)
                rw [show (((j + 1 : Nat)) : Int) = (j : Int) + 1 from rfl] at ih1
                simp only [sKeptT] at ih1
                have e5 := sKeptT_01 s x j
                rw [if_pos (by omega), if_pos ⟨by omega, hH⟩] at ih1
                exact ih1
      exact loop (s 1 0).toNat 0 (by omega)
