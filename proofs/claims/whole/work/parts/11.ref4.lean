abbrev rm_X9_clear : Room := { frames := 0, cells := 0, slots := 0, locals := 0 }
set_option maxRecDepth 100000 in
set_option maxHeartbeats 4000000 in
theorem k9_clear {l : Launch} {D : va_G} {ac : Nat → ClassId} (hl : l.stackTraces = false) {o : Nat} {a : Nat → Nat} {s : Sg}  {G : jj_G} (hR : RM (ac 0) o a s G)  : jj_C l D ac yX9_clear (.code yX9_clear cX9_clear 2 (some .int)) rm_X9_clear [.ref o] G (jj_pi (fun r G' => r = s 11 0 ∧ RM (ac 0) o a (n_clear s) G')) (jj_nx) := by
  refine jj_ofx (own := RX9) (lv0 := [some (.ref o), none]) hl (by decide +kernel) rfl rfl (Nat.le_of_ble_eq_true rfl) rfl ?_
  intro X B hN hl0 hdg hac hin
  subst hl0; subst hdg; subst hac
  have F := B.F

  refine jj_aload0 F dX9_clear_0 ?_
  refine jj_iconst F dX9_clear_1 ?_
  refine m9_put F hR fd_X9_97 rfl (by omega) (by decide) rfl (by first | rfl | decide) (by first | rfl | decide) dX9_clear_2 (fun G hR => ?_)
  refine jj_aload0 F dX9_clear_5 ?_
  refine m9_get F hR fd_X9_152 (by decide) rfl dX9_clear_6 ?_
  refine jj_eqi (b := s 11 0) rfl ?_
  refine jj_istore1 F dX9_clear_9 (hN _ (by decide)) rfl ?_
  refine jj_aload0 F dX9_clear_10 ?_
  refine jj_iconst F dX9_clear_11 ?_
  refine m9_put F hR fd_X9_152 rfl (by omega) (by decide) rfl (by first | rfl | decide) (by first | rfl | decide) dX9_clear_12 (fun G hR => ?_)
  refine jj_iload1 F dX9_clear_15 ?_
  exact jj_iret B dX9_clear_16 ⟨Nat.le_of_ble_eq_true rfl, Nat.le_of_ble_eq_true rfl⟩ (⟨_, rfl, rfl, hR⟩)
abbrev rm_X9_fire : Room := { frames := 2, cells := 0, slots := 0, locals := 42 }
set_option maxRecDepth 100000 in
set_option maxHeartbeats 4000000 in
theorem k9_fire {l : Launch} {D : va_G} {ac : Nat → ClassId} (hl : l.stackTraces = false) {o : Nat} {a : Nat → Nat} {s : Sg} {v : Int} {G : jj_G} (hR : RM (ac 0) o a s G) {c : Int} (hI : sInv s c) (hv : jR v) : jj_C l D ac yX9_fire (.code yX9_fire cX9_fire 4 (some .int)) rm_X9_fire [.ref o, .int (jI v)] G (jj_pi (fun r G' => r = r_fire s v ∧ RM (ac 0) o a (n_fire s v) G')) (jj_nx) := by
  refine jj_ofx (own := RX9) (lv0 := [some (.ref o), some (.int (jI v)), none, none]) hl (by decide +kernel) rfl rfl (Nat.le_of_ble_eq_true rfl) rfl ?_
  intro X B hN hl0 hdg hac hin
  subst hl0; subst hdg; subst hac
  have F := B.F

  obtain ⟨hI1, hI2, hI3, hI4, hI5, hI6, hI7, hc⟩ := hI
  have i0 := hI1.1
  have i1 := hI1.2.1
  have r1 := hR.rng 1 0
  refine jj_aload0 F dX9_fire_0 ?_
  refine jj_iload1 F dX9_fire_1 ?_
  refine jj_callSr B (k := 0) (n := 0) (k9_isVault F.tr (by omega)) lk_X9_115 rfl ⟨Nat.le_of_ble_eq_true rfl, Nat.le_of_ble_eq_true rfl, Nat.le_of_ble_eq_true rfl, Nat.le_of_ble_eq_true rfl, Nat.le_of_ble_eq_true rfl⟩ ⟨Nat.le_of_ble_eq_true rfl, Nat.le_of_ble_eq_true rfl, Nat.le_of_ble_eq_true rfl, Nat.le_of_ble_eq_true rfl⟩ jj_tx0 dX9_fire_2 ?_
  refine jj_ifb_eq F (tgt := 12) dX9_fire_5 rfl (fun c5 => ?_) (fun c5 => ?_)
  · skip
    refine jj_iconst F dX9_fire_12 ?_
    refine jj_callVi B (k := 0) (n := 0) (k9_goes F.tr hR (show jR 1 by decide)) lk_X9_118 hR.1 cs_9 rfl rfl ⟨Nat.le_of_ble_eq_true rfl, Nat.le_of_ble_eq_true rfl, Nat.le_of_ble_eq_true rfl, Nat.le_of_ble_eq_true rfl, Nat.le_of_ble_eq_true rfl⟩ ⟨Nat.le_of_ble_eq_true rfl, Nat.le_of_ble_eq_true rfl, Nat.le_of_ble_eq_true rfl, Nat.le_of_ble_eq_true rfl⟩ jj_tx0 dX9_fire_13 (fun r G h => ?_)
    obtain ⟨rfl, hR⟩ := h
    refine jj_eqi (b := 0) rfl ?_
    refine jj_if_ne F (tgt := 21) dX9_fire_16 rfl (by omega) (fun c16 => by exfalso; omega) (fun c16 => ?_)
    refine jj_iconst F dX9_fire_19 ?_
    have htt : t_vault v = 1 := by unfold t_vault; (repeat (first | rw [if_pos (by omega)] | rw [if_neg (by omega)]))
    exact jj_iret B dX9_fire_20 ⟨Nat.le_of_ble_eq_true rfl, Nat.le_of_ble_eq_true rfl⟩ (⟨_, rfl, (by unfold r_fire; first | (refine Eq.trans ?_ (if_pos htt).symm; first | rfl | omega) | (refine Eq.trans ?_ (if_neg (by omega)).symm; rfl)), (by unfold n_fire; first | (rw [if_pos htt]; exact hR) | (rw [if_neg (by omega)]; rw [htt]; exact hR) | (rw [htt]; exact hR))⟩)
  · skip
    refine jj_iconst F dX9_fire_8 ?_
    refine jj_goto F (tgt := 13) dX9_fire_9 rfl ?_
    refine jj_callVi B (k := 0) (n := 0) (k9_goes F.tr hR (show jR 0 by decide)) lk_X9_118 hR.1 cs_9 rfl rfl ⟨Nat.le_of_ble_eq_true rfl, Nat.le_of_ble_eq_true rfl, Nat.le_of_ble_eq_true rfl, Nat.le_of_ble_eq_true rfl, Nat.le_of_ble_eq_true rfl⟩ ⟨Nat.le_of_ble_eq_true rfl, Nat.le_of_ble_eq_true rfl, Nat.le_of_ble_eq_true rfl, Nat.le_of_ble_eq_true rfl⟩ jj_tx0 dX9_fire_13 (fun r G h => ?_)
    obtain ⟨rfl, hR⟩ := h
    refine jj_eqi (b := 1) rfl ?_
    refine jj_if_ne F (tgt := 21) dX9_fire_16 rfl (by omega) (fun c16 => ?_) (fun c16 => by exfalso; omega)
    refine jj_iconst F dX9_fire_21 ?_
    refine jj_istore2 F dX9_fire_22 (hN _ (by decide)) rfl ?_
    refine jj_iconst F dX9_fire_23 ?_
    refine jj_istore3 F dX9_fire_24 (hN _ (by decide)) rfl ?_
    have htt : t_vault v = 0 := by unfold t_vault; rw [if_pos (by omega)]
    have loop : ∀ (n j : Nat) (G : jj_G), n + j = (s 1 0).toNat → RM (jj_ac X 0) o a (sFire s v j) G → jj_J X G 0 0 25 [some (.ref o), some (.int (jI v)), some (.int (jI (sFireN s v j))), some (.int (jI j))] [] := by
      intro n
      induction n with
      | zero =>
        intro j G hj hR
        have e1 : (j : Int) = s 1 0 := by omega
        refine jj_iload3 F dX9_fire_25 ?_
        refine jj_aload0 F dX9_fire_26 ?_
        refine m9_get F hR fd_X9_101 (by decide) rfl dX9_fire_27 ?_
        refine jj_eqi (congrFun (sFire_n (k := 1) (by decide) j) 0) ?_
        refine jj_icmp_ge F (tgt := 69) dX9_fire_30 rfl (by omega) (fun c30 => ?_) (fun c30 => by exfalso; omega)
        refine jj_iload2 F dX9_fire_69 ?_
        exact jj_iret B dX9_fire_70 ⟨Nat.le_of_ble_eq_true rfl, Nat.le_of_ble_eq_true rfl⟩ (⟨_, rfl, (by unfold r_fire; refine Eq.trans ?_ (if_pos htt).symm; rw [show (s 1 0).toNat = j by omega]), (by unfold n_fire; rw [if_pos htt, show (s 1 0).toNat = j by omega]; exact hR)⟩)
      | succ n ih =>
        intro j G hj hR
        have e1 : (j : Int) < s 1 0 := by omega
        refine jj_iload3 F dX9_fire_25 ?_
        refine jj_aload0 F dX9_fire_26 ?_
        refine m9_get F hR fd_X9_101 (by decide) rfl dX9_fire_27 ?_
        refine jj_eqi (congrFun (sFire_n (k := 1) (by decide) j) 0) ?_
        refine jj_icmp_ge F (tgt := 69) dX9_fire_30 rfl (by omega) (fun c30 => by exfalso; omega) (fun c30 => ?_)
        refine jj_aload0 F dX9_fire_33 ?_
        refine m9_get F hR fd_X9_19 (by decide) rfl dX9_fire_34 ?_
        refine jj_iload3 F dX9_fire_37 ?_
        refine m9_ald F hR (n := 30) rfl (by omega) (by decide) dX9_fire_38 (fun r_38 => ?_)
        refine jj_eqi (congrFun (sFire_n (k := 5) (by decide) j) _) ?_
        refine jj_iload1 F dX9_fire_39 ?_
        refine jj_icmp_ne F (tgt := 63) dX9_fire_40 rfl (by have := hR.rng 5 j; rw [sFire_n (k := 5) (by decide)] at this; omega) (fun c40 => ?_) (fun c40 => ?_)
        · skip
          refine jj_iinc3 F dX9_fire_63 (hN _ (by decide)) rfl ?_
          refine jj_goto F (tgt := 25) dX9_fire_66 rfl ?_
          have hR2 : RM (jj_ac X 0) o a (sFire s v (j + 1)) G := by
            have e7 : sFire s v (j + 1) = sFire s v j := by
              show (if _ then _ else _) = _
              exact if_neg (by omega)
            rw [e7]; exact hR
          have ih1 := ih (j + 1) G (by omega) hR2
          rw [show (((j + 1 : Nat)) : Int) = (j : Int) + 1 from rfl] at ih1
          simp only [sFireN] at ih1
          rw [if_neg (by omega)] at ih1
          rw [Int.add_zero] at ih1
          exact ih1
        · skip
          refine jj_aload0 F dX9_fire_43 ?_
          refine m9_get F hR fd_X9_7 (by decide) rfl dX9_fire_44 ?_
          refine jj_iload3 F dX9_fire_47 ?_
          refine m9_ald F hR (n := 30) rfl (by omega) (by decide) dX9_fire_48 (fun r_48 => ?_)
          refine jj_eqi (sFire_2 j (Int.le_refl _)) ?_
          refine jj_iconst F dX9_fire_49 ?_
          refine jj_icmp_eq F (tgt := 63) dX9_fire_50 rfl (by have := hR.rng 2 j; rw [sFire_2 j (Int.le_refl _)] at this; omega) (fun c50 => ?_) (fun c50 => ?_)
          · skip
            refine jj_iinc3 F dX9_fire_63 (hN _ (by decide)) rfl ?_
            refine jj_goto F (tgt := 25) dX9_fire_66 rfl ?_
            have hR2 : RM (jj_ac X 0) o a (sFire s v (j + 1)) G := by
              have e7 : sFire s v (j + 1) = sFire s v j := by
                show (if _ then _ else _) = _
                exact if_neg (by omega)
              rw [e7]; exact hR
            have ih1 := ih (j + 1) G (by omega) hR2
            rw [show (((j + 1 : Nat)) : Int) = (j : Int) + 1 from rfl] at ih1
            simp only [sFireN] at ih1
            rw [if_neg (by omega)] at ih1
            rw [Int.add_zero] at ih1
            exact ih1
          · skip
            refine jj_aload0 F dX9_fire_53 ?_
            refine m9_get F hR fd_X9_7 (by decide) rfl dX9_fire_54 ?_
            refine jj_iload3 F dX9_fire_57 ?_
            refine jj_iconst F dX9_fire_58 ?_
            refine m9_ast F hR (n := 30) rfl (by omega) (by decide) (by omega) dX9_fire_59 (fun G hR => ?_)
            refine jj_iinc2 F dX9_fire_60 (hN _ (by decide)) rfl ?_
            refine jj_iinc3 F dX9_fire_63 (hN _ (by decide)) rfl ?_
            refine jj_goto F (tgt := 25) dX9_fire_66 rfl ?_
            have hR2 : RM (jj_ac X 0) o a (sFire s v (j + 1)) G := by
              have e7 : sFire s v (j + 1) = sU (sFire s v j) 2 j 3 := by
                show (if _ then _ else _) = _
                exact if_pos (by omega)
              rw [e7]; exact hR
            have ih1 := ih (j + 1) G (by omega) hR2
            rw [show (((j + 1 : Nat)) : Int) = (j : Int) + 1 from rfl] at ih1
            simp only [sFireN] at ih1
            rw [if_pos (by omega)] at ih1
            
            exact ih1
    exact loop (s 1 0).toNat 0 G (by omega) hR
abbrev rm_X9_heard : Room := { frames := 2, cells := 0, slots := 0, locals := 43 }
set_option maxRecDepth 100000 in
set_option maxHeartbeats 4000000 in
theorem k9_heard {l : Launch} {D : va_G} {ac : Nat → ClassId} (hl : l.stackTraces = false) {o : Nat} {a : Nat → Nat} {s : Sg} {t x : Int} {G : jj_G} (hR : RM (ac 0) o a s G) {c : Int} (hI : sInv s c) (ht : jR t) (hx : jR x) : jj_C l D ac yX9_heard (.code yX9_heard cX9_heard 6 (some .int)) rm_X9_heard [.ref o, .int (jI t), .int (jI x)] G (jj_pi (fun r G' => r = r_heard s t x ∧ RM (ac 0) o a (n_heard s t x) G')) (jj_nx) := by
  refine jj_ofx (own := RX9) (lv0 := [some (.ref o), some (.int (jI t)), some (.int (jI x)), none, none, none]) hl (by decide +kernel) rfl rfl (Nat.le_of_ble_eq_true rfl) rfl ?_
  intro X B hN hl0 hdg hac hin
  subst hl0; subst hdg; subst hac
  have F := B.F

  obtain ⟨hI1, hI2, hI3, hI4, hI5, hI6, hI7, hc⟩ := hI
  have i0 := hI1.1
  have i1 := hI1.2.1
  have r1 := hR.rng 1 0
  refine jj_aload0 F dX9_heard_0 ?_
  refine jj_aload0 F dX9_heard_1 ?_
  refine jj_iload1 F dX9_heard_2 ?_
  refine jj_callVr B (k := 0) (n := 0) (k9_isTape F.tr hR (by omega) (by omega)) lk_X9_129 hR.1 cs_9 rfl rfl ⟨Nat.le_of_ble_eq_true rfl, Nat.le_of_ble_eq_true rfl, Nat.le_of_ble_eq_true rfl, Nat.le_of_ble_eq_true rfl, Nat.le_of_ble_eq_true rfl⟩ ⟨Nat.le_of_ble_eq_true rfl, Nat.le_of_ble_eq_true rfl, Nat.le_of_ble_eq_true rfl, Nat.le_of_ble_eq_true rfl⟩ jj_tx0 dX9_heard_3 ?_
  refine jj_ifb_ne F (tgt := 13) dX9_heard_6 rfl (fun c6 => ?_) (fun c6 => ?_)
  · skip
    refine jj_iload2 F dX9_heard_13 ?_
    refine jj_if_ge F (tgt := 21) dX9_heard_14 rfl (by omega) (fun c14 => ?_) (fun c14 => ?_)
    · skip
      refine jj_iconst F dX9_heard_21 ?_
      refine jj_callVi B (k := 0) (n := 0) (k9_goes F.tr hR (show jR 0 by decide)) lk_X9_118 hR.1 cs_9 rfl rfl ⟨Nat.le_of_ble_eq_true rfl, Nat.le_of_ble_eq_true rfl, Nat.le_of_ble_eq_true rfl, Nat.le_of_ble_eq_true rfl, Nat.le_of_ble_eq_true rfl⟩ ⟨Nat.le_of_ble_eq_true rfl, Nat.le_of_ble_eq_true rfl, Nat.le_of_ble_eq_true rfl, Nat.le_of_ble_eq_true rfl⟩ jj_tx0 dX9_heard_22 (fun r G h => ?_)
      obtain ⟨rfl, hR⟩ := h
      refine jj_eqi (b := 1) rfl ?_
      refine jj_if_ne F (tgt := 30) dX9_heard_25 rfl (by omega) (fun c25 => ?_) (fun c25 => by exfalso; omega)
      refine jj_iconst F dX9_heard_30 ?_
      refine jj_istore3 F dX9_heard_31 (hN _ (by decide)) rfl ?_
      refine jj_bipush F (by decide) dX9_heard_32 ?_
      refine jj_iload1 F dX9_heard_34 ?_
      refine jj_imul F dX9_heard_35 ?_
      refine jj_istore4 F dX9_heard_36 (hN _ (by decide)) rfl ?_
      have htt : t_heard s t x = 0 := by unfold t_heard; (repeat (first | rw [if_pos (by omega)] | rw [if_neg (by omega)]))
      have h7 := (hI1.2.2.1 t (by omega) (by omega)).2.2.2.2.2
      have hsp := fun j : Int => hI1.2.2.2.2 t j (by omega) (by omega)
      have hle : ∀ j : Nat, (j : Int) ≤ s 7 t → 0 ≤ sLenTo s t j ∧ sLenTo s t j ≤ 900 * j := by
        intro j
        induction j with
        | zero => intro _; exact ⟨Int.le_refl _, Int.le_refl _⟩
        | succ j ih =>
          intro hj
          have g1 := ih (by omega)
          have g2 := (hsp j (by omega) (by omega)).2
          unfold sLenTo
          omega
      have loop : ∀ (n j : Nat) (x5 : Option Value), n + j = (s 7 t).toNat → sHeard s t x n j = sHeard s t x (s 7 t).toNat 0 → jj_J X G 0 0 38 [some (.ref o), some (.int (jI t)), some (.int (jI x)), some (.int (jI (sLenTo s t j))), some (.int (jI (20 * t + j))), x5] [] := by
        intro n
        induction n with
        | zero =>
          intro j x5 hj hh
          have e1 : (j : Int) = s 7 t := by omega
          refine jj_iload4 F dX9_heard_38 ?_
          refine jj_bipush F (by decide) dX9_heard_40 ?_
          refine jj_iload1 F dX9_heard_42 ?_
          refine jj_imul F dX9_heard_43 ?_
          refine jj_aload0 F dX9_heard_44 ?_
          refine m9_get F hR fd_X9_25 (by decide) rfl dX9_heard_45 ?_
          refine jj_iload1 F dX9_heard_48 ?_
          refine m9_ald F hR (n := 30) rfl (by omega) (by decide) dX9_heard_49 (fun r_49 => ?_)
          refine jj_eqi (b := s 7 _) rfl ?_
          have r_49 : jR (s 7 _) := r_49
          refine jj_iadd F dX9_heard_50 ?_
          refine jj_icmp_ge F (tgt := 112) dX9_heard_51 rfl (by omega) (fun c51 => ?_) (fun c51 => by exfalso; omega)
          refine jj_iconst F dX9_heard_112 ?_
          exact jj_iret B dX9_heard_113 ⟨Nat.le_of_ble_eq_true rfl, Nat.le_of_ble_eq_true rfl⟩ (⟨_, rfl, (by unfold r_heard; refine Eq.trans ?_ (if_pos htt).symm; rw [← hh]; rfl), (by unfold n_heard; rw [htt]; exact hR)⟩)
        | succ n ih =>
          intro j x5 hj hh
          have e1 : (j : Int) < s 7 t := by omega
          have g1 := hle j (by omega)
          have g2 := (hsp j (by omega) (by omega)).2
          have g3 := (hsp j (by omega) (by omega)).1
          refine jj_iload4 F dX9_heard_38 ?_
          refine jj_bipush F (by decide) dX9_heard_40 ?_
          refine jj_iload1 F dX9_heard_42 ?_
          refine jj_imul F dX9_heard_43 ?_
          refine jj_aload0 F dX9_heard_44 ?_
          refine m9_get F hR fd_X9_25 (by decide) rfl dX9_heard_45 ?_
          refine jj_iload1 F dX9_heard_48 ?_
          refine m9_ald F hR (n := 30) rfl (by omega) (by decide) dX9_heard_49 (fun r_49 => ?_)
          refine jj_eqi (b := s 7 _) rfl ?_
          have r_49 : jR (s 7 _) := r_49
          refine jj_iadd F dX9_heard_50 ?_
          refine jj_icmp_ge F (tgt := 112) dX9_heard_51 rfl (by omega) (fun c51 => by exfalso; omega) (fun c51 => ?_)
          refine jj_iload3 F dX9_heard_54 ?_
          refine jj_aload0 F dX9_heard_55 ?_
          refine m9_get F hR fd_X9_34 (by decide) rfl dX9_heard_56 ?_
          refine jj_iload4 F dX9_heard_59 ?_
          refine m9_ald F hR (n := 600) rfl (by omega) (by decide) dX9_heard_61 (fun r_61 => ?_)
          refine jj_eqi (b := s 10 _) rfl ?_
          have r_61 : jR (s 10 _) := r_61
          refine jj_iadd F dX9_heard_62 ?_
          refine jj_aload0 F dX9_heard_63 ?_
          refine m9_get F hR fd_X9_31 (by decide) rfl dX9_heard_64 ?_
          refine jj_iload4 F dX9_heard_67 ?_
          refine m9_ald F hR (n := 600) rfl (by omega) (by decide) dX9_heard_69 (fun r_69 => ?_)
          refine jj_eqi (b := s 9 _) rfl ?_
          have r_69 : jR (s 9 _) := r_69
          refine jj_isub F dX9_heard_70 ?_
          refine jj_istore5 F dX9_heard_71 (hN _ (by decide)) rfl ?_
          refine jj_iload2 F dX9_heard_73 ?_
          refine jj_iload5 F dX9_heard_74 ?_
          refine jj_icmp_ge F (tgt := 103) dX9_heard_76 rfl (by omega) (fun c76 => ?_) (fun c76 => ?_)
          · skip
            refine jj_iload5 F dX9_heard_103 ?_
            refine jj_istore3 F dX9_heard_105 (hN _ (by decide)) rfl ?_
            refine jj_iinc4 F dX9_heard_106 (hN _ (by decide)) rfl ?_
            refine jj_goto F (tgt := 38) dX9_heard_109 rfl ?_
            have ih1 := ih (j + 1) (some (.int (jI (sLenTo s t j + s 10 (20 * t + j) - s 9 (20 * t + j))))) (by omega) (by rw [← hh]; show _ = (if _ then _ else _); rw [if_neg (by unfold sLenTo; omega)])
            rw [show (((j + 1 : Nat)) : Int) = (j : Int) + 1 from rfl] at ih1
            rw [show 20 * t + ((j : Int) + 1) = 20 * t + (j : Int) + 1 by omega] at ih1
            rw [show sLenTo s t (j + 1) = sLenTo s t j + (s 10 (20 * t + j) - s 9 (20 * t + j)) from rfl, ← Int.add_sub_assoc] at ih1
            exact ih1
          · skip
            refine jj_sipush F (by decide) dX9_heard_79 ?_
            refine jj_aload0 F dX9_heard_82 ?_
            refine m9_get F hR fd_X9_28 (by decide) rfl dX9_heard_83 ?_
            refine jj_iload4 F dX9_heard_86 ?_
            refine m9_ald F hR (n := 600) rfl (by omega) (by decide) dX9_heard_88 (fun r_88 => ?_)
            refine jj_eqi (b := s 8 _) rfl ?_
            have r_88 : jR (s 8 _) := r_88
            refine jj_imul F dX9_heard_89 ?_
            refine jj_aload0 F dX9_heard_90 ?_
            refine m9_get F hR fd_X9_31 (by decide) rfl dX9_heard_91 ?_
            refine jj_iload4 F dX9_heard_94 ?_
            refine m9_ald F hR (n := 600) rfl (by omega) (by decide) dX9_heard_96 (fun r_96 => ?_)
            refine jj_eqi (b := s 9 _) rfl ?_
            have r_96 : jR (s 9 _) := r_96
            refine jj_iadd F dX9_heard_97 ?_
            refine jj_iload2 F dX9_heard_98 ?_
            refine jj_iadd F dX9_heard_99 ?_
            refine jj_iload3 F dX9_heard_100 ?_
            refine jj_isub F dX9_heard_101 ?_
            exact jj_iret B dX9_heard_102 ⟨Nat.le_of_ble_eq_true rfl, Nat.le_of_ble_eq_true rfl⟩ (⟨_, rfl, (by unfold r_heard; refine Eq.trans ?_ (if_pos htt).symm; rw [← hh]; unfold sHeard; rw [if_pos (by unfold sLenTo; omega)]), (by unfold n_heard; rw [htt]; exact hR)⟩)
      have l0 := loop (s 7 t).toNat 0 none (by omega) rfl
      rw [show (20 * t + ((0 : Nat) : Int)) = 20 * t by omega] at l0
      exact l0
    · skip
      refine jj_iconst F dX9_heard_17 ?_
      refine jj_goto F (tgt := 22) dX9_heard_18 rfl ?_
      refine jj_callVi B (k := 0) (n := 0) (k9_goes F.tr hR (show jR 2 by decide)) lk_X9_118 hR.1 cs_9 rfl rfl ⟨Nat.le_of_ble_eq_true rfl, Nat.le_of_ble_eq_true rfl, Nat.le_of_ble_eq_true rfl, Nat.le_of_ble_eq_true rfl, Nat.le_of_ble_eq_true rfl⟩ ⟨Nat.le_of_ble_eq_true rfl, Nat.le_of_ble_eq_true rfl, Nat.le_of_ble_eq_true rfl, Nat.le_of_ble_eq_true rfl⟩ jj_tx0 dX9_heard_22 (fun r G h => ?_)
      obtain ⟨rfl, hR⟩ := h
      refine jj_eqi (b := 0) rfl ?_
      refine jj_if_ne F (tgt := 30) dX9_heard_25 rfl (by omega) (fun c25 => by exfalso; omega) (fun c25 => ?_)
      refine jj_iconst F dX9_heard_28 ?_
      have htt : t_heard s t x = 2 := by unfold t_heard; (repeat (first | rw [if_pos (by omega)] | rw [if_neg (by omega)]))
      exact jj_iret B dX9_heard_29 ⟨Nat.le_of_ble_eq_true rfl, Nat.le_of_ble_eq_true rfl⟩ (⟨_, rfl, (by unfold r_heard; first | (refine Eq.trans ?_ (if_pos htt).symm; first | rfl | omega) | (refine Eq.trans ?_ (if_neg (by omega)).symm; rfl)), (by unfold n_heard; first | (rw [if_pos htt]; exact hR) | (rw [if_neg (by omega)]; rw [htt]; exact hR) | (rw [htt]; exact hR))⟩)
  · skip
    refine jj_iconst F dX9_heard_9 ?_
    refine jj_goto F (tgt := 22) dX9_heard_10 rfl ?_
    refine jj_callVi B (k := 0) (n := 0) (k9_goes F.tr hR (show jR 1 by decide)) lk_X9_118 hR.1 cs_9 rfl rfl ⟨Nat.le_of_ble_eq_true rfl, Nat.le_of_ble_eq_true rfl, Nat.le_of_ble_eq_true rfl, Nat.le_of_ble_eq_true rfl, Nat.le_of_ble_eq_true rfl⟩ ⟨Nat.le_of_ble_eq_true rfl, Nat.le_of_ble_eq_true rfl, Nat.le_of_ble_eq_true rfl, Nat.le_of_ble_eq_true rfl⟩ jj_tx0 dX9_heard_22 (fun r G h => ?_)
    obtain ⟨rfl, hR⟩ := h
    refine jj_eqi (b := 0) rfl ?_
    refine jj_if_ne F (tgt := 30) dX9_heard_25 rfl (by omega) (fun c25 => by exfalso; omega) (fun c25 => ?_)
    refine jj_iconst F dX9_heard_28 ?_
    have htt : t_heard s t x = 1 := by unfold t_heard; (repeat (first | rw [if_pos (by omega)] | rw [if_neg (by omega)]))
    exact jj_iret B dX9_heard_29 ⟨Nat.le_of_ble_eq_true rfl, Nat.le_of_ble_eq_true rfl⟩ (⟨_, rfl, (by unfold r_heard; first | (refine Eq.trans ?_ (if_pos htt).symm; first | rfl | omega) | (refine Eq.trans ?_ (if_neg (by omega)).symm; rfl)), (by unfold n_heard; first | (rw [if_pos htt]; exact hR) | (rw [if_neg (by omega)]; rw [htt]; exact hR) | (rw [htt]; exact hR))⟩)
abbrev rm_X9_seconds : Room := { frames := 1, cells := 0, slots := 0, locals := 24 }
set_option maxRecDepth 100000 in
set_option maxHeartbeats 4000000 in
theorem k9_seconds {l : Launch} {D : va_G} {ac : Nat → ClassId} (hl : l.stackTraces = false) {o : Nat} {a : Nat → Nat} {s : Sg} {d q : Int} {G : jj_G} (hR : RM (ac 0) o a s G) {c : Int} (hI : sInv s c) (hd : jR d) (hq : jR q) : jj_C l D ac yX9_seconds (.code yX9_seconds cX9_seconds 3 (some .int)) rm_X9_seconds [.ref o, .int (jI d), .int (jI q)] G (jj_pi (fun r G' => r = r_seconds s d q ∧ RM (ac 0) o a (n_seconds s d q) G')) (jj_nx) := by
  refine jj_ofx (own := RX9) (lv0 := [some (.ref o), some (.int (jI d)), some (.int (jI q))]) hl (by decide +kernel) rfl rfl (Nat.le_of_ble_eq_true rfl) rfl ?_
  intro X B hN hl0 hdg hac hin
  subst hl0; subst hdg; subst hac
  have F := B.F

  obtain ⟨hI1, hI2, hI3, hI4, hI5, hI6, hI7, hc⟩ := hI
  have i0 := hI1.1
  have i3 := hI3.1
  have r13 := hR.rng 13 0
  refine jj_aload0 F dX9_seconds_0 ?_
  refine jj_iload1 F dX9_seconds_1 ?_
  refine jj_iconst F dX9_seconds_2 ?_
  refine jj_aload0 F dX9_seconds_3 ?_
  refine m9_get F hR fd_X9_149 (by decide) rfl dX9_seconds_4 ?_
  refine jj_iconst F dX9_seconds_7 ?_
  refine jj_isub F dX9_seconds_8 ?_
  refine jj_callSr B (k := 0) (n := 0) (k9_isIn F.tr (by omega) (by omega) (by omega)) lk_X9_104 rfl ⟨Nat.le_of_ble_eq_true rfl, Nat.le_of_ble_eq_true rfl, Nat.le_of_ble_eq_true rfl, Nat.le_of_ble_eq_true rfl, Nat.le_of_ble_eq_true rfl⟩ ⟨Nat.le_of_ble_eq_true rfl, Nat.le_of_ble_eq_true rfl, Nat.le_of_ble_eq_true rfl, Nat.le_of_ble_eq_true rfl⟩ jj_tx0 dX9_seconds_9 ?_
  refine jj_ifb_eq F (tgt := 28) dX9_seconds_12 rfl (fun c12 => ?_) (fun c12 => ?_)
  · skip
    refine jj_iconst F dX9_seconds_28 ?_
    refine jj_callVi B (k := 0) (n := 0) (k9_goes F.tr hR (show jR 1 by decide)) lk_X9_118 hR.1 cs_9 rfl rfl ⟨Nat.le_of_ble_eq_true rfl, Nat.le_of_ble_eq_true rfl, Nat.le_of_ble_eq_true rfl, Nat.le_of_ble_eq_true rfl, Nat.le_of_ble_eq_true rfl⟩ ⟨Nat.le_of_ble_eq_true rfl, Nat.le_of_ble_eq_true rfl, Nat.le_of_ble_eq_true rfl, Nat.le_of_ble_eq_true rfl⟩ jj_tx0 dX9_seconds_29 (fun r G h => ?_)
    obtain ⟨rfl, hR⟩ := h
    refine jj_eqi (b := 0) rfl ?_
    refine jj_if_eq F (tgt := 44) dX9_seconds_32 rfl (by omega) (fun c32 => ?_) (fun c32 => by exfalso; omega)
    refine jj_iconst F dX9_seconds_44 ?_
    have htt : t_seconds s d q = 1 := by unfold t_seconds; (repeat (first | rw [if_pos (by omega)] | rw [if_neg (by omega)]))
    exact jj_iret B dX9_seconds_45 ⟨Nat.le_of_ble_eq_true rfl, Nat.le_of_ble_eq_true rfl⟩ (⟨_, rfl, (by unfold r_seconds; first | (refine Eq.trans ?_ (if_pos htt).symm; first | rfl | omega) | (refine Eq.trans ?_ (if_neg (by omega)).symm; rfl)), (by unfold n_seconds; first | (rw [if_pos htt]; exact hR) | (rw [if_neg (by omega)]; rw [htt]; exact hR) | (rw [htt]; exact hR))⟩)
  · skip
    refine jj_iload2 F dX9_seconds_15 ?_
    refine jj_iconst F dX9_seconds_16 ?_
    refine jj_iconst F dX9_seconds_17 ?_
    refine jj_callSr B (k := 0) (n := 0) (k9_isIn F.tr (by omega) (by omega) (by omega)) lk_X9_104 rfl ⟨Nat.le_of_ble_eq_true rfl, Nat.le_of_ble_eq_true rfl, Nat.le_of_ble_eq_true rfl, Nat.le_of_ble_eq_true rfl, Nat.le_of_ble_eq_true rfl⟩ ⟨Nat.le_of_ble_eq_true rfl, Nat.le_of_ble_eq_true rfl, Nat.le_of_ble_eq_true rfl, Nat.le_of_ble_eq_true rfl⟩ jj_tx0 dX9_seconds_18 ?_
    refine jj_ifb_eq F (tgt := 28) dX9_seconds_21 rfl (fun c21 => ?_) (fun c21 => ?_)
    · skip
      refine jj_iconst F dX9_seconds_28 ?_
      refine jj_callVi B (k := 0) (n := 0) (k9_goes F.tr hR (show jR 1 by decide)) lk_X9_118 hR.1 cs_9 rfl rfl ⟨Nat.le_of_ble_eq_true rfl, Nat.le_of_ble_eq_true rfl, Nat.le_of_ble_eq_true rfl, Nat.le_of_ble_eq_true rfl, Nat.le_of_ble_eq_true rfl⟩ ⟨Nat.le_of_ble_eq_true rfl, Nat.le_of_ble_eq_true rfl, Nat.le_of_ble_eq_true rfl, Nat.le_of_ble_eq_true rfl⟩ jj_tx0 dX9_seconds_29 (fun r G h => ?_)
      obtain ⟨rfl, hR⟩ := h
      refine jj_eqi (b := 0) rfl ?_
      refine jj_if_eq F (tgt := 44) dX9_seconds_32 rfl (by omega) (fun c32 => ?_) (fun c32 => by exfalso; omega)
      refine jj_iconst F dX9_seconds_44 ?_
      have htt : t_seconds s d q = 1 := by unfold t_seconds; (repeat (first | rw [if_pos (by omega)] | rw [if_neg (by omega)]))
      exact jj_iret B dX9_seconds_45 ⟨Nat.le_of_ble_eq_true rfl, Nat.le_of_ble_eq_true rfl⟩ (⟨_, rfl, (by unfold r_seconds; first | (refine Eq.trans ?_ (if_pos htt).symm; first | rfl | omega) | (refine Eq.trans ?_ (if_neg (by omega)).symm; rfl)), (by unfold n_seconds; first | (rw [if_pos htt]; exact hR) | (rw [if_neg (by omega)]; rw [htt]; exact hR) | (rw [htt]; exact hR))⟩)
    · skip
      refine jj_iconst F dX9_seconds_24 ?_
      refine jj_goto F (tgt := 29) dX9_seconds_25 rfl ?_
      refine jj_callVi B (k := 0) (n := 0) (k9_goes F.tr hR (show jR 0 by decide)) lk_X9_118 hR.1 cs_9 rfl rfl ⟨Nat.le_of_ble_eq_true rfl, Nat.le_of_ble_eq_true rfl, Nat.le_of_ble_eq_true rfl, Nat.le_of_ble_eq_true rfl, Nat.le_of_ble_eq_true rfl⟩ ⟨Nat.le_of_ble_eq_true rfl, Nat.le_of_ble_eq_true rfl, Nat.le_of_ble_eq_true rfl, Nat.le_of_ble_eq_true rfl⟩ jj_tx0 dX9_seconds_29 (fun r G h => ?_)
      obtain ⟨rfl, hR⟩ := h
      refine jj_eqi (b := 1) rfl ?_
      refine jj_if_eq F (tgt := 44) dX9_seconds_32 rfl (by omega) (fun c32 => by exfalso; omega) (fun c32 => ?_)
      refine jj_aload0 F dX9_seconds_35 ?_
      refine jj_iload1 F dX9_seconds_36 ?_
      refine jj_iload2 F dX9_seconds_37 ?_
      refine jj_callVr B (k := 0) (n := 0) (k9_secondsOf F.tr hR (by omega) (by omega)) lk_X9_158 hR.1 cs_9 rfl rfl ⟨Nat.le_of_ble_eq_true rfl, Nat.le_of_ble_eq_true rfl, Nat.le_of_ble_eq_true rfl, Nat.le_of_ble_eq_true rfl, Nat.le_of_ble_eq_true rfl⟩ ⟨Nat.le_of_ble_eq_true rfl, Nat.le_of_ble_eq_true rfl, Nat.le_of_ble_eq_true rfl, Nat.le_of_ble_eq_true rfl⟩ jj_tx0 dX9_seconds_38 ?_
      refine jj_eqi (congrFun (congrFun (sSec_c (s := s) (by rfl)) _) _) ?_
      refine jj_goto F (tgt := 45) dX9_seconds_41 rfl ?_
      have htt : t_seconds s d q = 0 := by unfold t_seconds; (repeat (first | rw [if_pos (by omega)] | rw [if_neg (by omega)]))
      exact jj_iret B dX9_seconds_45 ⟨Nat.le_of_ble_eq_true rfl, Nat.le_of_ble_eq_true rfl⟩ (⟨_, rfl, (by unfold r_seconds; first | (refine Eq.trans ?_ (if_pos htt).symm; first | rfl | omega) | (refine Eq.trans ?_ (if_neg (by omega)).symm; rfl)), (by unfold n_seconds; first | (rw [if_pos htt]; exact hR) | (rw [if_neg (by omega)]; rw [htt]; exact hR) | (rw [htt]; exact hR))⟩)
abbrev rm_X9_stamperIs : Room := { frames := 2, cells := 0, slots := 0, locals := 45 }
set_option maxRecDepth 100000 in
set_option maxHeartbeats 4000000 in
theorem k9_stamperIs {l : Launch} {D : va_G} {ac : Nat → ClassId} (hl : l.stackTraces = false) {o : Nat} {a : Nat → Nat} {s : Sg} {d m n w : Int} {G : jj_G} (hR : RM (ac 0) o a s G) {c : Int} (hI : sInv s c) (hd : jR d) (hm : jR m) (hn : jR n) (hw : jR w) : jj_C l D ac yX9_stamperIs (.code yX9_stamperIs cX9_stamperIs 7 (some .int)) rm_X9_stamperIs [.ref o, .int (jI d), .int (jI m), .int (jI n), .int (jI w)] G (jj_pi (fun r G' => r = r_stamperIs s d m n w ∧ RM (ac 0) o a (n_stamperIs s d m n w) G')) (jj_nx) := by
  refine jj_ofx (own := RX9) (lv0 := [some (.ref o), some (.int (jI d)), some (.int (jI m)), some (.int (jI n)), some (.int (jI w)), none, none]) hl (by decide +kernel) rfl rfl (Nat.le_of_ble_eq_true rfl) rfl ?_
  intro X B hN hl0 hdg hac hin
  subst hl0; subst hdg; subst hac
  have F := B.F

  obtain ⟨hI1, hI2, hI3, hI4, hI5, hI6, hI7, hc⟩ := hI
  have i0 := hI1.1
  have i3 := hI3.1
  have r13 := hR.rng 13 0
  have hS : ∀ h : sNm s d m n, 0 ≤ sSt d m n ∧ sSt d m n < 12 * s 13 0 := by intro h; unfold sSt; omega
  refine jj_aload0 F dX9_stamperIs_0 ?_
  refine jj_iload1 F dX9_stamperIs_1 ?_
  refine jj_iload2 F dX9_stamperIs_2 ?_
  refine jj_iload3 F dX9_stamperIs_3 ?_
  refine jj_callVr B (k := 0) (n := 0) (k9_isNamed F.tr hR (by omega) (by omega) (by omega) (by omega)) lk_X9_161 hR.1 cs_9 rfl rfl ⟨Nat.le_of_ble_eq_true rfl, Nat.le_of_ble_eq_true rfl, Nat.le_of_ble_eq_true rfl, Nat.le_of_ble_eq_true rfl, Nat.le_of_ble_eq_true rfl⟩ ⟨Nat.le_of_ble_eq_true rfl, Nat.le_of_ble_eq_true rfl, Nat.le_of_ble_eq_true rfl, Nat.le_of_ble_eq_true rfl⟩ jj_tx0 dX9_stamperIs_4 ?_
  refine jj_istore5 F dX9_stamperIs_7 (hN _ (by decide)) rfl ?_
  refine jj_aload0 F dX9_stamperIs_9 ?_
  refine jj_iload5 F dX9_stamperIs_10 ?_
  refine jj_ifb_ne F (tgt := 19) dX9_stamperIs_12 rfl (fun c12 => ?_) (fun c12 => ?_)
  · skip
    refine jj_iload4 F dX9_stamperIs_19 ?_
    refine jj_iconst F dX9_stamperIs_21 ?_
    refine jj_iconst F dX9_stamperIs_22 ?_
    refine jj_callSr B (k := 0) (n := 0) (k9_isIn F.tr (by omega) (by omega) (by omega)) lk_X9_104 rfl ⟨Nat.le_of_ble_eq_true rfl, Nat.le_of_ble_eq_true rfl, Nat.le_of_ble_eq_true rfl, Nat.le_of_ble_eq_true rfl, Nat.le_of_ble_eq_true rfl⟩ ⟨Nat.le_of_ble_eq_true rfl, Nat.le_of_ble_eq_true rfl, Nat.le_of_ble_eq_true rfl, Nat.le_of_ble_eq_true rfl⟩ jj_tx0 dX9_stamperIs_23 ?_
    refine jj_ifb_eq F (tgt := 33) dX9_stamperIs_26 rfl (fun c26 => ?_) (fun c26 => ?_)
    · skip
      refine jj_iconst F dX9_stamperIs_33 ?_
      refine jj_callVi B (k := 0) (n := 0) (k9_goes F.tr hR (show jR 2 by decide)) lk_X9_118 hR.1 cs_9 rfl rfl ⟨Nat.le_of_ble_eq_true rfl, Nat.le_of_ble_eq_true rfl, Nat.le_of_ble_eq_true rfl, Nat.le_of_ble_eq_true rfl, Nat.le_of_ble_eq_true rfl⟩ ⟨Nat.le_of_ble_eq_true rfl, Nat.le_of_ble_eq_true rfl, Nat.le_of_ble_eq_true rfl, Nat.le_of_ble_eq_true rfl⟩ jj_tx0 dX9_stamperIs_34 (fun r G h => ?_)
      obtain ⟨rfl, hR⟩ := h
      refine jj_eqi (b := 0) rfl ?_
      refine jj_if_ne F (tgt := 42) dX9_stamperIs_37 rfl (by omega) (fun c37 => by exfalso; omega) (fun c37 => ?_)
      refine jj_iconst F dX9_stamperIs_40 ?_
      have htt : t_stamperIs s d m n w = 2 := by unfold t_stamperIs; (repeat (first | rw [if_pos (by omega)] | rw [if_neg (by omega)]))
      exact jj_iret B dX9_stamperIs_41 ⟨Nat.le_of_ble_eq_true rfl, Nat.le_of_ble_eq_true rfl⟩ (⟨_, rfl, (by unfold r_stamperIs; first | (refine Eq.trans ?_ (if_pos htt).symm; (repeat (first | rw [if_pos (by omega)] | rw [if_neg (by omega)])); try rfl) | (refine Eq.trans ?_ (if_neg (by omega)).symm; rfl)), (by unfold n_stamperIs; first | (rw [if_pos htt]; exact hR) | (rw [if_neg (by omega)]; rw [htt]; exact hR) | (rw [htt]; exact hR))⟩)
    · skip
      refine jj_iconst F dX9_stamperIs_29 ?_
      refine jj_goto F (tgt := 34) dX9_stamperIs_30 rfl ?_
      refine jj_callVi B (k := 0) (n := 0) (k9_goes F.tr hR (show jR 0 by decide)) lk_X9_118 hR.1 cs_9 rfl rfl ⟨Nat.le_of_ble_eq_true rfl, Nat.le_of_ble_eq_true rfl, Nat.le_of_ble_eq_true rfl, Nat.le_of_ble_eq_true rfl, Nat.le_of_ble_eq_true rfl⟩ ⟨Nat.le_of_ble_eq_true rfl, Nat.le_of_ble_eq_true rfl, Nat.le_of_ble_eq_true rfl, Nat.le_of_ble_eq_true rfl⟩ jj_tx0 dX9_stamperIs_34 (fun r G h => ?_)
      obtain ⟨rfl, hR⟩ := h
      refine jj_eqi (b := 1) rfl ?_
      refine jj_if_ne F (tgt := 42) dX9_stamperIs_37 rfl (by omega) (fun c37 => ?_) (fun c37 => by exfalso; omega)
      refine jj_iload1 F dX9_stamperIs_42 ?_
      refine jj_iload2 F dX9_stamperIs_43 ?_
      refine jj_iload3 F dX9_stamperIs_44 ?_
      refine jj_callSr B (k := 0) (n := 0) (k9_stamperOf F.tr) lk_X9_164 rfl ⟨Nat.le_of_ble_eq_true rfl, Nat.le_of_ble_eq_true rfl, Nat.le_of_ble_eq_true rfl, Nat.le_of_ble_eq_true rfl, Nat.le_of_ble_eq_true rfl⟩ ⟨Nat.le_of_ble_eq_true rfl, Nat.le_of_ble_eq_true rfl, Nat.le_of_ble_eq_true rfl, Nat.le_of_ble_eq_true rfl⟩ jj_tx0 dX9_stamperIs_45 ?_
      refine jj_istore6 F dX9_stamperIs_48 (hN _ (by decide)) rfl ?_
      refine jj_iload4 F dX9_stamperIs_50 ?_
      refine jj_if_ne F (tgt := 65) dX9_stamperIs_52 rfl (by omega) (fun c52 => ?_) (fun c52 => ?_)
      · skip
        refine jj_iload4 F dX9_stamperIs_65 ?_
        refine jj_iconst F dX9_stamperIs_67 ?_
        refine jj_icmp_ne F (tgt := 81) dX9_stamperIs_68 rfl (by omega) (fun c68 => ?_) (fun c68 => ?_)
        · skip
          refine jj_iload4 F dX9_stamperIs_81 ?_
          refine jj_iconst F dX9_stamperIs_83 ?_
          refine jj_icmp_ne F (tgt := 105) dX9_stamperIs_84 rfl (by omega) (fun c84 => ?_) (fun c84 => ?_)
          · skip
            refine jj_iload4 F dX9_stamperIs_105 ?_
            refine jj_iconst F dX9_stamperIs_107 ?_
            refine jj_icmp_ne F (tgt := 121) dX9_stamperIs_108 rfl (by omega) (fun c108 => ?_) (fun c108 => ?_)
            · skip
              refine jj_aload0 F dX9_stamperIs_121 ?_
              refine m9_get F hR fd_X9_61 (by decide) rfl dX9_stamperIs_122 ?_
              refine jj_iload6 F dX9_stamperIs_125 ?_
              refine m9_ald F hR (n := 120) rfl (by have := hS (by omega); omega) (by decide) dX9_stamperIs_127 (fun r_127 => ?_)
              refine jj_eqi (b := s 21 _) rfl ?_
              have r_127 : jR (s 21 _) := r_127
              have htt : t_stamperIs s d m n w = 0 := by unfold t_stamperIs; (repeat (first | rw [if_pos (by omega)] | rw [if_neg (by omega)]))
              exact jj_iret B dX9_stamperIs_128 ⟨Nat.le_of_ble_eq_true rfl, Nat.le_of_ble_eq_true rfl⟩ (⟨_, rfl, (by unfold r_stamperIs; first | (refine Eq.trans ?_ (if_pos htt).symm; (repeat (first | rw [if_pos (by omega)] | rw [if_neg (by omega)])); try rfl) | (refine Eq.trans ?_ (if_neg (by omega)).symm; rfl)), (by unfold n_stamperIs; first | (rw [if_pos htt]; exact hR) | (rw [if_neg (by omega)]; rw [htt]; exact hR) | (rw [htt]; exact hR))⟩)
            · skip
              refine jj_aload0 F dX9_stamperIs_111 ?_
              refine m9_get F hR fd_X9_58 (by decide) rfl dX9_stamperIs_112 ?_
              refine jj_iload6 F dX9_stamperIs_115 ?_
              refine m9_ald F hR (n := 120) rfl (by have := hS (by omega); omega) (by decide) dX9_stamperIs_117 (fun r_117 => ?_)
              refine jj_eqi (b := s 20 _) rfl ?_
              have r_117 : jR (s 20 _) := r_117
              refine jj_goto F (tgt := 128) dX9_stamperIs_118 rfl ?_
              have htt : t_stamperIs s d m n w = 0 := by unfold t_stamperIs; (repeat (first | rw [if_pos (by omega)] | rw [if_neg (by omega)]))
              exact jj_iret B dX9_stamperIs_128 ⟨Nat.le_of_ble_eq_true rfl, Nat.le_of_ble_eq_true rfl⟩ (⟨_, rfl, (by unfold r_stamperIs; first | (refine Eq.trans ?_ (if_pos htt).symm; (repeat (first | rw [if_pos (by omega)] | rw [if_neg (by omega)])); try rfl) | (refine Eq.trans ?_ (if_neg (by omega)).symm; rfl)), (by unfold n_stamperIs; first | (rw [if_pos htt]; exact hR) | (rw [if_neg (by omega)]; rw [htt]; exact hR) | (rw [htt]; exact hR))⟩)
          · skip
            refine jj_aload0 F dX9_stamperIs_87 ?_
            refine m9_get F hR fd_X9_52 (by decide) rfl dX9_stamperIs_88 ?_
            refine jj_iload6 F dX9_stamperIs_91 ?_
            refine m9_ald F hR (n := 120) rfl (by have := hS (by omega); omega) (by decide) dX9_stamperIs_93 (fun r_93 => ?_)
            refine jj_eqi (b := s 18 _) rfl ?_
            have r_93 : jR (s 18 _) := r_93
            refine jj_aload0 F dX9_stamperIs_94 ?_
            refine m9_get F hR fd_X9_55 (by decide) rfl dX9_stamperIs_95 ?_
            refine jj_iload6 F dX9_stamperIs_98 ?_
            refine m9_ald F hR (n := 120) rfl (by have := hS (by omega); omega) (by decide) dX9_stamperIs_100 (fun r_100 => ?_)
            refine jj_eqi (b := s 19 _) rfl ?_
            have r_100 : jR (s 19 _) := r_100
            refine jj_isub F dX9_stamperIs_101 ?_
            refine jj_goto F (tgt := 128) dX9_stamperIs_102 rfl ?_
            have htt : t_stamperIs s d m n w = 0 := by unfold t_stamperIs; (repeat (first | rw [if_pos (by omega)] | rw [if_neg (by omega)]))
            exact jj_iret B dX9_stamperIs_128 ⟨Nat.le_of_ble_eq_true rfl, Nat.le_of_ble_eq_true rfl⟩ (⟨_, rfl, (by unfold r_stamperIs; first | (refine Eq.trans ?_ (if_pos htt).symm; (repeat (first | rw [if_pos (by omega)] | rw [if_neg (by omega)])); try rfl) | (refine Eq.trans ?_ (if_neg (by omega)).symm; rfl)), (by unfold n_stamperIs; first | (rw [if_pos htt]; exact hR) | (rw [if_neg (by omega)]; rw [htt]; exact hR) | (rw [htt]; exact hR))⟩)
        · skip
          refine jj_aload0 F dX9_stamperIs_71 ?_
          refine m9_get F hR fd_X9_49 (by decide) rfl dX9_stamperIs_72 ?_
          refine jj_iload6 F dX9_stamperIs_75 ?_
          refine m9_ald F hR (n := 120) rfl (by have := hS (by omega); omega) (by decide) dX9_stamperIs_77 (fun r_77 => ?_)
          refine jj_eqi (b := s 17 _) rfl ?_
          have r_77 : jR (s 17 _) := r_77
          refine jj_goto F (tgt := 128) dX9_stamperIs_78 rfl ?_
          have htt : t_stamperIs s d m n w = 0 := by unfold t_stamperIs; (repeat (first | rw [if_pos (by omega)] | rw [if_neg (by omega)]))
          exact jj_iret B dX9_stamperIs_128 ⟨Nat.le_of_ble_eq_true rfl, Nat.le_of_ble_eq_true rfl⟩ (⟨_, rfl, (by unfold r_stamperIs; first | (refine Eq.trans ?_ (if_pos htt).symm; (repeat (first | rw [if_pos (by omega)] | rw [if_neg (by omega)])); try rfl) | (refine Eq.trans ?_ (if_neg (by omega)).symm; rfl)), (by unfold n_stamperIs; first | (rw [if_pos htt]; exact hR) | (rw [if_neg (by omega)]; rw [htt]; exact hR) | (rw [htt]; exact hR))⟩)
      · skip
        refine jj_aload0 F dX9_stamperIs_55 ?_
        refine m9_get F hR fd_X9_46 (by decide) rfl dX9_stamperIs_56 ?_
        refine jj_iload6 F dX9_stamperIs_59 ?_
        refine m9_ald F hR (n := 120) rfl (by have := hS (by omega); omega) (by decide) dX9_stamperIs_61 (fun r_61 => ?_)
        refine jj_eqi (b := s 16 _) rfl ?_
        have r_61 : jR (s 16 _) := r_61
        refine jj_goto F (tgt := 128) dX9_stamperIs_62 rfl ?_
        have htt : t_stamperIs s d m n w = 0 := by unfold t_stamperIs; (repeat (first | rw [if_pos (by omega)] | rw [if_neg (by omega)]))
        exact jj_iret B dX9_stamperIs_128 ⟨Nat.le_of_ble_eq_true rfl, Nat.le_of_ble_eq_true rfl⟩ (⟨_, rfl, (by unfold r_stamperIs; first | (refine Eq.trans ?_ (if_pos htt).symm; (repeat (first | rw [if_pos (by omega)] | rw [if_neg (by omega)])); try rfl) | (refine Eq.trans ?_ (if_neg (by omega)).symm; rfl)), (by unfold n_stamperIs; first | (rw [if_pos htt]; exact hR) | (rw [if_neg (by omega)]; rw [htt]; exact hR) | (rw [htt]; exact hR))⟩)
  · skip
    refine jj_iconst F dX9_stamperIs_15 ?_
    refine jj_goto F (tgt := 34) dX9_stamperIs_16 rfl ?_
    refine jj_callVi B (k := 0) (n := 0) (k9_goes F.tr hR (show jR 1 by decide)) lk_X9_118 hR.1 cs_9 rfl rfl ⟨Nat.le_of_ble_eq_true rfl, Nat.le_of_ble_eq_true rfl, Nat.le_of_ble_eq_true rfl, Nat.le_of_ble_eq_true rfl, Nat.le_of_ble_eq_true rfl⟩ ⟨Nat.le_of_ble_eq_true rfl, Nat.le_of_ble_eq_true rfl, Nat.le_of_ble_eq_true rfl, Nat.le_of_ble_eq_true rfl⟩ jj_tx0 dX9_stamperIs_34 (fun r G h => ?_)
    obtain ⟨rfl, hR⟩ := h
    refine jj_eqi (b := 0) rfl ?_
    refine jj_if_ne F (tgt := 42) dX9_stamperIs_37 rfl (by omega) (fun c37 => by exfalso; omega) (fun c37 => ?_)
    refine jj_iconst F dX9_stamperIs_40 ?_
    have htt : t_stamperIs s d m n w = 1 := by unfold t_stamperIs; (repeat (first | rw [if_pos (by omega)] | rw [if_neg (by omega)]))
    exact jj_iret B dX9_stamperIs_41 ⟨Nat.le_of_ble_eq_true rfl, Nat.le_of_ble_eq_true rfl⟩ (⟨_, rfl, (by unfold r_stamperIs; first | (refine Eq.trans ?_ (if_pos htt).symm; (repeat (first | rw [if_pos (by omega)] | rw [if_neg (by omega)])); try rfl) | (refine Eq.trans ?_ (if_neg (by omega)).symm; rfl)), (by unfold n_stamperIs; first | (rw [if_pos htt]; exact hR) | (rw [if_neg (by omega)]; rw [htt]; exact hR) | (rw [htt]; exact hR))⟩)
abbrev rm_X9_press : Room := { frames := 2, cells := 0, slots := 0, locals := 45 }
set_option maxRecDepth 100000 in
set_option maxHeartbeats 4000000 in
theorem k9_press {l : Launch} {D : va_G} {ac : Nat → ClassId} (hl : l.stackTraces = false) {o : Nat} {a : Nat → Nat} {s : Sg} {d m n x : Int} {G : jj_G} (hR : RM (ac 0) o a s G) {c : Int} (hI : sInv s c) (hd : jR d) (hm : jR m) (hn : jR n) (hx : jR x) : jj_C l D ac yX9_press (.code yX9_press cX9_press 7 (some .int)) rm_X9_press [.ref o, .int (jI d), .int (jI m), .int (jI n), .int (jI x)] G (jj_pi (fun r G' => r = r_press s d m n x ∧ RM (ac 0) o a (n_press s d m n x) G')) (jj_nx) := by
  refine jj_ofx (own := RX9) (lv0 := [some (.ref o), some (.int (jI d)), some (.int (jI m)), some (.int (jI n)), some (.int (jI x)), none, none]) hl (by decide +kernel) rfl rfl (Nat.le_of_ble_eq_true rfl) rfl ?_
  intro X B hN hl0 hdg hac hin
  subst hl0; subst hdg; subst hac
  have F := B.F

  obtain ⟨hI1, hI2, hI3, hI4, hI5, hI6, hI7, hc⟩ := hI
  have i0 := hI1.1
  have i3 := hI3.1
  have r13 := hR.rng 13 0
  have hS : ∀ h : sNm s d m n, 0 ≤ sSt d m n ∧ sSt d m n < 12 * s 13 0 := by intro h; unfold sSt; omega
  have i4 : ∀ h : sNm s d m n, (0 ≤ s 17 (sSt d m n) ∧ s 17 (sSt d m n) ≤ 500) ∧ jR (s 20 (sSt d m n)) := by intro h; have := hI4.1 (sSt d m n) (by have := hS h; omega) (by have := hS h; omega); exact ⟨this.2.1, by have := this.2.2.2.1; omega⟩
  refine jj_aload0 F dX9_press_0 ?_
  refine jj_iload1 F dX9_press_1 ?_
  refine jj_iload2 F dX9_press_2 ?_
  refine jj_iload3 F dX9_press_3 ?_
  refine jj_callVr B (k := 0) (n := 0) (k9_isNamed F.tr hR (by omega) (by omega) (by omega) (by omega)) lk_X9_161 hR.1 cs_9 rfl rfl ⟨Nat.le_of_ble_eq_true rfl, Nat.le_of_ble_eq_true rfl, Nat.le_of_ble_eq_true rfl, Nat.le_of_ble_eq_true rfl, Nat.le_of_ble_eq_true rfl⟩ ⟨Nat.le_of_ble_eq_true rfl, Nat.le_of_ble_eq_true rfl, Nat.le_of_ble_eq_true rfl, Nat.le_of_ble_eq_true rfl⟩ jj_tx0 dX9_press_4 ?_
  refine jj_istore5 F dX9_press_7 (hN _ (by decide)) rfl ?_
  refine jj_iload5 F dX9_press_9 ?_
  refine jj_ifb_eq F (tgt := 23) dX9_press_11 rfl (fun c11 => ?_) (fun c11 => ?_)
  · skip
    refine jj_iconst F dX9_press_23 ?_
    refine jj_istore6 F dX9_press_24 (hN _ (by decide)) rfl ?_
    refine jj_aload0 F dX9_press_26 ?_
    refine jj_iload5 F dX9_press_27 ?_
    refine jj_ifb_ne F (tgt := 36) dX9_press_29 rfl (fun c29 => by first | contradiction | (exfalso; omega)) (fun c29 => ?_)
    refine jj_iconst F dX9_press_32 ?_
    refine jj_goto F (tgt := 84) dX9_press_33 rfl ?_
    refine jj_callVi B (k := 0) (n := 0) (k9_goes F.tr hR (show jR 1 by decide)) lk_X9_118 hR.1 cs_9 rfl rfl ⟨Nat.le_of_ble_eq_true rfl, Nat.le_of_ble_eq_true rfl, Nat.le_of_ble_eq_true rfl, Nat.le_of_ble_eq_true rfl, Nat.le_of_ble_eq_true rfl⟩ ⟨Nat.le_of_ble_eq_true rfl, Nat.le_of_ble_eq_true rfl, Nat.le_of_ble_eq_true rfl, Nat.le_of_ble_eq_true rfl⟩ jj_tx0 dX9_press_84 (fun r G h => ?_)
    obtain ⟨rfl, hR⟩ := h
    refine jj_eqi (b := 0) rfl ?_
    refine jj_if_ne F (tgt := 92) dX9_press_87 rfl (by omega) (fun c87 => by exfalso; omega) (fun c87 => ?_)
    refine jj_iconst F dX9_press_90 ?_
    have htt : t_press s d m n x = 1 := by unfold t_press; (repeat (first | rw [if_pos (by omega)] | rw [if_neg (by omega)]))
    exact jj_iret B dX9_press_91 ⟨Nat.le_of_ble_eq_true rfl, Nat.le_of_ble_eq_true rfl⟩ (⟨_, rfl, (by unfold r_press; first | (refine Eq.trans ?_ (if_pos htt).symm; first | rfl | omega) | (refine Eq.trans ?_ (if_neg (by omega)).symm; rfl)), (by unfold n_press; first | (rw [if_pos htt]; (first | rw [if_pos (by omega)] | rw [if_neg (by omega)]); exact hR) | (rw [if_neg (by omega)]; rw [htt]; exact hR) | (rw [htt]; exact hR))⟩)
  · skip
    refine jj_iload1 F dX9_press_14 ?_
    refine jj_iload2 F dX9_press_15 ?_
    refine jj_iload3 F dX9_press_16 ?_
    refine jj_callSr B (k := 0) (n := 0) (k9_stamperOf F.tr) lk_X9_164 rfl ⟨Nat.le_of_ble_eq_true rfl, Nat.le_of_ble_eq_true rfl, Nat.le_of_ble_eq_true rfl, Nat.le_of_ble_eq_true rfl, Nat.le_of_ble_eq_true rfl⟩ ⟨Nat.le_of_ble_eq_true rfl, Nat.le_of_ble_eq_true rfl, Nat.le_of_ble_eq_true rfl, Nat.le_of_ble_eq_true rfl⟩ jj_tx0 dX9_press_17 ?_
    refine jj_goto F (tgt := 24) dX9_press_20 rfl ?_
    refine jj_istore6 F dX9_press_24 (hN _ (by decide)) rfl ?_
    refine jj_aload0 F dX9_press_26 ?_
    refine jj_iload5 F dX9_press_27 ?_
    refine jj_ifb_ne F (tgt := 36) dX9_press_29 rfl (fun c29 => ?_) (fun c29 => by first | contradiction | (exfalso; omega))
    refine jj_iload4 F dX9_press_36 ?_
    refine jj_iconst F dX9_press_38 ?_
    refine jj_sipush F (by decide) dX9_press_39 ?_
    refine jj_callSr B (k := 0) (n := 0) (k9_isIn F.tr (by omega) (by omega) (by omega)) lk_X9_104 rfl ⟨Nat.le_of_ble_eq_true rfl, Nat.le_of_ble_eq_true rfl, Nat.le_of_ble_eq_true rfl, Nat.le_of_ble_eq_true rfl, Nat.le_of_ble_eq_true rfl⟩ ⟨Nat.le_of_ble_eq_true rfl, Nat.le_of_ble_eq_true rfl, Nat.le_of_ble_eq_true rfl, Nat.le_of_ble_eq_true rfl⟩ jj_tx0 dX9_press_42 ?_
    refine jj_ifb_ne F (tgt := 52) dX9_press_45 rfl (fun c45 => ?_) (fun c45 => ?_)
    · skip
      refine jj_aload0 F dX9_press_52 ?_
      refine m9_get F hR fd_X9_46 (by decide) rfl dX9_press_53 ?_
      refine jj_iload6 F dX9_press_56 ?_
      refine m9_ald F hR (n := 120) rfl (by have := hS (by omega); omega) (by decide) dX9_press_58 (fun r_58 => ?_)
      refine jj_iconst F dX9_press_59 ?_
      refine jj_icmp_eq F (tgt := 79) dX9_press_60 rfl (by omega) (fun c60 => ?_) (fun c60 => ?_)
      · skip
        refine jj_iconst F dX9_press_79 ?_
        refine jj_goto F (tgt := 84) dX9_press_80 rfl ?_
        refine jj_callVi B (k := 0) (n := 0) (k9_goes F.tr hR (show jR 3 by decide)) lk_X9_118 hR.1 cs_9 rfl rfl ⟨Nat.le_of_ble_eq_true rfl, Nat.le_of_ble_eq_true rfl, Nat.le_of_ble_eq_true rfl, Nat.le_of_ble_eq_true rfl, Nat.le_of_ble_eq_true rfl⟩ ⟨Nat.le_of_ble_eq_true rfl, Nat.le_of_ble_eq_true rfl, Nat.le_of_ble_eq_true rfl, Nat.le_of_ble_eq_true rfl⟩ jj_tx0 dX9_press_84 (fun r G h => ?_)
        obtain ⟨rfl, hR⟩ := h
        refine jj_eqi (b := 0) rfl ?_
        refine jj_if_ne F (tgt := 92) dX9_press_87 rfl (by omega) (fun c87 => by exfalso; omega) (fun c87 => ?_)
        refine jj_iconst F dX9_press_90 ?_
        have htt : t_press s d m n x = 3 := by unfold t_press; (repeat (first | rw [if_pos (by omega)] | rw [if_neg (by omega)]))
        exact jj_iret B dX9_press_91 ⟨Nat.le_of_ble_eq_true rfl, Nat.le_of_ble_eq_true rfl⟩ (⟨_, rfl, (by unfold r_press; first | (refine Eq.trans ?_ (if_pos htt).symm; first | rfl | omega) | (refine Eq.trans ?_ (if_neg (by omega)).symm; rfl)), (by unfold n_press; first | (rw [if_pos htt]; (first | rw [if_pos (by omega)] | rw [if_neg (by omega)]); exact hR) | (rw [if_neg (by omega)]; rw [htt]; exact hR) | (rw [htt]; exact hR))⟩)
      · skip
        refine jj_aload0 F dX9_press_63 ?_
        refine m9_get F hR fd_X9_49 (by decide) rfl dX9_press_64 ?_
        refine jj_iload6 F dX9_press_67 ?_
        refine m9_ald F hR (n := 120) rfl (by have := hS (by omega); omega) (by decide) dX9_press_69 (fun r_69 => ?_)
        refine jj_iload4 F dX9_press_70 ?_
        refine jj_iadd F dX9_press_72 ?_
        refine jj_sipush F (by decide) dX9_press_73 ?_
        refine jj_icmp_le F (tgt := 83) dX9_press_76 rfl (by have := i4 (by omega); omega) (fun c76 => ?_) (fun c76 => ?_)
        · skip
          refine jj_iconst F dX9_press_83 ?_
          refine jj_callVi B (k := 0) (n := 0) (k9_goes F.tr hR (show jR 0 by decide)) lk_X9_118 hR.1 cs_9 rfl rfl ⟨Nat.le_of_ble_eq_true rfl, Nat.le_of_ble_eq_true rfl, Nat.le_of_ble_eq_true rfl, Nat.le_of_ble_eq_true rfl, Nat.le_of_ble_eq_true rfl⟩ ⟨Nat.le_of_ble_eq_true rfl, Nat.le_of_ble_eq_true rfl, Nat.le_of_ble_eq_true rfl, Nat.le_of_ble_eq_true rfl⟩ jj_tx0 dX9_press_84 (fun r G h => ?_)
          obtain ⟨rfl, hR⟩ := h
          refine jj_eqi (b := 1) rfl ?_
          refine jj_if_ne F (tgt := 92) dX9_press_87 rfl (by omega) (fun c87 => ?_) (fun c87 => by exfalso; omega)
          refine jj_aload0 F dX9_press_92 ?_
          refine m9_get F hR fd_X9_49 (by decide) rfl dX9_press_93 ?_
          refine jj_iload6 F dX9_press_96 ?_
          refine jj_dup2 F rfl rfl dX9_press_98 ?_
          refine m9_ald F hR (n := 120) rfl (by have := hS (by omega); omega) (by decide) dX9_press_99 (fun r_99 => ?_)
          refine jj_eqi (b := s 17 _) rfl ?_
          have r_99 : jR (s 17 _) := r_99
          refine jj_iload4 F dX9_press_100 ?_
          refine jj_iadd F dX9_press_102 ?_
          refine m9_ast F hR (n := 120) rfl (by have := hS (by omega); omega) (by decide) (by have := i4 (by omega); omega) dX9_press_103 (fun G hR => ?_)
          refine jj_aload0 F dX9_press_104 ?_
          refine m9_get F hR fd_X9_58 (by decide) rfl dX9_press_105 ?_
          refine jj_iload6 F dX9_press_108 ?_
          refine jj_aload0 F dX9_press_110 ?_
          refine m9_get F hR fd_X9_58 (by decide) rfl dX9_press_111 ?_
          refine jj_iload6 F dX9_press_114 ?_
          refine m9_ald F hR (n := 120) rfl (by have := hS (by omega); omega) (by decide) dX9_press_116 (fun r_116 => ?_)
          refine jj_eqi (b := s 20 _) rfl ?_
          have r_116 : jR (s 20 _) := r_116
          refine jj_iconst F dX9_press_117 ?_
          refine jj_icmp_ne F (tgt := 128) dX9_press_118 rfl (by have := i4 (by omega); omega) (fun c118 => ?_) (fun c118 => ?_)
          · skip
            refine jj_aload0 F dX9_press_128 ?_
            refine m9_get F hR fd_X9_58 (by decide) rfl dX9_press_129 ?_
            refine jj_iload6 F dX9_press_132 ?_
            refine m9_ald F hR (n := 120) rfl (by have := hS (by omega); omega) (by decide) dX9_press_134 (fun r_134 => ?_)
            refine jj_eqi (b := s 20 _) rfl ?_
            have r_134 : jR (s 20 _) := r_134
            refine m9_ast F hR (n := 120) rfl (by have := hS (by omega); omega) (by decide) (by omega) dX9_press_135 (fun G hR => ?_)
            refine jj_aload0 F dX9_press_136 ?_
            refine m9_get F hR fd_X9_61 (by decide) rfl dX9_press_137 ?_
            refine jj_iload6 F dX9_press_140 ?_
            refine jj_aload0 F dX9_press_142 ?_
            refine m9_get F hR fd_X9_108 (by decide) rfl dX9_press_143 ?_
            refine jj_eqi (b := s 0 0) rfl ?_
            refine m9_ast F hR (n := 120) rfl (by have := hS (by omega); omega) (by decide) (by omega) dX9_press_146 (fun G hR => ?_)
            refine jj_aload0 F dX9_press_147 ?_
            refine m9_get F hR fd_X9_49 (by decide) rfl dX9_press_148 ?_
            refine jj_iload6 F dX9_press_151 ?_
            refine m9_ald F hR (n := 120) rfl (by have := hS (by omega); omega) (by decide) dX9_press_153 (fun r_153 => ?_)
            refine jj_eqi (b := s 17 (sSt d m n) + x) (by simp [sU, ju]) ?_
            have htt : t_press s d m n x = 0 := by unfold t_press; (repeat (first | rw [if_pos (by omega)] | rw [if_neg (by omega)]))
            exact jj_iret B dX9_press_154 ⟨Nat.le_of_ble_eq_true rfl, Nat.le_of_ble_eq_true rfl⟩ (⟨_, rfl, (by unfold r_press; first | (refine Eq.trans ?_ (if_pos htt).symm; first | rfl | omega) | (refine Eq.trans ?_ (if_neg (by omega)).symm; rfl)), (by unfold n_press; first | (rw [if_pos htt]; (first | rw [if_pos (by omega)] | rw [if_neg (by omega)]); exact hR) | (rw [if_neg (by omega)]; rw [htt]; exact hR) | (rw [htt]; exact hR))⟩)
          · skip
            refine jj_aload0 F dX9_press_121 ?_
            refine m9_get F hR fd_X9_108 (by decide) rfl dX9_press_122 ?_
            refine jj_eqi (b := s 0 0) rfl ?_
            refine jj_goto F (tgt := 135) dX9_press_125 rfl ?_
            refine m9_ast F hR (n := 120) rfl (by have := hS (by omega); omega) (by decide) (by omega) dX9_press_135 (fun G hR => ?_)
            refine jj_aload0 F dX9_press_136 ?_
            refine m9_get F hR fd_X9_61 (by decide) rfl dX9_press_137 ?_
            refine jj_iload6 F dX9_press_140 ?_
            refine jj_aload0 F dX9_press_142 ?_
            refine m9_get F hR fd_X9_108 (by decide) rfl dX9_press_143 ?_
            refine jj_eqi (b := s 0 0) rfl ?_
            refine m9_ast F hR (n := 120) rfl (by have := hS (by omega); omega) (by decide) (by omega) dX9_press_146 (fun G hR => ?_)
            refine jj_aload0 F dX9_press_147 ?_
            refine m9_get F hR fd_X9_49 (by decide) rfl dX9_press_148 ?_
            refine jj_iload6 F dX9_press_151 ?_
            refine m9_ald F hR (n := 120) rfl (by have := hS (by omega); omega) (by decide) dX9_press_153 (fun r_153 => ?_)
            refine jj_eqi (b := s 17 (sSt d m n) + x) (by simp [sU, ju]) ?_
            have htt : t_press s d m n x = 0 := by unfold t_press; (repeat (first | rw [if_pos (by omega)] | rw [if_neg (by omega)]))
            exact jj_iret B dX9_press_154 ⟨Nat.le_of_ble_eq_true rfl, Nat.le_of_ble_eq_true rfl⟩ (⟨_, rfl, (by unfold r_press; first | (refine Eq.trans ?_ (if_pos htt).symm; first | rfl | omega) | (refine Eq.trans ?_ (if_neg (by omega)).symm; rfl)), (by unfold n_press; first | (rw [if_pos htt]; (first | rw [if_pos (by omega)] | rw [if_neg (by omega)]); exact hR) | (rw [if_neg (by omega)]; rw [htt]; exact hR) | (rw [htt]; exact hR))⟩)
        · skip
          refine jj_iconst F dX9_press_79 ?_
          refine jj_goto F (tgt := 84) dX9_press_80 rfl ?_
          refine jj_callVi B (k := 0) (n := 0) (k9_goes F.tr hR (show jR 3 by decide)) lk_X9_118 hR.1 cs_9 rfl rfl ⟨Nat.le_of_ble_eq_true rfl, Nat.le_of_ble_eq_true rfl, Nat.le_of_ble_eq_true rfl, Nat.le_of_ble_eq_true rfl, Nat.le_of_ble_eq_true rfl⟩ ⟨Nat.le_of_ble_eq_true rfl, Nat.le_of_ble_eq_true rfl, Nat.le_of_ble_eq_true rfl, Nat.le_of_ble_eq_true rfl⟩ jj_tx0 dX9_press_84 (fun r G h => ?_)
          obtain ⟨rfl, hR⟩ := h
          refine jj_eqi (b := 0) rfl ?_
          refine jj_if_ne F (tgt := 92) dX9_press_87 rfl (by omega) (fun c87 => by exfalso; omega) (fun c87 => ?_)
          refine jj_iconst F dX9_press_90 ?_
          have htt : t_press s d m n x = 3 := by unfold t_press; (repeat (first | rw [if_pos (by omega)] | rw [if_neg (by omega)]))
          exact jj_iret B dX9_press_91 ⟨Nat.le_of_ble_eq_true rfl, Nat.le_of_ble_eq_true rfl⟩ (⟨_, rfl, (by unfold r_press; first | (refine Eq.trans ?_ (if_pos htt).symm; first | rfl | omega) | (refine Eq.trans ?_ (if_neg (by omega)).symm; rfl)), (by unfold n_press; first | (rw [if_pos htt]; (first | rw [if_pos (by omega)] | rw [if_neg (by omega)]); exact hR) | (rw [if_neg (by omega)]; rw [htt]; exact hR) | (rw [htt]; exact hR))⟩)
    · skip
      refine jj_iconst F dX9_press_48 ?_
      refine jj_goto F (tgt := 84) dX9_press_49 rfl ?_
      refine jj_callVi B (k := 0) (n := 0) (k9_goes F.tr hR (show jR 2 by decide)) lk_X9_118 hR.1 cs_9 rfl rfl ⟨Nat.le_of_ble_eq_true rfl, Nat.le_of_ble_eq_true rfl, Nat.le_of_ble_eq_true rfl, Nat.le_of_ble_eq_true rfl, Nat.le_of_ble_eq_true rfl⟩ ⟨Nat.le_of_ble_eq_true rfl, Nat.le_of_ble_eq_true rfl, Nat.le_of_ble_eq_true rfl, Nat.le_of_ble_eq_true rfl⟩ jj_tx0 dX9_press_84 (fun r G h => ?_)
      obtain ⟨rfl, hR⟩ := h
      refine jj_eqi (b := 0) rfl ?_
      refine jj_if_ne F (tgt := 92) dX9_press_87 rfl (by omega) (fun c87 => by exfalso; omega) (fun c87 => ?_)
      refine jj_iconst F dX9_press_90 ?_
      have htt : t_press s d m n x = 2 := by unfold t_press; (repeat (first | rw [if_pos (by omega)] | rw [if_neg (by omega)]))
      exact jj_iret B dX9_press_91 ⟨Nat.le_of_ble_eq_true rfl, Nat.le_of_ble_eq_true rfl⟩ (⟨_, rfl, (by unfold r_press; first | (refine Eq.trans ?_ (if_pos htt).symm; first | rfl | omega) | (refine Eq.trans ?_ (if_neg (by omega)).symm; rfl)), (by unfold n_press; first | (rw [if_pos htt]; (first | rw [if_pos (by omega)] | rw [if_neg (by omega)]); exact hR) | (rw [if_neg (by omega)]; rw [htt]; exact hR) | (rw [htt]; exact hR))⟩)
