abbrev rm_X9_cut : Room := { frames := 2, cells := 0, slots := 0, locals := 47 }
set_option maxRecDepth 100000 in
set_option maxHeartbeats 4000000 in
theorem k9_cut {l : Launch} {D : va_G} {ac : Nat → ClassId} (hl : l.stackTraces = false) {o : Nat} {a : Nat → Nat} {s : Sg} {y : Int} {G : jj_G} (hR : RM (ac 0) o a s G) {c : Int} (hI : sInv s c) (hy : jR y) : jj_C l D ac yX9_cut (.code yX9_cut cX9_cut 5 (some .int)) rm_X9_cut [.ref o, .int (jI y)] G (jj_pi (fun r G' => r = r_cut s y ∧ RM (ac 0) o a (n_cut s y) G')) (jj_nx) := by
  refine jj_ofx (own := RX9) (lv0 := [some (.ref o), some (.int (jI y)), none, none, none]) hl (by decide +kernel) rfl rfl (Nat.le_of_ble_eq_true rfl) rfl ?_
  intro X B hN hl0 hdg hac hin
  subst hl0; subst hdg; subst hac
  have F := B.F

  obtain ⟨hI1, hI2, hI3, hI4, hI5, hI6, hI7, hc⟩ := hI
  have i0 := hI1.1
  have i1 := hI1.2.1
  have i2 := hI2.1
  have i3 := hI3.1
  have r13 := hR.rng 13 0
  have r11 := hR.rng 11 0
  have hp : ∀ j : Nat, (j : Int) < s 11 0 → (0 ≤ s 12 j ∧ s 12 j < 30) ∧ (0 ≤ s 7 (s 12 j) ∧ s 7 (s 12 j) ≤ 20) ∧ (0 ≤ s 3 (s 12 j) ∧ s 3 (s 12 j) ≤ 9999) := by
    intro j hj
    have g2 := hI2.2 j (by omega) hj
    have g3 := hI1.2.2.1 (s 12 j) (by omega) (by omega)
    exact ⟨by omega, by omega, g3.2.1⟩
  refine jj_aload0 F dX9_cut_0 ?_
  refine jj_iload1 F dX9_cut_1 ?_
  refine jj_iconst F dX9_cut_2 ?_
  refine jj_iconst F dX9_cut_3 ?_
  refine jj_callSr B (k := 0) (n := 0) (k9_isIn F.tr (by omega) (by omega) (by omega)) lk_X9_104 rfl ⟨Nat.le_of_ble_eq_true rfl, Nat.le_of_ble_eq_true rfl, Nat.le_of_ble_eq_true rfl, Nat.le_of_ble_eq_true rfl, Nat.le_of_ble_eq_true rfl⟩ ⟨Nat.le_of_ble_eq_true rfl, Nat.le_of_ble_eq_true rfl, Nat.le_of_ble_eq_true rfl, Nat.le_of_ble_eq_true rfl⟩ jj_tx0 dX9_cut_4 ?_
  refine jj_ifb_ne F (tgt := 14) dX9_cut_7 rfl (fun c7 => ?_) (fun c7 => ?_)
  · skip
    refine jj_aload0 F dX9_cut_14 ?_
    refine jj_iload1 F dX9_cut_15 ?_
    refine jj_callVr B (k := 0) (n := 0) (k9_canCut F.tr hR i2 (by omega) i0 hp (fun j hj => by have := sProg_in hI1 hI2 j hj; omega)) lk_X9_155 hR.1 cs_9 rfl rfl ⟨Nat.le_of_ble_eq_true rfl, Nat.le_of_ble_eq_true rfl, Nat.le_of_ble_eq_true rfl, Nat.le_of_ble_eq_true rfl, Nat.le_of_ble_eq_true rfl⟩ ⟨Nat.le_of_ble_eq_true rfl, Nat.le_of_ble_eq_true rfl, Nat.le_of_ble_eq_true rfl, Nat.le_of_ble_eq_true rfl⟩ jj_tx0 dX9_cut_16 ?_
    refine jj_ifb_eq F (tgt := 26) dX9_cut_19 rfl (fun c19 => ?_) (fun c19 => ?_)
    · skip
      have hA : ¬ sCanCut s y = 1 := by unfold sCanCut; rw [if_neg c19]; decide
      refine jj_iconst F dX9_cut_26 ?_
      refine jj_callVi B (k := 0) (n := 0) (k9_goes F.tr hR (show jR 2 by decide)) lk_X9_118 hR.1 cs_9 rfl rfl ⟨Nat.le_of_ble_eq_true rfl, Nat.le_of_ble_eq_true rfl, Nat.le_of_ble_eq_true rfl, Nat.le_of_ble_eq_true rfl, Nat.le_of_ble_eq_true rfl⟩ ⟨Nat.le_of_ble_eq_true rfl, Nat.le_of_ble_eq_true rfl, Nat.le_of_ble_eq_true rfl, Nat.le_of_ble_eq_true rfl⟩ jj_tx0 dX9_cut_27 (fun r G h => ?_)
      obtain ⟨rfl, hR⟩ := h
      refine jj_eqi (b := 0) rfl ?_
      refine jj_if_ne F (tgt := 35) dX9_cut_30 rfl (by omega) (fun c30 => by exfalso; omega) (fun c30 => ?_)
      refine jj_iconst F dX9_cut_33 ?_
      have htt : t_cut s y = 2 := by unfold t_cut; (repeat (first | rw [if_pos (by omega)] | rw [if_neg (by omega)]))
      exact jj_iret B dX9_cut_34 ⟨Nat.le_of_ble_eq_true rfl, Nat.le_of_ble_eq_true rfl⟩ (⟨_, rfl, (by unfold r_cut; first | (refine Eq.trans ?_ (if_pos htt).symm; first | rfl | omega) | (refine Eq.trans ?_ (if_neg (by omega)).symm; rfl)), (by unfold n_cut; first | (rw [if_pos htt]; exact hR) | (rw [if_neg (by omega)]; rw [htt]; exact hR) | (rw [htt]; exact hR))⟩)
    · skip
      have hA : sCanCut s y = 1 := by unfold sCanCut; rw [if_pos c19]
      refine jj_iconst F dX9_cut_22 ?_
      refine jj_goto F (tgt := 27) dX9_cut_23 rfl ?_
      refine jj_callVi B (k := 0) (n := 0) (k9_goes F.tr hR (show jR 0 by decide)) lk_X9_118 hR.1 cs_9 rfl rfl ⟨Nat.le_of_ble_eq_true rfl, Nat.le_of_ble_eq_true rfl, Nat.le_of_ble_eq_true rfl, Nat.le_of_ble_eq_true rfl, Nat.le_of_ble_eq_true rfl⟩ ⟨Nat.le_of_ble_eq_true rfl, Nat.le_of_ble_eq_true rfl, Nat.le_of_ble_eq_true rfl, Nat.le_of_ble_eq_true rfl⟩ jj_tx0 dX9_cut_27 (fun r G h => ?_)
      obtain ⟨rfl, hR⟩ := h
      refine jj_eqi (b := 1) rfl ?_
      refine jj_if_ne F (tgt := 35) dX9_cut_30 rfl (by omega) (fun c30 => ?_) (fun c30 => by exfalso; omega)
      refine jj_iconst F dX9_cut_35 ?_
      refine jj_istore2 F dX9_cut_36 (hN _ (by decide)) rfl ?_
      have htt : t_cut s y = 0 := by unfold t_cut; rw [if_neg (by omega), if_pos hA]
      have hdx : ∀ t j : Int, 0 ≤ t → t < s 1 0 → 0 ≤ j → j < s 7 t → (0 ≤ s 8 (20 * t + j) ∧ s 8 (20 * t + j) < 30) ∧ (0 ≤ s 6 (s 8 (20 * t + j)) ∧ s 6 (s 8 (20 * t + j)) ≤ 5) ∧ (0 ≤ s 10 (20 * t + j) - s 9 (20 * t + j) ∧ s 10 (20 * t + j) - s 9 (20 * t + j) ≤ 900) := by
        intro t j h1 h2 h3 h4
        have g1 := hI1.2.2.2.2 t j h1 h2 h3 h4
        have g2 := (hI1.2.2.1 (s 8 (20 * t + j)) (by omega) (by omega)).2.2.2.2.1
        omega
      have loop : ∀ (n i : Nat) (x3 x4 : Option Value) (G : jj_G), jj_ncv x3 = true → n + i = (s 11 0).toNat → RM (jj_ac X 0) o a (sCutTo s i) G → jj_J X G 0 0 37 [some (.ref o), some (.int (jI y)), some (.int (jI i)), x3, x4] [] := by
        intro n
        induction n with
        | zero =>
          intro i x3 x4 G hx3 hi hR
          have e1 : (i : Int) = s 11 0 := by omega
          refine jj_iload2 F dX9_cut_37 ?_
          refine jj_aload0 F dX9_cut_38 ?_
          refine m9_get F hR fd_X9_152 (by decide) rfl dX9_cut_39 ?_
          refine jj_eqi (b := s 11 0) (congrFun (sCutTo_n (by decide) i) 0) ?_
          refine jj_icmp_ge F (tgt := 146) dX9_cut_42 rfl (by omega) (fun c42 => ?_) (fun c42 => by exfalso; omega)
          refine jj_aload0 F dX9_cut_146 ?_
          refine jj_iconst F dX9_cut_147 ?_
          refine m9_put F hR fd_X9_152 rfl (by omega) (by decide) rfl (by first | rfl | decide) (by first | rfl | decide) dX9_cut_148 (fun G hR => ?_)
          refine jj_aload0 F dX9_cut_151 ?_
          refine jj_dup F rfl dX9_cut_152 ?_
          refine m9_get F hR fd_X9_149 (by decide) rfl dX9_cut_153 ?_
          refine jj_eqi (b := s 13 0) (by rw [sU_n (by decide)]; exact congrFun (sCutTo_n (by decide) i) 0) ?_
          refine jj_iconst F dX9_cut_156 ?_
          refine jj_iadd F dX9_cut_157 ?_
          refine m9_put F hR fd_X9_149 rfl (by omega) (by decide) rfl (by first | rfl | decide) (by first | rfl | decide) dX9_cut_158 (fun G hR => ?_)
          refine jj_aload0 F dX9_cut_161 ?_
          refine m9_get F hR fd_X9_149 (by decide) rfl dX9_cut_162 ?_
          refine jj_eqi (b := s 13 0 + 1) sU_s ?_
          refine jj_iconst F dX9_cut_165 ?_
          refine jj_isub F dX9_cut_166 ?_
          exact jj_iret B dX9_cut_167 ⟨Nat.le_of_ble_eq_true rfl, Nat.le_of_ble_eq_true rfl⟩ (⟨_, rfl, (by unfold r_cut; refine Eq.trans ?_ (if_pos htt).symm; omega), (by unfold n_cut; rw [if_pos htt, show (s 11 0).toNat = i by omega]; exact hR)⟩)
        | succ n ih =>
          intro i x3 x4 G hx3 hi hR
          have e1 : (i : Int) < s 11 0 := by omega
          obtain ⟨t, ht⟩ : ∃ t, t = s 12 i := ⟨_, rfl⟩
          have hp1 := hp i e1
          have hp2 := hI2.2 i (by omega) e1
          rw [← ht] at hp1 hp2
          refine jj_iload2 F dX9_cut_37 ?_
          refine jj_aload0 F dX9_cut_38 ?_
          refine m9_get F hR fd_X9_152 (by decide) rfl dX9_cut_39 ?_
          refine jj_eqi (b := s 11 0) (congrFun (sCutTo_n (by decide) i) 0) ?_
          refine jj_icmp_ge F (tgt := 146) dX9_cut_42 rfl (by omega) (fun c42 => by exfalso; omega) (fun c42 => ?_)
          refine jj_aload0 F dX9_cut_45 ?_
          refine m9_get F hR fd_X9_37 (by decide) rfl dX9_cut_46 ?_
          refine jj_iload2 F dX9_cut_49 ?_
          refine m9_ald F hR (n := 6) rfl (by omega) (by decide) dX9_cut_50 (fun r_50 => ?_)
          refine jj_eqi (b := t) ((congrFun (sCutTo_n (by decide) i) _).trans ht.symm) ?_
          refine jj_istore3 F dX9_cut_51 (hN _ (by decide)) rfl ?_
          refine jj_aload0 F dX9_cut_52 ?_
          refine m9_get F hR fd_X9_43 (by decide) rfl dX9_cut_53 ?_
          refine jj_aload0 F dX9_cut_56 ?_
          refine m9_get F hR fd_X9_149 (by decide) rfl dX9_cut_57 ?_
          refine jj_eqi (b := s 13 0) (congrFun (sCutTo_n (by decide) i) 0) ?_
          refine jj_dup2 F rfl rfl dX9_cut_60 ?_
          refine m9_ald F hR (n := 10) rfl (by omega) (by decide) dX9_cut_61 (fun r_61 => ?_)
          refine jj_aload0 F dX9_cut_62 ?_
          refine jj_iload3 F dX9_cut_63 ?_
          refine jj_callVr B (k := 0) (n := 0) (k9_takesOf F.tr hR hp1.1 (by rw [sCutTo_n (by decide)]; exact hp1.2.1)) lk_X9_146 hR.1 cs_9 rfl rfl ⟨Nat.le_of_ble_eq_true rfl, Nat.le_of_ble_eq_true rfl, Nat.le_of_ble_eq_true rfl, Nat.le_of_ble_eq_true rfl, Nat.le_of_ble_eq_true rfl⟩ ⟨Nat.le_of_ble_eq_true rfl, Nat.le_of_ble_eq_true rfl, Nat.le_of_ble_eq_true rfl, Nat.le_of_ble_eq_true rfl⟩ jj_tx0 dX9_cut_64 ?_
          refine jj_eqi (congrFun (sTakes_c (s := s) (sCutTo_n (by decide) i) (sCutTo_n (by decide) i)) _) ?_
          refine jj_ior F dX9_cut_67 ?_
          refine jj_topi (jI_of _) ?_
          refine m9_ast F hR (n := 10) rfl (by omega) (by decide) (jI_rng _) dX9_cut_68 (fun G hR => ?_)
          refine jj_bipush F (by decide) dX9_cut_69 ?_
          refine jj_iload3 F dX9_cut_71 ?_
          refine jj_imul F dX9_cut_72 ?_
          refine jj_istore4 F dX9_cut_73 (hN _ (by decide)) rfl ?_
          rw [show sU (sCutTo s i) 15 (s 13 0) ((jI (sCutTo s i 15 (s 13 0)) ||| jI (sTakes s t)).toInt) = sU (sCutTo s i) 15 (s 13 0) (sOr (sCutTo s i 15 (s 13 0)) (sTakes s t)) from rfl] at hR
          have hb14 : ∀ (j : Nat), (j : Int) < s 7 t → ∀ q : Int, 0 ≤ q → q ≤ 5 → 0 ≤ sCutIn s (sU (sCutTo s i) 15 (s 13 0) (sOr (sCutTo s i 15 (s 13 0)) (sTakes s t))) t j 14 (6 * s 13 0 + q) ∧ sCutIn s (sU (sCutTo s i) 15 (s 13 0) (sOr (sCutTo s i 15 (s 13 0)) (sTakes s t))) t j 14 (6 * s 13 0 + q) ≤ 18000 * i + 900 * j := fun j hj q h1 h2 => sCutIn_14 (by rw [sU_n (by decide)]; exact sCutTo_14 hI1 hI2 (hI3.2.2.2.1 _ (by omega) (by omega)) i (by omega)) j (fun k hk => (hdx t k (by omega) (by omega) (by omega) (by omega)).2.2)
          have loop2 : ∀ (n2 j : Nat) (G : jj_G), n2 + j = (s 7 t).toNat → RM (jj_ac X 0) o a (sCutIn s (sU (sCutTo s i) 15 (s 13 0) (sOr (sCutTo s i 15 (s 13 0)) (sTakes s t))) t j) G → jj_J X G 0 0 75 [some (.ref o), some (.int (jI y)), some (.int (jI i)), some (.int (jI t)), some (.int (jI (20 * t + j)))] [] := by
            intro n2
            induction n2 with
            | zero =>
              intro j G hj hR
              have e2 : (j : Int) = s 7 t := by omega
              refine jj_iload4 F dX9_cut_75 ?_
              refine jj_bipush F (by decide) dX9_cut_77 ?_
              refine jj_iload3 F dX9_cut_79 ?_
              refine jj_imul F dX9_cut_80 ?_
              refine jj_aload0 F dX9_cut_81 ?_
              refine m9_get F hR fd_X9_25 (by decide) rfl dX9_cut_82 ?_
              refine jj_iload3 F dX9_cut_85 ?_
              refine m9_ald F hR (n := 30) rfl (by omega) (by decide) dX9_cut_86 (fun r_86 => ?_)
              refine jj_eqi (b := s 7 t) (congrFun (show sCutIn s (sU (sCutTo s i) 15 (s 13 0) (sOr (sCutTo s i 15 (s 13 0)) (sTakes s t))) t j _ = s _ by rw [sCutIn_n (by decide), sU_n (by decide), sCutTo_n (by decide)]) _) ?_
              refine jj_iadd F dX9_cut_87 ?_
              refine jj_icmp_ge F (tgt := 140) dX9_cut_88 rfl (by omega) (fun c88 => ?_) (fun c88 => by exfalso; omega)
              refine jj_iinc2 F dX9_cut_140 (hN _ (by decide)) rfl ?_
              refine jj_goto F (tgt := 37) dX9_cut_143 rfl ?_
              have hR2 : RM (jj_ac X 0) o a (sCutTo s (i + 1)) G := by
                have e3 : (s 7 t).toNat = j := by omega
                unfold sCutTo
                rw [← ht, e3]; exact hR
              have ih1 := ih (i + 1) (some (.int (jI t))) (some (.int (jI (20 * t + j)))) G rfl (by omega) hR2
              rw [show (((i + 1 : Nat)) : Int) = (i : Int) + 1 from rfl] at ih1
              exact ih1
            | succ n2 ih2 =>
              intro j G hj hR
              have e2 : (j : Int) < s 7 t := by omega
              refine jj_iload4 F dX9_cut_75 ?_
              refine jj_bipush F (by decide) dX9_cut_77 ?_
              refine jj_iload3 F dX9_cut_79 ?_
              refine jj_imul F dX9_cut_80 ?_
              refine jj_aload0 F dX9_cut_81 ?_
              refine m9_get F hR fd_X9_25 (by decide) rfl dX9_cut_82 ?_
              refine jj_iload3 F dX9_cut_85 ?_
              refine m9_ald F hR (n := 30) rfl (by omega) (by decide) dX9_cut_86 (fun r_86 => ?_)
              refine jj_eqi (b := s 7 t) (congrFun (show sCutIn s (sU (sCutTo s i) 15 (s 13 0) (sOr (sCutTo s i 15 (s 13 0)) (sTakes s t))) t j _ = s _ by rw [sCutIn_n (by decide), sU_n (by decide), sCutTo_n (by decide)]) _) ?_
              refine jj_iadd F dX9_cut_87 ?_
              refine jj_icmp_ge F (tgt := 140) dX9_cut_88 rfl (by omega) (fun c88 => by exfalso; omega) (fun c88 => ?_)
              refine jj_aload0 F dX9_cut_91 ?_
              refine m9_get F hR fd_X9_40 (by decide) rfl dX9_cut_92 ?_
              refine jj_bipush F (by decide) dX9_cut_95 ?_
              refine jj_aload0 F dX9_cut_97 ?_
              refine m9_get F hR fd_X9_149 (by decide) rfl dX9_cut_98 ?_
              refine jj_eqi (b := s 13 0) (congrFun (show sCutIn s (sU (sCutTo s i) 15 (s 13 0) (sOr (sCutTo s i 15 (s 13 0)) (sTakes s t))) t j _ = s _ by rw [sCutIn_n (by decide), sU_n (by decide), sCutTo_n (by decide)]) _) ?_
              refine jj_imul F dX9_cut_101 ?_
              refine jj_aload0 F dX9_cut_102 ?_
              refine m9_get F hR fd_X9_22 (by decide) rfl dX9_cut_103 ?_
              refine jj_aload0 F dX9_cut_106 ?_
              refine m9_get F hR fd_X9_28 (by decide) rfl dX9_cut_107 ?_
              refine jj_iload4 F dX9_cut_110 ?_
              refine m9_ald F hR (n := 600) rfl (by omega) (by decide) dX9_cut_112 (fun r_112 => ?_)
              refine jj_eqi (b := s 8 (20 * t + j)) (congrFun (show sCutIn s (sU (sCutTo s i) 15 (s 13 0) (sOr (sCutTo s i 15 (s 13 0)) (sTakes s t))) t j _ = s _ by rw [sCutIn_n (by decide), sU_n (by decide), sCutTo_n (by decide)]) _) ?_
              refine m9_ald F hR (n := 30) rfl (by have := hdx t j (by omega) (by omega) (by omega) (by omega); omega) (by decide) dX9_cut_113 (fun r_113 => ?_)
              refine jj_eqi (b := s 6 (s 8 (20 * t + j))) (congrFun (show sCutIn s (sU (sCutTo s i) 15 (s 13 0) (sOr (sCutTo s i 15 (s 13 0)) (sTakes s t))) t j _ = s _ by rw [sCutIn_n (by decide), sU_n (by decide), sCutTo_n (by decide)]) _) ?_
              refine jj_iadd F dX9_cut_114 ?_
              refine jj_dup2 F rfl rfl dX9_cut_115 ?_
              refine m9_ald F hR (n := 60) rfl (by have := hdx t j (by omega) (by omega) (by omega) (by omega); omega) (by decide) dX9_cut_116 (fun r_116 => ?_)
              refine jj_aload0 F dX9_cut_117 ?_
              refine m9_get F hR fd_X9_34 (by decide) rfl dX9_cut_118 ?_
              refine jj_iload4 F dX9_cut_121 ?_
              refine m9_ald F hR (n := 600) rfl (by omega) (by decide) dX9_cut_123 (fun r_123 => ?_)
              refine jj_eqi (b := s 10 (20 * t + j)) (congrFun (show sCutIn s (sU (sCutTo s i) 15 (s 13 0) (sOr (sCutTo s i 15 (s 13 0)) (sTakes s t))) t j _ = s _ by rw [sCutIn_n (by decide), sU_n (by decide), sCutTo_n (by decide)]) _) ?_
              refine jj_aload0 F dX9_cut_124 ?_
              refine m9_get F hR fd_X9_31 (by decide) rfl dX9_cut_125 ?_
              refine jj_iload4 F dX9_cut_128 ?_
              refine m9_ald F hR (n := 600) rfl (by omega) (by decide) dX9_cut_130 (fun r_130 => ?_)
              refine jj_eqi (b := s 9 (20 * t + j)) (congrFun (show sCutIn s (sU (sCutTo s i) 15 (s 13 0) (sOr (sCutTo s i 15 (s 13 0)) (sTakes s t))) t j _ = s _ by rw [sCutIn_n (by decide), sU_n (by decide), sCutTo_n (by decide)]) _) ?_
              refine jj_isub F dX9_cut_131 ?_
              refine jj_iadd F dX9_cut_132 ?_
              refine m9_ast F hR (n := 60) rfl (by have := hdx t j (by omega) (by omega) (by omega) (by omega); omega) (by decide) (by have g1 := hdx t j (by omega) (by omega) (by omega) (by omega); have g2 := hb14 j (by omega) (s 6 (s 8 (20 * t + j))) (by omega) (by omega); omega) dX9_cut_133 (fun G hR => ?_)
              refine jj_iinc4 F dX9_cut_134 (hN _ (by decide)) rfl ?_
              refine jj_goto F (tgt := 75) dX9_cut_137 rfl ?_
              have ih1 := ih2 (j + 1) G (by omega) hR
              rw [show (((j + 1 : Nat)) : Int) = (j : Int) + 1 from rfl, show 20 * t + ((j : Int) + 1) = 20 * t + (j : Int) + 1 by omega] at ih1
              exact ih1
          have l0 := loop2 (s 7 t).toNat 0 G (by omega) hR
          rw [show (20 * t + ((0 : Nat) : Int)) = 20 * t by omega] at l0
          exact l0
      exact loop (s 11 0).toNat 0 none none G rfl (by omega) hR
  · skip
    refine jj_iconst F dX9_cut_10 ?_
    refine jj_goto F (tgt := 27) dX9_cut_11 rfl ?_
    refine jj_callVi B (k := 0) (n := 0) (k9_goes F.tr hR (show jR 1 by decide)) lk_X9_118 hR.1 cs_9 rfl rfl ⟨Nat.le_of_ble_eq_true rfl, Nat.le_of_ble_eq_true rfl, Nat.le_of_ble_eq_true rfl, Nat.le_of_ble_eq_true rfl, Nat.le_of_ble_eq_true rfl⟩ ⟨Nat.le_of_ble_eq_true rfl, Nat.le_of_ble_eq_true rfl, Nat.le_of_ble_eq_true rfl, Nat.le_of_ble_eq_true rfl⟩ jj_tx0 dX9_cut_27 (fun r G h => ?_)
    obtain ⟨rfl, hR⟩ := h
    refine jj_eqi (b := 0) rfl ?_
    refine jj_if_ne F (tgt := 35) dX9_cut_30 rfl (by omega) (fun c30 => by exfalso; omega) (fun c30 => ?_)
    refine jj_iconst F dX9_cut_33 ?_
    have htt : t_cut s y = 1 := by unfold t_cut; (repeat (first | rw [if_pos (by omega)] | rw [if_neg (by omega)]))
    exact jj_iret B dX9_cut_34 ⟨Nat.le_of_ble_eq_true rfl, Nat.le_of_ble_eq_true rfl⟩ (⟨_, rfl, (by unfold r_cut; first | (refine Eq.trans ?_ (if_pos htt).symm; first | rfl | omega) | (refine Eq.trans ?_ (if_neg (by omega)).symm; rfl)), (by unfold n_cut; first | (rw [if_pos htt]; exact hR) | (rw [if_neg (by omega)]; rw [htt]; exact hR) | (rw [htt]; exact hR))⟩)
