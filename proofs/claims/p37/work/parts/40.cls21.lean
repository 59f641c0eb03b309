
abbrev rm_X8_cut : Room := { frames := 8, cells := 5, slots := 40, locals := 139 }
set_option maxRecDepth 100000 in
set_option maxHeartbeats 400000 in
theorem x8_cut {l : Launch} {D : va_G} {ac : Nat → ClassId} (hl : l.stackTraces = false) {ad : Ad} {s e : Sg} {y : Int}  {G : jj_G} (hR : Rep ad (cC ac ad s e) G) {c : Int} (hI : sInv s c) (hy : jR y) : jj_C l D ac yX8_cut (.code yX8_cut cX8_cut 3 (some .int)) rm_X8_cut [.ref (ad 0 0), .int (jI y)] G (jj_pi (fun r G' => t_cut s y = 0 ∧ r = r_cut s y ∧ ∃ ad', ad' 0 0 = ad 0 0 ∧ Rep ad' (cC ac ad' (n_cut s y) (e)) G')) (jp2 (t_cut s y) eA eS) := by
  refine jj_ofx (own := RX8) (lv0 := [some (.ref (ad 0 0)), some (.int (jI y)), none]) hl (by decide +kernel) rfl rfl (Nat.le_of_ble_eq_true rfl) rfl ?_
  intro X B hN hl0 hdg hac hin
  subst hl0; subst hdg; subst hac
  have F := B.F

  obtain ⟨hI1, hI2, hI3, hI4, hI5, hI6, hI7, hc⟩ := hI
  have i0 := hI1.1
  have i1 := hI1.2.1
  have i3 := hI3.1
  have i11 := hI2.1
  have hpl := sPlaysTo_01 s (s 11 0).toNat
  refine jj_iload1 F dX8_cut_0 ?_
  refine jj_iconst F dX8_cut_1 ?_
  refine jj_icmp_lt F (tgt := 10) dX8_cut_2 rfl (by omega) (fun c2 => ?_) (fun c2 => ?_)
  · skip
    exact jj_throwS B th_2 sr_X8_169 rfl (Or.inl ⟨(by unfold t_cut sCanCut; (try rw [← hk]); (repeat (first | rw [if_pos (by omega)] | rw [if_neg (by omega)]))), rfl⟩) ⟨Nat.le_of_ble_eq_true rfl, Nat.le_of_ble_eq_true rfl, Nat.le_of_ble_eq_true rfl, Nat.le_of_ble_eq_true rfl⟩ dX8_cut_10 dX8_cut_13 dX8_cut_14 dX8_cut_16 dX8_cut_19
  · skip
    refine jj_iload1 F dX8_cut_5 ?_
    refine jj_iconst F dX8_cut_6 ?_
    refine jj_icmp_le F (tgt := 20) dX8_cut_7 rfl (by omega) (fun c7 => ?_) (fun c7 => ?_)
    · skip
      refine jj_aload0 F dX8_cut_20 ?_
      refine jj_get F (hR.at (k := 0) (i := 0) cc_0) cs_8 (by decide) fd_X8_18 rfl dX8_cut_21 ?_
      refine jj_get F (hR.at (k := 4) (i := 0) cc_4) cs_1 (by decide) fd_X8_158 rfl dX8_cut_24 ?_
      refine jj_if_eq F (tgt := 44) dX8_cut_27 rfl (by omega) (fun c27 => ?_) (fun c27 => ?_)
      · skip
        exact jj_throwS B th_3 sr_X8_172 rfl (Or.inr ⟨(by unfold t_cut sCanCut; (try rw [← hk]); (repeat (first | rw [if_pos (by omega)] | rw [if_neg (by omega)]))), rfl⟩) ⟨Nat.le_of_ble_eq_true rfl, Nat.le_of_ble_eq_true rfl, Nat.le_of_ble_eq_true rfl, Nat.le_of_ble_eq_true rfl⟩ dX8_cut_44 dX8_cut_47 dX8_cut_48 dX8_cut_50 dX8_cut_53
      · skip
        refine jj_aload0 F dX8_cut_30 ?_
        refine jj_get F (hR.at (k := 0) (i := 0) cc_0) cs_8 (by decide) fd_X8_18 rfl dX8_cut_31 ?_
        refine jj_aload0 F dX8_cut_34 ?_
        refine jj_get F (hR.at (k := 0) (i := 0) cc_0) cs_8 (by decide) fd_X8_108 rfl dX8_cut_35 ?_
        refine jj_callVr B (k := 0) (n := 0) (k1_isPlayable F.tr hR.1 hI1 hI2) lk_X8_171 (hR.at (k := 4) (i := 0) cc_4) cs_1 rfl rfl ⟨Nat.le_of_ble_eq_true rfl, Nat.le_of_ble_eq_true rfl, Nat.le_of_ble_eq_true rfl, Nat.le_of_ble_eq_true rfl, Nat.le_of_ble_eq_true rfl⟩ ⟨Nat.le_of_ble_eq_true rfl, Nat.le_of_ble_eq_true rfl, Nat.le_of_ble_eq_true rfl, Nat.le_of_ble_eq_true rfl⟩ jj_tx0 dX8_cut_38 ?_
        refine jj_if_ne F (tgt := 54) dX8_cut_41 rfl (by have := sPlaysTo_01 s (s 11 0).toNat; omega) (fun c41 => ?_) (fun c41 => ?_)
        · skip
          refine jj_aload0 F dX8_cut_54 ?_
          refine jj_get F (hR.at (k := 0) (i := 0) cc_0) cs_8 (by decide) fd_X8_18 rfl dX8_cut_55 ?_
          refine jj_callVr B (k := 0) (n := 0) (k1_length F.tr hR.1 hI1 hI2 (by omega)) lk_X8_174 (hR.at (k := 4) (i := 0) cc_4) cs_1 rfl rfl ⟨Nat.le_of_ble_eq_true rfl, Nat.le_of_ble_eq_true rfl, Nat.le_of_ble_eq_true rfl, Nat.le_of_ble_eq_true rfl, Nat.le_of_ble_eq_true rfl⟩ ⟨Nat.le_of_ble_eq_true rfl, Nat.le_of_ble_eq_true rfl, Nat.le_of_ble_eq_true rfl, Nat.le_of_ble_eq_true rfl⟩ jj_tx0 dX8_cut_58 ?_
          refine jj_sipush F (by decide) dX8_cut_61 ?_
          refine jj_sipush F (by decide) dX8_cut_64 ?_
          refine jj_iload1 F dX8_cut_67 ?_
          refine jj_imul F dX8_cut_68 ?_
          refine jj_isub F dX8_cut_69 ?_
          refine jj_icmp_le F (tgt := 83) dX8_cut_70 rfl (by have := sProg_in hI1 hI2 (s 11 0).toNat (by omega); omega) (fun c70 => ?_) (fun c70 => ?_)
          · skip
            refine jj_aload0 F dX8_cut_83 ?_
            refine jj_get F (hR.at (k := 0) (i := 0) cc_0) cs_8 (by decide) fd_X8_178 rfl dX8_cut_84 ?_
            refine jj_istore2 F dX8_cut_87 (hN _ (by decide)) rfl ?_
            refine jj_iload2 F dX8_cut_88 ?_
            refine jj_if_lt F (tgt := 101) dX8_cut_89 rfl (by omega) (fun c89 => by exfalso; omega) (fun c89 => ?_)
            refine jj_iload2 F dX8_cut_92 ?_
            refine jj_aload0 F dX8_cut_93 ?_
            refine jj_get F (hR.at (k := 0) (i := 0) cc_0) cs_8 (by decide) fd_X8_24 rfl dX8_cut_94 ?_
            refine jj_alenQ F (fun _ => rfl) (hR.at (k := 2) (i := 0) cc_2) dX8_cut_97 ?_
            refine jj_icmp_lt F (tgt := 111) dX8_cut_98 rfl (by omega) (fun c98 => ?_) (fun c98 => ?_)
            · skip
              refine jj_aload0 F dX8_cut_111 ?_
              refine jj_get F (hR.at (k := 0) (i := 0) cc_0) cs_8 (by decide) fd_X8_24 rfl dX8_cut_112 ?_
              refine jj_iload2 F dX8_cut_115 ?_
              refine jj_aload0 F dX8_cut_116 ?_
              refine jj_callVq B (k := 3) (n := 23) (k8_sideOfProgram F.tr hR.1 hI1 hI2 (fun i h1 h2 => hI3.2.2.2.1 i h1 (by omega)) (hI3.2.2.2.2 (s 13 0) (by omega) (by omega))) lk_X8_183 (hR.at (k := 0) (i := 0) cc_0) cs_8 rfl rfl ⟨Nat.le_of_ble_eq_true rfl, Nat.le_of_ble_eq_true rfl, Nat.le_of_ble_eq_true rfl, Nat.le_of_ble_eq_true rfl, Nat.le_of_ble_eq_true rfl⟩ ⟨Nat.le_of_ble_eq_true rfl, Nat.le_of_ble_eq_true rfl, Nat.le_of_ble_eq_true rfl, Nat.le_of_ble_eq_true rfl⟩ jj_tx0 dX8_cut_117 (fun r G1 h => ?_)
              obtain ⟨o, a1, a2, rfl, hL⟩ := h
              obtain ⟨S, hS⟩ : ∃ S, S = sCutTo s (s 11 0).toNat := ⟨_, rfl⟩
              rw [← hS] at hL
              have hN1 : SideNew s S := ⟨fun k h1 h2 h3 => by rw [hS, sCutTo_n ⟨h2, h3, by omega⟩], fun x hx => by rw [hS, sCutTo_14o hI1 hI2 hx _ (by omega)], fun i hi => by rw [hS, sCutTo_15o hi], fun k h1 h2 => (hI4.1 k (by omega) h2).2.2.2.2.2.2.1 h1, by omega⟩
              have hR := hR.grow3 hL (k1 := 20) (i1 := s 13 0) (k2 := 21) (i2 := s 13 0) (k3 := 22) (i3 := s 13 0) (if_neg (by omega)) (if_neg (by omega)) (if_neg (by omega)) (by decide)
              refine c8_ast F (ad := (aS ad (s 13 0) o a1 a2)) (fun _ => rfl) hR (k := 2) (i := 0) ((cU_k (by decide)).trans ((cU_k (by decide)).trans ((cU_k (by decide)).trans cc_2))) (hL.at (m := 0) rfl) cs_4 (by omega) (by decide) dX8_cut_120 (fun G hR => ?_)
              refine jj_aload0 F dX8_cut_121 ?_
              refine jj_dup F rfl dX8_cut_122 ?_
              refine jj_get F (hR.at (k := 0) (i := 0) ((cU_k (by decide)).trans ((cU_k (by decide)).trans ((cU_k (by decide)).trans ((cU_k (by decide)).trans cc_0))))) cs_8 (by decide) fd_X8_178 rfl dX8_cut_123 ?_
              refine jj_iconst F dX8_cut_126 ?_
              refine jj_iadd F dX8_cut_127 ?_
              refine c8_put F (ad := (aS ad (s 13 0) o a1 a2)) hR (k := 0) (i := 0) ((cU_k (by decide)).trans ((cU_k (by decide)).trans ((cU_k (by decide)).trans ((cU_k (by decide)).trans cc_0)))) cs_8 (by decide) fd_X8_178 rfl rfl rfl (Nat.le_of_ble_eq_true rfl) dX8_cut_128 (fun G hR => ?_)
              refine jj_aload0 F dX8_cut_131 ?_
              refine jj_get F (hR.at (k := 0) (i := 0) cU_s) cs_8 (by decide) fd_X8_18 rfl dX8_cut_132 ?_
              have hR := hR.congr (C' := cC (jj_ac X) (aS ad (s 13 0) o a1 a2) (sU S 13 0 (s 13 0 + 1)) (e)) (kcases (fun i => by exact kz (fun i hi => by simp [cU, cC, hi]) (cHouse hN1) i) (fun i => kc_1 (ac := jj_ac X) (ad := (aS ad (s 13 0) o a1 a2)) (s := s) (e := (e)) (s' := (sU S 13 0 (s 13 0 + 1))) (e' := (e)) (hN1.1 1 (by decide) (by decide) (by decide)) i) (fun i => by rw [cU_k (k := 0) (k' := 2) (by decide)]; exact kz (fun i hi => by simp [cU, cC, hi]) (congrArg (jj_aq (jj_ac X 3) 10) (rRow_grow (by omega) (fun j h1 h2 => aS_20 (by omega)) aS_20s)) i) (fun i => kc_3 (ac := jj_ac X) (ad := (aS ad (s 13 0) o a1 a2)) (s := s) (e := (e)) (s' := (sU S 13 0 (s 13 0 + 1))) (e' := (e)) (hN1.1 22 (by decide) (by decide) (by decide)) i) (fun i => kc_4 (ac := jj_ac X) (ad := (aS ad (s 13 0) o a1 a2)) (s := s) (e := (e)) (s' := (sU S 13 0 (s 13 0 + 1))) (e' := (e)) (hN1.1 11 (by decide) (by decide) (by decide)) i) (fun i => kc_5 (ac := jj_ac X) (ad := (aS ad (s 13 0) o a1 a2)) (s := s) (e := (e)) (s' := (sU S 13 0 (s 13 0 + 1))) (e' := (e)) (hN1.1 11 (by decide) (by decide) (by decide)) (hN1.1 12 (by decide) (by decide) (by decide)) i) (fun i => kc_6 (ac := jj_ac X) (ad := (aS ad (s 13 0) o a1 a2)) (s := s) (e := (e)) (s' := (sU S 13 0 (s 13 0 + 1))) (e' := (e)) (hN1.1 26 (by decide) (by decide) (by decide)) (hN1.1 28 (by decide) (by decide) (by decide)) i) (fun i => kc_7 (ac := jj_ac X) (ad := (aS ad (s 13 0) o a1 a2)) (s := s) (e := (e)) (s' := (sU S 13 0 (s 13 0 + 1))) (e' := (e)) (hN1.1 27 (by decide) (by decide) (by decide)) i) (fun i => kc_8 (ac := jj_ac X) (ad := (aS ad (s 13 0) o a1 a2)) (s := s) (e := (e)) (s' := (sU S 13 0 (s 13 0 + 1))) (e' := (e)) (hN1.1 29 (by decide) (by decide) (by decide)) i) (fun i => kc_9 (ac := jj_ac X) (ad := (aS ad (s 13 0) o a1 a2)) (s := s) (e := (e)) (s' := (sU S 13 0 (s 13 0 + 1))) (e' := (e)) (hN1.1 30 (by decide) (by decide) (by decide)) i) (fun i => kc_10 (ac := jj_ac X) (ad := (aS ad (s 13 0) o a1 a2)) (s := s) (e := (e)) (s' := (sU S 13 0 (s 13 0 + 1))) (e' := (e)) (hN1.1 31 (by decide) (by decide) (by decide)) i) (fun i => kc_11 (ac := jj_ac X) (ad := (aS ad (s 13 0) o a1 a2)) (s := s) (e := (e)) (s' := (sU S 13 0 (s 13 0 + 1))) (e' := (e)) (hN1.1 35 (by decide) (by decide) (by decide)) i) (fun i => kc_12 (ac := jj_ac X) (ad := (aS ad (s 13 0) o a1 a2)) (s := s) (e := (e)) (s' := (sU S 13 0 (s 13 0 + 1))) (e' := (e)) rfl i) (fun i => kc_13 (ac := jj_ac X) (ad := (aS ad (s 13 0) o a1 a2)) (s := s) (e := (e)) (s' := (sU S 13 0 (s 13 0 + 1))) (e' := (e)) rfl i) (fun i => kc_14 (ac := jj_ac X) (ad := (aS ad (s 13 0) o a1 a2)) (s := s) (e := (e)) (s' := (sU S 13 0 (s 13 0 + 1))) (e' := (e)) (hN1.1 36 (by decide) (by decide) (by decide)) i) (fun i => kc_15 (ac := jj_ac X) (ad := (aS ad (s 13 0) o a1 a2)) (s := s) (e := (e)) (s' := (sU S 13 0 (s 13 0 + 1))) (e' := (e)) (hN1.1 31 (by decide) (by decide) (by decide)) i) (fun i => kc_16 (ac := jj_ac X) (ad := (aS ad (s 13 0) o a1 a2)) (s := s) (e := (e)) (s' := (sU S 13 0 (s 13 0 + 1))) (e' := (e)) (hN1.1 1 (by decide) (by decide) (by decide)) (hN1.1 2 (by decide) (by decide) (by decide)) (hN1.1 3 (by decide) (by decide) (by decide)) (hN1.1 4 (by decide) (by decide) (by decide)) (hN1.1 5 (by decide) (by decide) (by decide)) (hN1.1 6 (by decide) (by decide) (by decide)) (hN1.1 7 (by decide) (by decide) (by decide)) (hN1.1 9 (by decide) (by decide) (by decide)) (hN1.1 10 (by decide) (by decide) (by decide)) rfl rfl rfl rfl i) (fun i => kc_17 (ac := jj_ac X) (ad := (aS ad (s 13 0) o a1 a2)) (s := s) (e := (e)) (s' := (sU S 13 0 (s 13 0 + 1))) (e' := (e)) (hN1.1 1 (by decide) (by decide) (by decide)) (hN1.1 8 (by decide) (by decide) (by decide)) i) (fun i => kc_18 (ac := jj_ac X) (ad := (aS ad (s 13 0) o a1 a2)) (s := s) (e := (e)) (s' := (sU S 13 0 (s 13 0 + 1))) (e' := (e)) (hN1.1 1 (by decide) (by decide) (by decide)) (hN1.1 9 (by decide) (by decide) (by decide)) i) (fun i => kc_19 (ac := jj_ac X) (ad := (aS ad (s 13 0) o a1 a2)) (s := s) (e := (e)) (s' := (sU S 13 0 (s 13 0 + 1))) (e' := (e)) (hN1.1 1 (by decide) (by decide) (by decide)) (hN1.1 10 (by decide) (by decide) (by decide)) i) (fun i => by rw [cU_k (k := 0) (k' := 20) (by decide), cU_k (k := 2) (k' := 20) (by decide), cU_k (k := 22) (k' := 20) (by decide), cU_k (k := 21) (k' := 20) (by decide)]; exact ck_20 hN1 i) (fun i => by rw [cU_k (k := 0) (k' := 21) (by decide), cU_k (k := 2) (k' := 21) (by decide), cU_k (k := 22) (k' := 21) (by decide)]; exact ck_21 (fun i _ => rfl) hN1 i) (fun i => by rw [cU_k (k := 0) (k' := 22) (by decide), cU_k (k := 2) (k' := 22) (by decide)]; exact ck_22 (fun i _ => rfl) hN1 i) (fun i => kc_23 (ac := jj_ac X) (ad := (aS ad (s 13 0) o a1 a2)) (s := s) (e := (e)) (s' := (sU S 13 0 (s 13 0 + 1))) (e' := (e)) (hN1.1 16 (by decide) (by decide) (by decide)) (hN1.1 17 (by decide) (by decide) (by decide)) (hN1.1 18 (by decide) (by decide) (by decide)) (hN1.1 19 (by decide) (by decide) (by decide)) (hN1.1 20 (by decide) (by decide) (by decide)) (hN1.1 21 (by decide) (by decide) (by decide)) (hN1.1 22 (by decide) (by decide) (by decide)) (hN1.1 23 (by decide) (by decide) (by decide)) i) (fun i => by rw [cU_k (k := 0) (k' := 24) (by decide), cU_k (k := 2) (k' := 24) (by decide), cU_k (k := 22) (k' := 24) (by decide), cU_k (k := 21) (k' := 24) (by decide), cU_k (k := 20) (k' := 24) (by decide)]; exact ck_24 hN1 hI5.2.2.2.1 i) (fun i => kc_25 (ac := jj_ac X) (ad := (aS ad (s 13 0) o a1 a2)) (s := s) (e := (e)) (s' := (sU S 13 0 (s 13 0 + 1))) (e' := (e)) (hN1.1 22 (by decide) (by decide) (by decide)) (hN1.1 25 (by decide) (by decide) (by decide)) i) (fun i => by rw [cU_k (k := 0) (k' := 26) (by decide), cU_k (k := 2) (k' := 26) (by decide), cU_k (k := 22) (k' := 26) (by decide), cU_k (k := 21) (k' := 26) (by decide), cU_k (k := 20) (k' := 26) (by decide)]; exact ck_26 hN1 (fun d h1 h2 => (hI7.2.1 d h1 h2).1) i) (fun i => kc_27 (ac := jj_ac X) (ad := (aS ad (s 13 0) o a1 a2)) (s := s) (e := (e)) (s' := (sU S 13 0 (s 13 0 + 1))) (e' := (e)) (hN1.1 31 (by decide) (by decide) (by decide)) (hN1.1 34 (by decide) (by decide) (by decide)) i) (fun k i => rfl))
              refine jj_callVv B (k := 3) (n := 23) (k1_empty (s := sU S 13 0 (s 13 0 + 1)) F.tr hR (show 0 ≤ S 11 0 ∧ S 11 0 ≤ 6 by rw [hN1.1 11 (by decide) (by decide) (by decide)]; omega)) lk_X8_166 (hR.at (k := 4) (i := 0) cc_4) cs_1 rfl rfl ⟨Nat.le_of_ble_eq_true rfl, Nat.le_of_ble_eq_true rfl, Nat.le_of_ble_eq_true rfl, Nat.le_of_ble_eq_true rfl, Nat.le_of_ble_eq_true rfl⟩ ⟨Nat.le_of_ble_eq_true rfl, Nat.le_of_ble_eq_true rfl, Nat.le_of_ble_eq_true rfl, Nat.le_of_ble_eq_true rfl⟩ jj_tx0 dX8_cut_135 (fun G hR => ?_)
              refine jj_iload2 F dX8_cut_138 ?_
              have htt : t_cut s y = 0 := by unfold t_cut sCanCut; (try rw [← hk]); (repeat (first | rw [if_pos (by omega)] | rw [if_neg (by omega)]))
              rw [sU_comm (by decide), hS] at hR
              exact jj_iret B dX8_cut_139 ⟨Nat.le_of_ble_eq_true rfl, Nat.le_of_ble_eq_true rfl⟩ (⟨_, rfl, htt, (by unfold r_cut; refine Eq.trans ?_ (if_pos htt).symm; rfl), (aS ad (s 13 0) o a1 a2), rfl, (by unfold n_cut; first | (rw [if_pos htt]; exact hR) | exact hR | exact hR.c37)⟩)
            · skip
              exact jj_throwS B th_3 sr_X8_181 rfl (Or.inr ⟨(by unfold t_cut sCanCut; (try rw [← hk]); (repeat (first | rw [if_pos (by omega)] | rw [if_neg (by omega)]))), rfl⟩) ⟨Nat.le_of_ble_eq_true rfl, Nat.le_of_ble_eq_true rfl, Nat.le_of_ble_eq_true rfl, Nat.le_of_ble_eq_true rfl⟩ dX8_cut_101 dX8_cut_104 dX8_cut_105 dX8_cut_107 dX8_cut_110
          · skip
            exact jj_throwS B th_3 sr_X8_176 rfl (Or.inr ⟨(by unfold t_cut sCanCut; (try rw [← hk]); (repeat (first | rw [if_pos (by omega)] | rw [if_neg (by omega)]))), rfl⟩) ⟨Nat.le_of_ble_eq_true rfl, Nat.le_of_ble_eq_true rfl, Nat.le_of_ble_eq_true rfl, Nat.le_of_ble_eq_true rfl⟩ dX8_cut_73 dX8_cut_76 dX8_cut_77 dX8_cut_79 dX8_cut_82
        · skip
          exact jj_throwS B th_3 sr_X8_172 rfl (Or.inr ⟨(by unfold t_cut sCanCut; (try rw [← hk]); (repeat (first | rw [if_pos (by omega)] | rw [if_neg (by omega)]))), rfl⟩) ⟨Nat.le_of_ble_eq_true rfl, Nat.le_of_ble_eq_true rfl, Nat.le_of_ble_eq_true rfl, Nat.le_of_ble_eq_true rfl⟩ dX8_cut_44 dX8_cut_47 dX8_cut_48 dX8_cut_50 dX8_cut_53
    · skip
      exact jj_throwS B th_2 sr_X8_169 rfl (Or.inl ⟨(by unfold t_cut sCanCut; (try rw [← hk]); (repeat (first | rw [if_pos (by omega)] | rw [if_neg (by omega)]))), rfl⟩) ⟨Nat.le_of_ble_eq_true rfl, Nat.le_of_ble_eq_true rfl, Nat.le_of_ble_eq_true rfl, Nat.le_of_ble_eq_true rfl⟩ dX8_cut_10 dX8_cut_13 dX8_cut_14 dX8_cut_16 dX8_cut_19
