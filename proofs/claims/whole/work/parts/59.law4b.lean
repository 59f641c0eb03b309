set_option maxRecDepth 100000 in
set_option maxHeartbeats 1000000 in
theorem ls_isLost {X : jj_X} (F : jj_F X RL cL_law room_1) (hN : ∀ k, k < 7 → k < jj_nL X) {b L : Nat} {xs : Nat → Int32} (hX : jj_scr X b L xs) (hL : L ≤ 3072) {i c : Int} (hi : 0 ≤ i ∧ i + 6 ≤ L) (hc : c < 512) {xo mo oo : Nat} {G : jj_G} (I : lInv (jj_ac X) xo mo oo c G) {kc kn : Nat} (hk : kc + 100 ≤ 601024 ∧ kn + 1000 ≤ 7293034) {x5 x6 : Option Value} (kk : ∀ (G1 : jj_G) (x5 x6 : Option Value), lInv (jj_ac X) xo mo oo (c + 1) G1 → jj_J X G1 (kc + 100) (kn + 1000) 2412 [some (.ref b), some (.ref xo), some (.ref mo), some (.ref oo), some (.int (jI i)), x5, x6] []) : jj_J X G kc kn 772 [some (.ref b), some (.ref xo), some (.ref mo), some (.ref oo), some (.int (jI i)), x5, x6] [] := by
  obtain ⟨s, e, G1, G2, ad, a, g, h, hR, rfl, hM, hd, h1, h2, rfl⟩ := I
  have hj := hM.rng
  have ho : jj_j G2 (jone oo (jj_al (jj_ac X 1) 1 g)) oo = some (jj_al (jj_ac X 1) 1 g) := (jj_jr h2).trans jone_s
  refine jj_aload1 F dL_law_772 ?_
  refine jj_aload0 F dL_law_773 ?_
  refine jj_iload4 F dL_law_774 ?_
  refine jj_iconst F dL_law_776 ?_
  refine jj_iadd F dL_law_777 ?_
  refine jj_sld F hX (by omega) (by omega) dL_law_778 ?_
  refine jj_aload3 F dL_law_779 ?_
  refine jj_callFSi F (k := kc + 100) (n := kn + 1000) (w_isLost F.tr hR (hd.j (jDj.one h1)) ho h (jSc_r _ _) hj) lkw_isLost rfl ⟨Nat.le_of_ble_eq_true rfl, Nat.le_of_ble_eq_true rfl, (by show kc + 2 ≤ 601024; omega), (by show kn + 12 ≤ 7293034; omega), Nat.le_of_ble_eq_true rfl⟩ ⟨(by show kc + 2 ≤ kc + 100; omega), (by show kn + 12 ≤ kn + 1000; omega)⟩ dL_law_780 (fun r Gw hw => ?_)
  obtain ⟨rfl, Gn, ad1, g1, hd1, rfl, ha1, hR1, hg1⟩ := hw
  have h11 : Gn oo = none := hd1.symm oo (jj_sn ho)
  have hd2 : jDj Gn G2 := hd1.jl
  rw [jj_ur h2, jone_u, jj_j_rot hd2]
  have hdg : jDj G2 (jj_j Gn (jone oo (jj_al (jj_ac X 1) 1 g1))) := hd2.symm.j (jDj.one h2)
  refine jj_istore5 F dL_law_783 (hN _ (by decide)) rfl ?_
  refine jj_aload2 F dL_law_785 ?_
  refine jj_aload0 F dL_law_786 ?_
  refine jj_iload4 F dL_law_787 ?_
  refine jj_iconst F dL_law_789 ?_
  refine jj_iadd F dL_law_790 ?_
  refine jj_sld F hX (by omega) (by omega) dL_law_791 ?_
  refine jj_callFVi F hdg (k := kc + 100) (n := kn + 1000) (k9_isLost F.tr hM h.s (jSc_r _ _)) lk_L_165 hM.1 cs_9 rfl rfl ⟨Nat.le_of_ble_eq_true rfl, Nat.le_of_ble_eq_true rfl, (by show kc + 100 + 0 ≤ 601024; omega), (by show kn + 1000 + 0 ≤ 7293034; omega), Nat.le_of_ble_eq_true rfl⟩ ⟨(by show kc + 100 + 0 ≤ kc + 100; omega), (by show kn + 1000 + 0 ≤ kn + 1000; omega)⟩ dL_law_792 (fun E hE => hE.elim) (fun r G3 hp hdn => ?_)
  obtain ⟨rfl, hM1⟩ := hp
  have th := th_isLost (s := s) (t := jSc xs (i + 1))
  have hrt := hM1.rng 37 0
  rw [th] at hrt
  have fin := fun (x5 x6 : Option Value) => kk _ x5 x6 (lInv.of (h_isLost h hc) hR1 ha1 hM1 hdn h11)
  have hoo : jj_j G3 (jj_j Gn (jone oo (jj_al (jj_ac X 1) 1 g1))) oo = some (jj_al (jj_ac X 1) 1 g1) := (jj_jr (hdn.symm oo (jj_sn ((jj_jr h11).trans jone_s)))).trans ((jj_jr h11).trans jone_s)
  refine jj_istore6 F dL_law_795 (hN _ (by decide)) rfl ?_
  refine jj_aload2 F dL_law_797 ?_
  refine jj_callFVi F hdn (k := kc + 100) (n := kn + 1000) (k9_thrown F.tr hM1) lk_L_132 hM1.1 cs_9 rfl rfl ⟨Nat.le_of_ble_eq_true rfl, Nat.le_of_ble_eq_true rfl, (by show kc + 100 + 0 ≤ 601024; omega), (by show kn + 1000 + 0 ≤ 7293034; omega), Nat.le_of_ble_eq_true rfl⟩ ⟨(by show kc + 100 + 0 ≤ kc + 100; omega), (by show kn + 1000 + 0 ≤ kn + 1000; omega)⟩ dL_law_798 (fun E hE => hE.elim) (fun r G4 hp _ => ?_)
  obtain ⟨rfl, rfl⟩ := hp
  refine jj_eqi th ?_
  refine jj_iload5 F dL_law_801 ?_
  refine jj_icmpx_eq F (tgt := 808) dL_law_803 rfl (fun _ => ?_) (fun hne => absurd rfl hne)
  refine jj_iload5 F dL_law_808 ?_
  refine jj_if_ne F (tgt := 832) dL_law_810 rfl hrt (fun _ => ?_) (fun h0 => ?_)
  · skip
    refine jj_goto F (tgt := 2412) dL_law_832 rfl ?_
    exact fin _ _
  · skip
    refine jj_aload3 F dL_law_813 ?_
    refine jj_iconst F dL_law_814 ?_
    refine jj_lald F (n := 1) (g := g1) hoo (by decide) (by decide) dL_law_815 ?_
    refine jj_iload6 F dL_law_816 ?_
    refine jj_ifx_eq F (tgt := 825) dL_law_818 rfl (fun hz => ?_) (fun hz => ?_)
    · skip
      refine jj_lconst F (v := 0) (by decide) dL_law_825 ?_
      refine jj_lcmp F dL_law_826 ?_
      refine jj_ifx_eq F (tgt := 832) dL_law_827 rfl (fun _ => ?_) (fun hne => absurd ((lg_cmp_eq _ _).mpr (congrArg jL ((hg1 h0).trans (if_pos hz)))) hne)
      refine jj_goto F (tgt := 2412) dL_law_832 rfl ?_
      exact fin _ _
    · skip
      refine jj_lconst F (v := 1) (by decide) dL_law_821 ?_
      refine jj_goto F (tgt := 826) dL_law_822 rfl ?_
      refine jj_lcmp F dL_law_826 ?_
      refine jj_ifx_eq F (tgt := 832) dL_law_827 rfl (fun _ => ?_) (fun hne => absurd ((lg_cmp_eq _ _).mpr (congrArg jL ((hg1 h0).trans (if_neg hz)))) hne)
      refine jj_goto F (tgt := 2412) dL_law_832 rfl ?_
      exact fin _ _
set_option maxRecDepth 100000 in
set_option maxHeartbeats 1000000 in
theorem ls_add {X : jj_X} (F : jj_F X RL cL_law room_1) (hN : ∀ k, k < 7 → k < jj_nL X) {b L : Nat} {xs : Nat → Int32} (hX : jj_scr X b L xs) (hL : L ≤ 3072) {i c : Int} (hi : 0 ≤ i ∧ i + 6 ≤ L) (hc : c < 512) {xo mo oo : Nat} {G : jj_G} (I : lInv (jj_ac X) xo mo oo c G) {kc kn : Nat} (hk : kc + 100 ≤ 601024 ∧ kn + 1000 ≤ 7293034) {x5 x6 : Option Value} (kk : ∀ (G1 : jj_G) (x5 x6 : Option Value), lInv (jj_ac X) xo mo oo (c + 1) G1 → jj_J X G1 (kc + 100) (kn + 1000) 2412 [some (.ref b), some (.ref xo), some (.ref mo), some (.ref oo), some (.int (jI i)), x5, x6] []) : jj_J X G kc kn 835 [some (.ref b), some (.ref xo), some (.ref mo), some (.ref oo), some (.int (jI i)), x5, x6] [] := by
  obtain ⟨s, e, G1, G2, ad, a, g, h, hR, rfl, hM, hd, h1, h2, rfl⟩ := I
  have hj := hM.rng
  have ho : jj_j G2 (jone oo (jj_al (jj_ac X 1) 1 g)) oo = some (jj_al (jj_ac X 1) 1 g) := (jj_jr h2).trans jone_s
  refine jj_aload1 F dL_law_835 ?_
  refine jj_aload0 F dL_law_836 ?_
  refine jj_iload4 F dL_law_837 ?_
  refine jj_iconst F dL_law_839 ?_
  refine jj_iadd F dL_law_840 ?_
  refine jj_sld F hX (by omega) (by omega) dL_law_841 ?_
  refine jj_aload3 F dL_law_842 ?_
  refine jj_callFSi F (k := kc + 100) (n := kn + 1000) (w_add F.tr hR (hd.j (jDj.one h1)) ho h (jSc_r _ _) hj) lkw_add rfl ⟨Nat.le_of_ble_eq_true rfl, Nat.le_of_ble_eq_true rfl, (by show kc + 3 ≤ 601024; omega), (by show kn + 18 ≤ 7293034; omega), Nat.le_of_ble_eq_true rfl⟩ ⟨(by show kc + 3 ≤ kc + 100; omega), (by show kn + 18 ≤ kn + 1000; omega)⟩ dL_law_843 (fun r Gw hw => ?_)
  obtain ⟨rfl, Gn, ad1, g1, hd1, rfl, ha1, hR1, hg1⟩ := hw
  have h11 : Gn oo = none := hd1.symm oo (jj_sn ho)
  have hd2 : jDj Gn G2 := hd1.jl
  rw [jj_ur h2, jone_u, jj_j_rot hd2]
  have hdg : jDj G2 (jj_j Gn (jone oo (jj_al (jj_ac X 1) 1 g1))) := hd2.symm.j (jDj.one h2)
  refine jj_istore5 F dL_law_846 (hN _ (by decide)) rfl ?_
  refine jj_aload2 F dL_law_848 ?_
  refine jj_aload0 F dL_law_849 ?_
  refine jj_iload4 F dL_law_850 ?_
  refine jj_iconst F dL_law_852 ?_
  refine jj_iadd F dL_law_853 ?_
  refine jj_sld F hX (by omega) (by omega) dL_law_854 ?_
  refine jj_callFVi F hdg (k := kc + 100) (n := kn + 1000) (k9_add F.tr hM h.s (jSc_r _ _)) lk_L_168 hM.1 cs_9 rfl rfl ⟨Nat.le_of_ble_eq_true rfl, Nat.le_of_ble_eq_true rfl, (by show kc + 100 + 0 ≤ 601024; omega), (by show kn + 1000 + 0 ≤ 7293034; omega), Nat.le_of_ble_eq_true rfl⟩ ⟨(by show kc + 100 + 0 ≤ kc + 100; omega), (by show kn + 1000 + 0 ≤ kn + 1000; omega)⟩ dL_law_855 (fun E hE => hE.elim) (fun r G3 hp hdn => ?_)
  obtain ⟨rfl, hM1⟩ := hp
  have th := th_add (s := s) (t := jSc xs (i + 1))
  have hrt := hM1.rng 37 0
  rw [th] at hrt
  have fin := fun (x5 x6 : Option Value) => kk _ x5 x6 (lInv.of (h_add h hc) hR1 ha1 hM1 hdn h11)
  have hoo : jj_j G3 (jj_j Gn (jone oo (jj_al (jj_ac X 1) 1 g1))) oo = some (jj_al (jj_ac X 1) 1 g1) := (jj_jr (hdn.symm oo (jj_sn ((jj_jr h11).trans jone_s)))).trans ((jj_jr h11).trans jone_s)
  refine jj_istore6 F dL_law_858 (hN _ (by decide)) rfl ?_
  refine jj_aload2 F dL_law_860 ?_
  refine jj_callFVi F hdn (k := kc + 100) (n := kn + 1000) (k9_thrown F.tr hM1) lk_L_132 hM1.1 cs_9 rfl rfl ⟨Nat.le_of_ble_eq_true rfl, Nat.le_of_ble_eq_true rfl, (by show kc + 100 + 0 ≤ 601024; omega), (by show kn + 1000 + 0 ≤ 7293034; omega), Nat.le_of_ble_eq_true rfl⟩ ⟨(by show kc + 100 + 0 ≤ kc + 100; omega), (by show kn + 1000 + 0 ≤ kn + 1000; omega)⟩ dL_law_861 (fun E hE => hE.elim) (fun r G4 hp _ => ?_)
  obtain ⟨rfl, rfl⟩ := hp
  refine jj_eqi th ?_
  refine jj_iload5 F dL_law_864 ?_
  refine jj_icmpx_eq F (tgt := 871) dL_law_866 rfl (fun _ => ?_) (fun hne => absurd rfl hne)
  refine jj_iload5 F dL_law_871 ?_
  refine jj_if_ne F (tgt := 888) dL_law_873 rfl hrt (fun _ => ?_) (fun h0 => ?_)
  · skip
    refine jj_goto F (tgt := 2412) dL_law_888 rfl ?_
    exact fin _ _
  · skip
    refine jj_aload3 F dL_law_876 ?_
    refine jj_iconst F dL_law_877 ?_
    refine jj_lald F (n := 1) (g := g1) hoo (by decide) (by decide) dL_law_878 ?_
    refine jj_iload6 F dL_law_879 ?_
    refine jj_jw ?_
    refine jj_i2l F (jI_rng _) dL_law_881 ?_
    refine jj_lcmp F dL_law_882 ?_
    refine jj_ifx_eq F (tgt := 888) dL_law_883 rfl (fun _ => ?_) (fun hne => absurd ((lg_cmp_eq _ _).mpr (congrArg jL (hg1 h0))) hne)
    refine jj_goto F (tgt := 2412) dL_law_888 rfl ?_
    exact fin _ _
set_option maxRecDepth 100000 in
set_option maxHeartbeats 1000000 in
theorem ls_clear {X : jj_X} (F : jj_F X RL cL_law room_1) (hN : ∀ k, k < 7 → k < jj_nL X) {b L : Nat} {xs : Nat → Int32} (hX : jj_scr X b L xs) (hL : L ≤ 3072) {i c : Int} (hi : 0 ≤ i ∧ i + 6 ≤ L) (hc : c < 512) {xo mo oo : Nat} {G : jj_G} (I : lInv (jj_ac X) xo mo oo c G) {kc kn : Nat} (hk : kc + 100 ≤ 601024 ∧ kn + 1000 ≤ 7293034) {x5 x6 : Option Value} (kk : ∀ (G1 : jj_G) (x5 x6 : Option Value), lInv (jj_ac X) xo mo oo (c + 1) G1 → jj_J X G1 (kc + 100) (kn + 1000) 2412 [some (.ref b), some (.ref xo), some (.ref mo), some (.ref oo), some (.int (jI i)), x5, x6] []) : jj_J X G kc kn 891 [some (.ref b), some (.ref xo), some (.ref mo), some (.ref oo), some (.int (jI i)), x5, x6] [] := by
  obtain ⟨s, e, G1, G2, ad, a, g, h, hR, rfl, hM, hd, h1, h2, rfl⟩ := I
  have hj := hM.rng
  have ho : jj_j G2 (jone oo (jj_al (jj_ac X 1) 1 g)) oo = some (jj_al (jj_ac X 1) 1 g) := (jj_jr h2).trans jone_s
  refine jj_aload1 F dL_law_891 ?_
  refine jj_callFVi F (hd.j (jDj.one h1)) (k := kc + 100) (n := kn + 1000) (x8_clear F.tr hR h.2.1.1) lk_L_169 (hR.at (k := 0) (i := 0) cc_0) cs_8 rfl rfl ⟨Nat.le_of_ble_eq_true rfl, Nat.le_of_ble_eq_true rfl, (by show kc + 0 ≤ 601024; omega), (by show kn + 0 ≤ 7293034; omega), Nat.le_of_ble_eq_true rfl⟩ ⟨(by show kc + 0 ≤ kc + 100; omega), (by show kn + 0 ≤ kn + 1000; omega)⟩ dL_law_892 (fun E hE => hE.elim) (fun r Gn hp hd1 => ?_)
  obtain ⟨rfl, ad1, ha1, hR1⟩ := hp
  have h11 : Gn oo = none := hd1.symm oo (jj_sn ho)
  have hd2 : jDj Gn G2 := hd1.jl
  rw [jj_j_rot hd2]
  have hdg : jDj G2 (jj_j Gn (jone oo (jj_al (jj_ac X 1) 1 g))) := hd2.symm.j (jDj.one h2)
  refine jj_aload2 F dL_law_895 ?_
  refine jj_callFVi F hdg (k := kc + 100) (n := kn + 1000) (k9_clear F.tr hM) lk_L_172 hM.1 cs_9 rfl rfl ⟨Nat.le_of_ble_eq_true rfl, Nat.le_of_ble_eq_true rfl, (by show kc + 100 + 0 ≤ 601024; omega), (by show kn + 1000 + 0 ≤ 7293034; omega), Nat.le_of_ble_eq_true rfl⟩ ⟨(by show kc + 100 + 0 ≤ kc + 100; omega), (by show kn + 1000 + 0 ≤ kn + 1000; omega)⟩ dL_law_896 (fun E hE => hE.elim) (fun r G3 hp hdn => ?_)
  obtain ⟨rfl, hM1⟩ := hp
  have fin := fun (x5 x6 : Option Value) => kk _ x5 x6 (lInv.of (g_clear h hc) hR1 ha1 hM1 hdn h11)
  refine jj_icmpx_eq F (tgt := 2412) dL_law_899 rfl (fun _ => ?_) (fun hne => absurd rfl hne)
  exact fin _ _
set_option maxRecDepth 100000 in
set_option maxHeartbeats 1000000 in
theorem ls_cut {X : jj_X} (F : jj_F X RL cL_law room_1) (hN : ∀ k, k < 7 → k < jj_nL X) {b L : Nat} {xs : Nat → Int32} (hX : jj_scr X b L xs) (hL : L ≤ 3072) {i c : Int} (hi : 0 ≤ i ∧ i + 6 ≤ L) (hc : c < 512) {xo mo oo : Nat} {G : jj_G} (I : lInv (jj_ac X) xo mo oo c G) {kc kn : Nat} (hk : kc + 100 ≤ 601024 ∧ kn + 1000 ≤ 7293034) {x5 x6 : Option Value} (kk : ∀ (G1 : jj_G) (x5 x6 : Option Value), lInv (jj_ac X) xo mo oo (c + 1) G1 → jj_J X G1 (kc + 100) (kn + 1000) 2412 [some (.ref b), some (.ref xo), some (.ref mo), some (.ref oo), some (.int (jI i)), x5, x6] []) : jj_J X G kc kn 904 [some (.ref b), some (.ref xo), some (.ref mo), some (.ref oo), some (.int (jI i)), x5, x6] [] := by
  obtain ⟨s, e, G1, G2, ad, a, g, h, hR, rfl, hM, hd, h1, h2, rfl⟩ := I
  have hj := hM.rng
  have ho : jj_j G2 (jone oo (jj_al (jj_ac X 1) 1 g)) oo = some (jj_al (jj_ac X 1) 1 g) := (jj_jr h2).trans jone_s
  refine jj_aload1 F dL_law_904 ?_
  refine jj_aload0 F dL_law_905 ?_
  refine jj_iload4 F dL_law_906 ?_
  refine jj_iconst F dL_law_908 ?_
  refine jj_iadd F dL_law_909 ?_
  refine jj_sld F hX (by omega) (by omega) dL_law_910 ?_
  refine jj_aload3 F dL_law_911 ?_
  refine jj_callFSi F (k := kc + 100) (n := kn + 1000) (w_cut F.tr hR (hd.j (jDj.one h1)) ho h (jSc_r _ _) hj) lkw_cut rfl ⟨Nat.le_of_ble_eq_true rfl, Nat.le_of_ble_eq_true rfl, (by show kc + 5 ≤ 601024; omega), (by show kn + 40 ≤ 7293034; omega), Nat.le_of_ble_eq_true rfl⟩ ⟨(by show kc + 5 ≤ kc + 100; omega), (by show kn + 40 ≤ kn + 1000; omega)⟩ dL_law_912 (fun r Gw hw => ?_)
  obtain ⟨rfl, Gn, ad1, g1, hd1, rfl, ha1, hR1, hg1⟩ := hw
  have h11 : Gn oo = none := hd1.symm oo (jj_sn ho)
  have hd2 : jDj Gn G2 := hd1.jl
  rw [jj_ur h2, jone_u, jj_j_rot hd2]
  have hdg : jDj G2 (jj_j Gn (jone oo (jj_al (jj_ac X 1) 1 g1))) := hd2.symm.j (jDj.one h2)
  refine jj_istore5 F dL_law_915 (hN _ (by decide)) rfl ?_
  refine jj_aload2 F dL_law_917 ?_
  refine jj_aload0 F dL_law_918 ?_
  refine jj_iload4 F dL_law_919 ?_
  refine jj_iconst F dL_law_921 ?_
  refine jj_iadd F dL_law_922 ?_
  refine jj_sld F hX (by omega) (by omega) dL_law_923 ?_
  refine jj_callFVi F hdg (k := kc + 100) (n := kn + 1000) (k9_cut F.tr hM h.s (jSc_r _ _)) lk_L_175 hM.1 cs_9 rfl rfl ⟨Nat.le_of_ble_eq_true rfl, Nat.le_of_ble_eq_true rfl, (by show kc + 100 + 0 ≤ 601024; omega), (by show kn + 1000 + 0 ≤ 7293034; omega), Nat.le_of_ble_eq_true rfl⟩ ⟨(by show kc + 100 + 0 ≤ kc + 100; omega), (by show kn + 1000 + 0 ≤ kn + 1000; omega)⟩ dL_law_924 (fun E hE => hE.elim) (fun r G3 hp hdn => ?_)
  obtain ⟨rfl, hM1⟩ := hp
  have th := th_cut (s := s) (y := jSc xs (i + 1))
  have hrt := hM1.rng 37 0
  rw [th] at hrt
  have fin := fun (x5 x6 : Option Value) => kk _ x5 x6 (lInv.of (h_cut h hc) hR1 ha1 hM1 hdn h11)
  have hoo : jj_j G3 (jj_j Gn (jone oo (jj_al (jj_ac X 1) 1 g1))) oo = some (jj_al (jj_ac X 1) 1 g1) := (jj_jr (hdn.symm oo (jj_sn ((jj_jr h11).trans jone_s)))).trans ((jj_jr h11).trans jone_s)
  refine jj_istore6 F dL_law_927 (hN _ (by decide)) rfl ?_
  refine jj_aload2 F dL_law_929 ?_
  refine jj_callFVi F hdn (k := kc + 100) (n := kn + 1000) (k9_thrown F.tr hM1) lk_L_132 hM1.1 cs_9 rfl rfl ⟨Nat.le_of_ble_eq_true rfl, Nat.le_of_ble_eq_true rfl, (by show kc + 100 + 0 ≤ 601024; omega), (by show kn + 1000 + 0 ≤ 7293034; omega), Nat.le_of_ble_eq_true rfl⟩ ⟨(by show kc + 100 + 0 ≤ kc + 100; omega), (by show kn + 1000 + 0 ≤ kn + 1000; omega)⟩ dL_law_930 (fun E hE => hE.elim) (fun r G4 hp _ => ?_)
  obtain ⟨rfl, rfl⟩ := hp
  refine jj_eqi th ?_
  refine jj_iload5 F dL_law_933 ?_
  refine jj_icmpx_eq F (tgt := 940) dL_law_935 rfl (fun _ => ?_) (fun hne => absurd rfl hne)
  refine jj_iload5 F dL_law_940 ?_
  refine jj_if_ne F (tgt := 957) dL_law_942 rfl hrt (fun _ => ?_) (fun h0 => ?_)
  · skip
    refine jj_goto F (tgt := 2412) dL_law_957 rfl ?_
    exact fin _ _
  · skip
    refine jj_aload3 F dL_law_945 ?_
    refine jj_iconst F dL_law_946 ?_
    refine jj_lald F (n := 1) (g := g1) hoo (by decide) (by decide) dL_law_947 ?_
    refine jj_iload6 F dL_law_948 ?_
    refine jj_jw ?_
    refine jj_i2l F (jI_rng _) dL_law_950 ?_
    refine jj_lcmp F dL_law_951 ?_
    refine jj_ifx_eq F (tgt := 957) dL_law_952 rfl (fun _ => ?_) (fun hne => absurd ((lg_cmp_eq _ _).mpr (congrArg jL (hg1 h0))) hne)
    refine jj_goto F (tgt := 2412) dL_law_957 rfl ?_
    exact fin _ _
set_option maxRecDepth 100000 in
set_option maxHeartbeats 1000000 in
theorem ls_seconds {X : jj_X} (F : jj_F X RL cL_law room_1) (hN : ∀ k, k < 7 → k < jj_nL X) {b L : Nat} {xs : Nat → Int32} (hX : jj_scr X b L xs) (hL : L ≤ 3072) {i c : Int} (hi : 0 ≤ i ∧ i + 6 ≤ L) (hc : c < 512) {xo mo oo : Nat} {G : jj_G} (I : lInv (jj_ac X) xo mo oo c G) {kc kn : Nat} (hk : kc + 100 ≤ 601024 ∧ kn + 1000 ≤ 7293034) {x5 x6 : Option Value} (kk : ∀ (G1 : jj_G) (x5 x6 : Option Value), lInv (jj_ac X) xo mo oo (c + 1) G1 → jj_J X G1 (kc + 100) (kn + 1000) 2412 [some (.ref b), some (.ref xo), some (.ref mo), some (.ref oo), some (.int (jI i)), x5, x6] []) : jj_J X G kc kn 960 [some (.ref b), some (.ref xo), some (.ref mo), some (.ref oo), some (.int (jI i)), x5, x6] [] := by
  obtain ⟨s, e, G1, G2, ad, a, g, h, hR, rfl, hM, hd, h1, h2, rfl⟩ := I
  have hj := hM.rng
  have ho : jj_j G2 (jone oo (jj_al (jj_ac X 1) 1 g)) oo = some (jj_al (jj_ac X 1) 1 g) := (jj_jr h2).trans jone_s
  refine jj_aload1 F dL_law_960 ?_
  refine jj_aload0 F dL_law_961 ?_
  refine jj_iload4 F dL_law_962 ?_
  refine jj_iconst F dL_law_964 ?_
  refine jj_iadd F dL_law_965 ?_
  refine jj_sld F hX (by omega) (by omega) dL_law_966 ?_
  refine jj_aload0 F dL_law_967 ?_
  refine jj_iload4 F dL_law_968 ?_
  refine jj_iconst F dL_law_970 ?_
  refine jj_iadd F dL_law_971 ?_
  refine jj_sld F hX (by omega) (by omega) dL_law_972 ?_
  refine jj_aload3 F dL_law_973 ?_
  refine jj_callFSi F (k := kc + 100) (n := kn + 1000) (w_seconds F.tr hR (hd.j (jDj.one h1)) ho h (jSc_r _ _) (jSc_r _ _) hj) lkw_seconds rfl ⟨Nat.le_of_ble_eq_true rfl, Nat.le_of_ble_eq_true rfl, (by show kc + 3 ≤ 601024; omega), (by show kn + 18 ≤ 7293034; omega), Nat.le_of_ble_eq_true rfl⟩ ⟨(by show kc + 3 ≤ kc + 100; omega), (by show kn + 18 ≤ kn + 1000; omega)⟩ dL_law_974 (fun r Gw hw => ?_)
  obtain ⟨rfl, Gn, ad1, g1, hd1, rfl, ha1, hR1, hg1⟩ := hw
  have h11 : Gn oo = none := hd1.symm oo (jj_sn ho)
  have hd2 : jDj Gn G2 := hd1.jl
  rw [jj_ur h2, jone_u, jj_j_rot hd2]
  have hdg : jDj G2 (jj_j Gn (jone oo (jj_al (jj_ac X 1) 1 g1))) := hd2.symm.j (jDj.one h2)
  refine jj_istore5 F dL_law_977 (hN _ (by decide)) rfl ?_
  refine jj_aload2 F dL_law_979 ?_
  refine jj_aload0 F dL_law_980 ?_
  refine jj_iload4 F dL_law_981 ?_
  refine jj_iconst F dL_law_983 ?_
  refine jj_iadd F dL_law_984 ?_
  refine jj_sld F hX (by omega) (by omega) dL_law_985 ?_
  refine jj_aload0 F dL_law_986 ?_
  refine jj_iload4 F dL_law_987 ?_
  refine jj_iconst F dL_law_989 ?_
  refine jj_iadd F dL_law_990 ?_
  refine jj_sld F hX (by omega) (by omega) dL_law_991 ?_
  refine jj_callFVi F hdg (k := kc + 100) (n := kn + 1000) (k9_seconds F.tr hM h.s (jSc_r _ _) (jSc_r _ _)) lk_L_178 hM.1 cs_9 rfl rfl ⟨Nat.le_of_ble_eq_true rfl, Nat.le_of_ble_eq_true rfl, (by show kc + 100 + 0 ≤ 601024; omega), (by show kn + 1000 + 0 ≤ 7293034; omega), Nat.le_of_ble_eq_true rfl⟩ ⟨(by show kc + 100 + 0 ≤ kc + 100; omega), (by show kn + 1000 + 0 ≤ kn + 1000; omega)⟩ dL_law_992 (fun E hE => hE.elim) (fun r G3 hp hdn => ?_)
  obtain ⟨rfl, hM1⟩ := hp
  have th := th_seconds (s := s) (d := jSc xs (i + 1)) (q := jSc xs (i + 2))
  have hrt := hM1.rng 37 0
  rw [th] at hrt
  have fin := fun (x5 x6 : Option Value) => kk _ x5 x6 (lInv.of (h_seconds h hc) hR1 ha1 hM1 hdn h11)
  have hoo : jj_j G3 (jj_j Gn (jone oo (jj_al (jj_ac X 1) 1 g1))) oo = some (jj_al (jj_ac X 1) 1 g1) := (jj_jr (hdn.symm oo (jj_sn ((jj_jr h11).trans jone_s)))).trans ((jj_jr h11).trans jone_s)
  refine jj_istore6 F dL_law_995 (hN _ (by decide)) rfl ?_
  refine jj_aload2 F dL_law_997 ?_
  refine jj_callFVi F hdn (k := kc + 100) (n := kn + 1000) (k9_thrown F.tr hM1) lk_L_132 hM1.1 cs_9 rfl rfl ⟨Nat.le_of_ble_eq_true rfl, Nat.le_of_ble_eq_true rfl, (by show kc + 100 + 0 ≤ 601024; omega), (by show kn + 1000 + 0 ≤ 7293034; omega), Nat.le_of_ble_eq_true rfl⟩ ⟨(by show kc + 100 + 0 ≤ kc + 100; omega), (by show kn + 1000 + 0 ≤ kn + 1000; omega)⟩ dL_law_998 (fun E hE => hE.elim) (fun r G4 hp _ => ?_)
  obtain ⟨rfl, rfl⟩ := hp
  refine jj_eqi th ?_
  refine jj_iload5 F dL_law_1001 ?_
  refine jj_icmpx_eq F (tgt := 1008) dL_law_1003 rfl (fun _ => ?_) (fun hne => absurd rfl hne)
  refine jj_iload5 F dL_law_1008 ?_
  refine jj_if_ne F (tgt := 1025) dL_law_1010 rfl hrt (fun _ => ?_) (fun h0 => ?_)
  · skip
    refine jj_goto F (tgt := 2412) dL_law_1025 rfl ?_
    exact fin _ _
  · skip
    refine jj_aload3 F dL_law_1013 ?_
    refine jj_iconst F dL_law_1014 ?_
    refine jj_lald F (n := 1) (g := g1) hoo (by decide) (by decide) dL_law_1015 ?_
    refine jj_iload6 F dL_law_1016 ?_
    refine jj_jw ?_
    refine jj_i2l F (jI_rng _) dL_law_1018 ?_
    refine jj_lcmp F dL_law_1019 ?_
    refine jj_ifx_eq F (tgt := 1025) dL_law_1020 rfl (fun _ => ?_) (fun hne => absurd ((lg_cmp_eq _ _).mpr (congrArg jL (hg1 h0))) hne)
    refine jj_goto F (tgt := 2412) dL_law_1025 rfl ?_
    exact fin _ _
set_option maxRecDepth 100000 in
set_option maxHeartbeats 1000000 in
theorem ls_stamper {X : jj_X} (F : jj_F X RL cL_law room_1) (hN : ∀ k, k < 7 → k < jj_nL X) {b L : Nat} {xs : Nat → Int32} (hX : jj_scr X b L xs) (hL : L ≤ 3072) {i c : Int} (hi : 0 ≤ i ∧ i + 6 ≤ L) (hc : c < 512) {xo mo oo : Nat} {G : jj_G} (I : lInv (jj_ac X) xo mo oo c G) {kc kn : Nat} (hk : kc + 100 ≤ 601024 ∧ kn + 1000 ≤ 7293034) {x5 x6 : Option Value} (kk : ∀ (G1 : jj_G) (x5 x6 : Option Value), lInv (jj_ac X) xo mo oo (c + 1) G1 → jj_J X G1 (kc + 100) (kn + 1000) 2412 [some (.ref b), some (.ref xo), some (.ref mo), some (.ref oo), some (.int (jI i)), x5, x6] []) : jj_J X G kc kn 1028 [some (.ref b), some (.ref xo), some (.ref mo), some (.ref oo), some (.int (jI i)), x5, x6] [] := by
  obtain ⟨s, e, G1, G2, ad, a, g, h, hR, rfl, hM, hd, h1, h2, rfl⟩ := I
  have hj := hM.rng
  have ho : jj_j G2 (jone oo (jj_al (jj_ac X 1) 1 g)) oo = some (jj_al (jj_ac X 1) 1 g) := (jj_jr h2).trans jone_s
  refine jj_aload1 F dL_law_1028 ?_
  refine jj_aload0 F dL_law_1029 ?_
  refine jj_iload4 F dL_law_1030 ?_
  refine jj_iconst F dL_law_1032 ?_
  refine jj_iadd F dL_law_1033 ?_
  refine jj_sld F hX (by omega) (by omega) dL_law_1034 ?_
  refine jj_aload0 F dL_law_1035 ?_
  refine jj_iload4 F dL_law_1036 ?_
  refine jj_iconst F dL_law_1038 ?_
  refine jj_iadd F dL_law_1039 ?_
  refine jj_sld F hX (by omega) (by omega) dL_law_1040 ?_
  refine jj_aload0 F dL_law_1041 ?_
  refine jj_iload4 F dL_law_1042 ?_
  refine jj_iconst F dL_law_1044 ?_
  refine jj_iadd F dL_law_1045 ?_
  refine jj_sld F hX (by omega) (by omega) dL_law_1046 ?_
  refine jj_aload3 F dL_law_1047 ?_
  refine jj_callFSi F (k := kc + 100) (n := kn + 1000) (w_stamper F.tr hR (hd.j (jDj.one h1)) ho h (jSc_r _ _) (jSc_r _ _) (jSc_r _ _) hj) lkw_stamper rfl ⟨Nat.le_of_ble_eq_true rfl, Nat.le_of_ble_eq_true rfl, (by show kc + 4 ≤ 601024; omega), (by show kn + 25 ≤ 7293034; omega), Nat.le_of_ble_eq_true rfl⟩ ⟨(by show kc + 4 ≤ kc + 100; omega), (by show kn + 25 ≤ kn + 1000; omega)⟩ dL_law_1048 (fun r Gw hw => ?_)
  obtain ⟨rfl, Gn, ad1, g1, hd1, rfl, ha1, hR1, hg1⟩ := hw
  have h11 : Gn oo = none := hd1.symm oo (jj_sn ho)
  have hd2 : jDj Gn G2 := hd1.jl
  rw [jj_ur h2, jone_u, jj_j_rot hd2]
  have hdg : jDj G2 (jj_j Gn (jone oo (jj_al (jj_ac X 1) 1 g1))) := hd2.symm.j (jDj.one h2)
  refine jj_istore5 F dL_law_1051 (hN _ (by decide)) rfl ?_
  refine jj_aload2 F dL_law_1053 ?_
  refine jj_aload0 F dL_law_1054 ?_
  refine jj_iload4 F dL_law_1055 ?_
  refine jj_iconst F dL_law_1057 ?_
  refine jj_iadd F dL_law_1058 ?_
  refine jj_sld F hX (by omega) (by omega) dL_law_1059 ?_
  refine jj_aload0 F dL_law_1060 ?_
  refine jj_iload4 F dL_law_1061 ?_
  refine jj_iconst F dL_law_1063 ?_
  refine jj_iadd F dL_law_1064 ?_
  refine jj_sld F hX (by omega) (by omega) dL_law_1065 ?_
  refine jj_aload0 F dL_law_1066 ?_
  refine jj_iload4 F dL_law_1067 ?_
  refine jj_iconst F dL_law_1069 ?_
  refine jj_iadd F dL_law_1070 ?_
  refine jj_sld F hX (by omega) (by omega) dL_law_1071 ?_
  refine jj_callFVi F hdg (k := kc + 100) (n := kn + 1000) (k9_stamper F.tr hM h.s (jSc_r _ _) (jSc_r _ _) (jSc_r _ _)) lk_L_181 hM.1 cs_9 rfl rfl ⟨Nat.le_of_ble_eq_true rfl, Nat.le_of_ble_eq_true rfl, (by show kc + 100 + 0 ≤ 601024; omega), (by show kn + 1000 + 0 ≤ 7293034; omega), Nat.le_of_ble_eq_true rfl⟩ ⟨(by show kc + 100 + 0 ≤ kc + 100; omega), (by show kn + 1000 + 0 ≤ kn + 1000; omega)⟩ dL_law_1072 (fun E hE => hE.elim) (fun r G3 hp hdn => ?_)
  obtain ⟨rfl, hM1⟩ := hp
  have th := th_stamper (s := s) (d := jSc xs (i + 1)) (m := jSc xs (i + 2)) (n := jSc xs (i + 3))
  have hrt := hM1.rng 37 0
  rw [th] at hrt
  have fin := fun (x5 x6 : Option Value) => kk _ x5 x6 (lInv.of (h_stamper h hc) hR1 ha1 hM1 hdn h11)
  have hoo : jj_j G3 (jj_j Gn (jone oo (jj_al (jj_ac X 1) 1 g1))) oo = some (jj_al (jj_ac X 1) 1 g1) := (jj_jr (hdn.symm oo (jj_sn ((jj_jr h11).trans jone_s)))).trans ((jj_jr h11).trans jone_s)
  refine jj_istore6 F dL_law_1075 (hN _ (by decide)) rfl ?_
  refine jj_aload2 F dL_law_1077 ?_
  refine jj_callFVi F hdn (k := kc + 100) (n := kn + 1000) (k9_thrown F.tr hM1) lk_L_132 hM1.1 cs_9 rfl rfl ⟨Nat.le_of_ble_eq_true rfl, Nat.le_of_ble_eq_true rfl, (by show kc + 100 + 0 ≤ 601024; omega), (by show kn + 1000 + 0 ≤ 7293034; omega), Nat.le_of_ble_eq_true rfl⟩ ⟨(by show kc + 100 + 0 ≤ kc + 100; omega), (by show kn + 1000 + 0 ≤ kn + 1000; omega)⟩ dL_law_1078 (fun E hE => hE.elim) (fun r G4 hp _ => ?_)
  obtain ⟨rfl, rfl⟩ := hp
  refine jj_eqi th ?_
  refine jj_iload5 F dL_law_1081 ?_
  refine jj_icmpx_eq F (tgt := 1088) dL_law_1083 rfl (fun _ => ?_) (fun hne => absurd rfl hne)
  refine jj_iload5 F dL_law_1088 ?_
  refine jj_if_ne F (tgt := 1105) dL_law_1090 rfl hrt (fun _ => ?_) (fun h0 => ?_)
  · skip
    refine jj_goto F (tgt := 2412) dL_law_1105 rfl ?_
    exact fin _ _
  · skip
    refine jj_aload3 F dL_law_1093 ?_
    refine jj_iconst F dL_law_1094 ?_
    refine jj_lald F (n := 1) (g := g1) hoo (by decide) (by decide) dL_law_1095 ?_
    refine jj_iload6 F dL_law_1096 ?_
    refine jj_jw ?_
    refine jj_i2l F (jI_rng _) dL_law_1098 ?_
    refine jj_lcmp F dL_law_1099 ?_
    refine jj_ifx_eq F (tgt := 1105) dL_law_1100 rfl (fun _ => ?_) (fun hne => absurd ((lg_cmp_eq _ _).mpr (congrArg jL (hg1 h0))) hne)
    refine jj_goto F (tgt := 2412) dL_law_1105 rfl ?_
    exact fin _ _
set_option maxRecDepth 100000 in
set_option maxHeartbeats 1000000 in
theorem ls_press {X : jj_X} (F : jj_F X RL cL_law room_1) (hN : ∀ k, k < 7 → k < jj_nL X) {b L : Nat} {xs : Nat → Int32} (hX : jj_scr X b L xs) (hL : L ≤ 3072) {i c : Int} (hi : 0 ≤ i ∧ i + 6 ≤ L) (hc : c < 512) {xo mo oo : Nat} {G : jj_G} (I : lInv (jj_ac X) xo mo oo c G) {kc kn : Nat} (hk : kc + 100 ≤ 601024 ∧ kn + 1000 ≤ 7293034) {x5 x6 : Option Value} (kk : ∀ (G1 : jj_G) (x5 x6 : Option Value), lInv (jj_ac X) xo mo oo (c + 1) G1 → jj_J X G1 (kc + 100) (kn + 1000) 2412 [some (.ref b), some (.ref xo), some (.ref mo), some (.ref oo), some (.int (jI i)), x5, x6] []) : jj_J X G kc kn 1108 [some (.ref b), some (.ref xo), some (.ref mo), some (.ref oo), some (.int (jI i)), x5, x6] [] := by
  obtain ⟨s, e, G1, G2, ad, a, g, h, hR, rfl, hM, hd, h1, h2, rfl⟩ := I
  have hj := hM.rng
  have ho : jj_j G2 (jone oo (jj_al (jj_ac X 1) 1 g)) oo = some (jj_al (jj_ac X 1) 1 g) := (jj_jr h2).trans jone_s
  refine jj_aload1 F dL_law_1108 ?_
  refine jj_aload0 F dL_law_1109 ?_
  refine jj_iload4 F dL_law_1110 ?_
  refine jj_iconst F dL_law_1112 ?_
  refine jj_iadd F dL_law_1113 ?_
  refine jj_sld F hX (by omega) (by omega) dL_law_1114 ?_
  refine jj_aload0 F dL_law_1115 ?_
  refine jj_iload4 F dL_law_1116 ?_
  refine jj_iconst F dL_law_1118 ?_
  refine jj_iadd F dL_law_1119 ?_
  refine jj_sld F hX (by omega) (by omega) dL_law_1120 ?_
  refine jj_aload0 F dL_law_1121 ?_
  refine jj_iload4 F dL_law_1122 ?_
  refine jj_iconst F dL_law_1124 ?_
  refine jj_iadd F dL_law_1125 ?_
  refine jj_sld F hX (by omega) (by omega) dL_law_1126 ?_
  refine jj_aload0 F dL_law_1127 ?_
  refine jj_iload4 F dL_law_1128 ?_
  refine jj_iconst F dL_law_1130 ?_
  refine jj_iadd F dL_law_1131 ?_
  refine jj_sld F hX (by omega) (by omega) dL_law_1132 ?_
  refine jj_aload3 F dL_law_1133 ?_
  refine jj_callFSi F (k := kc + 100) (n := kn + 1000) (w_press F.tr hR (hd.j (jDj.one h1)) ho h (jSc_r _ _) (jSc_r _ _) (jSc_r _ _) (jSc_r _ _) hj) lkw_press rfl ⟨Nat.le_of_ble_eq_true rfl, Nat.le_of_ble_eq_true rfl, (by show kc + 4 ≤ 601024; omega), (by show kn + 24 ≤ 7293034; omega), Nat.le_of_ble_eq_true rfl⟩ ⟨(by show kc + 4 ≤ kc + 100; omega), (by show kn + 24 ≤ kn + 1000; omega)⟩ dL_law_1134 (fun r Gw hw => ?_)
  obtain ⟨rfl, Gn, ad1, g1, hd1, rfl, ha1, hR1, hg1⟩ := hw
  have h11 : Gn oo = none := hd1.symm oo (jj_sn ho)
  have hd2 : jDj Gn G2 := hd1.jl
  rw [jj_ur h2, jone_u, jj_j_rot hd2]
  have hdg : jDj G2 (jj_j Gn (jone oo (jj_al (jj_ac X 1) 1 g1))) := hd2.symm.j (jDj.one h2)
  refine jj_istore5 F dL_law_1137 (hN _ (by decide)) rfl ?_
  refine jj_aload2 F dL_law_1139 ?_
  refine jj_aload0 F dL_law_1140 ?_
  refine jj_iload4 F dL_law_1141 ?_
  refine jj_iconst F dL_law_1143 ?_
  refine jj_iadd F dL_law_1144 ?_
  refine jj_sld F hX (by omega) (by omega) dL_law_1145 ?_
  refine jj_aload0 F dL_law_1146 ?_
  refine jj_iload4 F dL_law_1147 ?_
  refine jj_iconst F dL_law_1149 ?_
  refine jj_iadd F dL_law_1150 ?_
  refine jj_sld F hX (by omega) (by omega) dL_law_1151 ?_
  refine jj_aload0 F dL_law_1152 ?_
  refine jj_iload4 F dL_law_1153 ?_
  refine jj_iconst F dL_law_1155 ?_
  refine jj_iadd F dL_law_1156 ?_
  refine jj_sld F hX (by omega) (by omega) dL_law_1157 ?_
  refine jj_aload0 F dL_law_1158 ?_
  refine jj_iload4 F dL_law_1159 ?_
  refine jj_iconst F dL_law_1161 ?_
  refine jj_iadd F dL_law_1162 ?_
  refine jj_sld F hX (by omega) (by omega) dL_law_1163 ?_
  refine jj_callFVi F hdg (k := kc + 100) (n := kn + 1000) (k9_press F.tr hM h.s (jSc_r _ _) (jSc_r _ _) (jSc_r _ _) (jSc_r _ _)) lk_L_185 hM.1 cs_9 rfl rfl ⟨Nat.le_of_ble_eq_true rfl, Nat.le_of_ble_eq_true rfl, (by show kc + 100 + 0 ≤ 601024; omega), (by show kn + 1000 + 0 ≤ 7293034; omega), Nat.le_of_ble_eq_true rfl⟩ ⟨(by show kc + 100 + 0 ≤ kc + 100; omega), (by show kn + 1000 + 0 ≤ kn + 1000; omega)⟩ dL_law_1164 (fun E hE => hE.elim) (fun r G3 hp hdn => ?_)
  obtain ⟨rfl, hM1⟩ := hp
  have th := th_press (s := s) (d := jSc xs (i + 1)) (m := jSc xs (i + 2)) (n := jSc xs (i + 3)) (x := jSc xs (i + 4))
  have hrt := hM1.rng 37 0
  rw [th] at hrt
  have fin := fun (x5 x6 : Option Value) => kk _ x5 x6 (lInv.of (h_press h hc) hR1 ha1 hM1 hdn h11)
  have hoo : jj_j G3 (jj_j Gn (jone oo (jj_al (jj_ac X 1) 1 g1))) oo = some (jj_al (jj_ac X 1) 1 g1) := (jj_jr (hdn.symm oo (jj_sn ((jj_jr h11).trans jone_s)))).trans ((jj_jr h11).trans jone_s)
  refine jj_istore6 F dL_law_1167 (hN _ (by decide)) rfl ?_
  refine jj_aload2 F dL_law_1169 ?_
  refine jj_callFVi F hdn (k := kc + 100) (n := kn + 1000) (k9_thrown F.tr hM1) lk_L_132 hM1.1 cs_9 rfl rfl ⟨Nat.le_of_ble_eq_true rfl, Nat.le_of_ble_eq_true rfl, (by show kc + 100 + 0 ≤ 601024; omega), (by show kn + 1000 + 0 ≤ 7293034; omega), Nat.le_of_ble_eq_true rfl⟩ ⟨(by show kc + 100 + 0 ≤ kc + 100; omega), (by show kn + 1000 + 0 ≤ kn + 1000; omega)⟩ dL_law_1170 (fun E hE => hE.elim) (fun r G4 hp _ => ?_)
  obtain ⟨rfl, rfl⟩ := hp
  refine jj_eqi th ?_
  refine jj_iload5 F dL_law_1173 ?_
  refine jj_icmpx_eq F (tgt := 1180) dL_law_1175 rfl (fun _ => ?_) (fun hne => absurd rfl hne)
  refine jj_iload5 F dL_law_1180 ?_
  refine jj_if_ne F (tgt := 1197) dL_law_1182 rfl hrt (fun _ => ?_) (fun h0 => ?_)
  · skip
    refine jj_goto F (tgt := 2412) dL_law_1197 rfl ?_
    exact fin _ _
  · skip
    refine jj_aload3 F dL_law_1185 ?_
    refine jj_iconst F dL_law_1186 ?_
    refine jj_lald F (n := 1) (g := g1) hoo (by decide) (by decide) dL_law_1187 ?_
    refine jj_iload6 F dL_law_1188 ?_
    refine jj_jw ?_
    refine jj_i2l F (jI_rng _) dL_law_1190 ?_
    refine jj_lcmp F dL_law_1191 ?_
    refine jj_ifx_eq F (tgt := 1197) dL_law_1192 rfl (fun _ => ?_) (fun hne => absurd ((lg_cmp_eq _ _).mpr (congrArg jL (hg1 h0))) hne)
    refine jj_goto F (tgt := 2412) dL_law_1197 rfl ?_
    exact fin _ _
set_option maxRecDepth 100000 in
set_option maxHeartbeats 1000000 in
theorem ls_stamperIs {X : jj_X} (F : jj_F X RL cL_law room_1) (hN : ∀ k, k < 7 → k < jj_nL X) {b L : Nat} {xs : Nat → Int32} (hX : jj_scr X b L xs) (hL : L ≤ 3072) {i c : Int} (hi : 0 ≤ i ∧ i + 6 ≤ L) (hc : c < 512) {xo mo oo : Nat} {G : jj_G} (I : lInv (jj_ac X) xo mo oo c G) {kc kn : Nat} (hk : kc + 100 ≤ 601024 ∧ kn + 1000 ≤ 7293034) {x5 x6 : Option Value} (kk : ∀ (G1 : jj_G) (x5 x6 : Option Value), lInv (jj_ac X) xo mo oo (c + 1) G1 → jj_J X G1 (kc + 100) (kn + 1000) 2412 [some (.ref b), some (.ref xo), some (.ref mo), some (.ref oo), some (.int (jI i)), x5, x6] []) : jj_J X G kc kn 1200 [some (.ref b), some (.ref xo), some (.ref mo), some (.ref oo), some (.int (jI i)), x5, x6] [] := by
  obtain ⟨s, e, G1, G2, ad, a, g, h, hR, rfl, hM, hd, h1, h2, rfl⟩ := I
  have hj := hM.rng
  have ho : jj_j G2 (jone oo (jj_al (jj_ac X 1) 1 g)) oo = some (jj_al (jj_ac X 1) 1 g) := (jj_jr h2).trans jone_s
  refine jj_aload1 F dL_law_1200 ?_
  refine jj_aload0 F dL_law_1201 ?_
  refine jj_iload4 F dL_law_1202 ?_
  refine jj_iconst F dL_law_1204 ?_
  refine jj_iadd F dL_law_1205 ?_
  refine jj_sld F hX (by omega) (by omega) dL_law_1206 ?_
  refine jj_aload0 F dL_law_1207 ?_
  refine jj_iload4 F dL_law_1208 ?_
  refine jj_iconst F dL_law_1210 ?_
  refine jj_iadd F dL_law_1211 ?_
  refine jj_sld F hX (by omega) (by omega) dL_law_1212 ?_
  refine jj_aload0 F dL_law_1213 ?_
  refine jj_iload4 F dL_law_1214 ?_
  refine jj_iconst F dL_law_1216 ?_
  refine jj_iadd F dL_law_1217 ?_
  refine jj_sld F hX (by omega) (by omega) dL_law_1218 ?_
  refine jj_aload0 F dL_law_1219 ?_
  refine jj_iload4 F dL_law_1220 ?_
  refine jj_iconst F dL_law_1222 ?_
  refine jj_iadd F dL_law_1223 ?_
  refine jj_sld F hX (by omega) (by omega) dL_law_1224 ?_
  refine jj_aload3 F dL_law_1225 ?_
  refine jj_callFSi F (k := kc + 100) (n := kn + 1000) (w_stamperIs F.tr hR (hd.j (jDj.one h1)) ho h (jSc_r _ _) (jSc_r _ _) (jSc_r _ _) (jSc_r _ _) hj) lkw_stamperIs rfl ⟨Nat.le_of_ble_eq_true rfl, Nat.le_of_ble_eq_true rfl, (by show kc + 3 ≤ 601024; omega), (by show kn + 18 ≤ 7293034; omega), Nat.le_of_ble_eq_true rfl⟩ ⟨(by show kc + 3 ≤ kc + 100; omega), (by show kn + 18 ≤ kn + 1000; omega)⟩ dL_law_1226 (fun r Gw hw => ?_)
  obtain ⟨rfl, Gn, ad1, g1, hd1, rfl, ha1, hR1, hg1⟩ := hw
  have h11 : Gn oo = none := hd1.symm oo (jj_sn ho)
  have hd2 : jDj Gn G2 := hd1.jl
  rw [jj_ur h2, jone_u, jj_j_rot hd2]
  have hdg : jDj G2 (jj_j Gn (jone oo (jj_al (jj_ac X 1) 1 g1))) := hd2.symm.j (jDj.one h2)
  refine jj_istore5 F dL_law_1229 (hN _ (by decide)) rfl ?_
  refine jj_aload2 F dL_law_1231 ?_
  refine jj_aload0 F dL_law_1232 ?_
  refine jj_iload4 F dL_law_1233 ?_
  refine jj_iconst F dL_law_1235 ?_
  refine jj_iadd F dL_law_1236 ?_
  refine jj_sld F hX (by omega) (by omega) dL_law_1237 ?_
  refine jj_aload0 F dL_law_1238 ?_
  refine jj_iload4 F dL_law_1239 ?_
  refine jj_iconst F dL_law_1241 ?_
  refine jj_iadd F dL_law_1242 ?_
  refine jj_sld F hX (by omega) (by omega) dL_law_1243 ?_
  refine jj_aload0 F dL_law_1244 ?_
  refine jj_iload4 F dL_law_1245 ?_
  refine jj_iconst F dL_law_1247 ?_
  refine jj_iadd F dL_law_1248 ?_
  refine jj_sld F hX (by omega) (by omega) dL_law_1249 ?_
  refine jj_aload0 F dL_law_1250 ?_
  refine jj_iload4 F dL_law_1251 ?_
  refine jj_iconst F dL_law_1253 ?_
  refine jj_iadd F dL_law_1254 ?_
  refine jj_sld F hX (by omega) (by omega) dL_law_1255 ?_
  refine jj_callFVi F hdg (k := kc + 100) (n := kn + 1000) (k9_stamperIs F.tr hM h.s (jSc_r _ _) (jSc_r _ _) (jSc_r _ _) (jSc_r _ _)) lk_L_188 hM.1 cs_9 rfl rfl ⟨Nat.le_of_ble_eq_true rfl, Nat.le_of_ble_eq_true rfl, (by show kc + 100 + 0 ≤ 601024; omega), (by show kn + 1000 + 0 ≤ 7293034; omega), Nat.le_of_ble_eq_true rfl⟩ ⟨(by show kc + 100 + 0 ≤ kc + 100; omega), (by show kn + 1000 + 0 ≤ kn + 1000; omega)⟩ dL_law_1256 (fun E hE => hE.elim) (fun r G3 hp hdn => ?_)
  obtain ⟨rfl, hM1⟩ := hp
  have th := th_stamperIs (s := s) (d := jSc xs (i + 1)) (m := jSc xs (i + 2)) (n := jSc xs (i + 3)) (x := jSc xs (i + 4))
  have hrt := hM1.rng 37 0
  rw [th] at hrt
  have fin := fun (x5 x6 : Option Value) => kk _ x5 x6 (lInv.of (h_stamperIs h hc) hR1 ha1 hM1 hdn h11)
  have hoo : jj_j G3 (jj_j Gn (jone oo (jj_al (jj_ac X 1) 1 g1))) oo = some (jj_al (jj_ac X 1) 1 g1) := (jj_jr (hdn.symm oo (jj_sn ((jj_jr h11).trans jone_s)))).trans ((jj_jr h11).trans jone_s)
  refine jj_istore6 F dL_law_1259 (hN _ (by decide)) rfl ?_
  refine jj_aload2 F dL_law_1261 ?_
  refine jj_callFVi F hdn (k := kc + 100) (n := kn + 1000) (k9_thrown F.tr hM1) lk_L_132 hM1.1 cs_9 rfl rfl ⟨Nat.le_of_ble_eq_true rfl, Nat.le_of_ble_eq_true rfl, (by show kc + 100 + 0 ≤ 601024; omega), (by show kn + 1000 + 0 ≤ 7293034; omega), Nat.le_of_ble_eq_true rfl⟩ ⟨(by show kc + 100 + 0 ≤ kc + 100; omega), (by show kn + 1000 + 0 ≤ kn + 1000; omega)⟩ dL_law_1262 (fun E hE => hE.elim) (fun r G4 hp _ => ?_)
  obtain ⟨rfl, rfl⟩ := hp
  refine jj_eqi th ?_
  refine jj_iload5 F dL_law_1265 ?_
  refine jj_icmpx_eq F (tgt := 1272) dL_law_1267 rfl (fun _ => ?_) (fun hne => absurd rfl hne)
  refine jj_iload5 F dL_law_1272 ?_
  refine jj_if_ne F (tgt := 1289) dL_law_1274 rfl hrt (fun _ => ?_) (fun h0 => ?_)
  · skip
    refine jj_goto F (tgt := 2412) dL_law_1289 rfl ?_
    exact fin _ _
  · skip
    refine jj_aload3 F dL_law_1277 ?_
    refine jj_iconst F dL_law_1278 ?_
    refine jj_lald F (n := 1) (g := g1) hoo (by decide) (by decide) dL_law_1279 ?_
    refine jj_iload6 F dL_law_1280 ?_
    refine jj_jw ?_
    refine jj_i2l F (jI_rng _) dL_law_1282 ?_
    refine jj_lcmp F dL_law_1283 ?_
    refine jj_ifx_eq F (tgt := 1289) dL_law_1284 rfl (fun _ => ?_) (fun hne => absurd ((lg_cmp_eq _ _).mpr (congrArg jL (hg1 h0))) hne)
    refine jj_goto F (tgt := 2412) dL_law_1289 rfl ?_
    exact fin _ _
set_option maxRecDepth 100000 in
set_option maxHeartbeats 1000000 in
theorem ls_sell {X : jj_X} (F : jj_F X RL cL_law room_1) (hN : ∀ k, k < 7 → k < jj_nL X) {b L : Nat} {xs : Nat → Int32} (hX : jj_scr X b L xs) (hL : L ≤ 3072) {i c : Int} (hi : 0 ≤ i ∧ i + 6 ≤ L) (hc : c < 512) {xo mo oo : Nat} {G : jj_G} (I : lInv (jj_ac X) xo mo oo c G) {kc kn : Nat} (hk : kc + 100 ≤ 601024 ∧ kn + 1000 ≤ 7293034) {x5 x6 : Option Value} (kk : ∀ (G1 : jj_G) (x5 x6 : Option Value), lInv (jj_ac X) xo mo oo (c + 1) G1 → jj_J X G1 (kc + 100) (kn + 1000) 2412 [some (.ref b), some (.ref xo), some (.ref mo), some (.ref oo), some (.int (jI i)), x5, x6] []) : jj_J X G kc kn 1292 [some (.ref b), some (.ref xo), some (.ref mo), some (.ref oo), some (.int (jI i)), x5, x6] [] := by
  obtain ⟨s, e, G1, G2, ad, a, g, h, hR, rfl, hM, hd, h1, h2, rfl⟩ := I
  have hj := hM.rng
  have ho : jj_j G2 (jone oo (jj_al (jj_ac X 1) 1 g)) oo = some (jj_al (jj_ac X 1) 1 g) := (jj_jr h2).trans jone_s
  refine jj_aload1 F dL_law_1292 ?_
  refine jj_aload0 F dL_law_1293 ?_
  refine jj_iload4 F dL_law_1294 ?_
  refine jj_iconst F dL_law_1296 ?_
  refine jj_iadd F dL_law_1297 ?_
  refine jj_sld F hX (by omega) (by omega) dL_law_1298 ?_
  refine jj_aload0 F dL_law_1299 ?_
  refine jj_iload4 F dL_law_1300 ?_
  refine jj_iconst F dL_law_1302 ?_
  refine jj_iadd F dL_law_1303 ?_
  refine jj_sld F hX (by omega) (by omega) dL_law_1304 ?_
  refine jj_aload0 F dL_law_1305 ?_
  refine jj_iload4 F dL_law_1306 ?_
  refine jj_iconst F dL_law_1308 ?_
  refine jj_iadd F dL_law_1309 ?_
  refine jj_sld F hX (by omega) (by omega) dL_law_1310 ?_
  refine jj_aload0 F dL_law_1311 ?_
  refine jj_iload4 F dL_law_1312 ?_
  refine jj_iconst F dL_law_1314 ?_
  refine jj_iadd F dL_law_1315 ?_
  refine jj_sld F hX (by omega) (by omega) dL_law_1316 ?_
  refine jj_aload3 F dL_law_1317 ?_
  refine jj_callFSi F (k := kc + 100) (n := kn + 1000) (w_sell F.tr hR (hd.j (jDj.one h1)) ho h (jSc_r _ _) (jSc_r _ _) (jSc_r _ _) (jSc_r _ _) hj) lkw_sell rfl ⟨Nat.le_of_ble_eq_true rfl, Nat.le_of_ble_eq_true rfl, (by show kc + 12 ≤ 601024; omega), (by show kn + 90 ≤ 7293034; omega), Nat.le_of_ble_eq_true rfl⟩ ⟨(by show kc + 12 ≤ kc + 100; omega), (by show kn + 90 ≤ kn + 1000; omega)⟩ dL_law_1318 (fun r Gw hw => ?_)
  obtain ⟨rfl, Gn, ad1, g1, hd1, rfl, ha1, hR1, hg1⟩ := hw
  have h11 : Gn oo = none := hd1.symm oo (jj_sn ho)
  have hd2 : jDj Gn G2 := hd1.jl
  rw [jj_ur h2, jone_u, jj_j_rot hd2]
  have hdg : jDj G2 (jj_j Gn (jone oo (jj_al (jj_ac X 1) 1 g1))) := hd2.symm.j (jDj.one h2)
  refine jj_istore5 F dL_law_1321 (hN _ (by decide)) rfl ?_
  refine jj_aload2 F dL_law_1323 ?_
  refine jj_aload0 F dL_law_1324 ?_
  refine jj_iload4 F dL_law_1325 ?_
  refine jj_iconst F dL_law_1327 ?_
  refine jj_iadd F dL_law_1328 ?_
  refine jj_sld F hX (by omega) (by omega) dL_law_1329 ?_
  refine jj_aload0 F dL_law_1330 ?_
  refine jj_iload4 F dL_law_1331 ?_
  refine jj_iconst F dL_law_1333 ?_
  refine jj_iadd F dL_law_1334 ?_
  refine jj_sld F hX (by omega) (by omega) dL_law_1335 ?_
  refine jj_aload0 F dL_law_1336 ?_
  refine jj_iload4 F dL_law_1337 ?_
  refine jj_iconst F dL_law_1339 ?_
  refine jj_iadd F dL_law_1340 ?_
  refine jj_sld F hX (by omega) (by omega) dL_law_1341 ?_
  refine jj_aload0 F dL_law_1342 ?_
  refine jj_iload4 F dL_law_1343 ?_
  refine jj_iconst F dL_law_1345 ?_
  refine jj_iadd F dL_law_1346 ?_
  refine jj_sld F hX (by omega) (by omega) dL_law_1347 ?_
  refine jj_callFVi F hdg (k := kc + 100) (n := kn + 1000) (k9_sell F.tr hM h.s (jSc_r _ _) (jSc_r _ _) (jSc_r _ _) (jSc_r _ _)) lk_L_191 hM.1 cs_9 rfl rfl ⟨Nat.le_of_ble_eq_true rfl, Nat.le_of_ble_eq_true rfl, (by show kc + 100 + 0 ≤ 601024; omega), (by show kn + 1000 + 0 ≤ 7293034; omega), Nat.le_of_ble_eq_true rfl⟩ ⟨(by show kc + 100 + 0 ≤ kc + 100; omega), (by show kn + 1000 + 0 ≤ kn + 1000; omega)⟩ dL_law_1348 (fun E hE => hE.elim) (fun r G3 hp hdn => ?_)
  obtain ⟨rfl, hM1⟩ := hp
  have th := th_sell (s := s) (d := jSc xs (i + 1)) (m := jSc xs (i + 2)) (n := jSc xs (i + 3)) (x := jSc xs (i + 4))
  have hrt := hM1.rng 37 0
  rw [th] at hrt
  have fin := fun (x5 x6 : Option Value) => kk _ x5 x6 (lInv.of (h_sell h hc) hR1 ha1 hM1 hdn h11)
  have hoo : jj_j G3 (jj_j Gn (jone oo (jj_al (jj_ac X 1) 1 g1))) oo = some (jj_al (jj_ac X 1) 1 g1) := (jj_jr (hdn.symm oo (jj_sn ((jj_jr h11).trans jone_s)))).trans ((jj_jr h11).trans jone_s)
  refine jj_istore6 F dL_law_1351 (hN _ (by decide)) rfl ?_
  refine jj_aload2 F dL_law_1353 ?_
  refine jj_callFVi F hdn (k := kc + 100) (n := kn + 1000) (k9_thrown F.tr hM1) lk_L_132 hM1.1 cs_9 rfl rfl ⟨Nat.le_of_ble_eq_true rfl, Nat.le_of_ble_eq_true rfl, (by show kc + 100 + 0 ≤ 601024; omega), (by show kn + 1000 + 0 ≤ 7293034; omega), Nat.le_of_ble_eq_true rfl⟩ ⟨(by show kc + 100 + 0 ≤ kc + 100; omega), (by show kn + 1000 + 0 ≤ kn + 1000; omega)⟩ dL_law_1354 (fun E hE => hE.elim) (fun r G4 hp _ => ?_)
  obtain ⟨rfl, rfl⟩ := hp
  refine jj_eqi th ?_
  refine jj_iload5 F dL_law_1357 ?_
  refine jj_icmpx_eq F (tgt := 1364) dL_law_1359 rfl (fun _ => ?_) (fun hne => absurd rfl hne)
  refine jj_iload5 F dL_law_1364 ?_
  refine jj_if_ne F (tgt := 1381) dL_law_1366 rfl hrt (fun _ => ?_) (fun h0 => ?_)
  · skip
    refine jj_goto F (tgt := 2412) dL_law_1381 rfl ?_
    exact fin _ _
  · skip
    refine jj_aload3 F dL_law_1369 ?_
    refine jj_iconst F dL_law_1370 ?_
    refine jj_lald F (n := 1) (g := g1) hoo (by decide) (by decide) dL_law_1371 ?_
    refine jj_iload6 F dL_law_1372 ?_
    refine jj_jw ?_
    refine jj_i2l F (jI_rng _) dL_law_1374 ?_
    refine jj_lcmp F dL_law_1375 ?_
    refine jj_ifx_eq F (tgt := 1381) dL_law_1376 rfl (fun _ => ?_) (fun hne => absurd ((lg_cmp_eq _ _).mpr (congrArg jL (hg1 h0))) hne)
    refine jj_goto F (tgt := 2412) dL_law_1381 rfl ?_
    exact fin _ _
