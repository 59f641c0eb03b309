set_option maxRecDepth 100000 in
set_option maxHeartbeats 1000000 in
theorem ls_undo {X : jj_X} (F : jj_F X RL cL_law room_1) (hN : ∀ k, k < 7 → k < jj_nL X) {b L : Nat} {xs : Nat → Int32} (hX : jj_scr X b L xs) (hL : L ≤ 3072) {i c : Int} (hi : 0 ≤ i ∧ i + 6 ≤ L) (hc : c < 512) {xo mo oo : Nat} {G : jj_G} (I : lInv (jj_ac X) xo mo oo c G) {kc kn : Nat} (hk : kc + 100 ≤ 601024 ∧ kn + 1000 ≤ 7293034) {x5 x6 : Option Value} (kk : ∀ (G1 : jj_G) (x5 x6 : Option Value), lInv (jj_ac X) xo mo oo (c + 1) G1 → jj_J X G1 (kc + 100) (kn + 1000) 2412 [some (.ref b), some (.ref xo), some (.ref mo), some (.ref oo), some (.int (jI i)), x5, x6] []) : jj_J X G kc kn 2008 [some (.ref b), some (.ref xo), some (.ref mo), some (.ref oo), some (.int (jI i)), x5, x6] [] := by
  obtain ⟨s, e, G1, G2, ad, a, g, h, hR, rfl, hM, hd, h1, h2, rfl⟩ := I
  have hj := hM.rng
  have ho : jj_j G2 (jone oo (jj_al (jj_ac X 1) 1 g)) oo = some (jj_al (jj_ac X 1) 1 g) := (jj_jr h2).trans jone_s
  refine jj_aload1 F dL_law_2008 ?_
  refine jj_aload3 F dL_law_2009 ?_
  refine jj_callFSi F (k := kc + 100) (n := kn + 1000) (w_undo F.tr hR (hd.j (jDj.one h1)) ho h  hj) lkw_undo rfl ⟨Nat.le_of_ble_eq_true rfl, Nat.le_of_ble_eq_true rfl, (by show kc + 1 ≤ 601024; omega), (by show kn + 6 ≤ 7293034; omega), Nat.le_of_ble_eq_true rfl⟩ ⟨(by show kc + 1 ≤ kc + 100; omega), (by show kn + 6 ≤ kn + 1000; omega)⟩ dL_law_2010 (fun r Gw hw => ?_)
  obtain ⟨rfl, Gn, ad1, g1, hd1, rfl, ha1, hR1, hg1⟩ := hw
  have h11 : Gn oo = none := hd1.symm oo (jj_sn ho)
  have hd2 : jDj Gn G2 := hd1.jl
  rw [jj_ur h2, jone_u, jj_j_rot hd2]
  have hdg : jDj G2 (jj_j Gn (jone oo (jj_al (jj_ac X 1) 1 g1))) := hd2.symm.j (jDj.one h2)
  refine jj_istore5 F dL_law_2013 (hN _ (by decide)) rfl ?_
  refine jj_aload2 F dL_law_2015 ?_
  refine jj_callFVi F hdg (k := kc + 100) (n := kn + 1000) (k9_undo F.tr hM h.s ) lk_L_222 hM.1 cs_9 rfl rfl ⟨Nat.le_of_ble_eq_true rfl, Nat.le_of_ble_eq_true rfl, (by show kc + 100 + 0 ≤ 601024; omega), (by show kn + 1000 + 0 ≤ 7293034; omega), Nat.le_of_ble_eq_true rfl⟩ ⟨(by show kc + 100 + 0 ≤ kc + 100; omega), (by show kn + 1000 + 0 ≤ kn + 1000; omega)⟩ dL_law_2016 (fun E hE => hE.elim) (fun r G3 hp hdn => ?_)
  obtain ⟨rfl, hM1⟩ := hp
  have th := th_undo (s := s) 
  have hrt := hM1.rng 37 0
  rw [th] at hrt
  have fin := fun (x5 x6 : Option Value) => kk _ x5 x6 (lInv.of (h_undo h hc) hR1 ha1 hM1 hdn h11)
  have hoo : jj_j G3 (jj_j Gn (jone oo (jj_al (jj_ac X 1) 1 g1))) oo = some (jj_al (jj_ac X 1) 1 g1) := (jj_jr (hdn.symm oo (jj_sn ((jj_jr h11).trans jone_s)))).trans ((jj_jr h11).trans jone_s)
  refine jj_istore6 F dL_law_2019 (hN _ (by decide)) rfl ?_
  refine jj_aload2 F dL_law_2021 ?_
  refine jj_callFVi F hdn (k := kc + 100) (n := kn + 1000) (k9_thrown F.tr hM1) lk_L_132 hM1.1 cs_9 rfl rfl ⟨Nat.le_of_ble_eq_true rfl, Nat.le_of_ble_eq_true rfl, (by show kc + 100 + 0 ≤ 601024; omega), (by show kn + 1000 + 0 ≤ 7293034; omega), Nat.le_of_ble_eq_true rfl⟩ ⟨(by show kc + 100 + 0 ≤ kc + 100; omega), (by show kn + 1000 + 0 ≤ kn + 1000; omega)⟩ dL_law_2022 (fun E hE => hE.elim) (fun r G4 hp _ => ?_)
  obtain ⟨rfl, rfl⟩ := hp
  refine jj_eqi th ?_
  refine jj_iload5 F dL_law_2025 ?_
  refine jj_icmpx_eq F (tgt := 2032) dL_law_2027 rfl (fun _ => ?_) (fun hne => absurd rfl hne)
  refine jj_iload5 F dL_law_2032 ?_
  refine jj_if_ne F (tgt := 2049) dL_law_2034 rfl hrt (fun _ => ?_) (fun h0 => ?_)
  · skip
    refine jj_goto F (tgt := 2412) dL_law_2049 rfl ?_
    exact fin _ _
  · skip
    refine jj_aload3 F dL_law_2037 ?_
    refine jj_iconst F dL_law_2038 ?_
    refine jj_lald F (n := 1) (g := g1) hoo (by decide) (by decide) dL_law_2039 ?_
    refine jj_iload6 F dL_law_2040 ?_
    refine jj_jw ?_
    refine jj_i2l F (jI_rng _) dL_law_2042 ?_
    refine jj_lcmp F dL_law_2043 ?_
    refine jj_ifx_eq F (tgt := 2049) dL_law_2044 rfl (fun _ => ?_) (fun hne => absurd ((lg_cmp_eq _ _).mpr (congrArg jL (hg1 h0))) hne)
    refine jj_goto F (tgt := 2412) dL_law_2049 rfl ?_
    exact fin _ _
set_option maxRecDepth 100000 in
set_option maxHeartbeats 1000000 in
theorem ls_fileIs {X : jj_X} (F : jj_F X RL cL_law room_1) (hN : ∀ k, k < 7 → k < jj_nL X) {b L : Nat} {xs : Nat → Int32} (hX : jj_scr X b L xs) (hL : L ≤ 3072) {i c : Int} (hi : 0 ≤ i ∧ i + 6 ≤ L) (hc : c < 512) {xo mo oo : Nat} {G : jj_G} (I : lInv (jj_ac X) xo mo oo c G) {kc kn : Nat} (hk : kc + 100 ≤ 601024 ∧ kn + 1000 ≤ 7293034) {x5 x6 : Option Value} (kk : ∀ (G1 : jj_G) (x5 x6 : Option Value), lInv (jj_ac X) xo mo oo (c + 1) G1 → jj_J X G1 (kc + 100) (kn + 1000) 2412 [some (.ref b), some (.ref xo), some (.ref mo), some (.ref oo), some (.int (jI i)), x5, x6] []) : jj_J X G kc kn 2052 [some (.ref b), some (.ref xo), some (.ref mo), some (.ref oo), some (.int (jI i)), x5, x6] [] := by
  obtain ⟨s, e, G1, G2, ad, a, g, h, hR, rfl, hM, hd, h1, h2, rfl⟩ := I
  have hj := hM.rng
  have ho : jj_j G2 (jone oo (jj_al (jj_ac X 1) 1 g)) oo = some (jj_al (jj_ac X 1) 1 g) := (jj_jr h2).trans jone_s
  refine jj_aload1 F dL_law_2052 ?_
  refine jj_aload0 F dL_law_2053 ?_
  refine jj_iload4 F dL_law_2054 ?_
  refine jj_iconst F dL_law_2056 ?_
  refine jj_iadd F dL_law_2057 ?_
  refine jj_sld F hX (by omega) (by omega) dL_law_2058 ?_
  refine jj_aload3 F dL_law_2059 ?_
  refine jj_callFSi F (k := kc + 100) (n := kn + 1000) (w_fileIs F.tr hR (hd.j (jDj.one h1)) ho h (jSc_r _ _) hj) lkw_fileIs rfl ⟨Nat.le_of_ble_eq_true rfl, Nat.le_of_ble_eq_true rfl, (by show kc + 2 ≤ 601024; omega), (by show kn + 12 ≤ 7293034; omega), Nat.le_of_ble_eq_true rfl⟩ ⟨(by show kc + 2 ≤ kc + 100; omega), (by show kn + 12 ≤ kn + 1000; omega)⟩ dL_law_2060 (fun r Gw hw => ?_)
  obtain ⟨rfl, Gn, ad1, g1, hd1, rfl, ha1, hR1, hg1⟩ := hw
  have h11 : Gn oo = none := hd1.symm oo (jj_sn ho)
  have hd2 : jDj Gn G2 := hd1.jl
  rw [jj_ur h2, jone_u, jj_j_rot hd2]
  have hdg : jDj G2 (jj_j Gn (jone oo (jj_al (jj_ac X 1) 1 g1))) := hd2.symm.j (jDj.one h2)
  refine jj_istore5 F dL_law_2063 (hN _ (by decide)) rfl ?_
  refine jj_aload2 F dL_law_2065 ?_
  refine jj_aload0 F dL_law_2066 ?_
  refine jj_iload4 F dL_law_2067 ?_
  refine jj_iconst F dL_law_2069 ?_
  refine jj_iadd F dL_law_2070 ?_
  refine jj_sld F hX (by omega) (by omega) dL_law_2071 ?_
  refine jj_callFVi F hdg (k := kc + 100) (n := kn + 1000) (k9_fileIs F.tr hM h.s (jSc_r _ _)) lk_L_225 hM.1 cs_9 rfl rfl ⟨Nat.le_of_ble_eq_true rfl, Nat.le_of_ble_eq_true rfl, (by show kc + 100 + 0 ≤ 601024; omega), (by show kn + 1000 + 0 ≤ 7293034; omega), Nat.le_of_ble_eq_true rfl⟩ ⟨(by show kc + 100 + 0 ≤ kc + 100; omega), (by show kn + 1000 + 0 ≤ kn + 1000; omega)⟩ dL_law_2072 (fun E hE => hE.elim) (fun r G3 hp hdn => ?_)
  obtain ⟨rfl, hM1⟩ := hp
  have th := th_fileIs (s := s) (p := jSc xs (i + 1))
  have hrt := hM1.rng 37 0
  rw [th] at hrt
  have fin := fun (x5 x6 : Option Value) => kk _ x5 x6 (lInv.of (h_fileIs h hc) hR1 ha1 hM1 hdn h11)
  have hoo : jj_j G3 (jj_j Gn (jone oo (jj_al (jj_ac X 1) 1 g1))) oo = some (jj_al (jj_ac X 1) 1 g1) := (jj_jr (hdn.symm oo (jj_sn ((jj_jr h11).trans jone_s)))).trans ((jj_jr h11).trans jone_s)
  refine jj_istore6 F dL_law_2075 (hN _ (by decide)) rfl ?_
  refine jj_aload2 F dL_law_2077 ?_
  refine jj_callFVi F hdn (k := kc + 100) (n := kn + 1000) (k9_thrown F.tr hM1) lk_L_132 hM1.1 cs_9 rfl rfl ⟨Nat.le_of_ble_eq_true rfl, Nat.le_of_ble_eq_true rfl, (by show kc + 100 + 0 ≤ 601024; omega), (by show kn + 1000 + 0 ≤ 7293034; omega), Nat.le_of_ble_eq_true rfl⟩ ⟨(by show kc + 100 + 0 ≤ kc + 100; omega), (by show kn + 1000 + 0 ≤ kn + 1000; omega)⟩ dL_law_2078 (fun E hE => hE.elim) (fun r G4 hp _ => ?_)
  obtain ⟨rfl, rfl⟩ := hp
  refine jj_eqi th ?_
  refine jj_iload5 F dL_law_2081 ?_
  refine jj_icmpx_eq F (tgt := 2088) dL_law_2083 rfl (fun _ => ?_) (fun hne => absurd rfl hne)
  refine jj_iload5 F dL_law_2088 ?_
  refine jj_if_ne F (tgt := 2105) dL_law_2090 rfl hrt (fun _ => ?_) (fun h0 => ?_)
  · skip
    refine jj_goto F (tgt := 2412) dL_law_2105 rfl ?_
    exact fin _ _
  · skip
    refine jj_aload3 F dL_law_2093 ?_
    refine jj_iconst F dL_law_2094 ?_
    refine jj_lald F (n := 1) (g := g1) hoo (by decide) (by decide) dL_law_2095 ?_
    refine jj_iload6 F dL_law_2096 ?_
    refine jj_jw ?_
    refine jj_i2l F (jI_rng _) dL_law_2098 ?_
    refine jj_lcmp F dL_law_2099 ?_
    refine jj_ifx_eq F (tgt := 2105) dL_law_2100 rfl (fun _ => ?_) (fun hne => absurd ((lg_cmp_eq _ _).mpr (congrArg jL (hg1 h0))) hne)
    refine jj_goto F (tgt := 2412) dL_law_2105 rfl ?_
    exact fin _ _
set_option maxRecDepth 100000 in
set_option maxHeartbeats 1000000 in
theorem ls_contract {X : jj_X} (F : jj_F X RL cL_law room_1) (hN : ∀ k, k < 7 → k < jj_nL X) {b L : Nat} {xs : Nat → Int32} (hX : jj_scr X b L xs) (hL : L ≤ 3072) {i c : Int} (hi : 0 ≤ i ∧ i + 6 ≤ L) (hc : c < 512) {xo mo oo : Nat} {G : jj_G} (I : lInv (jj_ac X) xo mo oo c G) {kc kn : Nat} (hk : kc + 100 ≤ 601024 ∧ kn + 1000 ≤ 7293034) {x5 x6 : Option Value} (kk : ∀ (G1 : jj_G) (x5 x6 : Option Value), lInv (jj_ac X) xo mo oo (c + 1) G1 → jj_J X G1 (kc + 100) (kn + 1000) 2412 [some (.ref b), some (.ref xo), some (.ref mo), some (.ref oo), some (.int (jI i)), x5, x6] []) : jj_J X G kc kn 2108 [some (.ref b), some (.ref xo), some (.ref mo), some (.ref oo), some (.int (jI i)), x5, x6] [] := by
  obtain ⟨s, e, G1, G2, ad, a, g, h, hR, rfl, hM, hd, h1, h2, rfl⟩ := I
  have hj := hM.rng
  have ho : jj_j G2 (jone oo (jj_al (jj_ac X 1) 1 g)) oo = some (jj_al (jj_ac X 1) 1 g) := (jj_jr h2).trans jone_s
  refine jj_aload1 F dL_law_2108 ?_
  refine jj_aload0 F dL_law_2109 ?_
  refine jj_iload4 F dL_law_2110 ?_
  refine jj_iconst F dL_law_2112 ?_
  refine jj_iadd F dL_law_2113 ?_
  refine jj_sld F hX (by omega) (by omega) dL_law_2114 ?_
  refine jj_aload0 F dL_law_2115 ?_
  refine jj_iload4 F dL_law_2116 ?_
  refine jj_iconst F dL_law_2118 ?_
  refine jj_iadd F dL_law_2119 ?_
  refine jj_sld F hX (by omega) (by omega) dL_law_2120 ?_
  refine jj_aload0 F dL_law_2121 ?_
  refine jj_iload4 F dL_law_2122 ?_
  refine jj_iconst F dL_law_2124 ?_
  refine jj_iadd F dL_law_2125 ?_
  refine jj_sld F hX (by omega) (by omega) dL_law_2126 ?_
  refine jj_aload3 F dL_law_2127 ?_
  refine jj_callFSi F (k := kc + 100) (n := kn + 1000) (w_contract F.tr hR (hd.j (jDj.one h1)) ho h (jSc_r _ _) (jSc_r _ _) (jSc_r _ _) hj) lkw_contract rfl ⟨Nat.le_of_ble_eq_true rfl, Nat.le_of_ble_eq_true rfl, (by show kc + 2 ≤ 601024; omega), (by show kn + 12 ≤ 7293034; omega), Nat.le_of_ble_eq_true rfl⟩ ⟨(by show kc + 2 ≤ kc + 100; omega), (by show kn + 12 ≤ kn + 1000; omega)⟩ dL_law_2128 (fun r Gw hw => ?_)
  obtain ⟨rfl, Gn, ad1, g1, hd1, rfl, ha1, hR1, hg1⟩ := hw
  have h11 : Gn oo = none := hd1.symm oo (jj_sn ho)
  have hd2 : jDj Gn G2 := hd1.jl
  rw [jj_ur h2, jone_u, jj_j_rot hd2]
  have hdg : jDj G2 (jj_j Gn (jone oo (jj_al (jj_ac X 1) 1 g1))) := hd2.symm.j (jDj.one h2)
  refine jj_istore5 F dL_law_2131 (hN _ (by decide)) rfl ?_
  refine jj_aload2 F dL_law_2133 ?_
  refine jj_aload0 F dL_law_2134 ?_
  refine jj_iload4 F dL_law_2135 ?_
  refine jj_iconst F dL_law_2137 ?_
  refine jj_iadd F dL_law_2138 ?_
  refine jj_sld F hX (by omega) (by omega) dL_law_2139 ?_
  refine jj_aload0 F dL_law_2140 ?_
  refine jj_iload4 F dL_law_2141 ?_
  refine jj_iconst F dL_law_2143 ?_
  refine jj_iadd F dL_law_2144 ?_
  refine jj_sld F hX (by omega) (by omega) dL_law_2145 ?_
  refine jj_aload0 F dL_law_2146 ?_
  refine jj_iload4 F dL_law_2147 ?_
  refine jj_iconst F dL_law_2149 ?_
  refine jj_iadd F dL_law_2150 ?_
  refine jj_sld F hX (by omega) (by omega) dL_law_2151 ?_
  refine jj_callFVi F hdg (k := kc + 100) (n := kn + 1000) (k9_contract F.tr hM h.s (jSc_r _ _) (jSc_r _ _) (jSc_r _ _)) lk_L_228 hM.1 cs_9 rfl rfl ⟨Nat.le_of_ble_eq_true rfl, Nat.le_of_ble_eq_true rfl, (by show kc + 100 + 0 ≤ 601024; omega), (by show kn + 1000 + 0 ≤ 7293034; omega), Nat.le_of_ble_eq_true rfl⟩ ⟨(by show kc + 100 + 0 ≤ kc + 100; omega), (by show kn + 1000 + 0 ≤ kn + 1000; omega)⟩ dL_law_2152 (fun E hE => hE.elim) (fun r G3 hp hdn => ?_)
  obtain ⟨rfl, hM1⟩ := hp
  have th := th_contract (s := s) (a := jSc xs (i + 1)) (x := jSc xs (i + 2)) (y := jSc xs (i + 3))
  have hrt := hM1.rng 37 0
  rw [th] at hrt
  have fin := fun (x5 x6 : Option Value) => kk _ x5 x6 (lInv.of (h_contract h hc) hR1 ha1 hM1 hdn h11)
  have hoo : jj_j G3 (jj_j Gn (jone oo (jj_al (jj_ac X 1) 1 g1))) oo = some (jj_al (jj_ac X 1) 1 g1) := (jj_jr (hdn.symm oo (jj_sn ((jj_jr h11).trans jone_s)))).trans ((jj_jr h11).trans jone_s)
  refine jj_istore6 F dL_law_2155 (hN _ (by decide)) rfl ?_
  refine jj_aload2 F dL_law_2157 ?_
  refine jj_callFVi F hdn (k := kc + 100) (n := kn + 1000) (k9_thrown F.tr hM1) lk_L_132 hM1.1 cs_9 rfl rfl ⟨Nat.le_of_ble_eq_true rfl, Nat.le_of_ble_eq_true rfl, (by show kc + 100 + 0 ≤ 601024; omega), (by show kn + 1000 + 0 ≤ 7293034; omega), Nat.le_of_ble_eq_true rfl⟩ ⟨(by show kc + 100 + 0 ≤ kc + 100; omega), (by show kn + 1000 + 0 ≤ kn + 1000; omega)⟩ dL_law_2158 (fun E hE => hE.elim) (fun r G4 hp _ => ?_)
  obtain ⟨rfl, rfl⟩ := hp
  refine jj_eqi th ?_
  refine jj_iload5 F dL_law_2161 ?_
  refine jj_icmpx_eq F (tgt := 2168) dL_law_2163 rfl (fun _ => ?_) (fun hne => absurd rfl hne)
  refine jj_iload5 F dL_law_2168 ?_
  refine jj_if_ne F (tgt := 2185) dL_law_2170 rfl hrt (fun _ => ?_) (fun h0 => ?_)
  · skip
    refine jj_goto F (tgt := 2412) dL_law_2185 rfl ?_
    exact fin _ _
  · skip
    refine jj_aload3 F dL_law_2173 ?_
    refine jj_iconst F dL_law_2174 ?_
    refine jj_lald F (n := 1) (g := g1) hoo (by decide) (by decide) dL_law_2175 ?_
    refine jj_iload6 F dL_law_2176 ?_
    refine jj_jw ?_
    refine jj_i2l F (jI_rng _) dL_law_2178 ?_
    refine jj_lcmp F dL_law_2179 ?_
    refine jj_ifx_eq F (tgt := 2185) dL_law_2180 rfl (fun _ => ?_) (fun hne => absurd ((lg_cmp_eq _ _).mpr (congrArg jL (hg1 h0))) hne)
    refine jj_goto F (tgt := 2412) dL_law_2185 rfl ?_
    exact fin _ _
set_option maxRecDepth 100000 in
set_option maxHeartbeats 1000000 in
theorem ls_account {X : jj_X} (F : jj_F X RL cL_law room_1) (hN : ∀ k, k < 7 → k < jj_nL X) {b L : Nat} {xs : Nat → Int32} (hX : jj_scr X b L xs) (hL : L ≤ 3072) {i c : Int} (hi : 0 ≤ i ∧ i + 6 ≤ L) (hc : c < 512) {xo mo oo : Nat} {G : jj_G} (I : lInv (jj_ac X) xo mo oo c G) {kc kn : Nat} (hk : kc + 100 ≤ 601024 ∧ kn + 1000 ≤ 7293034) {x5 x6 : Option Value} (kk : ∀ (G1 : jj_G) (x5 x6 : Option Value), lInv (jj_ac X) xo mo oo (c + 1) G1 → jj_J X G1 (kc + 100) (kn + 1000) 2412 [some (.ref b), some (.ref xo), some (.ref mo), some (.ref oo), some (.int (jI i)), x5, x6] []) : jj_J X G kc kn 2188 [some (.ref b), some (.ref xo), some (.ref mo), some (.ref oo), some (.int (jI i)), x5, x6] [] := by
  obtain ⟨s, e, G1, G2, ad, a, g, h, hR, rfl, hM, hd, h1, h2, rfl⟩ := I
  have hj := hM.rng
  have ho : jj_j G2 (jone oo (jj_al (jj_ac X 1) 1 g)) oo = some (jj_al (jj_ac X 1) 1 g) := (jj_jr h2).trans jone_s
  refine jj_aload1 F dL_law_2188 ?_
  refine jj_aload0 F dL_law_2189 ?_
  refine jj_iload4 F dL_law_2190 ?_
  refine jj_iconst F dL_law_2192 ?_
  refine jj_iadd F dL_law_2193 ?_
  refine jj_sld F hX (by omega) (by omega) dL_law_2194 ?_
  refine jj_aload3 F dL_law_2195 ?_
  refine jj_callFSi F (k := kc + 100) (n := kn + 1000) (w_account F.tr hR (hd.j (jDj.one h1)) ho h (jSc_r _ _) hj) lkw_account rfl ⟨Nat.le_of_ble_eq_true rfl, Nat.le_of_ble_eq_true rfl, (by show kc + 2 ≤ 601024; omega), (by show kn + 12 ≤ 7293034; omega), Nat.le_of_ble_eq_true rfl⟩ ⟨(by show kc + 2 ≤ kc + 100; omega), (by show kn + 12 ≤ kn + 1000; omega)⟩ dL_law_2196 (fun r Gw hw => ?_)
  obtain ⟨rfl, Gn, ad1, g1, hd1, rfl, ha1, hR1, hg1⟩ := hw
  have h11 : Gn oo = none := hd1.symm oo (jj_sn ho)
  have hd2 : jDj Gn G2 := hd1.jl
  rw [jj_ur h2, jone_u, jj_j_rot hd2]
  have hdg : jDj G2 (jj_j Gn (jone oo (jj_al (jj_ac X 1) 1 g1))) := hd2.symm.j (jDj.one h2)
  refine jj_istore5 F dL_law_2199 (hN _ (by decide)) rfl ?_
  refine jj_aload2 F dL_law_2201 ?_
  refine jj_aload0 F dL_law_2202 ?_
  refine jj_iload4 F dL_law_2203 ?_
  refine jj_iconst F dL_law_2205 ?_
  refine jj_iadd F dL_law_2206 ?_
  refine jj_sld F hX (by omega) (by omega) dL_law_2207 ?_
  refine jj_callFVi F hdg (k := kc + 100) (n := kn + 1000) (k9_account F.tr hM h.s (jSc_r _ _)) lk_L_231 hM.1 cs_9 rfl rfl ⟨Nat.le_of_ble_eq_true rfl, Nat.le_of_ble_eq_true rfl, (by show kc + 100 + 0 ≤ 601024; omega), (by show kn + 1000 + 0 ≤ 7293034; omega), Nat.le_of_ble_eq_true rfl⟩ ⟨(by show kc + 100 + 0 ≤ kc + 100; omega), (by show kn + 1000 + 0 ≤ kn + 1000; omega)⟩ dL_law_2208 (fun E hE => hE.elim) (fun r G3 hp hdn => ?_)
  obtain ⟨rfl, hM1⟩ := hp
  have th := th_account (s := s) (a := jSc xs (i + 1))
  have hrt := hM1.rng 37 0
  rw [th] at hrt
  have fin := fun (x5 x6 : Option Value) => kk _ x5 x6 (lInv.of (h_account h hc) hR1 ha1 hM1 hdn h11)
  have hoo : jj_j G3 (jj_j Gn (jone oo (jj_al (jj_ac X 1) 1 g1))) oo = some (jj_al (jj_ac X 1) 1 g1) := (jj_jr (hdn.symm oo (jj_sn ((jj_jr h11).trans jone_s)))).trans ((jj_jr h11).trans jone_s)
  refine jj_istore6 F dL_law_2211 (hN _ (by decide)) rfl ?_
  refine jj_aload2 F dL_law_2213 ?_
  refine jj_callFVi F hdn (k := kc + 100) (n := kn + 1000) (k9_thrown F.tr hM1) lk_L_132 hM1.1 cs_9 rfl rfl ⟨Nat.le_of_ble_eq_true rfl, Nat.le_of_ble_eq_true rfl, (by show kc + 100 + 0 ≤ 601024; omega), (by show kn + 1000 + 0 ≤ 7293034; omega), Nat.le_of_ble_eq_true rfl⟩ ⟨(by show kc + 100 + 0 ≤ kc + 100; omega), (by show kn + 1000 + 0 ≤ kn + 1000; omega)⟩ dL_law_2214 (fun E hE => hE.elim) (fun r G4 hp _ => ?_)
  obtain ⟨rfl, rfl⟩ := hp
  refine jj_eqi th ?_
  refine jj_iload5 F dL_law_2217 ?_
  refine jj_icmpx_eq F (tgt := 2224) dL_law_2219 rfl (fun _ => ?_) (fun hne => absurd rfl hne)
  refine jj_iload5 F dL_law_2224 ?_
  refine jj_if_ne F (tgt := 2241) dL_law_2226 rfl hrt (fun _ => ?_) (fun h0 => ?_)
  · skip
    refine jj_goto F (tgt := 2412) dL_law_2241 rfl ?_
    exact fin _ _
  · skip
    refine jj_aload3 F dL_law_2229 ?_
    refine jj_iconst F dL_law_2230 ?_
    refine jj_lald F (n := 1) (g := g1) hoo (by decide) (by decide) dL_law_2231 ?_
    refine jj_iload6 F dL_law_2232 ?_
    refine jj_jw ?_
    refine jj_i2l F (jI_rng _) dL_law_2234 ?_
    refine jj_lcmp F dL_law_2235 ?_
    refine jj_ifx_eq F (tgt := 2241) dL_law_2236 rfl (fun _ => ?_) (fun hne => absurd ((lg_cmp_eq _ _).mpr (congrArg jL (hg1 h0))) hne)
    refine jj_goto F (tgt := 2412) dL_law_2241 rfl ?_
    exact fin _ _
set_option maxRecDepth 100000 in
set_option maxHeartbeats 1000000 in
theorem ls_accountAnew {X : jj_X} (F : jj_F X RL cL_law room_1) (hN : ∀ k, k < 7 → k < jj_nL X) {b L : Nat} {xs : Nat → Int32} (hX : jj_scr X b L xs) (hL : L ≤ 3072) {i c : Int} (hi : 0 ≤ i ∧ i + 6 ≤ L) (hc : c < 512) {xo mo oo : Nat} {G : jj_G} (I : lInv (jj_ac X) xo mo oo c G) {kc kn : Nat} (hk : kc + 100 ≤ 601024 ∧ kn + 1000 ≤ 7293034) {x5 x6 : Option Value} (kk : ∀ (G1 : jj_G) (x5 x6 : Option Value), lInv (jj_ac X) xo mo oo (c + 1) G1 → jj_J X G1 (kc + 100) (kn + 1000) 2412 [some (.ref b), some (.ref xo), some (.ref mo), some (.ref oo), some (.int (jI i)), x5, x6] []) : jj_J X G kc kn 2244 [some (.ref b), some (.ref xo), some (.ref mo), some (.ref oo), some (.int (jI i)), x5, x6] [] := by
  obtain ⟨s, e, G1, G2, ad, a, g, h, hR, rfl, hM, hd, h1, h2, rfl⟩ := I
  have hj := hM.rng
  have ho : jj_j G2 (jone oo (jj_al (jj_ac X 1) 1 g)) oo = some (jj_al (jj_ac X 1) 1 g) := (jj_jr h2).trans jone_s
  refine jj_aload1 F dL_law_2244 ?_
  refine jj_aload0 F dL_law_2245 ?_
  refine jj_iload4 F dL_law_2246 ?_
  refine jj_iconst F dL_law_2248 ?_
  refine jj_iadd F dL_law_2249 ?_
  refine jj_sld F hX (by omega) (by omega) dL_law_2250 ?_
  refine jj_aload3 F dL_law_2251 ?_
  refine jj_callFSi F (k := kc + 100) (n := kn + 1000) (w_accountAnew F.tr hR (hd.j (jDj.one h1)) ho h (jSc_r _ _) hj) lkw_accountAnew rfl ⟨Nat.le_of_ble_eq_true rfl, Nat.le_of_ble_eq_true rfl, (by show kc + 2 ≤ 601024; omega), (by show kn + 12 ≤ 7293034; omega), Nat.le_of_ble_eq_true rfl⟩ ⟨(by show kc + 2 ≤ kc + 100; omega), (by show kn + 12 ≤ kn + 1000; omega)⟩ dL_law_2252 (fun r Gw hw => ?_)
  obtain ⟨rfl, Gn, ad1, g1, hd1, rfl, ha1, hR1, hg1⟩ := hw
  have h11 : Gn oo = none := hd1.symm oo (jj_sn ho)
  have hd2 : jDj Gn G2 := hd1.jl
  rw [jj_ur h2, jone_u, jj_j_rot hd2]
  have hdg : jDj G2 (jj_j Gn (jone oo (jj_al (jj_ac X 1) 1 g1))) := hd2.symm.j (jDj.one h2)
  refine jj_istore5 F dL_law_2255 (hN _ (by decide)) rfl ?_
  refine jj_aload2 F dL_law_2257 ?_
  refine jj_aload0 F dL_law_2258 ?_
  refine jj_iload4 F dL_law_2259 ?_
  refine jj_iconst F dL_law_2261 ?_
  refine jj_iadd F dL_law_2262 ?_
  refine jj_sld F hX (by omega) (by omega) dL_law_2263 ?_
  refine jj_callFVi F hdg (k := kc + 100) (n := kn + 1000) (k9_accountAnew F.tr hM h.s (jSc_r _ _)) lk_L_234 hM.1 cs_9 rfl rfl ⟨Nat.le_of_ble_eq_true rfl, Nat.le_of_ble_eq_true rfl, (by show kc + 100 + 0 ≤ 601024; omega), (by show kn + 1000 + 0 ≤ 7293034; omega), Nat.le_of_ble_eq_true rfl⟩ ⟨(by show kc + 100 + 0 ≤ kc + 100; omega), (by show kn + 1000 + 0 ≤ kn + 1000; omega)⟩ dL_law_2264 (fun E hE => hE.elim) (fun r G3 hp hdn => ?_)
  obtain ⟨rfl, hM1⟩ := hp
  have th := th_account (s := s) (a := jSc xs (i + 1))
  have hrt := hM1.rng 37 0
  rw [th] at hrt
  have fin := fun (x5 x6 : Option Value) => kk _ x5 x6 (lInv.of (h_account h hc) hR1 ha1 hM1 hdn h11)
  have hoo : jj_j G3 (jj_j Gn (jone oo (jj_al (jj_ac X 1) 1 g1))) oo = some (jj_al (jj_ac X 1) 1 g1) := (jj_jr (hdn.symm oo (jj_sn ((jj_jr h11).trans jone_s)))).trans ((jj_jr h11).trans jone_s)
  refine jj_istore6 F dL_law_2267 (hN _ (by decide)) rfl ?_
  refine jj_aload2 F dL_law_2269 ?_
  refine jj_callFVi F hdn (k := kc + 100) (n := kn + 1000) (k9_thrown F.tr hM1) lk_L_132 hM1.1 cs_9 rfl rfl ⟨Nat.le_of_ble_eq_true rfl, Nat.le_of_ble_eq_true rfl, (by show kc + 100 + 0 ≤ 601024; omega), (by show kn + 1000 + 0 ≤ 7293034; omega), Nat.le_of_ble_eq_true rfl⟩ ⟨(by show kc + 100 + 0 ≤ kc + 100; omega), (by show kn + 1000 + 0 ≤ kn + 1000; omega)⟩ dL_law_2270 (fun E hE => hE.elim) (fun r G4 hp _ => ?_)
  obtain ⟨rfl, rfl⟩ := hp
  refine jj_eqi th ?_
  refine jj_iload5 F dL_law_2273 ?_
  refine jj_icmpx_eq F (tgt := 2280) dL_law_2275 rfl (fun _ => ?_) (fun hne => absurd rfl hne)
  refine jj_iload5 F dL_law_2280 ?_
  refine jj_if_ne F (tgt := 2297) dL_law_2282 rfl hrt (fun _ => ?_) (fun h0 => ?_)
  · skip
    refine jj_goto F (tgt := 2412) dL_law_2297 rfl ?_
    exact fin _ _
  · skip
    refine jj_aload3 F dL_law_2285 ?_
    refine jj_iconst F dL_law_2286 ?_
    refine jj_lald F (n := 1) (g := g1) hoo (by decide) (by decide) dL_law_2287 ?_
    refine jj_iload6 F dL_law_2288 ?_
    refine jj_jw ?_
    refine jj_i2l F (jI_rng _) dL_law_2290 ?_
    refine jj_lcmp F dL_law_2291 ?_
    refine jj_ifx_eq F (tgt := 2297) dL_law_2292 rfl (fun _ => ?_) (fun hne => absurd ((lg_cmp_eq _ _).mpr (congrArg jL (hg1 h0))) hne)
    refine jj_goto F (tgt := 2412) dL_law_2297 rfl ?_
    exact fin _ _
set_option maxRecDepth 100000 in
set_option maxHeartbeats 1000000 in
theorem ls_payOut {X : jj_X} (F : jj_F X RL cL_law room_1) (hN : ∀ k, k < 7 → k < jj_nL X) {b L : Nat} {xs : Nat → Int32} (hX : jj_scr X b L xs) (hL : L ≤ 3072) {i c : Int} (hi : 0 ≤ i ∧ i + 6 ≤ L) (hc : c < 512) {xo mo oo : Nat} {G : jj_G} (I : lInv (jj_ac X) xo mo oo c G) {kc kn : Nat} (hk : kc + 100 ≤ 601024 ∧ kn + 1000 ≤ 7293034) {x5 x6 : Option Value} (kk : ∀ (G1 : jj_G) (x5 x6 : Option Value), lInv (jj_ac X) xo mo oo (c + 1) G1 → jj_J X G1 (kc + 100) (kn + 1000) 2412 [some (.ref b), some (.ref xo), some (.ref mo), some (.ref oo), some (.int (jI i)), x5, x6] []) : jj_J X G kc kn 2300 [some (.ref b), some (.ref xo), some (.ref mo), some (.ref oo), some (.int (jI i)), x5, x6] [] := by
  obtain ⟨s, e, G1, G2, ad, a, g, h, hR, rfl, hM, hd, h1, h2, rfl⟩ := I
  have hj := hM.rng
  have ho : jj_j G2 (jone oo (jj_al (jj_ac X 1) 1 g)) oo = some (jj_al (jj_ac X 1) 1 g) := (jj_jr h2).trans jone_s
  refine jj_aload1 F dL_law_2300 ?_
  refine jj_aload0 F dL_law_2301 ?_
  refine jj_iload4 F dL_law_2302 ?_
  refine jj_iconst F dL_law_2304 ?_
  refine jj_iadd F dL_law_2305 ?_
  refine jj_sld F hX (by omega) (by omega) dL_law_2306 ?_
  refine jj_aload3 F dL_law_2307 ?_
  refine jj_callFSi F (k := kc + 100) (n := kn + 1000) (w_payOut F.tr hR (hd.j (jDj.one h1)) ho h (jSc_r _ _) hj) lkw_payOut rfl ⟨Nat.le_of_ble_eq_true rfl, Nat.le_of_ble_eq_true rfl, (by show kc + 2 ≤ 601024; omega), (by show kn + 12 ≤ 7293034; omega), Nat.le_of_ble_eq_true rfl⟩ ⟨(by show kc + 2 ≤ kc + 100; omega), (by show kn + 12 ≤ kn + 1000; omega)⟩ dL_law_2308 (fun r Gw hw => ?_)
  obtain ⟨rfl, Gn, ad1, g1, hd1, rfl, ha1, hR1, hg1⟩ := hw
  have h11 : Gn oo = none := hd1.symm oo (jj_sn ho)
  have hd2 : jDj Gn G2 := hd1.jl
  rw [jj_ur h2, jone_u, jj_j_rot hd2]
  have hdg : jDj G2 (jj_j Gn (jone oo (jj_al (jj_ac X 1) 1 g1))) := hd2.symm.j (jDj.one h2)
  refine jj_istore5 F dL_law_2311 (hN _ (by decide)) rfl ?_
  refine jj_aload2 F dL_law_2313 ?_
  refine jj_aload0 F dL_law_2314 ?_
  refine jj_iload4 F dL_law_2315 ?_
  refine jj_iconst F dL_law_2317 ?_
  refine jj_iadd F dL_law_2318 ?_
  refine jj_sld F hX (by omega) (by omega) dL_law_2319 ?_
  refine jj_callFVi F hdg (k := kc + 100) (n := kn + 1000) (k9_payOut F.tr hM h.s (jSc_r _ _)) lk_L_237 hM.1 cs_9 rfl rfl ⟨Nat.le_of_ble_eq_true rfl, Nat.le_of_ble_eq_true rfl, (by show kc + 100 + 0 ≤ 601024; omega), (by show kn + 1000 + 0 ≤ 7293034; omega), Nat.le_of_ble_eq_true rfl⟩ ⟨(by show kc + 100 + 0 ≤ kc + 100; omega), (by show kn + 1000 + 0 ≤ kn + 1000; omega)⟩ dL_law_2320 (fun E hE => hE.elim) (fun r G3 hp hdn => ?_)
  obtain ⟨rfl, hM1⟩ := hp
  have th := th_payOut (s := s) (a := jSc xs (i + 1))
  have hrt := hM1.rng 37 0
  rw [th] at hrt
  have fin := fun (x5 x6 : Option Value) => kk _ x5 x6 (lInv.of (h_payOut h hc) hR1 ha1 hM1 hdn h11)
  have hoo : jj_j G3 (jj_j Gn (jone oo (jj_al (jj_ac X 1) 1 g1))) oo = some (jj_al (jj_ac X 1) 1 g1) := (jj_jr (hdn.symm oo (jj_sn ((jj_jr h11).trans jone_s)))).trans ((jj_jr h11).trans jone_s)
  refine jj_istore6 F dL_law_2323 (hN _ (by decide)) rfl ?_
  refine jj_aload2 F dL_law_2325 ?_
  refine jj_callFVi F hdn (k := kc + 100) (n := kn + 1000) (k9_thrown F.tr hM1) lk_L_132 hM1.1 cs_9 rfl rfl ⟨Nat.le_of_ble_eq_true rfl, Nat.le_of_ble_eq_true rfl, (by show kc + 100 + 0 ≤ 601024; omega), (by show kn + 1000 + 0 ≤ 7293034; omega), Nat.le_of_ble_eq_true rfl⟩ ⟨(by show kc + 100 + 0 ≤ kc + 100; omega), (by show kn + 1000 + 0 ≤ kn + 1000; omega)⟩ dL_law_2326 (fun E hE => hE.elim) (fun r G4 hp _ => ?_)
  obtain ⟨rfl, rfl⟩ := hp
  refine jj_eqi th ?_
  refine jj_iload5 F dL_law_2329 ?_
  refine jj_icmpx_eq F (tgt := 2336) dL_law_2331 rfl (fun _ => ?_) (fun hne => absurd rfl hne)
  refine jj_iload5 F dL_law_2336 ?_
  refine jj_if_ne F (tgt := 2353) dL_law_2338 rfl hrt (fun _ => ?_) (fun h0 => ?_)
  · skip
    refine jj_goto F (tgt := 2412) dL_law_2353 rfl ?_
    exact fin _ _
  · skip
    refine jj_aload3 F dL_law_2341 ?_
    refine jj_iconst F dL_law_2342 ?_
    refine jj_lald F (n := 1) (g := g1) hoo (by decide) (by decide) dL_law_2343 ?_
    refine jj_iload6 F dL_law_2344 ?_
    refine jj_jw ?_
    refine jj_i2l F (jI_rng _) dL_law_2346 ?_
    refine jj_lcmp F dL_law_2347 ?_
    refine jj_ifx_eq F (tgt := 2353) dL_law_2348 rfl (fun _ => ?_) (fun hne => absurd ((lg_cmp_eq _ _).mpr (congrArg jL (hg1 h0))) hne)
    refine jj_goto F (tgt := 2412) dL_law_2353 rfl ?_
    exact fin _ _
set_option maxRecDepth 100000 in
set_option maxHeartbeats 1000000 in
theorem ls_pass {X : jj_X} (F : jj_F X RL cL_law room_1) (hN : ∀ k, k < 7 → k < jj_nL X) {b L : Nat} {xs : Nat → Int32} (hX : jj_scr X b L xs) (hL : L ≤ 3072) {i c : Int} (hi : 0 ≤ i ∧ i + 6 ≤ L) (hc : c < 512) {xo mo oo : Nat} {G : jj_G} (I : lInv (jj_ac X) xo mo oo c G) {kc kn : Nat} (hk : kc + 100 ≤ 601024 ∧ kn + 1000 ≤ 7293034) {x5 x6 : Option Value} (kk : ∀ (G1 : jj_G) (x5 x6 : Option Value), lInv (jj_ac X) xo mo oo (c + 1) G1 → jj_J X G1 (kc + 100) (kn + 1000) 2412 [some (.ref b), some (.ref xo), some (.ref mo), some (.ref oo), some (.int (jI i)), x5, x6] []) : jj_J X G kc kn 2356 [some (.ref b), some (.ref xo), some (.ref mo), some (.ref oo), some (.int (jI i)), x5, x6] [] := by
  obtain ⟨s, e, G1, G2, ad, a, g, h, hR, rfl, hM, hd, h1, h2, rfl⟩ := I
  have hj := hM.rng
  have ho : jj_j G2 (jone oo (jj_al (jj_ac X 1) 1 g)) oo = some (jj_al (jj_ac X 1) 1 g) := (jj_jr h2).trans jone_s
  refine jj_aload1 F dL_law_2356 ?_
  refine jj_aload0 F dL_law_2357 ?_
  refine jj_iload4 F dL_law_2358 ?_
  refine jj_iconst F dL_law_2360 ?_
  refine jj_iadd F dL_law_2361 ?_
  refine jj_sld F hX (by omega) (by omega) dL_law_2362 ?_
  refine jj_aload3 F dL_law_2363 ?_
  refine jj_callFSi F (k := kc + 100) (n := kn + 1000) (w_pass F.tr hR (hd.j (jDj.one h1)) ho h (jSc_r _ _) hj) lkw_pass rfl ⟨Nat.le_of_ble_eq_true rfl, Nat.le_of_ble_eq_true rfl, (by show kc + 1 ≤ 601024; omega), (by show kn + 6 ≤ 7293034; omega), Nat.le_of_ble_eq_true rfl⟩ ⟨(by show kc + 1 ≤ kc + 100; omega), (by show kn + 6 ≤ kn + 1000; omega)⟩ dL_law_2364 (fun r Gw hw => ?_)
  obtain ⟨rfl, Gn, ad1, g1, hd1, rfl, ha1, hR1, hg1⟩ := hw
  have h11 : Gn oo = none := hd1.symm oo (jj_sn ho)
  have hd2 : jDj Gn G2 := hd1.jl
  rw [jj_ur h2, jone_u, jj_j_rot hd2]
  have hdg : jDj G2 (jj_j Gn (jone oo (jj_al (jj_ac X 1) 1 g1))) := hd2.symm.j (jDj.one h2)
  refine jj_istore5 F dL_law_2367 (hN _ (by decide)) rfl ?_
  refine jj_aload2 F dL_law_2369 ?_
  refine jj_aload0 F dL_law_2370 ?_
  refine jj_iload4 F dL_law_2371 ?_
  refine jj_iconst F dL_law_2373 ?_
  refine jj_iadd F dL_law_2374 ?_
  refine jj_sld F hX (by omega) (by omega) dL_law_2375 ?_
  refine jj_callFVi F hdg (k := kc + 100) (n := kn + 1000) (k9_pass F.tr hM h.s (jSc_r _ _)) lk_L_240 hM.1 cs_9 rfl rfl ⟨Nat.le_of_ble_eq_true rfl, Nat.le_of_ble_eq_true rfl, (by show kc + 100 + 0 ≤ 601024; omega), (by show kn + 1000 + 0 ≤ 7293034; omega), Nat.le_of_ble_eq_true rfl⟩ ⟨(by show kc + 100 + 0 ≤ kc + 100; omega), (by show kn + 1000 + 0 ≤ kn + 1000; omega)⟩ dL_law_2376 (fun E hE => hE.elim) (fun r G3 hp hdn => ?_)
  obtain ⟨rfl, hM1⟩ := hp
  have th := th_pass (s := s) (x := jSc xs (i + 1))
  have hrt := hM1.rng 37 0
  rw [th] at hrt
  have fin := fun (x5 x6 : Option Value) => kk _ x5 x6 (lInv.of (h_pass h hc) hR1 ha1 hM1 hdn h11)
  have hoo : jj_j G3 (jj_j Gn (jone oo (jj_al (jj_ac X 1) 1 g1))) oo = some (jj_al (jj_ac X 1) 1 g1) := (jj_jr (hdn.symm oo (jj_sn ((jj_jr h11).trans jone_s)))).trans ((jj_jr h11).trans jone_s)
  refine jj_istore6 F dL_law_2379 (hN _ (by decide)) rfl ?_
  refine jj_aload2 F dL_law_2381 ?_
  refine jj_callFVi F hdn (k := kc + 100) (n := kn + 1000) (k9_thrown F.tr hM1) lk_L_132 hM1.1 cs_9 rfl rfl ⟨Nat.le_of_ble_eq_true rfl, Nat.le_of_ble_eq_true rfl, (by show kc + 100 + 0 ≤ 601024; omega), (by show kn + 1000 + 0 ≤ 7293034; omega), Nat.le_of_ble_eq_true rfl⟩ ⟨(by show kc + 100 + 0 ≤ kc + 100; omega), (by show kn + 1000 + 0 ≤ kn + 1000; omega)⟩ dL_law_2382 (fun E hE => hE.elim) (fun r G4 hp _ => ?_)
  obtain ⟨rfl, rfl⟩ := hp
  refine jj_eqi th ?_
  refine jj_iload5 F dL_law_2385 ?_
  refine jj_icmpx_eq F (tgt := 2392) dL_law_2387 rfl (fun _ => ?_) (fun hne => absurd rfl hne)
  refine jj_iload5 F dL_law_2392 ?_
  refine jj_if_ne F (tgt := 2409) dL_law_2394 rfl hrt (fun _ => ?_) (fun h0 => ?_)
  · skip
    refine jj_goto F (tgt := 2412) dL_law_2409 rfl ?_
    exact fin _ _
  · skip
    refine jj_aload3 F dL_law_2397 ?_
    refine jj_iconst F dL_law_2398 ?_
    refine jj_lald F (n := 1) (g := g1) hoo (by decide) (by decide) dL_law_2399 ?_
    refine jj_iload6 F dL_law_2400 ?_
    refine jj_jw ?_
    refine jj_i2l F (jI_rng _) dL_law_2402 ?_
    refine jj_lcmp F dL_law_2403 ?_
    refine jj_ifx_eq F (tgt := 2409) dL_law_2404 rfl (fun _ => ?_) (fun hne => absurd ((lg_cmp_eq _ _).mpr (congrArg jL (hg1 h0))) hne)
    refine jj_goto F (tgt := 2412) dL_law_2409 rfl ?_
    exact fin _ _
