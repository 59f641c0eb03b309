set_option maxRecDepth 100000 in
set_option maxHeartbeats 1000000 in
theorem ls_back {X : jj_X} (F : jj_F X RL cL_law room_1) (hN : ∀ k, k < 7 → k < jj_nL X) {b L : Nat} {xs : Nat → Int32} (hX : jj_scr X b L xs) (hL : L ≤ 3072) {i c : Int} (hi : 0 ≤ i ∧ i + 6 ≤ L) (hc : c < 512) {xo mo oo : Nat} {G : jj_G} (I : lInv (jj_ac X) xo mo oo c G) {kc kn : Nat} (hk : kc + 100 ≤ 601024 ∧ kn + 1000 ≤ 7293034) {x5 x6 : Option Value} (kk : ∀ (G1 : jj_G) (x5 x6 : Option Value), lInv (jj_ac X) xo mo oo (c + 1) G1 → jj_J X G1 (kc + 100) (kn + 1000) 2412 [some (.ref b), some (.ref xo), some (.ref mo), some (.ref oo), some (.int (jI i)), x5, x6] []) : jj_J X G kc kn 1384 [some (.ref b), some (.ref xo), some (.ref mo), some (.ref oo), some (.int (jI i)), x5, x6] [] := by
  obtain ⟨s, e, G1, G2, ad, a, g, h, hR, rfl, hM, hd, h1, h2, rfl⟩ := I
  have hj := hM.rng
  have ho : jj_j G2 (jone oo (jj_al (jj_ac X 1) 1 g)) oo = some (jj_al (jj_ac X 1) 1 g) := (jj_jr h2).trans jone_s
  refine jj_aload1 F dL_law_1384 ?_
  refine jj_aload0 F dL_law_1385 ?_
  refine jj_iload4 F dL_law_1386 ?_
  refine jj_iconst F dL_law_1388 ?_
  refine jj_iadd F dL_law_1389 ?_
  refine jj_sld F hX (by omega) (by omega) dL_law_1390 ?_
  refine jj_aload0 F dL_law_1391 ?_
  refine jj_iload4 F dL_law_1392 ?_
  refine jj_iconst F dL_law_1394 ?_
  refine jj_iadd F dL_law_1395 ?_
  refine jj_sld F hX (by omega) (by omega) dL_law_1396 ?_
  refine jj_aload0 F dL_law_1397 ?_
  refine jj_iload4 F dL_law_1398 ?_
  refine jj_iconst F dL_law_1400 ?_
  refine jj_iadd F dL_law_1401 ?_
  refine jj_sld F hX (by omega) (by omega) dL_law_1402 ?_
  refine jj_aload0 F dL_law_1403 ?_
  refine jj_iload4 F dL_law_1404 ?_
  refine jj_iconst F dL_law_1406 ?_
  refine jj_iadd F dL_law_1407 ?_
  refine jj_sld F hX (by omega) (by omega) dL_law_1408 ?_
  refine jj_aload3 F dL_law_1409 ?_
  refine jj_callFSi F (k := kc + 100) (n := kn + 1000) (w_back F.tr hR (hd.j (jDj.one h1)) ho h (jSc_r _ _) (jSc_r _ _) (jSc_r _ _) (jSc_r _ _) hj) lkw_back rfl ⟨Nat.le_of_ble_eq_true rfl, Nat.le_of_ble_eq_true rfl, (by show kc + 4 ≤ 601024; omega), (by show kn + 24 ≤ 7293034; omega), Nat.le_of_ble_eq_true rfl⟩ ⟨(by show kc + 4 ≤ kc + 100; omega), (by show kn + 24 ≤ kn + 1000; omega)⟩ dL_law_1410 (fun r Gw hw => ?_)
  obtain ⟨rfl, Gn, ad1, g1, hd1, rfl, ha1, hR1, hg1⟩ := hw
  have h11 : Gn oo = none := hd1.symm oo (jj_sn ho)
  have hd2 : jDj Gn G2 := hd1.jl
  rw [jj_ur h2, jone_u, jj_j_rot hd2]
  have hdg : jDj G2 (jj_j Gn (jone oo (jj_al (jj_ac X 1) 1 g1))) := hd2.symm.j (jDj.one h2)
  refine jj_istore5 F dL_law_1413 (hN _ (by decide)) rfl ?_
  refine jj_aload2 F dL_law_1415 ?_
  refine jj_aload0 F dL_law_1416 ?_
  refine jj_iload4 F dL_law_1417 ?_
  refine jj_iconst F dL_law_1419 ?_
  refine jj_iadd F dL_law_1420 ?_
  refine jj_sld F hX (by omega) (by omega) dL_law_1421 ?_
  refine jj_aload0 F dL_law_1422 ?_
  refine jj_iload4 F dL_law_1423 ?_
  refine jj_iconst F dL_law_1425 ?_
  refine jj_iadd F dL_law_1426 ?_
  refine jj_sld F hX (by omega) (by omega) dL_law_1427 ?_
  refine jj_aload0 F dL_law_1428 ?_
  refine jj_iload4 F dL_law_1429 ?_
  refine jj_iconst F dL_law_1431 ?_
  refine jj_iadd F dL_law_1432 ?_
  refine jj_sld F hX (by omega) (by omega) dL_law_1433 ?_
  refine jj_aload0 F dL_law_1434 ?_
  refine jj_iload4 F dL_law_1435 ?_
  refine jj_iconst F dL_law_1437 ?_
  refine jj_iadd F dL_law_1438 ?_
  refine jj_sld F hX (by omega) (by omega) dL_law_1439 ?_
  refine jj_callFVi F hdg (k := kc + 100) (n := kn + 1000) (k9_back F.tr hM h.s (jSc_r _ _) (jSc_r _ _) (jSc_r _ _) (jSc_r _ _)) lk_L_194 hM.1 cs_9 rfl rfl ⟨Nat.le_of_ble_eq_true rfl, Nat.le_of_ble_eq_true rfl, (by show kc + 100 + 0 ≤ 601024; omega), (by show kn + 1000 + 0 ≤ 7293034; omega), Nat.le_of_ble_eq_true rfl⟩ ⟨(by show kc + 100 + 0 ≤ kc + 100; omega), (by show kn + 1000 + 0 ≤ kn + 1000; omega)⟩ dL_law_1440 (fun E hE => hE.elim) (fun r G3 hp hdn => ?_)
  obtain ⟨rfl, hM1⟩ := hp
  have th := th_back (s := s) (d := jSc xs (i + 1)) (m := jSc xs (i + 2)) (n := jSc xs (i + 3)) (x := jSc xs (i + 4))
  have hrt := hM1.rng 37 0
  rw [th] at hrt
  have fin := fun (x5 x6 : Option Value) => kk _ x5 x6 (lInv.of (h_back h hc) hR1 ha1 hM1 hdn h11)
  have hoo : jj_j G3 (jj_j Gn (jone oo (jj_al (jj_ac X 1) 1 g1))) oo = some (jj_al (jj_ac X 1) 1 g1) := (jj_jr (hdn.symm oo (jj_sn ((jj_jr h11).trans jone_s)))).trans ((jj_jr h11).trans jone_s)
  refine jj_istore6 F dL_law_1443 (hN _ (by decide)) rfl ?_
  refine jj_aload2 F dL_law_1445 ?_
  refine jj_callFVi F hdn (k := kc + 100) (n := kn + 1000) (k9_thrown F.tr hM1) lk_L_132 hM1.1 cs_9 rfl rfl ⟨Nat.le_of_ble_eq_true rfl, Nat.le_of_ble_eq_true rfl, (by show kc + 100 + 0 ≤ 601024; omega), (by show kn + 1000 + 0 ≤ 7293034; omega), Nat.le_of_ble_eq_true rfl⟩ ⟨(by show kc + 100 + 0 ≤ kc + 100; omega), (by show kn + 1000 + 0 ≤ kn + 1000; omega)⟩ dL_law_1446 (fun E hE => hE.elim) (fun r G4 hp _ => ?_)
  obtain ⟨rfl, rfl⟩ := hp
  refine jj_eqi th ?_
  refine jj_iload5 F dL_law_1449 ?_
  refine jj_icmpx_eq F (tgt := 1456) dL_law_1451 rfl (fun _ => ?_) (fun hne => absurd rfl hne)
  refine jj_iload5 F dL_law_1456 ?_
  refine jj_if_ne F (tgt := 1473) dL_law_1458 rfl hrt (fun _ => ?_) (fun h0 => ?_)
  · skip
    refine jj_goto F (tgt := 2412) dL_law_1473 rfl ?_
    exact fin _ _
  · skip
    refine jj_aload3 F dL_law_1461 ?_
    refine jj_iconst F dL_law_1462 ?_
    refine jj_lald F (n := 1) (g := g1) hoo (by decide) (by decide) dL_law_1463 ?_
    refine jj_iload6 F dL_law_1464 ?_
    refine jj_jw ?_
    refine jj_i2l F (jI_rng _) dL_law_1466 ?_
    refine jj_lcmp F dL_law_1467 ?_
    refine jj_ifx_eq F (tgt := 1473) dL_law_1468 rfl (fun _ => ?_) (fun hne => absurd ((lg_cmp_eq _ _).mpr (congrArg jL (hg1 h0))) hne)
    refine jj_goto F (tgt := 2412) dL_law_1473 rfl ?_
    exact fin _ _
set_option maxRecDepth 100000 in
set_option maxHeartbeats 1000000 in
theorem ls_disc {X : jj_X} (F : jj_F X RL cL_law room_1) (hN : ∀ k, k < 7 → k < jj_nL X) {b L : Nat} {xs : Nat → Int32} (hX : jj_scr X b L xs) (hL : L ≤ 3072) {i c : Int} (hi : 0 ≤ i ∧ i + 6 ≤ L) (hc : c < 512) {xo mo oo : Nat} {G : jj_G} (I : lInv (jj_ac X) xo mo oo c G) {kc kn : Nat} (hk : kc + 100 ≤ 601024 ∧ kn + 1000 ≤ 7293034) {x5 x6 : Option Value} (kk : ∀ (G1 : jj_G) (x5 x6 : Option Value), lInv (jj_ac X) xo mo oo (c + 1) G1 → jj_J X G1 (kc + 100) (kn + 1000) 2412 [some (.ref b), some (.ref xo), some (.ref mo), some (.ref oo), some (.int (jI i)), x5, x6] []) : jj_J X G kc kn 1476 [some (.ref b), some (.ref xo), some (.ref mo), some (.ref oo), some (.int (jI i)), x5, x6] [] := by
  obtain ⟨s, e, G1, G2, ad, a, g, h, hR, rfl, hM, hd, h1, h2, rfl⟩ := I
  have hj := hM.rng
  have ho : jj_j G2 (jone oo (jj_al (jj_ac X 1) 1 g)) oo = some (jj_al (jj_ac X 1) 1 g) := (jj_jr h2).trans jone_s
  refine jj_aload1 F dL_law_1476 ?_
  refine jj_aload0 F dL_law_1477 ?_
  refine jj_iload4 F dL_law_1478 ?_
  refine jj_iconst F dL_law_1480 ?_
  refine jj_iadd F dL_law_1481 ?_
  refine jj_sld F hX (by omega) (by omega) dL_law_1482 ?_
  refine jj_aload0 F dL_law_1483 ?_
  refine jj_iload4 F dL_law_1484 ?_
  refine jj_iconst F dL_law_1486 ?_
  refine jj_iadd F dL_law_1487 ?_
  refine jj_sld F hX (by omega) (by omega) dL_law_1488 ?_
  refine jj_aload0 F dL_law_1489 ?_
  refine jj_iload4 F dL_law_1490 ?_
  refine jj_iconst F dL_law_1492 ?_
  refine jj_iadd F dL_law_1493 ?_
  refine jj_sld F hX (by omega) (by omega) dL_law_1494 ?_
  refine jj_aload3 F dL_law_1495 ?_
  refine jj_callFSi F (k := kc + 100) (n := kn + 1000) (w_disc F.tr hR (hd.j (jDj.one h1)) ho h (jSc_r _ _) (jSc_r _ _) (jSc_r _ _) hj) lkw_disc rfl ⟨Nat.le_of_ble_eq_true rfl, Nat.le_of_ble_eq_true rfl, (by show kc + 5 ≤ 601024; omega), (by show kn + 40 ≤ 7293034; omega), Nat.le_of_ble_eq_true rfl⟩ ⟨(by show kc + 5 ≤ kc + 100; omega), (by show kn + 40 ≤ kn + 1000; omega)⟩ dL_law_1496 (fun r Gw hw => ?_)
  obtain ⟨rfl, Gn, ad1, g1, hd1, rfl, ha1, hR1, hg1⟩ := hw
  have h11 : Gn oo = none := hd1.symm oo (jj_sn ho)
  have hd2 : jDj Gn G2 := hd1.jl
  rw [jj_ur h2, jone_u, jj_j_rot hd2]
  have hdg : jDj G2 (jj_j Gn (jone oo (jj_al (jj_ac X 1) 1 g1))) := hd2.symm.j (jDj.one h2)
  refine jj_istore5 F dL_law_1499 (hN _ (by decide)) rfl ?_
  refine jj_aload2 F dL_law_1501 ?_
  refine jj_aload0 F dL_law_1502 ?_
  refine jj_iload4 F dL_law_1503 ?_
  refine jj_iconst F dL_law_1505 ?_
  refine jj_iadd F dL_law_1506 ?_
  refine jj_sld F hX (by omega) (by omega) dL_law_1507 ?_
  refine jj_aload0 F dL_law_1508 ?_
  refine jj_iload4 F dL_law_1509 ?_
  refine jj_iconst F dL_law_1511 ?_
  refine jj_iadd F dL_law_1512 ?_
  refine jj_sld F hX (by omega) (by omega) dL_law_1513 ?_
  refine jj_aload0 F dL_law_1514 ?_
  refine jj_iload4 F dL_law_1515 ?_
  refine jj_iconst F dL_law_1517 ?_
  refine jj_iadd F dL_law_1518 ?_
  refine jj_sld F hX (by omega) (by omega) dL_law_1519 ?_
  refine jj_callFVi F hdg (k := kc + 100) (n := kn + 1000) (k9_disc F.tr hM h.s (jSc_r _ _) (jSc_r _ _) (jSc_r _ _)) lk_L_197 hM.1 cs_9 rfl rfl ⟨Nat.le_of_ble_eq_true rfl, Nat.le_of_ble_eq_true rfl, (by show kc + 100 + 0 ≤ 601024; omega), (by show kn + 1000 + 0 ≤ 7293034; omega), Nat.le_of_ble_eq_true rfl⟩ ⟨(by show kc + 100 + 0 ≤ kc + 100; omega), (by show kn + 1000 + 0 ≤ kn + 1000; omega)⟩ dL_law_1520 (fun E hE => hE.elim) (fun r G3 hp hdn => ?_)
  obtain ⟨rfl, hM1⟩ := hp
  have th := th_disc (s := s) (d := jSc xs (i + 1)) (m := jSc xs (i + 2)) (n := jSc xs (i + 3))
  have hrt := hM1.rng 37 0
  rw [th] at hrt
  have fin := fun (x5 x6 : Option Value) => kk _ x5 x6 (lInv.of (h_disc h hc) hR1 ha1 hM1 hdn h11)
  have hoo : jj_j G3 (jj_j Gn (jone oo (jj_al (jj_ac X 1) 1 g1))) oo = some (jj_al (jj_ac X 1) 1 g1) := (jj_jr (hdn.symm oo (jj_sn ((jj_jr h11).trans jone_s)))).trans ((jj_jr h11).trans jone_s)
  refine jj_istore6 F dL_law_1523 (hN _ (by decide)) rfl ?_
  refine jj_aload2 F dL_law_1525 ?_
  refine jj_callFVi F hdn (k := kc + 100) (n := kn + 1000) (k9_thrown F.tr hM1) lk_L_132 hM1.1 cs_9 rfl rfl ⟨Nat.le_of_ble_eq_true rfl, Nat.le_of_ble_eq_true rfl, (by show kc + 100 + 0 ≤ 601024; omega), (by show kn + 1000 + 0 ≤ 7293034; omega), Nat.le_of_ble_eq_true rfl⟩ ⟨(by show kc + 100 + 0 ≤ kc + 100; omega), (by show kn + 1000 + 0 ≤ kn + 1000; omega)⟩ dL_law_1526 (fun E hE => hE.elim) (fun r G4 hp _ => ?_)
  obtain ⟨rfl, rfl⟩ := hp
  refine jj_eqi th ?_
  refine jj_iload5 F dL_law_1529 ?_
  refine jj_icmpx_eq F (tgt := 1536) dL_law_1531 rfl (fun _ => ?_) (fun hne => absurd rfl hne)
  refine jj_iload5 F dL_law_1536 ?_
  refine jj_if_ne F (tgt := 1553) dL_law_1538 rfl hrt (fun _ => ?_) (fun h0 => ?_)
  · skip
    refine jj_goto F (tgt := 2412) dL_law_1553 rfl ?_
    exact fin _ _
  · skip
    refine jj_aload3 F dL_law_1541 ?_
    refine jj_iconst F dL_law_1542 ?_
    refine jj_lald F (n := 1) (g := g1) hoo (by decide) (by decide) dL_law_1543 ?_
    refine jj_iload6 F dL_law_1544 ?_
    refine jj_jw ?_
    refine jj_i2l F (jI_rng _) dL_law_1546 ?_
    refine jj_lcmp F dL_law_1547 ?_
    refine jj_ifx_eq F (tgt := 1553) dL_law_1548 rfl (fun _ => ?_) (fun hne => absurd ((lg_cmp_eq _ _).mpr (congrArg jL (hg1 h0))) hne)
    refine jj_goto F (tgt := 2412) dL_law_1553 rfl ?_
    exact fin _ _
set_option maxRecDepth 100000 in
set_option maxHeartbeats 1000000 in
theorem ls_play {X : jj_X} (F : jj_F X RL cL_law room_1) (hN : ∀ k, k < 7 → k < jj_nL X) {b L : Nat} {xs : Nat → Int32} (hX : jj_scr X b L xs) (hL : L ≤ 3072) {i c : Int} (hi : 0 ≤ i ∧ i + 6 ≤ L) (hc : c < 512) {xo mo oo : Nat} {G : jj_G} (I : lInv (jj_ac X) xo mo oo c G) {kc kn : Nat} (hk : kc + 100 ≤ 601024 ∧ kn + 1000 ≤ 7293034) {x5 x6 : Option Value} (kk : ∀ (G1 : jj_G) (x5 x6 : Option Value), lInv (jj_ac X) xo mo oo (c + 1) G1 → jj_J X G1 (kc + 100) (kn + 1000) 2412 [some (.ref b), some (.ref xo), some (.ref mo), some (.ref oo), some (.int (jI i)), x5, x6] []) : jj_J X G kc kn 1556 [some (.ref b), some (.ref xo), some (.ref mo), some (.ref oo), some (.int (jI i)), x5, x6] [] := by
  obtain ⟨s, e, G1, G2, ad, a, g, h, hR, rfl, hM, hd, h1, h2, rfl⟩ := I
  have hj := hM.rng
  have ho : jj_j G2 (jone oo (jj_al (jj_ac X 1) 1 g)) oo = some (jj_al (jj_ac X 1) 1 g) := (jj_jr h2).trans jone_s
  refine jj_aload1 F dL_law_1556 ?_
  refine jj_aload0 F dL_law_1557 ?_
  refine jj_iload4 F dL_law_1558 ?_
  refine jj_iconst F dL_law_1560 ?_
  refine jj_iadd F dL_law_1561 ?_
  refine jj_sld F hX (by omega) (by omega) dL_law_1562 ?_
  refine jj_aload0 F dL_law_1563 ?_
  refine jj_iload4 F dL_law_1564 ?_
  refine jj_iconst F dL_law_1566 ?_
  refine jj_iadd F dL_law_1567 ?_
  refine jj_sld F hX (by omega) (by omega) dL_law_1568 ?_
  refine jj_aload0 F dL_law_1569 ?_
  refine jj_iload4 F dL_law_1570 ?_
  refine jj_iconst F dL_law_1572 ?_
  refine jj_iadd F dL_law_1573 ?_
  refine jj_sld F hX (by omega) (by omega) dL_law_1574 ?_
  refine jj_aload3 F dL_law_1575 ?_
  refine jj_callFSi F (k := kc + 100) (n := kn + 1000) (w_play F.tr hR (hd.j (jDj.one h1)) ho h (jSc_r _ _) (jSc_r _ _) (jSc_r _ _) hj) lkw_play rfl ⟨Nat.le_of_ble_eq_true rfl, Nat.le_of_ble_eq_true rfl, (by show kc + 2 ≤ 601024; omega), (by show kn + 12 ≤ 7293034; omega), Nat.le_of_ble_eq_true rfl⟩ ⟨(by show kc + 2 ≤ kc + 100; omega), (by show kn + 12 ≤ kn + 1000; omega)⟩ dL_law_1576 (fun r Gw hw => ?_)
  obtain ⟨rfl, Gn, ad1, g1, hd1, rfl, ha1, hR1, hg1⟩ := hw
  have h11 : Gn oo = none := hd1.symm oo (jj_sn ho)
  have hd2 : jDj Gn G2 := hd1.jl
  rw [jj_ur h2, jone_u, jj_j_rot hd2]
  have hdg : jDj G2 (jj_j Gn (jone oo (jj_al (jj_ac X 1) 1 g1))) := hd2.symm.j (jDj.one h2)
  refine jj_istore5 F dL_law_1579 (hN _ (by decide)) rfl ?_
  refine jj_aload2 F dL_law_1581 ?_
  refine jj_aload0 F dL_law_1582 ?_
  refine jj_iload4 F dL_law_1583 ?_
  refine jj_iconst F dL_law_1585 ?_
  refine jj_iadd F dL_law_1586 ?_
  refine jj_sld F hX (by omega) (by omega) dL_law_1587 ?_
  refine jj_aload0 F dL_law_1588 ?_
  refine jj_iload4 F dL_law_1589 ?_
  refine jj_iconst F dL_law_1591 ?_
  refine jj_iadd F dL_law_1592 ?_
  refine jj_sld F hX (by omega) (by omega) dL_law_1593 ?_
  refine jj_aload0 F dL_law_1594 ?_
  refine jj_iload4 F dL_law_1595 ?_
  refine jj_iconst F dL_law_1597 ?_
  refine jj_iadd F dL_law_1598 ?_
  refine jj_sld F hX (by omega) (by omega) dL_law_1599 ?_
  refine jj_callFVi F hdg (k := kc + 100) (n := kn + 1000) (k9_play F.tr hM h.s (jSc_r _ _) (jSc_r _ _) (jSc_r _ _)) lk_L_200 hM.1 cs_9 rfl rfl ⟨Nat.le_of_ble_eq_true rfl, Nat.le_of_ble_eq_true rfl, (by show kc + 100 + 0 ≤ 601024; omega), (by show kn + 1000 + 0 ≤ 7293034; omega), Nat.le_of_ble_eq_true rfl⟩ ⟨(by show kc + 100 + 0 ≤ kc + 100; omega), (by show kn + 1000 + 0 ≤ kn + 1000; omega)⟩ dL_law_1600 (fun E hE => hE.elim) (fun r G3 hp hdn => ?_)
  obtain ⟨rfl, hM1⟩ := hp
  have th := th_play (s := s) (d := jSc xs (i + 1)) (n := jSc xs (i + 2)) (x := jSc xs (i + 3))
  have hrt := hM1.rng 37 0
  rw [th] at hrt
  have fin := fun (x5 x6 : Option Value) => kk _ x5 x6 (lInv.of (h_play h hc) hR1 ha1 hM1 hdn h11)
  have hoo : jj_j G3 (jj_j Gn (jone oo (jj_al (jj_ac X 1) 1 g1))) oo = some (jj_al (jj_ac X 1) 1 g1) := (jj_jr (hdn.symm oo (jj_sn ((jj_jr h11).trans jone_s)))).trans ((jj_jr h11).trans jone_s)
  refine jj_istore6 F dL_law_1603 (hN _ (by decide)) rfl ?_
  refine jj_aload2 F dL_law_1605 ?_
  refine jj_callFVi F hdn (k := kc + 100) (n := kn + 1000) (k9_thrown F.tr hM1) lk_L_132 hM1.1 cs_9 rfl rfl ⟨Nat.le_of_ble_eq_true rfl, Nat.le_of_ble_eq_true rfl, (by show kc + 100 + 0 ≤ 601024; omega), (by show kn + 1000 + 0 ≤ 7293034; omega), Nat.le_of_ble_eq_true rfl⟩ ⟨(by show kc + 100 + 0 ≤ kc + 100; omega), (by show kn + 1000 + 0 ≤ kn + 1000; omega)⟩ dL_law_1606 (fun E hE => hE.elim) (fun r G4 hp _ => ?_)
  obtain ⟨rfl, rfl⟩ := hp
  refine jj_eqi th ?_
  refine jj_iload5 F dL_law_1609 ?_
  refine jj_icmpx_eq F (tgt := 1616) dL_law_1611 rfl (fun _ => ?_) (fun hne => absurd rfl hne)
  refine jj_iload5 F dL_law_1616 ?_
  refine jj_if_ne F (tgt := 1633) dL_law_1618 rfl hrt (fun _ => ?_) (fun h0 => ?_)
  · skip
    refine jj_goto F (tgt := 2412) dL_law_1633 rfl ?_
    exact fin _ _
  · skip
    refine jj_aload3 F dL_law_1621 ?_
    refine jj_iconst F dL_law_1622 ?_
    refine jj_lald F (n := 1) (g := g1) hoo (by decide) (by decide) dL_law_1623 ?_
    refine jj_iload6 F dL_law_1624 ?_
    refine jj_jw ?_
    refine jj_i2l F (jI_rng _) dL_law_1626 ?_
    refine jj_lcmp F dL_law_1627 ?_
    refine jj_ifx_eq F (tgt := 1633) dL_law_1628 rfl (fun _ => ?_) (fun hne => absurd ((lg_cmp_eq _ _).mpr (congrArg jL (hg1 h0))) hne)
    refine jj_goto F (tgt := 2412) dL_law_1633 rfl ?_
    exact fin _ _
set_option maxRecDepth 100000 in
set_option maxHeartbeats 1000000 in
theorem ls_scratch {X : jj_X} (F : jj_F X RL cL_law room_1) (hN : ∀ k, k < 7 → k < jj_nL X) {b L : Nat} {xs : Nat → Int32} (hX : jj_scr X b L xs) (hL : L ≤ 3072) {i c : Int} (hi : 0 ≤ i ∧ i + 6 ≤ L) (hc : c < 512) {xo mo oo : Nat} {G : jj_G} (I : lInv (jj_ac X) xo mo oo c G) {kc kn : Nat} (hk : kc + 100 ≤ 601024 ∧ kn + 1000 ≤ 7293034) {x5 x6 : Option Value} (kk : ∀ (G1 : jj_G) (x5 x6 : Option Value), lInv (jj_ac X) xo mo oo (c + 1) G1 → jj_J X G1 (kc + 100) (kn + 1000) 2412 [some (.ref b), some (.ref xo), some (.ref mo), some (.ref oo), some (.int (jI i)), x5, x6] []) : jj_J X G kc kn 1636 [some (.ref b), some (.ref xo), some (.ref mo), some (.ref oo), some (.int (jI i)), x5, x6] [] := by
  obtain ⟨s, e, G1, G2, ad, a, g, h, hR, rfl, hM, hd, h1, h2, rfl⟩ := I
  have hj := hM.rng
  have ho : jj_j G2 (jone oo (jj_al (jj_ac X 1) 1 g)) oo = some (jj_al (jj_ac X 1) 1 g) := (jj_jr h2).trans jone_s
  refine jj_aload1 F dL_law_1636 ?_
  refine jj_aload0 F dL_law_1637 ?_
  refine jj_iload4 F dL_law_1638 ?_
  refine jj_iconst F dL_law_1640 ?_
  refine jj_iadd F dL_law_1641 ?_
  refine jj_sld F hX (by omega) (by omega) dL_law_1642 ?_
  refine jj_aload0 F dL_law_1643 ?_
  refine jj_iload4 F dL_law_1644 ?_
  refine jj_iconst F dL_law_1646 ?_
  refine jj_iadd F dL_law_1647 ?_
  refine jj_sld F hX (by omega) (by omega) dL_law_1648 ?_
  refine jj_aload3 F dL_law_1649 ?_
  refine jj_callFSi F (k := kc + 100) (n := kn + 1000) (w_scratch F.tr hR (hd.j (jDj.one h1)) ho h (jSc_r _ _) (jSc_r _ _) hj) lkw_scratch rfl ⟨Nat.le_of_ble_eq_true rfl, Nat.le_of_ble_eq_true rfl, (by show kc + 3 ≤ 601024; omega), (by show kn + 18 ≤ 7293034; omega), Nat.le_of_ble_eq_true rfl⟩ ⟨(by show kc + 3 ≤ kc + 100; omega), (by show kn + 18 ≤ kn + 1000; omega)⟩ dL_law_1650 (fun r Gw hw => ?_)
  obtain ⟨rfl, Gn, ad1, g1, hd1, rfl, ha1, hR1, hg1⟩ := hw
  have h11 : Gn oo = none := hd1.symm oo (jj_sn ho)
  have hd2 : jDj Gn G2 := hd1.jl
  rw [jj_ur h2, jone_u, jj_j_rot hd2]
  have hdg : jDj G2 (jj_j Gn (jone oo (jj_al (jj_ac X 1) 1 g1))) := hd2.symm.j (jDj.one h2)
  refine jj_istore5 F dL_law_1653 (hN _ (by decide)) rfl ?_
  refine jj_aload2 F dL_law_1655 ?_
  refine jj_aload0 F dL_law_1656 ?_
  refine jj_iload4 F dL_law_1657 ?_
  refine jj_iconst F dL_law_1659 ?_
  refine jj_iadd F dL_law_1660 ?_
  refine jj_sld F hX (by omega) (by omega) dL_law_1661 ?_
  refine jj_aload0 F dL_law_1662 ?_
  refine jj_iload4 F dL_law_1663 ?_
  refine jj_iconst F dL_law_1665 ?_
  refine jj_iadd F dL_law_1666 ?_
  refine jj_sld F hX (by omega) (by omega) dL_law_1667 ?_
  refine jj_callFVi F hdg (k := kc + 100) (n := kn + 1000) (k9_scratch F.tr hM h.s (jSc_r _ _) (jSc_r _ _)) lk_L_203 hM.1 cs_9 rfl rfl ⟨Nat.le_of_ble_eq_true rfl, Nat.le_of_ble_eq_true rfl, (by show kc + 100 + 0 ≤ 601024; omega), (by show kn + 1000 + 0 ≤ 7293034; omega), Nat.le_of_ble_eq_true rfl⟩ ⟨(by show kc + 100 + 0 ≤ kc + 100; omega), (by show kn + 1000 + 0 ≤ kn + 1000; omega)⟩ dL_law_1668 (fun E hE => hE.elim) (fun r G3 hp hdn => ?_)
  obtain ⟨rfl, hM1⟩ := hp
  have th := th_scratch (s := s) (d := jSc xs (i + 1)) (p := jSc xs (i + 2))
  have hrt := hM1.rng 37 0
  rw [th] at hrt
  have fin := fun (x5 x6 : Option Value) => kk _ x5 x6 (lInv.of (h_scratch h hc) hR1 ha1 hM1 hdn h11)
  have hoo : jj_j G3 (jj_j Gn (jone oo (jj_al (jj_ac X 1) 1 g1))) oo = some (jj_al (jj_ac X 1) 1 g1) := (jj_jr (hdn.symm oo (jj_sn ((jj_jr h11).trans jone_s)))).trans ((jj_jr h11).trans jone_s)
  refine jj_istore6 F dL_law_1671 (hN _ (by decide)) rfl ?_
  refine jj_aload2 F dL_law_1673 ?_
  refine jj_callFVi F hdn (k := kc + 100) (n := kn + 1000) (k9_thrown F.tr hM1) lk_L_132 hM1.1 cs_9 rfl rfl ⟨Nat.le_of_ble_eq_true rfl, Nat.le_of_ble_eq_true rfl, (by show kc + 100 + 0 ≤ 601024; omega), (by show kn + 1000 + 0 ≤ 7293034; omega), Nat.le_of_ble_eq_true rfl⟩ ⟨(by show kc + 100 + 0 ≤ kc + 100; omega), (by show kn + 1000 + 0 ≤ kn + 1000; omega)⟩ dL_law_1674 (fun E hE => hE.elim) (fun r G4 hp _ => ?_)
  obtain ⟨rfl, rfl⟩ := hp
  refine jj_eqi th ?_
  refine jj_iload5 F dL_law_1677 ?_
  refine jj_icmpx_eq F (tgt := 1684) dL_law_1679 rfl (fun _ => ?_) (fun hne => absurd rfl hne)
  refine jj_iload5 F dL_law_1684 ?_
  refine jj_if_ne F (tgt := 1701) dL_law_1686 rfl hrt (fun _ => ?_) (fun h0 => ?_)
  · skip
    refine jj_goto F (tgt := 2412) dL_law_1701 rfl ?_
    exact fin _ _
  · skip
    refine jj_aload3 F dL_law_1689 ?_
    refine jj_iconst F dL_law_1690 ?_
    refine jj_lald F (n := 1) (g := g1) hoo (by decide) (by decide) dL_law_1691 ?_
    refine jj_iload6 F dL_law_1692 ?_
    refine jj_jw ?_
    refine jj_i2l F (jI_rng _) dL_law_1694 ?_
    refine jj_lcmp F dL_law_1695 ?_
    refine jj_ifx_eq F (tgt := 1701) dL_law_1696 rfl (fun _ => ?_) (fun hne => absurd ((lg_cmp_eq _ _).mpr (congrArg jL (hg1 h0))) hne)
    refine jj_goto F (tgt := 2412) dL_law_1701 rfl ?_
    exact fin _ _
set_option maxRecDepth 100000 in
set_option maxHeartbeats 1000000 in
theorem ls_noise {X : jj_X} (F : jj_F X RL cL_law room_1) (hN : ∀ k, k < 7 → k < jj_nL X) {b L : Nat} {xs : Nat → Int32} (hX : jj_scr X b L xs) (hL : L ≤ 3072) {i c : Int} (hi : 0 ≤ i ∧ i + 6 ≤ L) (hc : c < 512) {xo mo oo : Nat} {G : jj_G} (I : lInv (jj_ac X) xo mo oo c G) {kc kn : Nat} (hk : kc + 100 ≤ 601024 ∧ kn + 1000 ≤ 7293034) {x5 x6 : Option Value} (kk : ∀ (G1 : jj_G) (x5 x6 : Option Value), lInv (jj_ac X) xo mo oo (c + 1) G1 → jj_J X G1 (kc + 100) (kn + 1000) 2412 [some (.ref b), some (.ref xo), some (.ref mo), some (.ref oo), some (.int (jI i)), x5, x6] []) : jj_J X G kc kn 1704 [some (.ref b), some (.ref xo), some (.ref mo), some (.ref oo), some (.int (jI i)), x5, x6] [] := by
  obtain ⟨s, e, G1, G2, ad, a, g, h, hR, rfl, hM, hd, h1, h2, rfl⟩ := I
  have hj := hM.rng
  have ho : jj_j G2 (jone oo (jj_al (jj_ac X 1) 1 g)) oo = some (jj_al (jj_ac X 1) 1 g) := (jj_jr h2).trans jone_s
  refine jj_aload1 F dL_law_1704 ?_
  refine jj_aload0 F dL_law_1705 ?_
  refine jj_iload4 F dL_law_1706 ?_
  refine jj_iconst F dL_law_1708 ?_
  refine jj_iadd F dL_law_1709 ?_
  refine jj_sld F hX (by omega) (by omega) dL_law_1710 ?_
  refine jj_aload0 F dL_law_1711 ?_
  refine jj_iload4 F dL_law_1712 ?_
  refine jj_iconst F dL_law_1714 ?_
  refine jj_iadd F dL_law_1715 ?_
  refine jj_sld F hX (by omega) (by omega) dL_law_1716 ?_
  refine jj_aload3 F dL_law_1717 ?_
  refine jj_callFSi F (k := kc + 100) (n := kn + 1000) (w_noise F.tr hR (hd.j (jDj.one h1)) ho h (jSc_r _ _) (jSc_r _ _) hj) lkw_noise rfl ⟨Nat.le_of_ble_eq_true rfl, Nat.le_of_ble_eq_true rfl, (by show kc + 3 ≤ 601024; omega), (by show kn + 18 ≤ 7293034; omega), Nat.le_of_ble_eq_true rfl⟩ ⟨(by show kc + 3 ≤ kc + 100; omega), (by show kn + 18 ≤ kn + 1000; omega)⟩ dL_law_1718 (fun r Gw hw => ?_)
  obtain ⟨rfl, Gn, ad1, g1, hd1, rfl, ha1, hR1, hg1⟩ := hw
  have h11 : Gn oo = none := hd1.symm oo (jj_sn ho)
  have hd2 : jDj Gn G2 := hd1.jl
  rw [jj_ur h2, jone_u, jj_j_rot hd2]
  have hdg : jDj G2 (jj_j Gn (jone oo (jj_al (jj_ac X 1) 1 g1))) := hd2.symm.j (jDj.one h2)
  refine jj_istore5 F dL_law_1721 (hN _ (by decide)) rfl ?_
  refine jj_aload2 F dL_law_1723 ?_
  refine jj_aload0 F dL_law_1724 ?_
  refine jj_iload4 F dL_law_1725 ?_
  refine jj_iconst F dL_law_1727 ?_
  refine jj_iadd F dL_law_1728 ?_
  refine jj_sld F hX (by omega) (by omega) dL_law_1729 ?_
  refine jj_aload0 F dL_law_1730 ?_
  refine jj_iload4 F dL_law_1731 ?_
  refine jj_iconst F dL_law_1733 ?_
  refine jj_iadd F dL_law_1734 ?_
  refine jj_sld F hX (by omega) (by omega) dL_law_1735 ?_
  refine jj_callFVi F hdg (k := kc + 100) (n := kn + 1000) (k9_noise F.tr hM h.s (jSc_r _ _) (jSc_r _ _)) lk_L_206 hM.1 cs_9 rfl rfl ⟨Nat.le_of_ble_eq_true rfl, Nat.le_of_ble_eq_true rfl, (by show kc + 100 + 0 ≤ 601024; omega), (by show kn + 1000 + 0 ≤ 7293034; omega), Nat.le_of_ble_eq_true rfl⟩ ⟨(by show kc + 100 + 0 ≤ kc + 100; omega), (by show kn + 1000 + 0 ≤ kn + 1000; omega)⟩ dL_law_1736 (fun E hE => hE.elim) (fun r G3 hp hdn => ?_)
  obtain ⟨rfl, hM1⟩ := hp
  have th := th_noise (s := s) (d := jSc xs (i + 1)) (p := jSc xs (i + 2))
  have hrt := hM1.rng 37 0
  rw [th] at hrt
  have fin := fun (x5 x6 : Option Value) => kk _ x5 x6 (lInv.of (h_noise h hc) hR1 ha1 hM1 hdn h11)
  have hoo : jj_j G3 (jj_j Gn (jone oo (jj_al (jj_ac X 1) 1 g1))) oo = some (jj_al (jj_ac X 1) 1 g1) := (jj_jr (hdn.symm oo (jj_sn ((jj_jr h11).trans jone_s)))).trans ((jj_jr h11).trans jone_s)
  refine jj_istore6 F dL_law_1739 (hN _ (by decide)) rfl ?_
  refine jj_aload2 F dL_law_1741 ?_
  refine jj_callFVi F hdn (k := kc + 100) (n := kn + 1000) (k9_thrown F.tr hM1) lk_L_132 hM1.1 cs_9 rfl rfl ⟨Nat.le_of_ble_eq_true rfl, Nat.le_of_ble_eq_true rfl, (by show kc + 100 + 0 ≤ 601024; omega), (by show kn + 1000 + 0 ≤ 7293034; omega), Nat.le_of_ble_eq_true rfl⟩ ⟨(by show kc + 100 + 0 ≤ kc + 100; omega), (by show kn + 1000 + 0 ≤ kn + 1000; omega)⟩ dL_law_1742 (fun E hE => hE.elim) (fun r G4 hp _ => ?_)
  obtain ⟨rfl, rfl⟩ := hp
  refine jj_eqi th ?_
  refine jj_iload5 F dL_law_1745 ?_
  refine jj_icmpx_eq F (tgt := 1752) dL_law_1747 rfl (fun _ => ?_) (fun hne => absurd rfl hne)
  refine jj_iload5 F dL_law_1752 ?_
  refine jj_if_ne F (tgt := 1769) dL_law_1754 rfl hrt (fun _ => ?_) (fun h0 => ?_)
  · skip
    refine jj_goto F (tgt := 2412) dL_law_1769 rfl ?_
    exact fin _ _
  · skip
    refine jj_aload3 F dL_law_1757 ?_
    refine jj_iconst F dL_law_1758 ?_
    refine jj_lald F (n := 1) (g := g1) hoo (by decide) (by decide) dL_law_1759 ?_
    refine jj_iload6 F dL_law_1760 ?_
    refine jj_jw ?_
    refine jj_i2l F (jI_rng _) dL_law_1762 ?_
    refine jj_lcmp F dL_law_1763 ?_
    refine jj_ifx_eq F (tgt := 1769) dL_law_1764 rfl (fun _ => ?_) (fun hne => absurd ((lg_cmp_eq _ _).mpr (congrArg jL (hg1 h0))) hne)
    refine jj_goto F (tgt := 2412) dL_law_1769 rfl ?_
    exact fin _ _
set_option maxRecDepth 100000 in
set_option maxHeartbeats 1000000 in
theorem ls_grade {X : jj_X} (F : jj_F X RL cL_law room_1) (hN : ∀ k, k < 7 → k < jj_nL X) {b L : Nat} {xs : Nat → Int32} (hX : jj_scr X b L xs) (hL : L ≤ 3072) {i c : Int} (hi : 0 ≤ i ∧ i + 6 ≤ L) (hc : c < 512) {xo mo oo : Nat} {G : jj_G} (I : lInv (jj_ac X) xo mo oo c G) {kc kn : Nat} (hk : kc + 100 ≤ 601024 ∧ kn + 1000 ≤ 7293034) {x5 x6 : Option Value} (kk : ∀ (G1 : jj_G) (x5 x6 : Option Value), lInv (jj_ac X) xo mo oo (c + 1) G1 → jj_J X G1 (kc + 100) (kn + 1000) 2412 [some (.ref b), some (.ref xo), some (.ref mo), some (.ref oo), some (.int (jI i)), x5, x6] []) : jj_J X G kc kn 1772 [some (.ref b), some (.ref xo), some (.ref mo), some (.ref oo), some (.int (jI i)), x5, x6] [] := by
  obtain ⟨s, e, G1, G2, ad, a, g, h, hR, rfl, hM, hd, h1, h2, rfl⟩ := I
  have hj := hM.rng
  have ho : jj_j G2 (jone oo (jj_al (jj_ac X 1) 1 g)) oo = some (jj_al (jj_ac X 1) 1 g) := (jj_jr h2).trans jone_s
  refine jj_aload1 F dL_law_1772 ?_
  refine jj_aload0 F dL_law_1773 ?_
  refine jj_iload4 F dL_law_1774 ?_
  refine jj_iconst F dL_law_1776 ?_
  refine jj_iadd F dL_law_1777 ?_
  refine jj_sld F hX (by omega) (by omega) dL_law_1778 ?_
  refine jj_aload3 F dL_law_1779 ?_
  refine jj_callFSi F (k := kc + 100) (n := kn + 1000) (w_grade F.tr hR (hd.j (jDj.one h1)) ho h (jSc_r _ _) hj) lkw_grade rfl ⟨Nat.le_of_ble_eq_true rfl, Nat.le_of_ble_eq_true rfl, (by show kc + 2 ≤ 601024; omega), (by show kn + 12 ≤ 7293034; omega), Nat.le_of_ble_eq_true rfl⟩ ⟨(by show kc + 2 ≤ kc + 100; omega), (by show kn + 12 ≤ kn + 1000; omega)⟩ dL_law_1780 (fun r Gw hw => ?_)
  obtain ⟨rfl, Gn, ad1, g1, hd1, rfl, ha1, hR1, hg1⟩ := hw
  have h11 : Gn oo = none := hd1.symm oo (jj_sn ho)
  have hd2 : jDj Gn G2 := hd1.jl
  rw [jj_ur h2, jone_u, jj_j_rot hd2]
  have hdg : jDj G2 (jj_j Gn (jone oo (jj_al (jj_ac X 1) 1 g1))) := hd2.symm.j (jDj.one h2)
  refine jj_istore5 F dL_law_1783 (hN _ (by decide)) rfl ?_
  refine jj_aload2 F dL_law_1785 ?_
  refine jj_aload0 F dL_law_1786 ?_
  refine jj_iload4 F dL_law_1787 ?_
  refine jj_iconst F dL_law_1789 ?_
  refine jj_iadd F dL_law_1790 ?_
  refine jj_sld F hX (by omega) (by omega) dL_law_1791 ?_
  refine jj_callFVi F hdg (k := kc + 100) (n := kn + 1000) (k9_grade F.tr hM h.s (jSc_r _ _)) lk_L_209 hM.1 cs_9 rfl rfl ⟨Nat.le_of_ble_eq_true rfl, Nat.le_of_ble_eq_true rfl, (by show kc + 100 + 0 ≤ 601024; omega), (by show kn + 1000 + 0 ≤ 7293034; omega), Nat.le_of_ble_eq_true rfl⟩ ⟨(by show kc + 100 + 0 ≤ kc + 100; omega), (by show kn + 1000 + 0 ≤ kn + 1000; omega)⟩ dL_law_1792 (fun E hE => hE.elim) (fun r G3 hp hdn => ?_)
  obtain ⟨rfl, hM1⟩ := hp
  have th := th_grade (s := s) (d := jSc xs (i + 1))
  have hrt := hM1.rng 37 0
  rw [th] at hrt
  have fin := fun (x5 x6 : Option Value) => kk _ x5 x6 (lInv.of (h_grade h hc) hR1 ha1 hM1 hdn h11)
  have hoo : jj_j G3 (jj_j Gn (jone oo (jj_al (jj_ac X 1) 1 g1))) oo = some (jj_al (jj_ac X 1) 1 g1) := (jj_jr (hdn.symm oo (jj_sn ((jj_jr h11).trans jone_s)))).trans ((jj_jr h11).trans jone_s)
  refine jj_istore6 F dL_law_1795 (hN _ (by decide)) rfl ?_
  refine jj_aload2 F dL_law_1797 ?_
  refine jj_callFVi F hdn (k := kc + 100) (n := kn + 1000) (k9_thrown F.tr hM1) lk_L_132 hM1.1 cs_9 rfl rfl ⟨Nat.le_of_ble_eq_true rfl, Nat.le_of_ble_eq_true rfl, (by show kc + 100 + 0 ≤ 601024; omega), (by show kn + 1000 + 0 ≤ 7293034; omega), Nat.le_of_ble_eq_true rfl⟩ ⟨(by show kc + 100 + 0 ≤ kc + 100; omega), (by show kn + 1000 + 0 ≤ kn + 1000; omega)⟩ dL_law_1798 (fun E hE => hE.elim) (fun r G4 hp _ => ?_)
  obtain ⟨rfl, rfl⟩ := hp
  refine jj_eqi th ?_
  refine jj_iload5 F dL_law_1801 ?_
  refine jj_icmpx_eq F (tgt := 1808) dL_law_1803 rfl (fun _ => ?_) (fun hne => absurd rfl hne)
  refine jj_iload5 F dL_law_1808 ?_
  refine jj_if_ne F (tgt := 1825) dL_law_1810 rfl hrt (fun _ => ?_) (fun h0 => ?_)
  · skip
    refine jj_goto F (tgt := 2412) dL_law_1825 rfl ?_
    exact fin _ _
  · skip
    refine jj_aload3 F dL_law_1813 ?_
    refine jj_iconst F dL_law_1814 ?_
    refine jj_lald F (n := 1) (g := g1) hoo (by decide) (by decide) dL_law_1815 ?_
    refine jj_iload6 F dL_law_1816 ?_
    refine jj_jw ?_
    refine jj_i2l F (jI_rng _) dL_law_1818 ?_
    refine jj_lcmp F dL_law_1819 ?_
    refine jj_ifx_eq F (tgt := 1825) dL_law_1820 rfl (fun _ => ?_) (fun hne => absurd ((lg_cmp_eq _ _).mpr (congrArg jL (hg1 h0))) hne)
    refine jj_goto F (tgt := 2412) dL_law_1825 rfl ?_
    exact fin _ _
set_option maxRecDepth 100000 in
set_option maxHeartbeats 1000000 in
theorem ls_join {X : jj_X} (F : jj_F X RL cL_law room_1) (hN : ∀ k, k < 7 → k < jj_nL X) {b L : Nat} {xs : Nat → Int32} (hX : jj_scr X b L xs) (hL : L ≤ 3072) {i c : Int} (hi : 0 ≤ i ∧ i + 6 ≤ L) (hc : c < 512) {xo mo oo : Nat} {G : jj_G} (I : lInv (jj_ac X) xo mo oo c G) {kc kn : Nat} (hk : kc + 100 ≤ 601024 ∧ kn + 1000 ≤ 7293034) {x5 x6 : Option Value} (kk : ∀ (G1 : jj_G) (x5 x6 : Option Value), lInv (jj_ac X) xo mo oo (c + 1) G1 → jj_J X G1 (kc + 100) (kn + 1000) 2412 [some (.ref b), some (.ref xo), some (.ref mo), some (.ref oo), some (.int (jI i)), x5, x6] []) : jj_J X G kc kn 1828 [some (.ref b), some (.ref xo), some (.ref mo), some (.ref oo), some (.int (jI i)), x5, x6] [] := by
  obtain ⟨s, e, G1, G2, ad, a, g, h, hR, rfl, hM, hd, h1, h2, rfl⟩ := I
  have hj := hM.rng
  have ho : jj_j G2 (jone oo (jj_al (jj_ac X 1) 1 g)) oo = some (jj_al (jj_ac X 1) 1 g) := (jj_jr h2).trans jone_s
  refine jj_aload1 F dL_law_1828 ?_
  refine jj_aload0 F dL_law_1829 ?_
  refine jj_iload4 F dL_law_1830 ?_
  refine jj_iconst F dL_law_1832 ?_
  refine jj_iadd F dL_law_1833 ?_
  refine jj_sld F hX (by omega) (by omega) dL_law_1834 ?_
  refine jj_aload0 F dL_law_1835 ?_
  refine jj_iload4 F dL_law_1836 ?_
  refine jj_iconst F dL_law_1838 ?_
  refine jj_iadd F dL_law_1839 ?_
  refine jj_sld F hX (by omega) (by omega) dL_law_1840 ?_
  refine jj_aload3 F dL_law_1841 ?_
  refine jj_callFSi F (k := kc + 100) (n := kn + 1000) (w_join F.tr hR (hd.j (jDj.one h1)) ho h (jSc_r _ _) (jSc_r _ _) hj) lkw_join rfl ⟨Nat.le_of_ble_eq_true rfl, Nat.le_of_ble_eq_true rfl, (by show kc + 3 ≤ 601024; omega), (by show kn + 18 ≤ 7293034; omega), Nat.le_of_ble_eq_true rfl⟩ ⟨(by show kc + 3 ≤ kc + 100; omega), (by show kn + 18 ≤ kn + 1000; omega)⟩ dL_law_1842 (fun r Gw hw => ?_)
  obtain ⟨rfl, Gn, ad1, g1, hd1, rfl, ha1, hR1, hg1⟩ := hw
  have h11 : Gn oo = none := hd1.symm oo (jj_sn ho)
  have hd2 : jDj Gn G2 := hd1.jl
  rw [jj_ur h2, jone_u, jj_j_rot hd2]
  have hdg : jDj G2 (jj_j Gn (jone oo (jj_al (jj_ac X 1) 1 g1))) := hd2.symm.j (jDj.one h2)
  refine jj_istore5 F dL_law_1845 (hN _ (by decide)) rfl ?_
  refine jj_aload2 F dL_law_1847 ?_
  refine jj_aload0 F dL_law_1848 ?_
  refine jj_iload4 F dL_law_1849 ?_
  refine jj_iconst F dL_law_1851 ?_
  refine jj_iadd F dL_law_1852 ?_
  refine jj_sld F hX (by omega) (by omega) dL_law_1853 ?_
  refine jj_aload0 F dL_law_1854 ?_
  refine jj_iload4 F dL_law_1855 ?_
  refine jj_iconst F dL_law_1857 ?_
  refine jj_iadd F dL_law_1858 ?_
  refine jj_sld F hX (by omega) (by omega) dL_law_1859 ?_
  refine jj_callFVi F hdg (k := kc + 100) (n := kn + 1000) (k9_join F.tr hM h.s (jSc_r _ _) (jSc_r _ _)) lk_L_212 hM.1 cs_9 rfl rfl ⟨Nat.le_of_ble_eq_true rfl, Nat.le_of_ble_eq_true rfl, (by show kc + 100 + 0 ≤ 601024; omega), (by show kn + 1000 + 0 ≤ 7293034; omega), Nat.le_of_ble_eq_true rfl⟩ ⟨(by show kc + 100 + 0 ≤ kc + 100; omega), (by show kn + 1000 + 0 ≤ kn + 1000; omega)⟩ dL_law_1860 (fun E hE => hE.elim) (fun r G3 hp hdn => ?_)
  obtain ⟨rfl, hM1⟩ := hp
  have th := th_join (s := s) (q := jSc xs (i + 1)) (p := jSc xs (i + 2))
  have hrt := hM1.rng 37 0
  rw [th] at hrt
  have fin := fun (x5 x6 : Option Value) => kk _ x5 x6 (lInv.of (h_join h hc) hR1 ha1 hM1 hdn h11)
  have hoo : jj_j G3 (jj_j Gn (jone oo (jj_al (jj_ac X 1) 1 g1))) oo = some (jj_al (jj_ac X 1) 1 g1) := (jj_jr (hdn.symm oo (jj_sn ((jj_jr h11).trans jone_s)))).trans ((jj_jr h11).trans jone_s)
  refine jj_istore6 F dL_law_1863 (hN _ (by decide)) rfl ?_
  refine jj_aload2 F dL_law_1865 ?_
  refine jj_callFVi F hdn (k := kc + 100) (n := kn + 1000) (k9_thrown F.tr hM1) lk_L_132 hM1.1 cs_9 rfl rfl ⟨Nat.le_of_ble_eq_true rfl, Nat.le_of_ble_eq_true rfl, (by show kc + 100 + 0 ≤ 601024; omega), (by show kn + 1000 + 0 ≤ 7293034; omega), Nat.le_of_ble_eq_true rfl⟩ ⟨(by show kc + 100 + 0 ≤ kc + 100; omega), (by show kn + 1000 + 0 ≤ kn + 1000; omega)⟩ dL_law_1866 (fun E hE => hE.elim) (fun r G4 hp _ => ?_)
  obtain ⟨rfl, rfl⟩ := hp
  refine jj_eqi th ?_
  refine jj_iload5 F dL_law_1869 ?_
  refine jj_icmpx_eq F (tgt := 1876) dL_law_1871 rfl (fun _ => ?_) (fun hne => absurd rfl hne)
  refine jj_iload5 F dL_law_1876 ?_
  refine jj_if_ne F (tgt := 1893) dL_law_1878 rfl hrt (fun _ => ?_) (fun h0 => ?_)
  · skip
    refine jj_goto F (tgt := 2412) dL_law_1893 rfl ?_
    exact fin _ _
  · skip
    refine jj_aload3 F dL_law_1881 ?_
    refine jj_iconst F dL_law_1882 ?_
    refine jj_lald F (n := 1) (g := g1) hoo (by decide) (by decide) dL_law_1883 ?_
    refine jj_iload6 F dL_law_1884 ?_
    refine jj_jw ?_
    refine jj_i2l F (jI_rng _) dL_law_1886 ?_
    refine jj_lcmp F dL_law_1887 ?_
    refine jj_ifx_eq F (tgt := 1893) dL_law_1888 rfl (fun _ => ?_) (fun hne => absurd ((lg_cmp_eq _ _).mpr (congrArg jL (hg1 h0))) hne)
    refine jj_goto F (tgt := 2412) dL_law_1893 rfl ?_
    exact fin _ _
set_option maxRecDepth 100000 in
set_option maxHeartbeats 1000000 in
theorem ls_file {X : jj_X} (F : jj_F X RL cL_law room_1) (hN : ∀ k, k < 7 → k < jj_nL X) {b L : Nat} {xs : Nat → Int32} (hX : jj_scr X b L xs) (hL : L ≤ 3072) {i c : Int} (hi : 0 ≤ i ∧ i + 6 ≤ L) (hc : c < 512) {xo mo oo : Nat} {G : jj_G} (I : lInv (jj_ac X) xo mo oo c G) {kc kn : Nat} (hk : kc + 100 ≤ 601024 ∧ kn + 1000 ≤ 7293034) {x5 x6 : Option Value} (kk : ∀ (G1 : jj_G) (x5 x6 : Option Value), lInv (jj_ac X) xo mo oo (c + 1) G1 → jj_J X G1 (kc + 100) (kn + 1000) 2412 [some (.ref b), some (.ref xo), some (.ref mo), some (.ref oo), some (.int (jI i)), x5, x6] []) : jj_J X G kc kn 1896 [some (.ref b), some (.ref xo), some (.ref mo), some (.ref oo), some (.int (jI i)), x5, x6] [] := by
  obtain ⟨s, e, G1, G2, ad, a, g, h, hR, rfl, hM, hd, h1, h2, rfl⟩ := I
  have hj := hM.rng
  have ho : jj_j G2 (jone oo (jj_al (jj_ac X 1) 1 g)) oo = some (jj_al (jj_ac X 1) 1 g) := (jj_jr h2).trans jone_s
  refine jj_aload1 F dL_law_1896 ?_
  refine jj_aload0 F dL_law_1897 ?_
  refine jj_iload4 F dL_law_1898 ?_
  refine jj_iconst F dL_law_1900 ?_
  refine jj_iadd F dL_law_1901 ?_
  refine jj_sld F hX (by omega) (by omega) dL_law_1902 ?_
  refine jj_aload3 F dL_law_1903 ?_
  refine jj_callFSi F (k := kc + 100) (n := kn + 1000) (w_file F.tr hR (hd.j (jDj.one h1)) ho h (jSc_r _ _) hj) lkw_file rfl ⟨Nat.le_of_ble_eq_true rfl, Nat.le_of_ble_eq_true rfl, (by show kc + 2 ≤ 601024; omega), (by show kn + 12 ≤ 7293034; omega), Nat.le_of_ble_eq_true rfl⟩ ⟨(by show kc + 2 ≤ kc + 100; omega), (by show kn + 12 ≤ kn + 1000; omega)⟩ dL_law_1904 (fun r Gw hw => ?_)
  obtain ⟨rfl, Gn, ad1, g1, hd1, rfl, ha1, hR1, hg1⟩ := hw
  have h11 : Gn oo = none := hd1.symm oo (jj_sn ho)
  have hd2 : jDj Gn G2 := hd1.jl
  rw [jj_ur h2, jone_u, jj_j_rot hd2]
  have hdg : jDj G2 (jj_j Gn (jone oo (jj_al (jj_ac X 1) 1 g1))) := hd2.symm.j (jDj.one h2)
  refine jj_istore5 F dL_law_1907 (hN _ (by decide)) rfl ?_
  refine jj_aload2 F dL_law_1909 ?_
  refine jj_aload0 F dL_law_1910 ?_
  refine jj_iload4 F dL_law_1911 ?_
  refine jj_iconst F dL_law_1913 ?_
  refine jj_iadd F dL_law_1914 ?_
  refine jj_sld F hX (by omega) (by omega) dL_law_1915 ?_
  refine jj_callFVi F hdg (k := kc + 100) (n := kn + 1000) (k9_file F.tr hM h.s (jSc_r _ _)) lk_L_215 hM.1 cs_9 rfl rfl ⟨Nat.le_of_ble_eq_true rfl, Nat.le_of_ble_eq_true rfl, (by show kc + 100 + 0 ≤ 601024; omega), (by show kn + 1000 + 0 ≤ 7293034; omega), Nat.le_of_ble_eq_true rfl⟩ ⟨(by show kc + 100 + 0 ≤ kc + 100; omega), (by show kn + 1000 + 0 ≤ kn + 1000; omega)⟩ dL_law_1916 (fun E hE => hE.elim) (fun r G3 hp hdn => ?_)
  obtain ⟨rfl, hM1⟩ := hp
  have th := th_file (s := s) (q := jSc xs (i + 1))
  have hrt := hM1.rng 37 0
  rw [th] at hrt
  have fin := fun (x5 x6 : Option Value) => kk _ x5 x6 (lInv.of (h_file (jSc_r _ _) h hc) hR1 ha1 hM1 hdn h11)
  have hoo : jj_j G3 (jj_j Gn (jone oo (jj_al (jj_ac X 1) 1 g1))) oo = some (jj_al (jj_ac X 1) 1 g1) := (jj_jr (hdn.symm oo (jj_sn ((jj_jr h11).trans jone_s)))).trans ((jj_jr h11).trans jone_s)
  refine jj_istore6 F dL_law_1919 (hN _ (by decide)) rfl ?_
  refine jj_aload2 F dL_law_1921 ?_
  refine jj_callFVi F hdn (k := kc + 100) (n := kn + 1000) (k9_thrown F.tr hM1) lk_L_132 hM1.1 cs_9 rfl rfl ⟨Nat.le_of_ble_eq_true rfl, Nat.le_of_ble_eq_true rfl, (by show kc + 100 + 0 ≤ 601024; omega), (by show kn + 1000 + 0 ≤ 7293034; omega), Nat.le_of_ble_eq_true rfl⟩ ⟨(by show kc + 100 + 0 ≤ kc + 100; omega), (by show kn + 1000 + 0 ≤ kn + 1000; omega)⟩ dL_law_1922 (fun E hE => hE.elim) (fun r G4 hp _ => ?_)
  obtain ⟨rfl, rfl⟩ := hp
  refine jj_eqi th ?_
  refine jj_iload5 F dL_law_1925 ?_
  refine jj_icmpx_eq F (tgt := 1932) dL_law_1927 rfl (fun _ => ?_) (fun hne => absurd rfl hne)
  refine jj_iload5 F dL_law_1932 ?_
  refine jj_if_ne F (tgt := 1949) dL_law_1934 rfl hrt (fun _ => ?_) (fun h0 => ?_)
  · skip
    refine jj_goto F (tgt := 2412) dL_law_1949 rfl ?_
    exact fin _ _
  · skip
    refine jj_aload3 F dL_law_1937 ?_
    refine jj_iconst F dL_law_1938 ?_
    refine jj_lald F (n := 1) (g := g1) hoo (by decide) (by decide) dL_law_1939 ?_
    refine jj_iload6 F dL_law_1940 ?_
    refine jj_jw ?_
    refine jj_i2l F (jI_rng _) dL_law_1942 ?_
    refine jj_lcmp F dL_law_1943 ?_
    refine jj_ifx_eq F (tgt := 1949) dL_law_1944 rfl (fun _ => ?_) (fun hne => absurd ((lg_cmp_eq _ _).mpr (congrArg jL (hg1 h0))) hne)
    refine jj_goto F (tgt := 2412) dL_law_1949 rfl ?_
    exact fin _ _
set_option maxRecDepth 100000 in
set_option maxHeartbeats 1000000 in
theorem ls_repair {X : jj_X} (F : jj_F X RL cL_law room_1) (hN : ∀ k, k < 7 → k < jj_nL X) {b L : Nat} {xs : Nat → Int32} (hX : jj_scr X b L xs) (hL : L ≤ 3072) {i c : Int} (hi : 0 ≤ i ∧ i + 6 ≤ L) (hc : c < 512) {xo mo oo : Nat} {G : jj_G} (I : lInv (jj_ac X) xo mo oo c G) {kc kn : Nat} (hk : kc + 100 ≤ 601024 ∧ kn + 1000 ≤ 7293034) {x5 x6 : Option Value} (kk : ∀ (G1 : jj_G) (x5 x6 : Option Value), lInv (jj_ac X) xo mo oo (c + 1) G1 → jj_J X G1 (kc + 100) (kn + 1000) 2412 [some (.ref b), some (.ref xo), some (.ref mo), some (.ref oo), some (.int (jI i)), x5, x6] []) : jj_J X G kc kn 1952 [some (.ref b), some (.ref xo), some (.ref mo), some (.ref oo), some (.int (jI i)), x5, x6] [] := by
  obtain ⟨s, e, G1, G2, ad, a, g, h, hR, rfl, hM, hd, h1, h2, rfl⟩ := I
  have hj := hM.rng
  have ho : jj_j G2 (jone oo (jj_al (jj_ac X 1) 1 g)) oo = some (jj_al (jj_ac X 1) 1 g) := (jj_jr h2).trans jone_s
  refine jj_aload1 F dL_law_1952 ?_
  refine jj_aload0 F dL_law_1953 ?_
  refine jj_iload4 F dL_law_1954 ?_
  refine jj_iconst F dL_law_1956 ?_
  refine jj_iadd F dL_law_1957 ?_
  refine jj_sld F hX (by omega) (by omega) dL_law_1958 ?_
  refine jj_aload3 F dL_law_1959 ?_
  refine jj_callFSi F (k := kc + 100) (n := kn + 1000) (w_repair F.tr hR (hd.j (jDj.one h1)) ho h (jSc_r _ _) hj) lkw_repair rfl ⟨Nat.le_of_ble_eq_true rfl, Nat.le_of_ble_eq_true rfl, (by show kc + 2 ≤ 601024; omega), (by show kn + 12 ≤ 7293034; omega), Nat.le_of_ble_eq_true rfl⟩ ⟨(by show kc + 2 ≤ kc + 100; omega), (by show kn + 12 ≤ kn + 1000; omega)⟩ dL_law_1960 (fun r Gw hw => ?_)
  obtain ⟨rfl, Gn, ad1, g1, hd1, rfl, ha1, hR1, hg1⟩ := hw
  have h11 : Gn oo = none := hd1.symm oo (jj_sn ho)
  have hd2 : jDj Gn G2 := hd1.jl
  rw [jj_ur h2, jone_u, jj_j_rot hd2]
  have hdg : jDj G2 (jj_j Gn (jone oo (jj_al (jj_ac X 1) 1 g1))) := hd2.symm.j (jDj.one h2)
  refine jj_istore5 F dL_law_1963 (hN _ (by decide)) rfl ?_
  refine jj_aload2 F dL_law_1965 ?_
  refine jj_aload0 F dL_law_1966 ?_
  refine jj_iload4 F dL_law_1967 ?_
  refine jj_iconst F dL_law_1969 ?_
  refine jj_iadd F dL_law_1970 ?_
  refine jj_sld F hX (by omega) (by omega) dL_law_1971 ?_
  refine jj_callFVi F hdg (k := kc + 100) (n := kn + 1000) (k9_repair F.tr hM h.s (jSc_r _ _)) lk_L_218 hM.1 cs_9 rfl rfl ⟨Nat.le_of_ble_eq_true rfl, Nat.le_of_ble_eq_true rfl, (by show kc + 100 + 0 ≤ 601024; omega), (by show kn + 1000 + 0 ≤ 7293034; omega), Nat.le_of_ble_eq_true rfl⟩ ⟨(by show kc + 100 + 0 ≤ kc + 100; omega), (by show kn + 1000 + 0 ≤ kn + 1000; omega)⟩ dL_law_1972 (fun E hE => hE.elim) (fun r G3 hp hdn => ?_)
  obtain ⟨rfl, hM1⟩ := hp
  have th := th_repair (s := s) (p := jSc xs (i + 1))
  have hrt := hM1.rng 37 0
  rw [th] at hrt
  have fin := fun (x5 x6 : Option Value) => kk _ x5 x6 (lInv.of (h_repair h hc) hR1 ha1 hM1 hdn h11)
  have hoo : jj_j G3 (jj_j Gn (jone oo (jj_al (jj_ac X 1) 1 g1))) oo = some (jj_al (jj_ac X 1) 1 g1) := (jj_jr (hdn.symm oo (jj_sn ((jj_jr h11).trans jone_s)))).trans ((jj_jr h11).trans jone_s)
  refine jj_istore6 F dL_law_1975 (hN _ (by decide)) rfl ?_
  refine jj_aload2 F dL_law_1977 ?_
  refine jj_callFVi F hdn (k := kc + 100) (n := kn + 1000) (k9_thrown F.tr hM1) lk_L_132 hM1.1 cs_9 rfl rfl ⟨Nat.le_of_ble_eq_true rfl, Nat.le_of_ble_eq_true rfl, (by show kc + 100 + 0 ≤ 601024; omega), (by show kn + 1000 + 0 ≤ 7293034; omega), Nat.le_of_ble_eq_true rfl⟩ ⟨(by show kc + 100 + 0 ≤ kc + 100; omega), (by show kn + 1000 + 0 ≤ kn + 1000; omega)⟩ dL_law_1978 (fun E hE => hE.elim) (fun r G4 hp _ => ?_)
  obtain ⟨rfl, rfl⟩ := hp
  refine jj_eqi th ?_
  refine jj_iload5 F dL_law_1981 ?_
  refine jj_icmpx_eq F (tgt := 1988) dL_law_1983 rfl (fun _ => ?_) (fun hne => absurd rfl hne)
  refine jj_iload5 F dL_law_1988 ?_
  refine jj_if_ne F (tgt := 2005) dL_law_1990 rfl hrt (fun _ => ?_) (fun h0 => ?_)
  · skip
    refine jj_goto F (tgt := 2412) dL_law_2005 rfl ?_
    exact fin _ _
  · skip
    refine jj_aload3 F dL_law_1993 ?_
    refine jj_iconst F dL_law_1994 ?_
    refine jj_lald F (n := 1) (g := g1) hoo (by decide) (by decide) dL_law_1995 ?_
    refine jj_iload6 F dL_law_1996 ?_
    refine jj_jw ?_
    refine jj_i2l F (jI_rng _) dL_law_1998 ?_
    refine jj_lcmp F dL_law_1999 ?_
    refine jj_ifx_eq F (tgt := 2005) dL_law_2000 rfl (fun _ => ?_) (fun hne => absurd ((lg_cmp_eq _ _).mpr (congrArg jL (hg1 h0))) hne)
    refine jj_goto F (tgt := 2412) dL_law_2005 rfl ?_
    exact fin _ _
