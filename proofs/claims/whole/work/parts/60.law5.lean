/-! ===== the law's loop: a call for six ints ===== -/
set_option maxRecDepth 100000 in
set_option maxHeartbeats 4000000 in
theorem law_loop {X : jj_X} (F : jj_F X RL cL_law room_1) (hN : ∀ k, k < 7 → k < jj_nL X) {b L : Nat} {xs : Nat → Int32} (hX : jj_scr X b L xs) (hL : L ≤ 3072) {xo mo oo : Nat} (kend : ∀ (G : jj_G) (kc kn : Nat) (lv : List (Option Value)), kc ≤ 601024 → kn ≤ 7293034 → jj_J X G kc kn 2418 lv []) : ∀ (n : Nat) (i c : Int) (G : jj_G) (kc kn : Nat) (x5 x6 : Option Value), 513 - c ≤ n → 0 ≤ c → c ≤ 512 → i = 6 * c → lInv (jj_ac X) xo mo oo c G → (kc : Int) ≤ 1000 + 100 * c → (kn : Int) ≤ 10000 + 1000 * c → jj_J X G kc kn 23 [some (.ref b), some (.ref xo), some (.ref mo), some (.ref oo), some (.int (jI i)), x5, x6] [] := by
  intro n
  induction n with
  | zero => intro i c G kc kn x5 x6 h1 h2 h3 h4 I h5 h6; exfalso; omega
  | succ n ih =>
    intro i c G kc kn x5 x6 h1 h2 h3 h4 I h5 h6
    refine jj_iload4 F dL_law_23 ?_
    refine jj_aload0 F dL_law_25 ?_
    refine jj_slen F hX dL_law_26 ?_
    refine jj_bipush F (by decide) dL_law_27 ?_
    refine jj_isub F dL_law_29 ?_
    refine jj_icmp_gt F (tgt := 2418) dL_law_30 rfl (by omega) (fun _ => kend _ _ _ _ (by omega) (by omega)) (fun hle => ?_)
    have hi : 0 ≤ i ∧ i + 6 ≤ L := by omega
    have hc : c < 512 := by omega
    have hk : kc + 100 ≤ 601024 ∧ kn + 1000 ≤ 7293034 := by omega
    have next : ∀ (G1 : jj_G) (x5 x6 : Option Value), lInv (jj_ac X) xo mo oo (c + 1) G1 → jj_J X G1 (kc + 100) (kn + 1000) 2412 [some (.ref b), some (.ref xo), some (.ref mo), some (.ref oo), some (.int (jI i)), x5, x6] [] := by
      intro G1 x5 x6 I1
      refine jj_iinc4 F dL_law_2412 (hN _ (by decide)) rfl ?_
      refine jj_goto F (tgt := 23) dL_law_2415 rfl ?_
      exact ih (i + 6) (c + 1) G1 _ _ x5 x6 (by omega) (by omega) (by omega) (by omega) I1 (by omega) (by omega)
    refine jj_aload0 F dL_law_33 ?_
    refine jj_iload4 F dL_law_34 ?_
    refine jj_sld F hX (by omega) (by omega) dL_law_36 ?_
    refine jj_bipush F (by decide) dL_law_37 ?_
    refine jj_iand F dL_law_39 ?_
    refine jj_topi (jI_of _) ?_
    have hr := jI_rng (jI (jSc xs i) &&& jI 63)
    generalize (jI (jSc xs i) &&& jI 63).toInt = a at hr ⊢
    by_cases hin : 0 ≤ a ∧ a ≤ 33
    · obtain ⟨m, rfl⟩ : ∃ m : Nat, a = m := ⟨a.toNat, by omega⟩
      have hm : m < 34 := by omega
      match m, hm with
      | 0, _ => exact jj_tableIn F (off := 152) (tgt := 192) dL_law_40 (by decide) (by decide) rfl rfl (ls_session F hN hX hL hi hc I hk next)
      | 1, _ => exact jj_tableIn F (off := 232) (tgt := 272) dL_law_40 (by decide) (by decide) rfl rfl (ls_splice F hN hX hL hi hc I hk next)
      | 2, _ => exact jj_tableIn F (off := 336) (tgt := 376) dL_law_40 (by decide) (by decide) rfl rfl (ls_shed F hN hX hL hi hc I hk next)
      | 3, _ => exact jj_tableIn F (off := 372) (tgt := 412) dL_law_40 (by decide) (by decide) rfl rfl (ls_bake F hN hX hL hi hc I hk next)
      | 4, _ => exact jj_tableIn F (off := 428) (tgt := 468) dL_law_40 (by decide) (by decide) rfl rfl (ls_fire F hN hX hL hi hc I hk next)
      | 5, _ => exact jj_tableIn F (off := 484) (tgt := 524) dL_law_40 (by decide) (by decide) rfl rfl (ls_tapeIs F hN hX hL hi hc I hk next)
      | 6, _ => exact jj_tableIn F (off := 552) (tgt := 592) dL_law_40 (by decide) (by decide) rfl rfl (ls_heard F hN hX hL hi hc I hk next)
      | 7, _ => exact jj_tableIn F (off := 620) (tgt := 660) dL_law_40 (by decide) (by decide) rfl rfl (ls_takes F hN hX hL hi hc I hk next)
      | 8, _ => exact jj_tableIn F (off := 676) (tgt := 716) dL_law_40 (by decide) (by decide) rfl rfl (ls_takesAnew F hN hX hL hi hc I hk next)
      | 9, _ => exact jj_tableIn F (off := 732) (tgt := 772) dL_law_40 (by decide) (by decide) rfl rfl (ls_isLost F hN hX hL hi hc I hk next)
      | 10, _ => exact jj_tableIn F (off := 795) (tgt := 835) dL_law_40 (by decide) (by decide) rfl rfl (ls_add F hN hX hL hi hc I hk next)
      | 11, _ => exact jj_tableIn F (off := 851) (tgt := 891) dL_law_40 (by decide) (by decide) rfl rfl (ls_clear F hN hX hL hi hc I hk next)
      | 12, _ => exact jj_tableIn F (off := 864) (tgt := 904) dL_law_40 (by decide) (by decide) rfl rfl (ls_cut F hN hX hL hi hc I hk next)
      | 13, _ => exact jj_tableIn F (off := 920) (tgt := 960) dL_law_40 (by decide) (by decide) rfl rfl (ls_seconds F hN hX hL hi hc I hk next)
      | 14, _ => exact jj_tableIn F (off := 988) (tgt := 1028) dL_law_40 (by decide) (by decide) rfl rfl (ls_stamper F hN hX hL hi hc I hk next)
      | 15, _ => exact jj_tableIn F (off := 1068) (tgt := 1108) dL_law_40 (by decide) (by decide) rfl rfl (ls_press F hN hX hL hi hc I hk next)
      | 16, _ => exact jj_tableIn F (off := 1160) (tgt := 1200) dL_law_40 (by decide) (by decide) rfl rfl (ls_stamperIs F hN hX hL hi hc I hk next)
      | 17, _ => exact jj_tableIn F (off := 1252) (tgt := 1292) dL_law_40 (by decide) (by decide) rfl rfl (ls_sell F hN hX hL hi hc I hk next)
      | 18, _ => exact jj_tableIn F (off := 1344) (tgt := 1384) dL_law_40 (by decide) (by decide) rfl rfl (ls_back F hN hX hL hi hc I hk next)
      | 19, _ => exact jj_tableIn F (off := 1436) (tgt := 1476) dL_law_40 (by decide) (by decide) rfl rfl (ls_disc F hN hX hL hi hc I hk next)
      | 20, _ => exact jj_tableIn F (off := 1516) (tgt := 1556) dL_law_40 (by decide) (by decide) rfl rfl (ls_play F hN hX hL hi hc I hk next)
      | 21, _ => exact jj_tableIn F (off := 1596) (tgt := 1636) dL_law_40 (by decide) (by decide) rfl rfl (ls_scratch F hN hX hL hi hc I hk next)
      | 22, _ => exact jj_tableIn F (off := 1664) (tgt := 1704) dL_law_40 (by decide) (by decide) rfl rfl (ls_noise F hN hX hL hi hc I hk next)
      | 23, _ => exact jj_tableIn F (off := 1732) (tgt := 1772) dL_law_40 (by decide) (by decide) rfl rfl (ls_grade F hN hX hL hi hc I hk next)
      | 24, _ => exact jj_tableIn F (off := 1788) (tgt := 1828) dL_law_40 (by decide) (by decide) rfl rfl (ls_join F hN hX hL hi hc I hk next)
      | 25, _ => exact jj_tableIn F (off := 1856) (tgt := 1896) dL_law_40 (by decide) (by decide) rfl rfl (ls_file F hN hX hL hi hc I hk next)
      | 26, _ => exact jj_tableIn F (off := 1912) (tgt := 1952) dL_law_40 (by decide) (by decide) rfl rfl (ls_repair F hN hX hL hi hc I hk next)
      | 27, _ => exact jj_tableIn F (off := 1968) (tgt := 2008) dL_law_40 (by decide) (by decide) rfl rfl (ls_undo F hN hX hL hi hc I hk next)
      | 28, _ => exact jj_tableIn F (off := 2012) (tgt := 2052) dL_law_40 (by decide) (by decide) rfl rfl (ls_fileIs F hN hX hL hi hc I hk next)
      | 29, _ => exact jj_tableIn F (off := 2068) (tgt := 2108) dL_law_40 (by decide) (by decide) rfl rfl (ls_contract F hN hX hL hi hc I hk next)
      | 30, _ => exact jj_tableIn F (off := 2148) (tgt := 2188) dL_law_40 (by decide) (by decide) rfl rfl (ls_account F hN hX hL hi hc I hk next)
      | 31, _ => exact jj_tableIn F (off := 2204) (tgt := 2244) dL_law_40 (by decide) (by decide) rfl rfl (ls_accountAnew F hN hX hL hi hc I hk next)
      | 32, _ => exact jj_tableIn F (off := 2260) (tgt := 2300) dL_law_40 (by decide) (by decide) rfl rfl (ls_payOut F hN hX hL hi hc I hk next)
      | 33, _ => exact jj_tableIn F (off := 2316) (tgt := 2356) dL_law_40 (by decide) (by decide) rfl rfl (ls_pass F hN hX hL hi hc I hk next)
      | m + 34, h => exact absurd h (by omega)
    · refine jj_tableOut F (tgt := 2412) dL_law_40 rfl hr (by omega) ?_
      refine jj_wide (k := kc + 100) (n := kn + 1000) (by omega) ?_
      exact next G x5 x6 (I.up hc)
