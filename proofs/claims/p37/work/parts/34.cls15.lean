abbrev rm_X8_file : Room := { frames := 8, cells := 2, slots := 12, locals := 138 }
set_option maxRecDepth 100000 in
set_option maxHeartbeats 400000 in
theorem x8_file {l : Launch} {D : va_G} {ac : Nat → ClassId} (hl : l.stackTraces = false) {ad : Ad} {s e : Sg} {q : Int}  {G : jj_G} (hR : Rep ad (cC ac ad s e) G) {c : Int} (hI : sInv s c) (hq : jR q) : jj_C l D ac yX8_file (.code yX8_file cX8_file 5 (some .int)) rm_X8_file [.ref (ad 0 0), .int (jI q)] G (jj_pi (fun r G' => t_file s q = 0 ∧ r = r_file s q ∧ ∃ ad', ad' 0 0 = ad 0 0 ∧ Rep ad' (cC ac ad' (n_file s q) (e)) G')) (jp2 (t_file s q) eA eS) := by
  refine jj_ofx (own := RX8) (lv0 := [some (.ref (ad 0 0)), some (.int (jI q)), none, none, none]) hl (by decide +kernel) rfl rfl (Nat.le_of_ble_eq_true rfl) rfl ?_
  intro X B hN hl0 hdg hac hin
  subst hl0; subst hdg; subst hac
  have F := B.F

  obtain ⟨hI1, hI2, hI3, hI4, hI5, hI6, hI7, hc⟩ := hI
  have i0 := hI1.1
  have i1 := hI1.2.1
  have i3 := hI3.1
  refine jj_aload0 F dX8_file_0 ?_
  refine jj_iload1 F dX8_file_1 ?_
  refine jj_callVv B (k := 1) (n := 6) (k8_requireJoinable F.tr hR (by omega) hI5 i3) lk_X8_318 (hR.at (k := 0) (i := 0) cc_0) cs_8 rfl rfl ⟨Nat.le_of_ble_eq_true rfl, Nat.le_of_ble_eq_true rfl, Nat.le_of_ble_eq_true rfl, Nat.le_of_ble_eq_true rfl, Nat.le_of_ble_eq_true rfl⟩ ⟨Nat.le_of_ble_eq_true rfl, Nat.le_of_ble_eq_true rfl, Nat.le_of_ble_eq_true rfl, Nat.le_of_ble_eq_true rfl⟩ (fun E h => ⟨rfl, by rcases h with ⟨rfl, hh⟩ | ⟨rfl, hh, hh2⟩; exact (Or.inl ⟨(by unfold t_file; (try rw [← hk]); (repeat (first | rw [if_pos (by omega)] | rw [if_neg (by omega)]))), rfl⟩); exact (Or.inr ⟨(by unfold t_file; (try rw [← hk]); (repeat (first | rw [if_pos (by omega)] | rw [if_neg (by omega)]))), rfl⟩)⟩) dX8_file_2 (fun G h => ?_)
  obtain ⟨hja, hjo, rfl⟩ := h
  refine jj_aload0 F dX8_file_5 ?_
  refine jj_get F (hR.at (k := 0) (i := 0) cc_0) cs_8 (by decide) fd_X8_37 rfl dX8_file_6 ?_
  refine jj_callVv B (k := 1) (n := 6) (k5_begin F.tr hR) lk_X8_324 (hR.at (k := 6) (i := 0) cc_6) cs_5 rfl rfl ⟨Nat.le_of_ble_eq_true rfl, Nat.le_of_ble_eq_true rfl, Nat.le_of_ble_eq_true rfl, Nat.le_of_ble_eq_true rfl, Nat.le_of_ble_eq_true rfl⟩ ⟨Nat.le_of_ble_eq_true rfl, Nat.le_of_ble_eq_true rfl, Nat.le_of_ble_eq_true rfl, Nat.le_of_ble_eq_true rfl⟩ jj_tx0 dX8_file_9 (fun G hR => ?_)
  refine jj_iconst F dX8_file_12 ?_
  refine jj_istore2 F dX8_file_13 (hN _ (by decide)) rfl ?_
  refine jj_iconst F dX8_file_14 ?_
  refine jj_istore3 F dX8_file_15 (hN _ (by decide)) rfl ?_
  have loop : ∀ (n j : Nat) (x4 : Option Value) (G : jj_G), n + j = 8 → Rep ad (cC (jj_ac X) ad (sU (sU (sFileTo s q j) 26 0 1) 28 0 0) e) G → jj_J X G 1 6 16 [some (.ref (ad 0 0)), some (.int (jI q)), some (.int (jI (sFileN s q j))), some (.int (jI j)), x4] [] := by
    intro n
    induction n with
    | zero =>
      intro j x4 G hj hR
      have e8 : j = 8 := by omega
      subst e8
      refine jj_iload3 F dX8_file_16 ?_
      refine jj_bipush F (by decide) dX8_file_17 ?_
      refine jj_icmp_ge F (tgt := 59) dX8_file_19 rfl (by omega) (fun c19 => ?_) (fun c19 => by exfalso; omega)
      refine jj_iload2 F dX8_file_59 ?_
      have htt : t_file s q = 0 := by unfold t_file; (try rw [← hk]); (repeat (first | rw [if_pos (by omega)] | rw [if_neg (by omega)]))
      exact jj_iret B dX8_file_60 ⟨Nat.le_of_ble_eq_true rfl, Nat.le_of_ble_eq_true rfl⟩ (⟨_, rfl, htt, (by unfold r_file; refine Eq.trans ?_ (if_pos htt).symm; rfl), ad, rfl, (by unfold n_file; first | (rw [if_pos htt]; exact hR) | exact hR | exact hR.c37)⟩)
    | succ n ih =>
      intro j x4 G hj hR
      have hF5 := sI5_c (show (sU (sU (sFileTo s q j) 26 0 1) 28 0 0) 13 = s 13 by rw [sU_n (k := 28) (k' := 13) (by decide), sU_n (k := 26) (k' := 13) (by decide), sFileTo_n (by decide)]) (show (sU (sU (sFileTo s q j) 26 0 1) 28 0 0) 22 = s 22 by rw [sU_n (k := 28) (k' := 22) (by decide), sU_n (k := 26) (k' := 22) (by decide), sFileTo_n (by decide)]) (show (sU (sU (sFileTo s q j) 26 0 1) 28 0 0) 23 = s 23 by rw [sU_n (k := 28) (k' := 23) (by decide), sU_n (k := 26) (k' := 23) (by decide), sFileTo_n (by decide)]) (show (sU (sU (sFileTo s q j) 26 0 1) 28 0 0) 24 = s 24 by rw [sU_n (k := 28) (k' := 24) (by decide), sU_n (k := 26) (k' := 24) (by decide), sFileTo_n (by decide)]) (show (sU (sU (sFileTo s q j) 26 0 1) 28 0 0) 25 = s 25 by rw [sU_n (k := 28) (k' := 25) (by decide), sU_n (k := 26) (k' := 25) (by decide), sFileTo_n (by decide)]) hI5
      have hja2 : ¬ sAre (sU (sU (sFileTo s q j) 26 0 1) 28 0 0) q = 0 := by rw [sAre_c (show (sU (sU (sFileTo s q j) 26 0 1) 28 0 0) 22 = s 22 by rw [sU_n (k := 28) (k' := 22) (by decide), sU_n (k := 26) (k' := 22) (by decide), sFileTo_n (by decide)])]; exact hja
      have hjq : sJoin (sU (sU (sFileTo s q j) 26 0 1) 28 0 0) q j = sJoin s q j := sJoin_c (show (sU (sU (sFileTo s q j) 26 0 1) 28 0 0) 22 = s 22 by rw [sU_n (k := 28) (k' := 22) (by decide), sU_n (k := 26) (k' := 22) (by decide), sFileTo_n (by decide)]) (show (sU (sU (sFileTo s q j) 26 0 1) 28 0 0) 23 = s 23 by rw [sU_n (k := 28) (k' := 23) (by decide), sU_n (k := 26) (k' := 23) (by decide), sFileTo_n (by decide)]) (show (sU (sU (sFileTo s q j) 26 0 1) 28 0 0) 24 = s 24 by rw [sU_n (k := 28) (k' := 24) (by decide), sU_n (k := 26) (k' := 24) (by decide), sFileTo_n (by decide)]) (show (sU (sU (sFileTo s q j) 26 0 1) 28 0 0) 25 = s 25 by rw [sU_n (k := 28) (k' := 25) (by decide), sU_n (k := 26) (k' := 25) (by decide), sFileTo_n (by decide)])
      have hjr := sJoin_in (s := s) (q := q) (p := j) hq hja hI5.1
      have hnn := sNoise_in hI5 hc (d := sJoin s q j) (p := j) (by have := hI5.1; omega) (by omega)
      refine jj_iload3 F dX8_file_16 ?_
      refine jj_bipush F (by decide) dX8_file_17 ?_
      refine jj_icmp_ge F (tgt := 59) dX8_file_19 rfl (by omega) (fun c19 => by exfalso; omega) (fun c19 => ?_)
      refine jj_aload0 F dX8_file_22 ?_
      refine jj_aload0 F dX8_file_23 ?_
      refine jj_iload1 F dX8_file_24 ?_
      refine jj_iload3 F dX8_file_25 ?_
      refine jj_callVr B (k := 1) (n := 6) (k8_leastNoisy F.tr hR.1 hF5 hc hja2 (by omega)) lk_X8_321 (hR.at (k := 0) (i := 0) cc_0) cs_8 rfl rfl ⟨Nat.le_of_ble_eq_true rfl, Nat.le_of_ble_eq_true rfl, Nat.le_of_ble_eq_true rfl, Nat.le_of_ble_eq_true rfl, Nat.le_of_ble_eq_true rfl⟩ ⟨Nat.le_of_ble_eq_true rfl, Nat.le_of_ble_eq_true rfl, Nat.le_of_ble_eq_true rfl, Nat.le_of_ble_eq_true rfl⟩ jj_tx0 dX8_file_26 ?_
      refine jj_eqi hjq ?_
      refine jj_callVq B (k := 1) (n := 6) (k8_discAt_in F.tr hR.1 (by rw [(show (sU (sU (sFileTo s q j) 26 0 1) 28 0 0) 22 = s 22 by rw [sU_n (k := 28) (k' := 22) (by decide), sU_n (k := 26) (k' := 22) (by decide), sFileTo_n (by decide)])]; exact hI5.1.2) (by rw [(show (sU (sU (sFileTo s q j) 26 0 1) 28 0 0) 22 = s 22 by rw [sU_n (k := 28) (k' := 22) (by decide), sU_n (k := 26) (k' := 22) (by decide), sFileTo_n (by decide)])]; exact hjr)) lk_X8_297 (hR.at (k := 0) (i := 0) cc_0) cs_8 rfl rfl ⟨Nat.le_of_ble_eq_true rfl, Nat.le_of_ble_eq_true rfl, Nat.le_of_ble_eq_true rfl, Nat.le_of_ble_eq_true rfl, Nat.le_of_ble_eq_true rfl⟩ ⟨Nat.le_of_ble_eq_true rfl, Nat.le_of_ble_eq_true rfl, Nat.le_of_ble_eq_true rfl, Nat.le_of_ble_eq_true rfl⟩ jj_tx0 dX8_file_29 (fun r G h => ?_)
      obtain ⟨rfl, rfl⟩ := h
      refine jj_iload3 F dX8_file_32 ?_
      refine jj_callVr B (k := 1) (n := 6) (k0_noiseOf F.tr hR.1 (by rw [(show (sU (sU (sFileTo s q j) 26 0 1) 28 0 0) 22 = s 22 by rw [sU_n (k := 28) (k' := 22) (by decide), sU_n (k := 26) (k' := 22) (by decide), sFileTo_n (by decide)])]; exact hjr) (by omega) (by rw [(show (sU (sU (sFileTo s q j) 26 0 1) 28 0 0) 24 = s 24 by rw [sU_n (k := 28) (k' := 24) (by decide), sU_n (k := 26) (k' := 24) (by decide), sFileTo_n (by decide)])]; have := hI5.2.1 (sJoin s q j) (by omega) (by have := hI5.1; omega); omega)) lk_X8_312 (hR.at (k := 24) (i := sJoin s q j) (if_pos (by rw [(show (sU (sU (sFileTo s q j) 26 0 1) 28 0 0) 22 = s 22 by rw [sU_n (k := 28) (k' := 22) (by decide), sU_n (k := 26) (k' := 22) (by decide), sFileTo_n (by decide)])]; exact hjr))) cs_0 rfl rfl ⟨Nat.le_of_ble_eq_true rfl, Nat.le_of_ble_eq_true rfl, Nat.le_of_ble_eq_true rfl, Nat.le_of_ble_eq_true rfl, Nat.le_of_ble_eq_true rfl⟩ ⟨Nat.le_of_ble_eq_true rfl, Nat.le_of_ble_eq_true rfl, Nat.le_of_ble_eq_true rfl, Nat.le_of_ble_eq_true rfl⟩ jj_tx0 dX8_file_33 ?_
      refine jj_eqi (b := sNoise s (sJoin s q j) j) (congrFun (congrFun (sNoise_c (show (sU (sU (sFileTo s q j) 26 0 1) 28 0 0) 24 = s 24 by rw [sU_n (k := 28) (k' := 24) (by decide), sU_n (k := 26) (k' := 24) (by decide), sFileTo_n (by decide)]) (show (sU (sU (sFileTo s q j) 26 0 1) 28 0 0) 25 = s 25 by rw [sU_n (k := 28) (k' := 25) (by decide), sU_n (k := 26) (k' := 25) (by decide), sFileTo_n (by decide)])) _) _) ?_
      refine jj_istore4 F dX8_file_36 (hN _ (by decide)) rfl ?_
      refine jj_aload0 F dX8_file_38 ?_
      refine jj_get F (hR.at (k := 0) (i := 0) cc_0) cs_8 (by decide) fd_X8_37 rfl dX8_file_39 ?_
      refine jj_iload3 F dX8_file_42 ?_
      refine jj_iload4 F dX8_file_43 ?_
      refine jj_callVv B (k := 1) (n := 6) (k5_write F.tr hR (by omega)) lk_X8_327 (hR.at (k := 6) (i := 0) cc_6) cs_5 rfl rfl ⟨Nat.le_of_ble_eq_true rfl, Nat.le_of_ble_eq_true rfl, Nat.le_of_ble_eq_true rfl, Nat.le_of_ble_eq_true rfl, Nat.le_of_ble_eq_true rfl⟩ ⟨Nat.le_of_ble_eq_true rfl, Nat.le_of_ble_eq_true rfl, Nat.le_of_ble_eq_true rfl, Nat.le_of_ble_eq_true rfl⟩ jj_tx0 dX8_file_45 (fun G hR => ?_)
      refine jj_iload2 F dX8_file_48 ?_
      refine jj_iload4 F dX8_file_49 ?_
      refine jj_iadd F dX8_file_51 ?_
      refine jj_istore2 F dX8_file_52 (hN _ (by decide)) rfl ?_
      refine jj_iinc3 F dX8_file_53 (hN _ (by decide)) rfl ?_
      refine jj_goto F (tgt := 16) dX8_file_56 rfl ?_
      have hR := hR.congr (C' := cC (jj_ac X) ad (sU (sU (sFileTo s q (j + 1)) 26 0 1) 28 0 0) e) (kcases (fun i => kc_0 (s := (sU (sU (sU (sFileTo s q j) 26 0 1) 28 0 0) 27 j (sNoise s (sJoin s q j) j))) (e := e) (s' := (sU (sU (sFileTo s q (j + 1)) 26 0 1) 28 0 0)) (e' := e) rfl rfl rfl rfl i) (fun i => kc_1 (s := (sU (sU (sU (sFileTo s q j) 26 0 1) 28 0 0) 27 j (sNoise s (sJoin s q j) j))) (e := e) (s' := (sU (sU (sFileTo s q (j + 1)) 26 0 1) 28 0 0)) (e' := e) rfl i) (fun i => kc_2 (s := (sU (sU (sU (sFileTo s q j) 26 0 1) 28 0 0) 27 j (sNoise s (sJoin s q j) j))) (e := e) (s' := (sU (sU (sFileTo s q (j + 1)) 26 0 1) 28 0 0)) (e' := e) rfl i) (fun i => kc_3 (s := (sU (sU (sU (sFileTo s q j) 26 0 1) 28 0 0) 27 j (sNoise s (sJoin s q j) j))) (e := e) (s' := (sU (sU (sFileTo s q (j + 1)) 26 0 1) 28 0 0)) (e' := e) rfl i) (fun i => kc_4 (s := (sU (sU (sU (sFileTo s q j) 26 0 1) 28 0 0) 27 j (sNoise s (sJoin s q j) j))) (e := e) (s' := (sU (sU (sFileTo s q (j + 1)) 26 0 1) 28 0 0)) (e' := e) rfl i) (fun i => kc_5 (s := (sU (sU (sU (sFileTo s q j) 26 0 1) 28 0 0) 27 j (sNoise s (sJoin s q j) j))) (e := e) (s' := (sU (sU (sFileTo s q (j + 1)) 26 0 1) 28 0 0)) (e' := e) rfl rfl i) (fun i => kc_6 (s := (sU (sU (sU (sFileTo s q j) 26 0 1) 28 0 0) 27 j (sNoise s (sJoin s q j) j))) (e := e) (s' := (sU (sU (sFileTo s q (j + 1)) 26 0 1) 28 0 0)) (e' := e) rfl rfl i) (fun i => kc_7 (s := (sU (sU (sU (sFileTo s q j) 26 0 1) 28 0 0) 27 j (sNoise s (sJoin s q j) j))) (e := e) (s' := (sU (sU (sFileTo s q (j + 1)) 26 0 1) 28 0 0)) (e' := e) rfl i) (fun i => kc_8 (s := (sU (sU (sU (sFileTo s q j) 26 0 1) 28 0 0) 27 j (sNoise s (sJoin s q j) j))) (e := e) (s' := (sU (sU (sFileTo s q (j + 1)) 26 0 1) 28 0 0)) (e' := e) rfl i) (fun i => kc_9 (s := (sU (sU (sU (sFileTo s q j) 26 0 1) 28 0 0) 27 j (sNoise s (sJoin s q j) j))) (e := e) (s' := (sU (sU (sFileTo s q (j + 1)) 26 0 1) 28 0 0)) (e' := e) rfl i) (fun i => kc_10 (s := (sU (sU (sU (sFileTo s q j) 26 0 1) 28 0 0) 27 j (sNoise s (sJoin s q j) j))) (e := e) (s' := (sU (sU (sFileTo s q (j + 1)) 26 0 1) 28 0 0)) (e' := e) rfl i) (fun i => kc_11 (s := (sU (sU (sU (sFileTo s q j) 26 0 1) 28 0 0) 27 j (sNoise s (sJoin s q j) j))) (e := e) (s' := (sU (sU (sFileTo s q (j + 1)) 26 0 1) 28 0 0)) (e' := e) rfl i) (fun i => kc_12 (s := (sU (sU (sU (sFileTo s q j) 26 0 1) 28 0 0) 27 j (sNoise s (sJoin s q j) j))) (e := e) (s' := (sU (sU (sFileTo s q (j + 1)) 26 0 1) 28 0 0)) (e' := e) rfl i) (fun i => kc_13 (s := (sU (sU (sU (sFileTo s q j) 26 0 1) 28 0 0) 27 j (sNoise s (sJoin s q j) j))) (e := e) (s' := (sU (sU (sFileTo s q (j + 1)) 26 0 1) 28 0 0)) (e' := e) rfl i) (fun i => kc_14 (s := (sU (sU (sU (sFileTo s q j) 26 0 1) 28 0 0) 27 j (sNoise s (sJoin s q j) j))) (e := e) (s' := (sU (sU (sFileTo s q (j + 1)) 26 0 1) 28 0 0)) (e' := e) rfl i) (fun i => kc_15 (s := (sU (sU (sU (sFileTo s q j) 26 0 1) 28 0 0) 27 j (sNoise s (sJoin s q j) j))) (e := e) (s' := (sU (sU (sFileTo s q (j + 1)) 26 0 1) 28 0 0)) (e' := e) rfl i) (fun i => kc_16 (s := (sU (sU (sU (sFileTo s q j) 26 0 1) 28 0 0) 27 j (sNoise s (sJoin s q j) j))) (e := e) (s' := (sU (sU (sFileTo s q (j + 1)) 26 0 1) 28 0 0)) (e' := e) rfl rfl rfl rfl rfl rfl rfl rfl rfl rfl rfl rfl rfl i) (fun i => kc_17 (s := (sU (sU (sU (sFileTo s q j) 26 0 1) 28 0 0) 27 j (sNoise s (sJoin s q j) j))) (e := e) (s' := (sU (sU (sFileTo s q (j + 1)) 26 0 1) 28 0 0)) (e' := e) rfl rfl i) (fun i => kc_18 (s := (sU (sU (sU (sFileTo s q j) 26 0 1) 28 0 0) 27 j (sNoise s (sJoin s q j) j))) (e := e) (s' := (sU (sU (sFileTo s q (j + 1)) 26 0 1) 28 0 0)) (e' := e) rfl rfl i) (fun i => kc_19 (s := (sU (sU (sU (sFileTo s q j) 26 0 1) 28 0 0) 27 j (sNoise s (sJoin s q j) j))) (e := e) (s' := (sU (sU (sFileTo s q (j + 1)) 26 0 1) 28 0 0)) (e' := e) rfl rfl i) (fun i => kc_20 (s := (sU (sU (sU (sFileTo s q j) 26 0 1) 28 0 0) 27 j (sNoise s (sJoin s q j) j))) (e := e) (s' := (sU (sU (sFileTo s q (j + 1)) 26 0 1) 28 0 0)) (e' := e) rfl rfl rfl rfl i) (fun i => kc_21 (s := (sU (sU (sU (sFileTo s q j) 26 0 1) 28 0 0) 27 j (sNoise s (sJoin s q j) j))) (e := e) (s' := (sU (sU (sFileTo s q (j + 1)) 26 0 1) 28 0 0)) (e' := e) rfl rfl i) (fun i => kc_22 (s := (sU (sU (sU (sFileTo s q j) 26 0 1) 28 0 0) 27 j (sNoise s (sJoin s q j) j))) (e := e) (s' := (sU (sU (sFileTo s q (j + 1)) 26 0 1) 28 0 0)) (e' := e) rfl rfl i) (fun i => kc_23 (s := (sU (sU (sU (sFileTo s q j) 26 0 1) 28 0 0) 27 j (sNoise s (sJoin s q j) j))) (e := e) (s' := (sU (sU (sFileTo s q (j + 1)) 26 0 1) 28 0 0)) (e' := e) rfl rfl rfl rfl rfl rfl rfl rfl i) (fun i => kc_24 (s := (sU (sU (sU (sFileTo s q j) 26 0 1) 28 0 0) 27 j (sNoise s (sJoin s q j) j))) (e := e) (s' := (sU (sU (sFileTo s q (j + 1)) 26 0 1) 28 0 0)) (e' := e) rfl rfl rfl i) (fun i => kc_25 (s := (sU (sU (sU (sFileTo s q j) 26 0 1) 28 0 0) 27 j (sNoise s (sJoin s q j) j))) (e := e) (s' := (sU (sU (sFileTo s q (j + 1)) 26 0 1) 28 0 0)) (e' := e) rfl rfl i) (fun i => kc_26 (s := (sU (sU (sU (sFileTo s q j) 26 0 1) 28 0 0) 27 j (sNoise s (sJoin s q j) j))) (e := e) (s' := (sU (sU (sFileTo s q (j + 1)) 26 0 1) 28 0 0)) (e' := e) rfl rfl rfl i) (fun i => kc_27 (s := (sU (sU (sU (sFileTo s q j) 26 0 1) 28 0 0) 27 j (sNoise s (sJoin s q j) j))) (e := e) (s' := (sU (sU (sFileTo s q (j + 1)) 26 0 1) 28 0 0)) (e' := e) rfl rfl i) (fun k i => rfl))
      have ih1 := fun x4 => ih (j + 1) x4 G (by omega) hR
      rw [show (((j + 1 : Nat)) : Int) = (j : Int) + 1 from rfl] at ih1
      exact ih1 _
  exact loop 8 0 none G (by omega) (hR.congr (kcases (fun i => kc_0 (s := (sU (sU s 26 0 1) 28 0 0)) (e := e) (s' := (sU (sU (sFileTo s q 0) 26 0 1) 28 0 0)) (e' := e) rfl rfl rfl rfl i) (fun i => kc_1 (s := (sU (sU s 26 0 1) 28 0 0)) (e := e) (s' := (sU (sU (sFileTo s q 0) 26 0 1) 28 0 0)) (e' := e) rfl i) (fun i => kc_2 (s := (sU (sU s 26 0 1) 28 0 0)) (e := e) (s' := (sU (sU (sFileTo s q 0) 26 0 1) 28 0 0)) (e' := e) rfl i) (fun i => kc_3 (s := (sU (sU s 26 0 1) 28 0 0)) (e := e) (s' := (sU (sU (sFileTo s q 0) 26 0 1) 28 0 0)) (e' := e) rfl i) (fun i => kc_4 (s := (sU (sU s 26 0 1) 28 0 0)) (e := e) (s' := (sU (sU (sFileTo s q 0) 26 0 1) 28 0 0)) (e' := e) rfl i) (fun i => kc_5 (s := (sU (sU s 26 0 1) 28 0 0)) (e := e) (s' := (sU (sU (sFileTo s q 0) 26 0 1) 28 0 0)) (e' := e) rfl rfl i) (fun i => kc_6 (s := (sU (sU s 26 0 1) 28 0 0)) (e := e) (s' := (sU (sU (sFileTo s q 0) 26 0 1) 28 0 0)) (e' := e) rfl rfl i) (fun i => kc_7 (s := (sU (sU s 26 0 1) 28 0 0)) (e := e) (s' := (sU (sU (sFileTo s q 0) 26 0 1) 28 0 0)) (e' := e) rfl i) (fun i => kc_8 (s := (sU (sU s 26 0 1) 28 0 0)) (e := e) (s' := (sU (sU (sFileTo s q 0) 26 0 1) 28 0 0)) (e' := e) rfl i) (fun i => kc_9 (s := (sU (sU s 26 0 1) 28 0 0)) (e := e) (s' := (sU (sU (sFileTo s q 0) 26 0 1) 28 0 0)) (e' := e) rfl i) (fun i => kc_10 (s := (sU (sU s 26 0 1) 28 0 0)) (e := e) (s' := (sU (sU (sFileTo s q 0) 26 0 1) 28 0 0)) (e' := e) rfl i) (fun i => kc_11 (s := (sU (sU s 26 0 1) 28 0 0)) (e := e) (s' := (sU (sU (sFileTo s q 0) 26 0 1) 28 0 0)) (e' := e) rfl i) (fun i => kc_12 (s := (sU (sU s 26 0 1) 28 0 0)) (e := e) (s' := (sU (sU (sFileTo s q 0) 26 0 1) 28 0 0)) (e' := e) rfl i) (fun i => kc_13 (s := (sU (sU s 26 0 1) 28 0 0)) (e := e) (s' := (sU (sU (sFileTo s q 0) 26 0 1) 28 0 0)) (e' := e) rfl i) (fun i => kc_14 (s := (sU (sU s 26 0 1) 28 0 0)) (e := e) (s' := (sU (sU (sFileTo s q 0) 26 0 1) 28 0 0)) (e' := e) rfl i) (fun i => kc_15 (s := (sU (sU s 26 0 1) 28 0 0)) (e := e) (s' := (sU (sU (sFileTo s q 0) 26 0 1) 28 0 0)) (e' := e) rfl i) (fun i => kc_16 (s := (sU (sU s 26 0 1) 28 0 0)) (e := e) (s' := (sU (sU (sFileTo s q 0) 26 0 1) 28 0 0)) (e' := e) rfl rfl rfl rfl rfl rfl rfl rfl rfl rfl rfl rfl rfl i) (fun i => kc_17 (s := (sU (sU s 26 0 1) 28 0 0)) (e := e) (s' := (sU (sU (sFileTo s q 0) 26 0 1) 28 0 0)) (e' := e) rfl rfl i) (fun i => kc_18 (s := (sU (sU s 26 0 1) 28 0 0)) (e := e) (s' := (sU (sU (sFileTo s q 0) 26 0 1) 28 0 0)) (e' := e) rfl rfl i) (fun i => kc_19 (s := (sU (sU s 26 0 1) 28 0 0)) (e := e) (s' := (sU (sU (sFileTo s q 0) 26 0 1) 28 0 0)) (e' := e) rfl rfl i) (fun i => kc_20 (s := (sU (sU s 26 0 1) 28 0 0)) (e := e) (s' := (sU (sU (sFileTo s q 0) 26 0 1) 28 0 0)) (e' := e) rfl rfl rfl rfl i) (fun i => kc_21 (s := (sU (sU s 26 0 1) 28 0 0)) (e := e) (s' := (sU (sU (sFileTo s q 0) 26 0 1) 28 0 0)) (e' := e) rfl rfl i) (fun i => kc_22 (s := (sU (sU s 26 0 1) 28 0 0)) (e := e) (s' := (sU (sU (sFileTo s q 0) 26 0 1) 28 0 0)) (e' := e) rfl rfl i) (fun i => kc_23 (s := (sU (sU s 26 0 1) 28 0 0)) (e := e) (s' := (sU (sU (sFileTo s q 0) 26 0 1) 28 0 0)) (e' := e) rfl rfl rfl rfl rfl rfl rfl rfl i) (fun i => kc_24 (s := (sU (sU s 26 0 1) 28 0 0)) (e := e) (s' := (sU (sU (sFileTo s q 0) 26 0 1) 28 0 0)) (e' := e) rfl rfl rfl i) (fun i => kc_25 (s := (sU (sU s 26 0 1) 28 0 0)) (e := e) (s' := (sU (sU (sFileTo s q 0) 26 0 1) 28 0 0)) (e' := e) rfl rfl i) (fun i => kc_26 (s := (sU (sU s 26 0 1) 28 0 0)) (e := e) (s' := (sU (sU (sFileTo s q 0) 26 0 1) 28 0 0)) (e' := e) rfl rfl rfl i) (fun i => kc_27 (s := (sU (sU s 26 0 1) 28 0 0)) (e := e) (s' := (sU (sU (sFileTo s q 0) 26 0 1) 28 0 0)) (e' := e) rfl rfl i) (fun k i => rfl)))
abbrev rm_X8_isLost : Room := { frames := 7, cells := 2, slots := 12, locals := 112 }
set_option maxRecDepth 100000 in
set_option maxHeartbeats 400000 in
theorem x8_isLost {l : Launch} {D : va_G} {ac : Nat → ClassId} (hl : l.stackTraces = false) {ad : Ad} {s e : Sg} {t : Int}  {G : jj_G} (hR : Rep ad (cC ac ad s e) G) {c : Int} (hI : sInv s c) (ht : jR t) (hK : ∀ t : Int, 0 ≤ t → t < s 1 0 → (e 2 t = -1 ↔ ¬ s 6 t = -1)) : jj_C l D ac yX8_isLost (.code yX8_isLost cX8_isLost 6 (some .boolean)) rm_X8_isLost [.ref (ad 0 0), .int (jI t)] G (jj_pi (fun r G' => t_isLost s t = 0 ∧ r = r_isLost s t ∧ ∃ ad', ad' 0 0 = ad 0 0 ∧ Rep ad' (cC ac ad' (n_isLost s t) (e)) G')) (jp1 (t_isLost s t) eB) := by
  refine jj_ofx (own := RX8) (lv0 := [some (.ref (ad 0 0)), some (.int (jI t)), none, none, none, none]) hl (by decide +kernel) rfl rfl (Nat.le_of_ble_eq_true rfl) rfl ?_
  intro X B hN hl0 hdg hac hin
  subst hl0; subst hdg; subst hac
  have F := B.F

  obtain ⟨hI1, hI2, hI3, hI4, hI5, hI6, hI7, hc⟩ := hI
  have i0 := hI1.1
  have i1 := hI1.2.1
  have i3 := hI3.1
  refine jj_aload0 F dX8_isLost_0 ?_
  refine jj_iload1 F dX8_isLost_1 ?_
  refine jj_callVq B (k := 1) (n := 6) (k8_tapeAt F.tr hR.1 (by omega) i1.2) lk_X8_73 (hR.at (k := 0) (i := 0) cc_0) cs_8 rfl rfl ⟨Nat.le_of_ble_eq_true rfl, Nat.le_of_ble_eq_true rfl, Nat.le_of_ble_eq_true rfl, Nat.le_of_ble_eq_true rfl, Nat.le_of_ble_eq_true rfl⟩ ⟨Nat.le_of_ble_eq_true rfl, Nat.le_of_ble_eq_true rfl, Nat.le_of_ble_eq_true rfl, Nat.le_of_ble_eq_true rfl⟩ (fun E h => ⟨rfl, by obtain ⟨rfl, hh⟩ := h; exact ⟨(by unfold t_isLost; (try rw [← hk]); (repeat (first | rw [if_pos (by omega)] | rw [if_neg (by omega)]))), rfl⟩⟩) dX8_isLost_2 (fun r G h => ?_)
  obtain ⟨rfl, hrg, rfl⟩ := h
  refine jj_get F (hR.at (k := 16) (i := t) (if_pos (show 0 ≤ t ∧ t < s 1 0 by omega))) cs_7 (by decide) fd_X8_139 rfl dX8_isLost_5 ?_
  refine jj_ifnull F (tgt := 21) dX8_isLost_8 rfl (fun c8 => ?_) (fun a8 c8 => ?_)
  · skip
    have hsr := (hK t (by omega) (by omega)).mp (Classical.byContradiction fun h => by rw [oRef_at h] at c8; cases c8)
    refine jj_aload0 F dX8_isLost_21 ?_
    refine jj_get F (hR.at (k := 0) (i := 0) cc_0) cs_8 (by decide) fd_X8_11 rfl dX8_isLost_22 ?_
    refine jj_astore2 F dX8_isLost_25 (hN _ (by decide)) rfl ?_
    refine jj_aload2 F dX8_isLost_26 ?_
    refine jj_alenQ F (fun _ => rfl) (hR.at (k := 1) (i := 0) cc_1) dX8_isLost_27 ?_
    refine jj_istore3 F dX8_isLost_28 (hN _ (by decide)) rfl ?_
    refine jj_iconst F dX8_isLost_29 ?_
    refine jj_istore4 F dX8_isLost_30 (hN _ (by decide)) rfl ?_
    obtain ⟨T, hT⟩ : ∃ T, T = (s 1 0).toNat := ⟨_, rfl⟩
    obtain ⟨V, hV⟩ : ∃ V, V = (s 13 0).toNat := ⟨_, rfl⟩
    have loop2 : ∀ (n j : Nat) (x5 : Option Value), n + j = 10 → jj_ncv x5 = true → sKeptT s t T = 0 → sKeptS s t 0 (12 * (min j V)) = 0 → jj_J X G 1 6 89 [some (.ref (ad 0 0)), some (.int (jI t)), some (.ref (ad 2 0)), some (.int (jI 10)), some (.int (jI j)), x5] [] := by
      intro n
      induction n with
      | zero =>
        intro j x5 hj5 hx5 hk0 hs0
        refine jj_iload4 F dX8_isLost_89 ?_
        refine jj_iload3 F dX8_isLost_91 ?_
        refine jj_icmp_ge F (tgt := 134) dX8_isLost_92 rfl (by omega) (fun c92 => ?_) (fun c92 => by exfalso; omega)
        refine jj_iconst F dX8_isLost_134 ?_
        have htt : t_isLost s t = 0 := by unfold t_isLost; (try rw [← hk]); (repeat (first | rw [if_pos (by omega)] | rw [if_neg (by omega)]))
        exact jj_zret B dX8_isLost_135 ⟨Nat.le_of_ble_eq_true rfl, Nat.le_of_ble_eq_true rfl⟩ (by omega) (⟨_, rfl, htt, (by unfold r_isLost; refine Eq.trans ?_ (if_pos htt).symm; rw [← hT, hk0, show (12 * s 13 0).toNat = 12 * V by omega]; rw [show min j V = V by omega] at hs0; rw [hs0]; rfl), ad, rfl, (by unfold n_isLost; first | (rw [if_pos htt]; exact hR) | exact hR | exact hR.c37)⟩)
      | succ n ih =>
        intro j x5 hj5 hx5 hk0 hs0
        refine jj_iload4 F dX8_isLost_89 ?_
        refine jj_iload3 F dX8_isLost_91 ?_
        refine jj_icmp_ge F (tgt := 134) dX8_isLost_92 rfl (by omega) (fun c92 => by exfalso; omega) (fun c92 => ?_)
        refine jj_aload2 F dX8_isLost_95 ?_
        refine jj_iload4 F dX8_isLost_96 ?_
        refine jj_ald F (fun _ => rfl) (hR.at (k := 2) (i := 0) cc_2) (by omega) (by decide) dX8_isLost_98 ?_
        by_cases hq98 : (j : Int) < s 13 0
        · skip
          rw [show min j V = j by omega] at hs0
          have hsd := sKeptS_side hs0 12 (by omega)
          refine jj_qv (rRow_at ⟨by omega, hq98⟩) ?_
          refine jj_astore5 F dX8_isLost_99 (hN _ (by decide)) rfl ?_
          refine jj_aload5 F dX8_isLost_101 ?_
          refine jj_ifnull F (r := some (ad 20 ((j : Int)))) (tgt := 128) dX8_isLost_103 rfl (fun h => by cases h) (fun _ _ => ?_)
          refine jj_aload5 F dX8_isLost_106 ?_
          refine jj_get F (hR.at (k := 20) (i := (j : Int)) (if_pos (show 0 ≤ (j : Int) ∧ (j : Int) < s 13 0 by omega))) cs_4 (by decide) fd_X8_152 rfl dX8_isLost_108 ?_
          refine jj_iload1 F dX8_isLost_111 ?_
          refine jj_callSr B (k := 1) (n := 6) (k8_has F.tr (q := s 15 j) (k := t)) lk_X8_148 rfl ⟨Nat.le_of_ble_eq_true rfl, Nat.le_of_ble_eq_true rfl, Nat.le_of_ble_eq_true rfl, Nat.le_of_ble_eq_true rfl, Nat.le_of_ble_eq_true rfl⟩ ⟨Nat.le_of_ble_eq_true rfl, Nat.le_of_ble_eq_true rfl, Nat.le_of_ble_eq_true rfl, Nat.le_of_ble_eq_true rfl⟩ jj_tx0 dX8_isLost_112 ?_
          have hhs : sHas (s 15 j) t = 0 ∨ sHas (s 15 j) t = 1 := by unfold sHas; split; exact Or.inr rfl; exact Or.inl rfl
          refine jj_if_eq F (tgt := 128) dX8_isLost_115 rfl (by unfold sHas; split <;> omega) (fun c115 => ?_) (fun c115 => ?_)
          · skip
            refine jj_iinc4 F dX8_isLost_128 (hN _ (by decide)) rfl ?_
            refine jj_goto F (tgt := 89) dX8_isLost_131 rfl ?_
            have ih1 := fun x5 => ih (j + 1) x5 (by omega)
            rw [show (((j + 1 : Nat)) : Int) = (j : Int) + 1 from rfl] at ih1
            rw [show min (j + 1) V = j + 1 by omega] at ih1
            exact ih1 _ rfl hk0 (by rw [show 12 * (j + 1) = 12 * j + 12 by omega, hsd, if_neg (fun h => by have h1 := h.1; have h2 := h.2; omega)])
          · skip
            refine jj_aload5 F dX8_isLost_118 ?_
            refine jj_callVr B (k := 1) (n := 6) (k4_isAnySold F.tr hR.1 ⟨by omega, by omega, by omega⟩ hI4) lk_X8_154 (hR.at (k := 20) (i := (j : Int)) (if_pos (show 0 ≤ (j : Int) ∧ (j : Int) < s 13 0 by omega))) cs_4 rfl rfl ⟨Nat.le_of_ble_eq_true rfl, Nat.le_of_ble_eq_true rfl, Nat.le_of_ble_eq_true rfl, Nat.le_of_ble_eq_true rfl, Nat.le_of_ble_eq_true rfl⟩ ⟨Nat.le_of_ble_eq_true rfl, Nat.le_of_ble_eq_true rfl, Nat.le_of_ble_eq_true rfl, Nat.le_of_ble_eq_true rfl⟩ jj_tx0 dX8_isLost_120 ?_
            refine jj_if_eq F (tgt := 128) dX8_isLost_123 rfl (by have := sAnyTo_01 s j 12; omega) (fun c123 => ?_) (fun c123 => ?_)
            · skip
              refine jj_iinc4 F dX8_isLost_128 (hN _ (by decide)) rfl ?_
              refine jj_goto F (tgt := 89) dX8_isLost_131 rfl ?_
              have ih1 := fun x5 => ih (j + 1) x5 (by omega)
              rw [show (((j + 1 : Nat)) : Int) = (j : Int) + 1 from rfl] at ih1
              rw [show min (j + 1) V = j + 1 by omega] at ih1
              exact ih1 _ rfl hk0 (by rw [show 12 * (j + 1) = 12 * j + 12 by omega, hsd, if_neg (fun h => by have h1 := h.1; have h2 := h.2; omega)])
            · skip
              refine jj_iconst F dX8_isLost_126 ?_
              have htt : t_isLost s t = 0 := by unfold t_isLost; (try rw [← hk]); (repeat (first | rw [if_pos (by omega)] | rw [if_neg (by omega)]))
              exact jj_zret B dX8_isLost_127 ⟨Nat.le_of_ble_eq_true rfl, Nat.le_of_ble_eq_true rfl⟩ (by omega) (⟨_, rfl, htt, (by unfold r_isLost; refine Eq.trans ?_ (if_pos htt).symm; rw [← hT, hk0, show (12 * s 13 0).toNat = 12 * V by omega, sKeptS_up (n := 12 * j + 12) (by rw [hsd, if_pos ⟨by omega, by have := sAnyTo_01 s j 12; omega⟩]) (12 * V) (by omega)]; rfl), ad, rfl, (by unfold n_isLost; first | (rw [if_pos htt]; exact hR) | exact hR | exact hR.c37)⟩)
        · skip
          refine jj_qn (rRow_no (fun h => hq98 h.2)) ?_
          refine jj_nstore5 F dX8_isLost_99 (hN _ (by decide)) rfl ?_
          refine jj_nload5 F dX8_isLost_101 ?_
          refine jj_ifnull F (r := none) (tgt := 128) dX8_isLost_103 rfl (fun _ => ?_) (fun _ h => by cases h)
          refine jj_iinc4 F dX8_isLost_128 (hN _ (by decide)) rfl ?_
          refine jj_goto F (tgt := 89) dX8_isLost_131 rfl ?_
          have ih1 := fun x5 => ih (j + 1) x5 (by omega)
          rw [show (((j + 1 : Nat)) : Int) = (j : Int) + 1 from rfl] at ih1
          rw [show min (j + 1) V = min j V by omega] at ih1
          exact ih1 _ rfl hk0 hs0
    have loop : ∀ (n j : Nat) (x5 : Option Value), n + j = 30 → jj_ncv x5 = true → sKeptT s t (min j T) = 0 → jj_J X G 1 6 32 [some (.ref (ad 0 0)), some (.int (jI t)), some (.ref (ad 1 0)), some (.int (jI 30)), some (.int (jI j)), x5] [] := by
      intro n
      induction n with
      | zero =>
        intro j x5 hj5 hx5 hk0
        refine jj_iload4 F dX8_isLost_32 ?_
        refine jj_iload3 F dX8_isLost_34 ?_
        refine jj_icmp_ge F (tgt := 78) dX8_isLost_35 rfl (by omega) (fun c35 => ?_) (fun c35 => by exfalso; omega)
        refine jj_aload0 F dX8_isLost_78 ?_
        refine jj_get F (hR.at (k := 0) (i := 0) cc_0) cs_8 (by decide) fd_X8_24 rfl dX8_isLost_79 ?_
        refine jj_astore2 F dX8_isLost_82 (hN _ (by decide)) rfl ?_
        refine jj_aload2 F dX8_isLost_83 ?_
        refine jj_alenQ F (fun _ => rfl) (hR.at (k := 2) (i := 0) cc_2) dX8_isLost_84 ?_
        refine jj_istore3 F dX8_isLost_85 (hN _ (by decide)) rfl ?_
        refine jj_iconst F dX8_isLost_86 ?_
        refine jj_istore4 F dX8_isLost_87 (hN _ (by decide)) rfl ?_
        exact loop2 10 0 x5 (by omega) hx5 (by rw [show T = min j T by omega]; exact hk0) (by rw [show min 0 V = 0 by omega]; rfl)
      | succ n ih =>
        intro j x5 hj5 hx5 hk0
        refine jj_iload4 F dX8_isLost_32 ?_
        refine jj_iload3 F dX8_isLost_34 ?_
        refine jj_icmp_ge F (tgt := 78) dX8_isLost_35 rfl (by omega) (fun c35 => by exfalso; omega) (fun c35 => ?_)
        refine jj_aload2 F dX8_isLost_38 ?_
        refine jj_iload4 F dX8_isLost_39 ?_
        refine jj_ald F (fun _ => rfl) (hR.at (k := 1) (i := 0) cc_1) (by omega) (by decide) dX8_isLost_41 ?_
        by_cases hq41 : (j : Int) < s 1 0
        · skip
          rw [show min j T = j by omega] at hk0
          have g := hI1.tape (t := j) (by omega)
          have hks : sKeptT s t (j + 1) = (if ¬ s 2 j = 3 ∧ sHas (sTakes s j) t = 1 then 1 else 0) := by simp only [sKeptT]; rw [hk0, if_pos rfl]
          refine jj_qv (rRow_at ⟨by omega, hq41⟩) ?_
          refine jj_astore5 F dX8_isLost_42 (hN _ (by decide)) rfl ?_
          refine jj_aload5 F dX8_isLost_44 ?_
          refine jj_ifnull F (r := some (ad 16 ((j : Int)))) (tgt := 72) dX8_isLost_46 rfl (fun h => by cases h) (fun _ _ => ?_)
          refine jj_aload5 F dX8_isLost_49 ?_
          refine jj_get F (hR.at (k := 16) (i := (j : Int)) (if_pos (show 0 ≤ (j : Int) ∧ (j : Int) < s 1 0 by omega))) cs_7 (by decide) fd_X8_101 rfl dX8_isLost_51 ?_
          refine jj_iconst F dX8_isLost_54 ?_
          refine jj_icmp_eq F (tgt := 72) dX8_isLost_55 rfl (by omega) (fun c55 => ?_) (fun c55 => ?_)
          · skip
            refine jj_iinc4 F dX8_isLost_72 (hN _ (by decide)) rfl ?_
            refine jj_goto F (tgt := 32) dX8_isLost_75 rfl ?_
            have ih1 := fun x5 => ih (j + 1) x5 (by omega)
            rw [show (((j + 1 : Nat)) : Int) = (j : Int) + 1 from rfl] at ih1
            rw [show min (j + 1) T = j + 1 by omega] at ih1
            exact ih1 _ rfl (by rw [hks, if_neg (fun h => by have h1 := h.1; have h2 := h.2; omega)])
          · skip
            refine jj_aload5 F dX8_isLost_58 ?_
            refine jj_callVr B (k := 1) (n := 6) (k7_takeSet F.tr hR.1 hI1 (by omega)) lk_X8_132 (hR.at (k := 16) (i := (j : Int)) (if_pos (show 0 ≤ (j : Int) ∧ (j : Int) < s 1 0 by omega))) cs_7 rfl rfl ⟨Nat.le_of_ble_eq_true rfl, Nat.le_of_ble_eq_true rfl, Nat.le_of_ble_eq_true rfl, Nat.le_of_ble_eq_true rfl, Nat.le_of_ble_eq_true rfl⟩ ⟨Nat.le_of_ble_eq_true rfl, Nat.le_of_ble_eq_true rfl, Nat.le_of_ble_eq_true rfl, Nat.le_of_ble_eq_true rfl⟩ jj_tx0 dX8_isLost_60 ?_
            refine jj_iload1 F dX8_isLost_63 ?_
            refine jj_callSr B (k := 1) (n := 6) (k8_has F.tr (q := sTakes s j) (k := t)) lk_X8_148 rfl ⟨Nat.le_of_ble_eq_true rfl, Nat.le_of_ble_eq_true rfl, Nat.le_of_ble_eq_true rfl, Nat.le_of_ble_eq_true rfl, Nat.le_of_ble_eq_true rfl⟩ ⟨Nat.le_of_ble_eq_true rfl, Nat.le_of_ble_eq_true rfl, Nat.le_of_ble_eq_true rfl, Nat.le_of_ble_eq_true rfl⟩ jj_tx0 dX8_isLost_64 ?_
            have hhs : sHas (sTakes s j) t = 0 ∨ sHas (sTakes s j) t = 1 := by unfold sHas; split; exact Or.inr rfl; exact Or.inl rfl
            refine jj_if_eq F (tgt := 72) dX8_isLost_67 rfl (by unfold sHas; split <;> omega) (fun c67 => ?_) (fun c67 => ?_)
            · skip
              refine jj_iinc4 F dX8_isLost_72 (hN _ (by decide)) rfl ?_
              refine jj_goto F (tgt := 32) dX8_isLost_75 rfl ?_
              have ih1 := fun x5 => ih (j + 1) x5 (by omega)
              rw [show (((j + 1 : Nat)) : Int) = (j : Int) + 1 from rfl] at ih1
              rw [show min (j + 1) T = j + 1 by omega] at ih1
              exact ih1 _ rfl (by rw [hks, if_neg (fun h => by have h1 := h.1; have h2 := h.2; omega)])
            · skip
              refine jj_iconst F dX8_isLost_70 ?_
              have htt : t_isLost s t = 0 := by unfold t_isLost; (try rw [← hk]); (repeat (first | rw [if_pos (by omega)] | rw [if_neg (by omega)]))
              exact jj_zret B dX8_isLost_71 ⟨Nat.le_of_ble_eq_true rfl, Nat.le_of_ble_eq_true rfl⟩ (by omega) (⟨_, rfl, htt, (by unfold r_isLost; refine Eq.trans ?_ (if_pos htt).symm; rw [← hT, sKeptT_up (n := j + 1) (by rw [hks, if_pos ⟨by omega, by omega⟩]) T (by omega), sKeptS_up (n := 0) rfl _ (by omega)]; rfl), ad, rfl, (by unfold n_isLost; first | (rw [if_pos htt]; exact hR) | exact hR | exact hR.c37)⟩)
        · skip
          refine jj_qn (rRow_no (fun h => hq41 h.2)) ?_
          refine jj_nstore5 F dX8_isLost_42 (hN _ (by decide)) rfl ?_
          refine jj_nload5 F dX8_isLost_44 ?_
          refine jj_ifnull F (r := none) (tgt := 72) dX8_isLost_46 rfl (fun _ => ?_) (fun _ h => by cases h)
          refine jj_iinc4 F dX8_isLost_72 (hN _ (by decide)) rfl ?_
          refine jj_goto F (tgt := 32) dX8_isLost_75 rfl ?_
          have ih1 := fun x5 => ih (j + 1) x5 (by omega)
          rw [show (((j + 1 : Nat)) : Int) = (j : Int) + 1 from rfl] at ih1
          rw [show min (j + 1) T = min j T by omega] at ih1
          exact ih1 _ rfl hk0
    exact loop 30 0 none (by omega) rfl (by rw [show min 0 T = 0 by omega]; rfl)
  · skip
    have hsr : s 6 t = -1 := Classical.byContradiction fun h => by rw [oRef_no ((hK t (by omega) (by omega)).mpr h)] at c8; cases c8
    exact jj_throwS B th_1 sr_X8_145 rfl ⟨(by unfold t_isLost; (try rw [← hk]); (repeat (first | rw [if_pos (by omega)] | rw [if_neg (by omega)]))), rfl⟩ ⟨Nat.le_of_ble_eq_true rfl, Nat.le_of_ble_eq_true rfl, Nat.le_of_ble_eq_true rfl, Nat.le_of_ble_eq_true rfl⟩ dX8_isLost_11 dX8_isLost_14 dX8_isLost_15 dX8_isLost_17 dX8_isLost_20
abbrev rm_X8_clear : Room := { frames := 1, cells := 0, slots := 0, locals := 21 }
set_option maxRecDepth 100000 in
set_option maxHeartbeats 400000 in
theorem x8_clear {l : Launch} {D : va_G} {ac : Nat → ClassId} (hl : l.stackTraces = false) {ad : Ad} {s e : Sg}  {G : jj_G} (hR : Rep ad (cC ac ad s e) G) (h11 : 0 ≤ s 11 0 ∧ s 11 0 ≤ 6) : jj_C l D ac yX8_clear (.code yX8_clear cX8_clear 2 (some .int)) rm_X8_clear [.ref (ad 0 0)] G (jj_pi (fun r G' => r = s 11 0 ∧ ∃ ad', ad' 0 0 = ad 0 0 ∧ Rep ad' (cC ac ad' (n_clear s) e) G')) (jj_nx) := by
  refine jj_ofx (own := RX8) (lv0 := [some (.ref (ad 0 0)), none]) hl (by decide +kernel) rfl rfl (Nat.le_of_ble_eq_true rfl) rfl ?_
  intro X B hN hl0 hdg hac hin
  subst hl0; subst hdg; subst hac
  have F := B.F

  refine jj_aload0 F dX8_clear_0 ?_
  refine jj_get F (hR.at (k := 0) (i := 0) cc_0) cs_8 (by decide) fd_X8_18 rfl dX8_clear_1 ?_
  refine jj_get F (hR.at (k := 4) (i := 0) cc_4) cs_1 (by decide) fd_X8_158 rfl dX8_clear_4 ?_
  refine jj_istore1 F dX8_clear_7 (hN _ (by decide)) rfl ?_
  refine jj_aload0 F dX8_clear_8 ?_
  refine jj_get F (hR.at (k := 0) (i := 0) cc_0) cs_8 (by decide) fd_X8_18 rfl dX8_clear_9 ?_
  refine jj_callVv B (k := 0) (n := 0) (k1_empty F.tr hR h11) lk_X8_166 (hR.at (k := 4) (i := 0) cc_4) cs_1 rfl rfl ⟨Nat.le_of_ble_eq_true rfl, Nat.le_of_ble_eq_true rfl, Nat.le_of_ble_eq_true rfl, Nat.le_of_ble_eq_true rfl, Nat.le_of_ble_eq_true rfl⟩ ⟨Nat.le_of_ble_eq_true rfl, Nat.le_of_ble_eq_true rfl, Nat.le_of_ble_eq_true rfl, Nat.le_of_ble_eq_true rfl⟩ jj_tx0 dX8_clear_12 (fun G hR => ?_)
  refine jj_iload1 F dX8_clear_15 ?_
  have hR := hR.congr (C' := cC (jj_ac X) ad (sU (sU s 37 0 0) 11 0 0) (e)) (kcases (fun i => kc_0 (s := (sU s 11 0 0)) (e := (e)) (s' := (sU (sU s 37 0 0) 11 0 0)) (e' := (e)) rfl rfl rfl rfl i) (fun i => kc_1 (s := (sU s 11 0 0)) (e := (e)) (s' := (sU (sU s 37 0 0) 11 0 0)) (e' := (e)) rfl i) (fun i => kc_2 (s := (sU s 11 0 0)) (e := (e)) (s' := (sU (sU s 37 0 0) 11 0 0)) (e' := (e)) rfl i) (fun i => kc_3 (s := (sU s 11 0 0)) (e := (e)) (s' := (sU (sU s 37 0 0) 11 0 0)) (e' := (e)) rfl i) (fun i => kc_4 (s := (sU s 11 0 0)) (e := (e)) (s' := (sU (sU s 37 0 0) 11 0 0)) (e' := (e)) rfl i) (fun i => kc_5 (s := (sU s 11 0 0)) (e := (e)) (s' := (sU (sU s 37 0 0) 11 0 0)) (e' := (e)) rfl rfl i) (fun i => kc_6 (s := (sU s 11 0 0)) (e := (e)) (s' := (sU (sU s 37 0 0) 11 0 0)) (e' := (e)) rfl rfl i) (fun i => kc_7 (s := (sU s 11 0 0)) (e := (e)) (s' := (sU (sU s 37 0 0) 11 0 0)) (e' := (e)) rfl i) (fun i => kc_8 (s := (sU s 11 0 0)) (e := (e)) (s' := (sU (sU s 37 0 0) 11 0 0)) (e' := (e)) rfl i) (fun i => kc_9 (s := (sU s 11 0 0)) (e := (e)) (s' := (sU (sU s 37 0 0) 11 0 0)) (e' := (e)) rfl i) (fun i => kc_10 (s := (sU s 11 0 0)) (e := (e)) (s' := (sU (sU s 37 0 0) 11 0 0)) (e' := (e)) rfl i) (fun i => kc_11 (s := (sU s 11 0 0)) (e := (e)) (s' := (sU (sU s 37 0 0) 11 0 0)) (e' := (e)) rfl i) (fun i => kc_12 (s := (sU s 11 0 0)) (e := (e)) (s' := (sU (sU s 37 0 0) 11 0 0)) (e' := (e)) rfl i) (fun i => kc_13 (s := (sU s 11 0 0)) (e := (e)) (s' := (sU (sU s 37 0 0) 11 0 0)) (e' := (e)) rfl i) (fun i => kc_14 (s := (sU s 11 0 0)) (e := (e)) (s' := (sU (sU s 37 0 0) 11 0 0)) (e' := (e)) rfl i) (fun i => kc_15 (s := (sU s 11 0 0)) (e := (e)) (s' := (sU (sU s 37 0 0) 11 0 0)) (e' := (e)) rfl i) (fun i => kc_16 (s := (sU s 11 0 0)) (e := (e)) (s' := (sU (sU s 37 0 0) 11 0 0)) (e' := (e)) rfl rfl rfl rfl rfl rfl rfl rfl rfl rfl rfl rfl rfl i) (fun i => kc_17 (s := (sU s 11 0 0)) (e := (e)) (s' := (sU (sU s 37 0 0) 11 0 0)) (e' := (e)) rfl rfl i) (fun i => kc_18 (s := (sU s 11 0 0)) (e := (e)) (s' := (sU (sU s 37 0 0) 11 0 0)) (e' := (e)) rfl rfl i) (fun i => kc_19 (s := (sU s 11 0 0)) (e := (e)) (s' := (sU (sU s 37 0 0) 11 0 0)) (e' := (e)) rfl rfl i) (fun i => kc_20 (s := (sU s 11 0 0)) (e := (e)) (s' := (sU (sU s 37 0 0) 11 0 0)) (e' := (e)) rfl rfl rfl rfl i) (fun i => kc_21 (s := (sU s 11 0 0)) (e := (e)) (s' := (sU (sU s 37 0 0) 11 0 0)) (e' := (e)) rfl rfl i) (fun i => kc_22 (s := (sU s 11 0 0)) (e := (e)) (s' := (sU (sU s 37 0 0) 11 0 0)) (e' := (e)) rfl rfl i) (fun i => kc_23 (s := (sU s 11 0 0)) (e := (e)) (s' := (sU (sU s 37 0 0) 11 0 0)) (e' := (e)) rfl rfl rfl rfl rfl rfl rfl rfl i) (fun i => kc_24 (s := (sU s 11 0 0)) (e := (e)) (s' := (sU (sU s 37 0 0) 11 0 0)) (e' := (e)) rfl rfl rfl i) (fun i => kc_25 (s := (sU s 11 0 0)) (e := (e)) (s' := (sU (sU s 37 0 0) 11 0 0)) (e' := (e)) rfl rfl i) (fun i => kc_26 (s := (sU s 11 0 0)) (e := (e)) (s' := (sU (sU s 37 0 0) 11 0 0)) (e' := (e)) rfl rfl rfl i) (fun i => kc_27 (s := (sU s 11 0 0)) (e := (e)) (s' := (sU (sU s 37 0 0) 11 0 0)) (e' := (e)) rfl rfl i) (fun k i => rfl))
  exact jj_iret B dX8_clear_16 ⟨Nat.le_of_ble_eq_true rfl, Nat.le_of_ble_eq_true rfl⟩ (⟨_, rfl, rfl, ad, rfl, hR⟩)
