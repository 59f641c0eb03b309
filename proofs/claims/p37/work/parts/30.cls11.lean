abbrev sNw (cI cM : ClassId) (S : Sg) (D ts : Int) (o a1 a2 : Nat) : Gl := [(o, jj_o 4 [.ref a1, .ref a2, .int (jI 0), .int (jI (sSec S D (-1))), .int (jI ts)]), (a1, jj_ai cI 6 (wn 6 (fun j => S 14 (6 * D + j)))), (a2, jj_aq cM 12 (fun _ => none))]
theorem sOr_assoc (a b c : Int) : sOr (sOr a b) c = sOr a (sOr b c) := by
  unfold sOr
  rw [← jI_of, ← jI_of, Int32.or_assoc]
theorem jI_sOr0 (a : Int) : jI (sOr a 0) = jI a := by
  unfold sOr
  rw [← jI_of]
  apply b_ext
  intro i hi
  rw [b_or, show jI 0 = 0 by decide, b_0, Bool.or_false]
theorem sSec_add {S : Sg} {D q y : Int} (hq : 0 ≤ q ∧ q < 6) : sSec (sU S 14 (6 * D + q) (S 14 (6 * D + q) + y)) D (-1) = sSec S D (-1) + y := by
  have key : ∀ n : Nat, n ≤ 6 → sSecTo (sU S 14 (6 * D + q) (S 14 (6 * D + q) + y)) D (-1) n = sSecTo S D (-1) n + (if q < n then y else 0) := by
    intro n
    induction n with
    | zero => intro _; unfold sSecTo; rw [if_neg (by omega)]; rfl
    | succ n ih =>
      intro hn
      unfold sSecTo
      rw [ih (by omega), if_pos (Or.inl rfl), if_pos (Or.inl rfl)]
      by_cases h : q = n
      · subst h; rw [sU_s, if_neg (by omega), if_pos (by omega)]; omega
      · rw [sU_i (by omega)]
        by_cases h2 : q < n
        · rw [if_pos h2, if_pos (by omega)]; omega
        · rw [if_neg h2, if_neg (by omega)]; omega
  unfold sSec
  rw [key 6 (by omega), if_pos (by omega)]
theorem sNw_add {cI cM : ClassId} {S : Sg} {D ts x q y : Int} {o a1 a2 : Nat} (hq : 0 ≤ q ∧ q < 6) : [(o, jj_o 4 [.ref a1, .ref a2, .int (jI 0), .int (jI (sSec S D (-1) + y)), .int (jI (sOr ts (sBit x)))]), (a1, jj_ai cI 6 (ju (wn 6 (fun j => S 14 (6 * D + j))) q (S 14 (6 * D + q) + y))), (a2, jj_aq cM 12 (fun _ => none))] = sNw cI cM (sU S 14 (6 * D + q) (S 14 (6 * D + q) + y)) D (sOr ts (sBit x)) o a1 a2 := by
  unfold sNw
  rw [sSec_add hq, wn_ju (g' := fun j => sU S 14 (6 * D + q) (S 14 (6 * D + q) + y) 14 (6 * D + j)) hq (fun j h1 h2 => by
    rw [sU_k]
    unfold ju
    by_cases h : j = q
    · rw [if_pos h, if_pos (by omega)]
    · rw [if_neg h, if_neg (by omega)])]
theorem sNw_0 {cI cM : ClassId} {S : Sg} {D ts : Int} {o a1 a2 : Nat} (h14 : ∀ i, 6 * D ≤ i → i < 6 * D + 6 → S 14 i = 0) (hts : ts = 0) : [(o, jj_o 4 [.ref a1, .ref a2, .int (jI 0), .int (jI 0), .int (jI 0)]), (a1, jj_ai cI 6 (fun _ => 0)), (a2, jj_aq cM 12 (fun _ => none))] = sNw cI cM S D ts o a1 a2 := by
  have hz : sSec S D (-1) = 0 := by
    have key : ∀ n : Nat, n ≤ 6 → sSecTo S D (-1) n = 0 := by
      intro n
      induction n with
      | zero => intro _; rfl
      | succ n ih => intro hn; unfold sSecTo; rw [ih (by omega), if_pos (Or.inl rfl), h14 _ (by omega) (by omega)]; rfl
    exact key 6 (by omega)
  unfold sNw
  rw [hz, hts, wn_0 (fun j h1 h2 => h14 _ (by omega) (by omega))]

abbrev rm_X4_addSpan : Room := { frames := 0, cells := 0, slots := 0, locals := 0 }
set_option maxRecDepth 100000 in
set_option maxHeartbeats 400000 in
theorem k4_addSpan {l : Launch} {D : va_G} {ac : Nat → ClassId} (hl : l.stackTraces = false) {S : Sg} {d ts x q y : Int} {o a1 a2 : Nat} {G0 : jj_G}  {G : jj_G} (hL : GL G0 (sNw (ac 0) (ac 4) S d ts o a1 a2) G) (hq : 0 ≤ q ∧ q < 6) : jj_C l D ac yX4_addSpan (.code yX4_addSpan cX4_addSpan 4 none) rm_X4_addSpan [.ref o, .int (jI x), .int (jI q), .int (jI y)] G (jj_pv (fun G' => GL G0 (sNw (ac 0) (ac 4) (sU S 14 (6 * d + q) (S 14 (6 * d + q) + y)) d (sOr ts (sBit x)) o a1 a2) G')) (jj_nx) := by
  refine jj_ofx (own := RX4) (lv0 := [some (.ref o), some (.int (jI x)), some (.int (jI q)), some (.int (jI y))]) hl (by decide +kernel) rfl rfl (Nat.le_of_ble_eq_true rfl) rfl ?_
  intro X B hN hl0 hdg hac hin
  subst hl0; subst hdg; subst hac
  have F := B.F

  refine jj_iload2 F dX4_addSpan_0 ?_
  refine jj_if_lt F (tgt := 45) dX4_addSpan_1 rfl (by omega) (fun c1 => by exfalso; omega) (fun c1 => ?_)
  refine jj_iload2 F dX4_addSpan_4 ?_
  refine jj_aload0 F dX4_addSpan_5 ?_
  refine jj_get F (hL.at (m := 0) rfl) cs_4 (by decide) fd_X4_9 rfl dX4_addSpan_6 ?_
  refine jj_alenI F (hL.at (m := 1) rfl) dX4_addSpan_9 ?_
  refine jj_icmp_ge F (tgt := 45) dX4_addSpan_10 rfl (by omega) (fun c10 => by exfalso; omega) (fun c10 => ?_)
  refine jj_aload0 F dX4_addSpan_13 ?_
  refine jj_get F (hL.at (m := 0) rfl) cs_4 (by decide) fd_X4_9 rfl dX4_addSpan_14 ?_
  refine jj_iload2 F dX4_addSpan_17 ?_
  refine jj_dup2 F rfl rfl dX4_addSpan_18 ?_
  refine c8_ald F (hL.at (m := 1) rfl) (by omega) rfl (by decide) dX4_addSpan_19 ?_
  refine jj_iload3 F dX4_addSpan_20 ?_
  refine jj_iadd F dX4_addSpan_21 ?_
  refine cg_iast F hL (m := 1) rfl (by omega) (by decide) rfl dX4_addSpan_22 (fun G hL => ?_)
  refine jj_aload0 F dX4_addSpan_23 ?_
  refine jj_dup F rfl dX4_addSpan_24 ?_
  refine jj_get F (hL.at (m := 0) rfl) cs_4 (by decide) fd_X4_21 rfl dX4_addSpan_25 ?_
  refine jj_iload3 F dX4_addSpan_28 ?_
  refine jj_iadd F dX4_addSpan_29 ?_
  refine cg_put F hL (m := 0) rfl cs_4 (by decide) fd_X4_21 rfl rfl rfl (Nat.le_of_ble_eq_true rfl) rfl dX4_addSpan_30 (fun G hL => ?_)
  refine jj_aload0 F dX4_addSpan_33 ?_
  refine jj_dup F rfl dX4_addSpan_34 ?_
  refine jj_get F (hL.at (m := 0) rfl) cs_4 (by decide) fd_X4_25 rfl dX4_addSpan_35 ?_
  refine jj_iconst F dX4_addSpan_38 ?_
  refine jj_iload1 F dX4_addSpan_39 ?_
  refine jj_ishl F dX4_addSpan_40 ?_
  refine jj_topi (jI_of _) ?_
  refine jj_ior F dX4_addSpan_41 ?_
  refine jj_topi (jI_of _) ?_
  refine cg_put F hL (m := 0) rfl cs_4 (by decide) fd_X4_25 rfl rfl rfl (Nat.le_of_ble_eq_true rfl) rfl dX4_addSpan_42 (fun G hL => ?_)
  exact jj_vret B dX4_addSpan_45 ⟨Nat.le_of_ble_eq_true rfl, Nat.le_of_ble_eq_true rfl⟩ (⟨rfl, hL.eq (sNw_add hq)⟩)
abbrev rm_X8_sideOfProgram : Room := { frames := 7, cells := 3, slots := 23, locals := 112 }
set_option maxRecDepth 100000 in
set_option maxHeartbeats 400000 in
theorem k8_sideOfProgram {l : Launch} {D : va_G} {ac : Nat → ClassId} (hl : l.stackTraces = false) {ad : Ad} {s e : Sg}  {G : jj_G} (hH : Has ad (cC ac ad s e) G) (hI1 : sI1 s) (hI2 : sI2 s) (h14 : ∀ i, 6 * s 13 0 ≤ i → i < 6 * s 13 0 + 6 → s 14 i = 0) (h15 : s 15 (s 13 0) = 0) : jj_C l D ac yX8_sideOfProgram (.code yX8_sideOfProgram cX8_sideOfProgram 8 (some (.object "MatrixHouse$Side"))) rm_X8_sideOfProgram [.ref (ad 0 0)] G (jj_pq (fun r G' => ∃ o a1 a2, r = some o ∧ GL G (sNw (ac 0) (ac 4) (sCutTo s (s 11 0).toNat) (s 13 0) (sCutTo s (s 11 0).toNat 15 (s 13 0)) o a1 a2) G')) (jj_nx) := by
  refine jj_ofx (own := RX8) (lv0 := [some (.ref (ad 0 0)), none, none, none, none, none, none, none]) hl (by decide +kernel) rfl rfl (Nat.le_of_ble_eq_true rfl) rfl ?_
  intro X B hN hl0 hdg hac hin
  subst hl0; subst hdg; subst hac
  have F := B.F

  have i1 := hI1.2.1
  have i11 := hI2.1
  obtain ⟨D, hD⟩ : ∃ D, D = s 13 0 := ⟨_, rfl⟩
  obtain ⟨A, hA⟩ : ∃ A, A = (s 11 0).toNat := ⟨_, rfl⟩
  rw [← hD] at h14 h15 B
  rw [← hA] at B
  refine jj_new F (k := 1) (n := 5) (fs := [.null, .null, .int (jI 0), .int (jI 0), .int (jI 0)]) cs_4 cl_X8_22 ins_4 ini_4 (fun j hj => match j, hj with | 0, _ => rfl | 1, _ => rfl | 2, _ => rfl | 3, _ => rfl | 4, _ => rfl | q + 5, h => absurd h (by omega)) ⟨Nat.le_of_ble_eq_true rfl, Nat.le_of_ble_eq_true rfl, Nat.le_of_ble_eq_true rfl, Nat.le_of_ble_eq_true rfl⟩ dX8_sideOfProgram_0 (fun q0 hq0 => ?_)
  have hL := GL.one hq0 (x := jj_o 4 [.null, .null, .int (jI 0), .int (jI 0), .int (jI 0)])
  refine jj_dup F rfl dX8_sideOfProgram_3 ?_
  refine jj_callNv B (k := 3) (n := 23) (k4_init F.tr hL) lk_X8_405 rfl ⟨Nat.le_of_ble_eq_true rfl, Nat.le_of_ble_eq_true rfl, Nat.le_of_ble_eq_true rfl, Nat.le_of_ble_eq_true rfl, Nat.le_of_ble_eq_true rfl⟩ ⟨Nat.le_of_ble_eq_true rfl, Nat.le_of_ble_eq_true rfl, Nat.le_of_ble_eq_true rfl, Nat.le_of_ble_eq_true rfl⟩ jj_tx0 dX8_sideOfProgram_4 (fun G1 hG => ?_)
  obtain ⟨a1, a2, hL⟩ := hG
  refine jj_astore1 F dX8_sideOfProgram_7 (hN _ (by decide)) rfl ?_
  refine jj_aload0 F dX8_sideOfProgram_8 ?_
  refine jj_get F ((hL.has hH).at (k := 0) (i := 0) cc_0) cs_8 (by decide) fd_X8_18 rfl dX8_sideOfProgram_9 ?_
  refine jj_get F ((hL.has hH).at (k := 4) (i := 0) cc_4) cs_1 (by decide) fd_X8_406 rfl dX8_sideOfProgram_12 ?_
  refine jj_astore2 F dX8_sideOfProgram_15 (hN _ (by decide)) rfl ?_
  refine jj_aload2 F dX8_sideOfProgram_16 ?_
  refine jj_alenQ F (fun _ => rfl) ((hL.has hH).at (k := 5) (i := 0) cc_5) dX8_sideOfProgram_17 ?_
  refine jj_istore3 F dX8_sideOfProgram_18 (hN _ (by decide)) rfl ?_
  refine jj_iconst F dX8_sideOfProgram_19 ?_
  refine jj_istore4 F dX8_sideOfProgram_20 (hN _ (by decide)) rfl ?_
  have loop : ∀ (n j : Nat) (x5 x6 x7 : Option Value) (G1 : jj_G), n + j = 6 → GL G (sNw (jj_ac X 0) (jj_ac X 4) (sCutTo s (min j A)) D (sCutTo s (min j A) 15 D) q0 a1 a2) G1 → jj_J X G1 3 23 22 [some (.ref (ad 0 0)), some (.ref q0), some (.ref (ad 5 0)), some (.int (jI 6)), some (.int (jI j)), x5, x6, x7] [] := by
    intro n
    induction n with
    | zero =>
      intro j x5 x6 x7 G1 hj hL
      refine jj_iload4 F dX8_sideOfProgram_22 ?_
      refine jj_iload3 F dX8_sideOfProgram_24 ?_
      refine jj_icmp_ge F (tgt := 95) dX8_sideOfProgram_25 rfl (by omega) (fun c25 => ?_) (fun c25 => by exfalso; omega)
      refine jj_aload1 F dX8_sideOfProgram_95 ?_
      exact jj_aret B (r := some q0) rfl dX8_sideOfProgram_96 ⟨Nat.le_of_ble_eq_true rfl, Nat.le_of_ble_eq_true rfl⟩ (⟨_, rfl, _, _, _, rfl, by rw [show min j A = A by omega] at hL; exact hL⟩)
    | succ n ih =>
      intro j x5 x6 x7 G1 hj hL
      refine jj_iload4 F dX8_sideOfProgram_22 ?_
      refine jj_iload3 F dX8_sideOfProgram_24 ?_
      refine jj_icmp_ge F (tgt := 95) dX8_sideOfProgram_25 rfl (by omega) (fun c25 => by exfalso; omega) (fun c25 => ?_)
      refine jj_aload2 F dX8_sideOfProgram_28 ?_
      refine jj_iload4 F dX8_sideOfProgram_29 ?_
      refine jj_ald F (fun _ => rfl) ((hL.has hH).at (k := 5) (i := 0) cc_5) (by omega) (by decide) dX8_sideOfProgram_31 ?_
      by_cases hq31 : (j : Int) < s 11 0
      · skip
        obtain ⟨t, ht⟩ : ∃ t, t = s 12 j := ⟨_, rfl⟩
        have htr := hI2.2 j (by omega) hq31
        rw [← ht] at htr
        have g := hI1.tape htr
        rw [show min j A = j by omega] at hL
        rw [show pRow ad s j = some (ad 16 t) by rw [ht]; exact pRow_at ⟨by omega, hq31⟩]
        refine jj_qv (rfl) ?_
        refine jj_astore5 F dX8_sideOfProgram_32 (hN _ (by decide)) rfl ?_
        refine jj_aload5 F dX8_sideOfProgram_34 ?_
        refine jj_ifnull F (r := some (ad 16 t)) (tgt := 89) dX8_sideOfProgram_36 rfl (fun h => by cases h) (fun _ _ => ?_)
        refine jj_iconst F dX8_sideOfProgram_39 ?_
        refine jj_istore6 F dX8_sideOfProgram_40 (hN _ (by decide)) rfl ?_
        obtain ⟨S0, hS0⟩ : ∃ S0, S0 = sCutTo s j := ⟨_, rfl⟩
        obtain ⟨Sx, hSx⟩ : ∃ Sx, Sx = sU S0 15 D (sOr (S0 15 D) (sTakes s t)) := ⟨_, rfl⟩
        rw [← hS0] at hL
        have hnx : sCutTo s (j + 1) = sCutIn s Sx t (s 7 t).toNat := by
          show sCutIn s (sU (sCutTo s j) 15 (s 13 0) _) (s 12 j) _ = _
          rw [← ht, ← hS0, ← hD, ← hSx]
        have hts : sCutTo s (j + 1) 15 D = sOr (S0 15 D) (sTakes s t) := by rw [hnx, sCutIn_n (by decide), hSx, sU_s]
        have hL2 : GL G (sNw (jj_ac X 0) (jj_ac X 4) (sCutIn s Sx t 0) D (sOr (S0 15 D) (sTakesTo s t 0)) q0 a1 a2) G1 := hL.eq (by
          show sNw (jj_ac X 0) (jj_ac X 4) (S0) D (S0 15 D) q0 a1 a2 = sNw (jj_ac X 0) (jj_ac X 4) (Sx) D (sOr (S0 15 D) 0) q0 a1 a2
          unfold sNw
          rw [jI_sOr0, hSx, sSec_c (s := S0) (show sU S0 15 D _ 14 = S0 14 by rw [sU_n (by decide)]), sU_n (k := 15) (k' := 14) (by decide)])
        have loop2 : ∀ (m i : Nat) (x7 : Option Value) (G1 : jj_G), m + i = (s 7 t).toNat → GL G (sNw (jj_ac X 0) (jj_ac X 4) (sCutIn s Sx t i) D (sOr (S0 15 D) (sTakesTo s t i)) q0 a1 a2) G1 → jj_J X G1 3 23 42 [some (.ref (ad 0 0)), some (.ref q0), some (.ref (ad 5 0)), some (.int (jI 6)), some (.int (jI j)), some (.ref (ad 16 t)), some (.int (jI i)), x7] [] := by
          intro m
          induction m with
          | zero =>
            intro i x7 G1 hi hL
            have e1 : (i : Int) = s 7 t := by omega
            refine jj_iload6 F dX8_sideOfProgram_42 ?_
            refine jj_aload5 F dX8_sideOfProgram_44 ?_
            refine jj_get F ((hL.has hH).at (k := 16) (i := t) (if_pos (by omega))) cs_7 (by decide) fd_X8_90 rfl dX8_sideOfProgram_46 ?_
            refine jj_icmp_ge F (tgt := 89) dX8_sideOfProgram_49 rfl (by omega) (fun c49 => ?_) (fun c49 => by exfalso; omega)
            refine jj_iinc4 F dX8_sideOfProgram_89 (hN _ (by decide)) rfl ?_
            refine jj_goto F (tgt := 22) dX8_sideOfProgram_92 rfl ?_
            have hL3 : GL G (sNw (jj_ac X 0) (jj_ac X 4) (sCutTo s (j + 1)) D (sCutTo s (j + 1) 15 D) q0 a1 a2) G1 := hL.eq (by rw [hts, hnx, show (s 7 t).toNat = i by omega]; show _ = sNw (jj_ac X 0) (jj_ac X 4) (sCutIn s Sx t i) D (sOr (S0 15 D) (sTakesTo s t (s 7 t).toNat)) q0 a1 a2; rw [show (s 7 t).toNat = i by omega])
            have ih1 := fun x5 x6 x7 => ih (j + 1) x5 x6 x7 G1 (by omega) (by rw [show min (j + 1) A = j + 1 by omega]; exact hL3)
            rw [show (((j + 1 : Nat)) : Int) = (j : Int) + 1 from rfl] at ih1
            exact ih1 _ _ _
          | succ m ih2 =>
            intro i x7 G1 hi hL
            have e1 : (i : Int) < s 7 t := by omega
            have e5 := hI1.span htr (show 0 ≤ (i : Int) ∧ (i : Int) < s 7 t by omega)
            refine jj_iload6 F dX8_sideOfProgram_42 ?_
            refine jj_aload5 F dX8_sideOfProgram_44 ?_
            refine jj_get F ((hL.has hH).at (k := 16) (i := t) (if_pos (by omega))) cs_7 (by decide) fd_X8_90 rfl dX8_sideOfProgram_46 ?_
            refine jj_icmp_ge F (tgt := 89) dX8_sideOfProgram_49 rfl (by omega) (fun c49 => by exfalso; omega) (fun c49 => ?_)
            refine jj_aload5 F dX8_sideOfProgram_52 ?_
            refine jj_iload6 F dX8_sideOfProgram_54 ?_
            refine jj_callVr B (k := 3) (n := 23) (k7_takeOf F.tr (hL.has hH) htr (by omega)) lk_X8_409 ((hL.has hH).at (k := 16) (i := t) (if_pos (by omega))) cs_7 rfl rfl ⟨Nat.le_of_ble_eq_true rfl, Nat.le_of_ble_eq_true rfl, Nat.le_of_ble_eq_true rfl, Nat.le_of_ble_eq_true rfl, Nat.le_of_ble_eq_true rfl⟩ ⟨Nat.le_of_ble_eq_true rfl, Nat.le_of_ble_eq_true rfl, Nat.le_of_ble_eq_true rfl, Nat.le_of_ble_eq_true rfl⟩ jj_tx0 dX8_sideOfProgram_56 ?_
            refine jj_istore7 F dX8_sideOfProgram_59 (hN _ (by decide)) rfl ?_
            refine jj_aload1 F dX8_sideOfProgram_61 ?_
            refine jj_iload7 F dX8_sideOfProgram_62 ?_
            refine jj_aload0 F dX8_sideOfProgram_64 ?_
            refine jj_iload7 F dX8_sideOfProgram_65 ?_
            refine jj_callVq B (k := 3) (n := 23) (k8_tapeAt_in F.tr (hL.has hH) i1.2 (t := s 8 (20 * t + i)) (by omega)) lk_X8_73 ((hL.has hH).at (k := 0) (i := 0) cc_0) cs_8 rfl rfl ⟨Nat.le_of_ble_eq_true rfl, Nat.le_of_ble_eq_true rfl, Nat.le_of_ble_eq_true rfl, Nat.le_of_ble_eq_true rfl, Nat.le_of_ble_eq_true rfl⟩ ⟨Nat.le_of_ble_eq_true rfl, Nat.le_of_ble_eq_true rfl, Nat.le_of_ble_eq_true rfl, Nat.le_of_ble_eq_true rfl⟩ jj_tx0 dX8_sideOfProgram_67 (fun r G2 h => ?_)
            obtain ⟨rfl, rfl⟩ := h
            refine jj_get F ((hL.has hH).at (k := 16) (i := s 8 (20 * t + i)) (if_pos (by omega))) cs_7 (by decide) fd_X8_412 rfl dX8_sideOfProgram_70 ?_
            refine jj_aload5 F dX8_sideOfProgram_73 ?_
            refine jj_iload6 F dX8_sideOfProgram_75 ?_
            refine jj_callVr B (k := 3) (n := 23) (k7_lengthOf F.tr (hL.has hH) htr (by omega)) lk_X8_415 ((hL.has hH).at (k := 16) (i := t) (if_pos (by omega))) cs_7 rfl rfl ⟨Nat.le_of_ble_eq_true rfl, Nat.le_of_ble_eq_true rfl, Nat.le_of_ble_eq_true rfl, Nat.le_of_ble_eq_true rfl, Nat.le_of_ble_eq_true rfl⟩ ⟨Nat.le_of_ble_eq_true rfl, Nat.le_of_ble_eq_true rfl, Nat.le_of_ble_eq_true rfl, Nat.le_of_ble_eq_true rfl⟩ jj_tx0 dX8_sideOfProgram_77 ?_
            refine jj_callVv B (k := 3) (n := 23) (k4_addSpan F.tr hL (by have := (hI1.tape (t := s 8 (20 * t + i)) (by omega)).2.2.2.2.1; omega)) lk_X8_418 (hL.at (m := 0) rfl) cs_4 rfl rfl ⟨Nat.le_of_ble_eq_true rfl, Nat.le_of_ble_eq_true rfl, Nat.le_of_ble_eq_true rfl, Nat.le_of_ble_eq_true rfl, Nat.le_of_ble_eq_true rfl⟩ ⟨Nat.le_of_ble_eq_true rfl, Nat.le_of_ble_eq_true rfl, Nat.le_of_ble_eq_true rfl, Nat.le_of_ble_eq_true rfl⟩ jj_tx0 dX8_sideOfProgram_80 (fun G1 hL => ?_)
            refine jj_iinc6 F dX8_sideOfProgram_83 (hN _ (by decide)) rfl ?_
            refine jj_goto F (tgt := 42) dX8_sideOfProgram_86 rfl ?_
            rw [sOr_assoc] at hL
            have ih1 := fun x7 => ih2 (i + 1) x7 G1 (by omega) (by rw [hD] at hL ⊢; exact hL)
            rw [show (((i + 1 : Nat)) : Int) = (i : Int) + 1 from rfl] at ih1
            exact ih1 _
        exact loop2 (s 7 t).toNat 0 _ G1 (by omega) hL2
      · skip
        refine jj_qn (pRow_no (fun h => hq31 h.2)) ?_
        refine jj_nstore5 F dX8_sideOfProgram_32 (hN _ (by decide)) rfl ?_
        refine jj_nload5 F dX8_sideOfProgram_34 ?_
        refine jj_ifnull F (r := none) (tgt := 89) dX8_sideOfProgram_36 rfl (fun _ => ?_) (fun _ h => by cases h)
        refine jj_iinc4 F dX8_sideOfProgram_89 (hN _ (by decide)) rfl ?_
        refine jj_goto F (tgt := 22) dX8_sideOfProgram_92 rfl ?_
        have ih1 := fun x5 x6 x7 => ih (j + 1) x5 x6 x7 G1 (by omega)
        rw [show min (j + 1) A = min j A by omega] at ih1
        rw [show (((j + 1 : Nat)) : Int) = (j : Int) + 1 from rfl] at ih1
        exact ih1 _ _ _ hL
  exact loop 6 0 none none none G1 (by omega) (hL.eq (by rw [show min 0 A = 0 by omega]; exact sNw_0 (fun i h1 h2 => by show sU s 37 0 0 14 i = 0; rw [sU_n (by decide)]; exact h14 i h1 h2) (by show sU s 37 0 0 15 D = 0; rw [sU_n (by decide)]; exact h15)))
