theorem Rep.grow2 {ad : Ad} {C : Cm} {G G' : jj_G} {q1 q2 : Nat} {x1 x2 : va_E} (hR : Rep ad C G) (hL : GL G [(q1, x1), (q2, x2)] G') {k1 k2 : Nat} {i1 i2 : Int} (hc1 : C k1 i1 = none) (hc2 : C k2 i2 = none) (hk : k2 ≠ k1) : Rep (aU (aU ad k1 i1 q1) k2 i2 q2) (cU (cU C k1 i1 x1) k2 i2 x2) G' :=
  (hR.new hc1 hL.first x1).grow1 hL.peel (by rw [cU_k hk]; exact hc2)
theorem Rep.grow3 {ad : Ad} {C : Cm} {G G' : jj_G} {q1 q2 q3 : Nat} {x1 x2 x3 : va_E} (hR : Rep ad C G) (hL : GL G [(q1, x1), (q2, x2), (q3, x3)] G') {k1 k2 k3 : Nat} {i1 i2 i3 : Int} (hc1 : C k1 i1 = none) (hc2 : C k2 i2 = none) (hc3 : C k3 i3 = none) (hk : k2 ≠ k1 ∧ k3 ≠ k1 ∧ k3 ≠ k2) : Rep (aU (aU (aU ad k1 i1 q1) k2 i2 q2) k3 i3 q3) (cU (cU (cU C k1 i1 x1) k2 i2 x2) k3 i3 x3) G' :=
  (hR.new hc1 hL.first x1).grow2 hL.peel (by rw [cU_k hk.1]; exact hc2) (by rw [cU_k hk.2.1]; exact hc3) hk.2.2
theorem Rep.grow4 {ad : Ad} {C : Cm} {G G' : jj_G} {q1 q2 q3 q4 : Nat} {x1 x2 x3 x4 : va_E} (hR : Rep ad C G) (hL : GL G [(q1, x1), (q2, x2), (q3, x3), (q4, x4)] G') {k1 k2 k3 k4 : Nat} {i1 i2 i3 i4 : Int} (hc1 : C k1 i1 = none) (hc2 : C k2 i2 = none) (hc3 : C k3 i3 = none) (hc4 : C k4 i4 = none) (hk : k2 ≠ k1 ∧ k3 ≠ k1 ∧ k4 ≠ k1) (hk2 : k3 ≠ k2 ∧ k4 ≠ k2 ∧ k4 ≠ k3) : Rep (aU (aU (aU (aU ad k1 i1 q1) k2 i2 q2) k3 i3 q3) k4 i4 q4) (cU (cU (cU (cU C k1 i1 x1) k2 i2 x2) k3 i3 x3) k4 i4 x4) G' :=
  (hR.new hc1 hL.first x1).grow3 hL.peel (by rw [cU_k hk.1]; exact hc2) (by rw [cU_k hk.2.1]; exact hc3) (by rw [cU_k hk.2.2]; exact hc4) hk2
theorem rRow_grow {ad ad' : Ad} {k q : Nat} {n : Int} (hn : 0 ≤ n) (h : ∀ j, 0 ≤ j → j < n → ad' k j = ad k j) (h0 : ad' k n = q) : rRow ad' k (n + 1) = ju (rRow ad k n) n (some q) := by
  funext j
  unfold rRow ju
  by_cases hj : j = n
  · subst hj; rw [if_pos (by omega), if_pos rfl, h0]
  · rw [if_neg hj]
    show _ = (if 0 ≤ j ∧ j < n then some (ad k j) else none)
    by_cases h2 : 0 ≤ j ∧ j < n
    · rw [if_pos h2, if_pos (by omega), h j h2.1 h2.2]
    · rw [if_neg h2, if_neg (by omega)]
theorem sDiscs_add {s : Sg} {k i : Int} (h : 0 ≤ s 22 0) : sDiscs (sU (sU s 23 (s 22 0) k) 22 0 (s 22 0 + 1)) i = sDiscs s i + (if k = i then 1 else 0) := by
  have key : ∀ n : Nat, (n : Int) ≤ s 22 0 → sDiscsTo (sU (sU s 23 (s 22 0) k) 22 0 (s 22 0 + 1)) i n = sDiscsTo s i n := by
    intro n
    induction n with
    | zero => intro _; rfl
    | succ n ih => intro hn; simp only [sDiscsTo]; rw [ih (by omega), sU_n (k := 22) (k' := 23) (by decide), sU_i (by omega)]
  unfold sDiscs
  rw [sU_s, show (s 22 0 + 1).toNat = (s 22 0).toNat + 1 by omega]
  simp only [sDiscsTo]
  rw [key _ (by omega), sU_n (k := 22) (k' := 23) (by decide), show (((s 22 0).toNat : Nat) : Int) = s 22 0 by omega, sU_s]
section DK
variable {ac : Nat → ClassId} {ad : Ad} {s e : Sg} {k : Int} {q a1 : Nat} {C : Cm}
theorem dk_23 (hC : ∀ i, i ≠ k → C 23 i = if sMk s i then some (jj_o 6 (fStamp s i)) else none) (h22 : 0 ≤ s 22 0) (hk : sMk s k) : ∀ i, cC ac (aU (aU ad 24 (s 22 0) q) 25 (s 22 0) a1) (sU (sU s 23 (s 22 0) k) 22 0 (s 22 0 + 1)) e 23 i = cU C 23 k (jj_o 6 ((fStamp s k).set 6 (.int (jI (sDiscs s k + 1))))) 23 i :=
  ki (C := C) hC hk (congrArg (jj_o 6) (by
    show ([.int (jI (s 16 k)), .int (jI (s 17 k)), .int (jI (s 20 k)), .int (jI (s 21 k)), .int (jI (s 18 k)), .int (jI (s 19 k)), .int (jI (sDiscs (sU (sU s 23 (s 22 0) k) 22 0 (s 22 0 + 1)) k))] : List Value) = _
    rw [sDiscs_add h22, if_pos rfl]; rfl)) (fun i _ => Iff.rfl) (fun i hi _ => congrArg (jj_o 6) (by
    show ([.int (jI (s 16 i)), .int (jI (s 17 i)), .int (jI (s 20 i)), .int (jI (s 21 i)), .int (jI (s 18 i)), .int (jI (s 19 i)), .int (jI (sDiscs (sU (sU s 23 (s 22 0) k) 22 0 (s 22 0 + 1)) i))] : List Value) = _
    rw [sDiscs_add h22, if_neg (fun h => hi h.symm), Int.add_zero]))
theorem dk_24 (h22 : 0 ≤ s 22 0) (h24 : s 24 (s 22 0) = 0) {d : Int} (hd : k / 12 = d) : ∀ i, cC ac (aU (aU ad 24 (s 22 0) q) 25 (s 22 0) a1) (sU (sU s 23 (s 22 0) k) 22 0 (s 22 0 + 1)) e 24 i = cU (cC ac ad s e) 24 (s 22 0) (jj_o 0 [.ref (ad 20 d), .ref a1, .int (jI 0)]) 24 i :=
  ki (C := cC ac ad s e) (fun i _ => rfl) (show 0 ≤ s 22 0 ∧ s 22 0 < s 22 0 + 1 by omega) (congrArg (jj_o 0) (by
    show ([.ref (ad 20 (sU s 23 (s 22 0) k 23 (s 22 0) / 12)), .ref (aU (aU ad 24 (s 22 0) q) 25 (s 22 0) a1 25 (s 22 0)), .int (jI (s 24 (s 22 0)))] : List Value) = _
    rw [sU_s, aU_s, h24, hd])) (fun i hi => (show (0 ≤ i ∧ i < s 22 0 + 1) ↔ (0 ≤ i ∧ i < s 22 0) by omega)) (fun i hi _ => congrArg (jj_o 0) (by
    show ([.ref (ad 20 (sU s 23 (s 22 0) k 23 i / 12)), .ref (aU (aU ad 24 (s 22 0) q) 25 (s 22 0) a1 25 i), .int (jI (s 24 i))] : List Value) = _
    rw [sU_i hi, aU_i hi]; rfl))
theorem dk_25 (hC : ∀ i, i ≠ s 22 0 → C 25 i = if 0 ≤ i ∧ i < s 22 0 then some (jj_ai (ac 0) 8 (wn 8 (fun j => s 25 (8 * i + j)))) else none) (h22 : 0 ≤ s 22 0) (h25 : ∀ i, 8 * s 22 0 ≤ i → i < 8 * s 22 0 + 8 → s 25 i = 0) : ∀ i, cC ac (aU (aU ad 24 (s 22 0) q) 25 (s 22 0) a1) (sU (sU s 23 (s 22 0) k) 22 0 (s 22 0 + 1)) e 25 i = cU C 25 (s 22 0) (jj_ai (ac 0) 8 (fun _ => 0)) 25 i :=
  ki (C := C) hC (show 0 ≤ s 22 0 ∧ s 22 0 < s 22 0 + 1 by omega) (congrArg (jj_ai (ac 0) 8) (wn_0 (fun j h1 h2 => h25 _ (by omega) (by omega)))) (fun i hi => (show (0 ≤ i ∧ i < s 22 0 + 1) ↔ (0 ≤ i ∧ i < s 22 0) by omega)) (fun i hi _ => rfl)
end DK

abbrev rm_X8_disc : Room := { frames := 7, cells := 5, slots := 40, locals := 112 }
set_option maxRecDepth 100000 in
set_option maxHeartbeats 400000 in
theorem x8_disc {l : Launch} {D : va_G} {ac : Nat → ClassId} (hl : l.stackTraces = false) {ad : Ad} {s e : Sg} {d m e1 : Int}  {G : jj_G} (hR : Rep ad (cC ac ad s e) G) {c : Int} (hI : sInv s c) (hd : jR d) (hm : jR m) (he1 : jR e1) : jj_C l D ac yX8_disc (.code yX8_disc cX8_disc 7 (some .int)) rm_X8_disc [.ref (ad 0 0), .int (jI d), .int (jI m), .int (jI e1)] G (jj_pi (fun r G' => t_disc s d m e1 = 0 ∧ r = r_disc s d m e1 ∧ ∃ ad', ad' 0 0 = ad 0 0 ∧ Rep ad' (cC ac ad' (n_disc s d m e1) (e)) G')) (jp2 (t_disc s d m e1) eB eS) := by
  refine jj_ofx (own := RX8) (lv0 := [some (.ref (ad 0 0)), some (.int (jI d)), some (.int (jI m)), some (.int (jI e1)), none, none, none]) hl (by decide +kernel) rfl rfl (Nat.le_of_ble_eq_true rfl) rfl ?_
  intro X B hN hl0 hdg hac hin
  subst hl0; subst hdg; subst hac
  have F := B.F

  obtain ⟨hI1, hI2, hI3, hI4, hI5, hI6, hI7, hc⟩ := hI
  have i0 := hI1.1
  have i1 := hI1.2.1
  have i3 := hI3.1
  have i22 := hI5.1
  refine jj_aload0 F dX8_disc_0 ?_
  refine jj_iload1 F dX8_disc_1 ?_
  refine jj_callVq B (k := 1) (n := 6) (k8_sideAt F.tr hR.1 (by omega) i3.2) lk_X8_187 (hR.at (k := 0) (i := 0) cc_0) cs_8 rfl rfl ⟨Nat.le_of_ble_eq_true rfl, Nat.le_of_ble_eq_true rfl, Nat.le_of_ble_eq_true rfl, Nat.le_of_ble_eq_true rfl, Nat.le_of_ble_eq_true rfl⟩ ⟨Nat.le_of_ble_eq_true rfl, Nat.le_of_ble_eq_true rfl, Nat.le_of_ble_eq_true rfl, Nat.le_of_ble_eq_true rfl⟩ (fun E h => ⟨rfl, by obtain ⟨rfl, hh⟩ := h; exact (Or.inl ⟨(by unfold t_disc; (try rw [← hk]); (repeat (first | rw [if_pos (by omega)] | rw [if_neg (by omega)]))), rfl⟩)⟩) dX8_disc_2 (fun r G h => ?_)
  obtain ⟨rfl, hrg, rfl⟩ := h
  refine jj_astore4 F dX8_disc_5 (hN _ (by decide)) rfl ?_
  refine jj_aload4 F dX8_disc_7 ?_
  refine jj_iload2 F dX8_disc_9 ?_
  refine jj_iload3 F dX8_disc_10 ?_
  refine jj_callSi B (k := 2) (n := 12) (k8_placeOf F.tr (by omega) (by omega)) lk_X8_197 rfl ⟨Nat.le_of_ble_eq_true rfl, Nat.le_of_ble_eq_true rfl, Nat.le_of_ble_eq_true rfl, Nat.le_of_ble_eq_true rfl, Nat.le_of_ble_eq_true rfl⟩ ⟨Nat.le_of_ble_eq_true rfl, Nat.le_of_ble_eq_true rfl, Nat.le_of_ble_eq_true rfl, Nat.le_of_ble_eq_true rfl⟩ (fun E h => ⟨rfl, by obtain ⟨rfl, hh⟩ := h; exact (Or.inl ⟨(by unfold t_disc; (try rw [← hk]); (repeat (first | rw [if_pos (by omega)] | rw [if_neg (by omega)]))), rfl⟩)⟩) dX8_disc_11 (fun r G h => ?_)
  obtain ⟨rfl, hpl, rfl⟩ := h
  refine jj_callVq B (k := 2) (n := 12) (k4_stamperAt F.tr hR.1 (by omega) (by omega)) lk_X8_200 (hR.at (k := 20) (i := d) (if_pos (show 0 ≤ d ∧ d < s 13 0 by omega))) cs_4 rfl rfl ⟨Nat.le_of_ble_eq_true rfl, Nat.le_of_ble_eq_true rfl, Nat.le_of_ble_eq_true rfl, Nat.le_of_ble_eq_true rfl, Nat.le_of_ble_eq_true rfl⟩ ⟨Nat.le_of_ble_eq_true rfl, Nat.le_of_ble_eq_true rfl, Nat.le_of_ble_eq_true rfl, Nat.le_of_ble_eq_true rfl⟩ jj_tx0 dX8_disc_14 (fun r G h => ?_)
  obtain ⟨rfl, rfl⟩ := h
  obtain ⟨k, hk⟩ : ∃ k, k = sSt d m e1 := ⟨_, rfl⟩
  have hk2 : 12 * d + (4 * m + e1) = k := by rw [hk]; unfold sSt; omega
  have hkr : 0 ≤ k ∧ k < 120 := by omega
  have g := hI4.1 k hkr.1 hkr.2
  have g2 := hI4.2 k hkr.1 hkr.2
  have g3 := sDiscs_0 s k
  by_cases hq14 : s 16 k = -1
  · skip
    refine jj_qn (mRow_n hk2 hq14) ?_
    refine jj_nstore5 F dX8_disc_17 (hN _ (by decide)) rfl ?_
    refine jj_nload5 F dX8_disc_19 ?_
    refine jj_ifnull F (r := none) (tgt := 33) dX8_disc_21 rfl (fun _ => ?_) (fun _ h => by cases h)
    exact jj_throwSW B th_3 sr_X8_284 rfl (Or.inr ⟨(by unfold t_disc; (try rw [← hk]); (repeat (first | rw [if_pos (by omega)] | rw [if_neg (by omega)]))), rfl⟩) ⟨Nat.le_of_ble_eq_true rfl, Nat.le_of_ble_eq_true rfl, Nat.le_of_ble_eq_true rfl, Nat.le_of_ble_eq_true rfl⟩ dX8_disc_33 dX8_disc_36 dX8_disc_37 dX8_disc_40 dX8_disc_43
  · skip
    refine jj_qv (mRow_k (by omega) hk2 hq14) ?_
    refine jj_astore5 F dX8_disc_17 (hN _ (by decide)) rfl ?_
    refine jj_aload5 F dX8_disc_19 ?_
    refine jj_ifnull F (r := some (ad 23 k)) (tgt := 33) dX8_disc_21 rfl (fun h => by cases h) (fun _ _ => ?_)
    refine jj_aload5 F dX8_disc_24 ?_
    refine jj_callVr B (k := 2) (n := 12) (k6_unnamed F.tr hR.1 ⟨hkr, by assumption⟩) lk_X8_272 (hR.at (k := 23) (i := k) (if_pos (show sMk s k from ⟨hkr, by assumption⟩))) cs_6 rfl rfl ⟨Nat.le_of_ble_eq_true rfl, Nat.le_of_ble_eq_true rfl, Nat.le_of_ble_eq_true rfl, Nat.le_of_ble_eq_true rfl, Nat.le_of_ble_eq_true rfl⟩ ⟨Nat.le_of_ble_eq_true rfl, Nat.le_of_ble_eq_true rfl, Nat.le_of_ble_eq_true rfl, Nat.le_of_ble_eq_true rfl⟩ jj_tx0 dX8_disc_26 ?_
    refine jj_iconst F dX8_disc_29 ?_
    refine jj_icmp_ge F (tgt := 44) dX8_disc_30 rfl (by omega) (fun c30 => ?_) (fun c30 => ?_)
    · skip
      refine jj_aload0 F dX8_disc_44 ?_
      refine jj_get F (hR.at (k := 0) (i := 0) cc_0) cs_8 (by decide) fd_X8_286 rfl dX8_disc_45 ?_
      refine jj_istore6 F dX8_disc_48 (hN _ (by decide)) rfl ?_
      refine jj_iload6 F dX8_disc_50 ?_
      refine jj_if_lt F (tgt := 65) dX8_disc_52 rfl (by omega) (fun c52 => by exfalso; omega) (fun c52 => ?_)
      refine jj_iload6 F dX8_disc_55 ?_
      refine jj_aload0 F dX8_disc_57 ?_
      refine jj_get F (hR.at (k := 0) (i := 0) cc_0) cs_8 (by decide) fd_X8_30 rfl dX8_disc_58 ?_
      refine jj_alenQ F (fun _ => rfl) (hR.at (k := 3) (i := 0) cc_3) dX8_disc_61 ?_
      refine jj_icmp_lt F (tgt := 76) dX8_disc_62 rfl (by omega) (fun c62 => ?_) (fun c62 => ?_)
      · skip
        refine jj_aload0 F dX8_disc_76 ?_
        refine jj_get F (hR.at (k := 0) (i := 0) cc_0) cs_8 (by decide) fd_X8_30 rfl dX8_disc_77 ?_
        refine jj_iload6 F dX8_disc_80 ?_
        refine jj_new F (k := 3) (n := 15) (fs := [.null, .null, .int (jI 0)]) cs_0 cl_X8_28 ins_0 ini_0 (fun j hj => match j, hj with | 0, _ => rfl | 1, _ => rfl | 2, _ => rfl | q + 3, h => absurd h (by omega)) ⟨Nat.le_of_ble_eq_true rfl, Nat.le_of_ble_eq_true rfl, Nat.le_of_ble_eq_true rfl, Nat.le_of_ble_eq_true rfl⟩ dX8_disc_82 (fun q82 hq82 => ?_)
        have hL := GL.one hq82 (x := jj_o 0 [.null, .null, .int (jI 0)])
        refine jj_dup F rfl dX8_disc_85 ?_
        refine jj_aload4 F dX8_disc_86 ?_
        refine jj_callIv B (k := 4) (n := 23) (k0_init F.tr hL) lk_X8_291 rfl ⟨Nat.le_of_ble_eq_true rfl, Nat.le_of_ble_eq_true rfl, Nat.le_of_ble_eq_true rfl, Nat.le_of_ble_eq_true rfl, Nat.le_of_ble_eq_true rfl⟩ ⟨Nat.le_of_ble_eq_true rfl, Nat.le_of_ble_eq_true rfl, Nat.le_of_ble_eq_true rfl, Nat.le_of_ble_eq_true rfl⟩ jj_tx0 dX8_disc_88 (fun G1 hG => ?_)
        obtain ⟨a1, hL⟩ := hG
        have hR := hR.grow2 hL (k1 := 24) (i1 := s 22 0) (k2 := 25) (i2 := s 22 0) (if_neg (by omega)) (if_neg (by omega)) (by decide)
        refine c8_ast F (ad := (aU (aU ad 24 (s 22 0) q82) 25 (s 22 0) a1)) (fun _ => rfl) hR (k := 3) (i := 0) ((cU_k (by decide)).trans ((cU_k (by decide)).trans cc_3)) (hL.at (m := 0) rfl) cs_0 (by omega) (by decide) dX8_disc_91 (fun G hR => ?_)
        refine jj_aload0 F dX8_disc_92 ?_
        refine jj_dup F rfl dX8_disc_93 ?_
        refine jj_get F (hR.at (k := 0) (i := 0) ((cU_k (by decide)).trans ((cU_k (by decide)).trans ((cU_k (by decide)).trans cc_0)))) cs_8 (by decide) fd_X8_286 rfl dX8_disc_94 ?_
        refine jj_iconst F dX8_disc_97 ?_
        refine jj_iadd F dX8_disc_98 ?_
        refine c8_put F (ad := (aU (aU ad 24 (s 22 0) q82) 25 (s 22 0) a1)) hR (k := 0) (i := 0) ((cU_k (by decide)).trans ((cU_k (by decide)).trans ((cU_k (by decide)).trans cc_0))) cs_8 (by decide) fd_X8_286 rfl rfl rfl (Nat.le_of_ble_eq_true rfl) dX8_disc_99 (fun G hR => ?_)
        refine jj_aload5 F dX8_disc_102 ?_
        refine jj_dup F rfl dX8_disc_104 ?_
        refine jj_get F (hR.at (k := 23) (i := k) ((cU_k (by decide)).trans ((cU_k (by decide)).trans ((cU_k (by decide)).trans ((cU_k (by decide)).trans (if_pos (show sMk s k from ⟨hkr, by assumption⟩))))))) cs_6 (by decide) fd_X8_294 rfl dX8_disc_105 ?_
        refine jj_iconst F dX8_disc_108 ?_
        refine jj_iadd F dX8_disc_109 ?_
        refine c8_put F (ad := (aU (aU ad 24 (s 22 0) q82) 25 (s 22 0) a1)) hR (k := 23) (i := k) ((cU_k (by decide)).trans ((cU_k (by decide)).trans ((cU_k (by decide)).trans ((cU_k (by decide)).trans (if_pos (show sMk s k from ⟨hkr, by assumption⟩)))))) cs_6 (by decide) fd_X8_294 rfl rfl rfl (Nat.le_of_ble_eq_true rfl) dX8_disc_110 (fun G hR => ?_)
        refine jj_iload6 F dX8_disc_113 ?_
        have htt : t_disc s d m e1 = 0 := by unfold t_disc; (try rw [← hk]); (repeat (first | rw [if_pos (by omega)] | rw [if_neg (by omega)]))
        have hR := hR.congr (C' := cC (jj_ac X) (aU (aU ad 24 (s 22 0) q82) 25 (s 22 0) a1) (sU (sU s 23 (s 22 0) k) 22 0 (s 22 0 + 1)) (e)) (kcases (fun i => by rw [cU_k (k := 23) (k' := 0) (by decide)]; exact kz (fun i hi => by simp [cU, cC, hi]) (rfl) i) (fun i => kc_1 (ac := jj_ac X) (ad := (aU (aU ad 24 (s 22 0) q82) 25 (s 22 0) a1)) (s := s) (e := (e)) (s' := (sU (sU s 23 (s 22 0) k) 22 0 (s 22 0 + 1))) (e' := (e)) rfl i) (fun i => kc_2 (ac := jj_ac X) (ad := (aU (aU ad 24 (s 22 0) q82) 25 (s 22 0) a1)) (s := s) (e := (e)) (s' := (sU (sU s 23 (s 22 0) k) 22 0 (s 22 0 + 1))) (e' := (e)) rfl i) (fun i => by rw [cU_k (k := 23) (k' := 3) (by decide), cU_k (k := 0) (k' := 3) (by decide)]; exact kz (fun i hi => by simp [cU, cC, hi]) (congrArg (jj_aq (jj_ac X 5) 20) (rRow_grow (by omega) (fun j h1 h2 => by rw [aU_k (by decide), aU_i (by omega)]) (by rw [aU_k (by decide), aU_s]))) i) (fun i => kc_4 (ac := jj_ac X) (ad := (aU (aU ad 24 (s 22 0) q82) 25 (s 22 0) a1)) (s := s) (e := (e)) (s' := (sU (sU s 23 (s 22 0) k) 22 0 (s 22 0 + 1))) (e' := (e)) rfl i) (fun i => kc_5 (ac := jj_ac X) (ad := (aU (aU ad 24 (s 22 0) q82) 25 (s 22 0) a1)) (s := s) (e := (e)) (s' := (sU (sU s 23 (s 22 0) k) 22 0 (s 22 0 + 1))) (e' := (e)) rfl rfl i) (fun i => kc_6 (ac := jj_ac X) (ad := (aU (aU ad 24 (s 22 0) q82) 25 (s 22 0) a1)) (s := s) (e := (e)) (s' := (sU (sU s 23 (s 22 0) k) 22 0 (s 22 0 + 1))) (e' := (e)) rfl rfl i) (fun i => kc_7 (ac := jj_ac X) (ad := (aU (aU ad 24 (s 22 0) q82) 25 (s 22 0) a1)) (s := s) (e := (e)) (s' := (sU (sU s 23 (s 22 0) k) 22 0 (s 22 0 + 1))) (e' := (e)) rfl i) (fun i => kc_8 (ac := jj_ac X) (ad := (aU (aU ad 24 (s 22 0) q82) 25 (s 22 0) a1)) (s := s) (e := (e)) (s' := (sU (sU s 23 (s 22 0) k) 22 0 (s 22 0 + 1))) (e' := (e)) rfl i) (fun i => kc_9 (ac := jj_ac X) (ad := (aU (aU ad 24 (s 22 0) q82) 25 (s 22 0) a1)) (s := s) (e := (e)) (s' := (sU (sU s 23 (s 22 0) k) 22 0 (s 22 0 + 1))) (e' := (e)) rfl i) (fun i => kc_10 (ac := jj_ac X) (ad := (aU (aU ad 24 (s 22 0) q82) 25 (s 22 0) a1)) (s := s) (e := (e)) (s' := (sU (sU s 23 (s 22 0) k) 22 0 (s 22 0 + 1))) (e' := (e)) rfl i) (fun i => kc_11 (ac := jj_ac X) (ad := (aU (aU ad 24 (s 22 0) q82) 25 (s 22 0) a1)) (s := s) (e := (e)) (s' := (sU (sU s 23 (s 22 0) k) 22 0 (s 22 0 + 1))) (e' := (e)) rfl i) (fun i => kc_12 (ac := jj_ac X) (ad := (aU (aU ad 24 (s 22 0) q82) 25 (s 22 0) a1)) (s := s) (e := (e)) (s' := (sU (sU s 23 (s 22 0) k) 22 0 (s 22 0 + 1))) (e' := (e)) rfl i) (fun i => kc_13 (ac := jj_ac X) (ad := (aU (aU ad 24 (s 22 0) q82) 25 (s 22 0) a1)) (s := s) (e := (e)) (s' := (sU (sU s 23 (s 22 0) k) 22 0 (s 22 0 + 1))) (e' := (e)) rfl i) (fun i => kc_14 (ac := jj_ac X) (ad := (aU (aU ad 24 (s 22 0) q82) 25 (s 22 0) a1)) (s := s) (e := (e)) (s' := (sU (sU s 23 (s 22 0) k) 22 0 (s 22 0 + 1))) (e' := (e)) rfl i) (fun i => kc_15 (ac := jj_ac X) (ad := (aU (aU ad 24 (s 22 0) q82) 25 (s 22 0) a1)) (s := s) (e := (e)) (s' := (sU (sU s 23 (s 22 0) k) 22 0 (s 22 0 + 1))) (e' := (e)) rfl i) (fun i => kc_16 (ac := jj_ac X) (ad := (aU (aU ad 24 (s 22 0) q82) 25 (s 22 0) a1)) (s := s) (e := (e)) (s' := (sU (sU s 23 (s 22 0) k) 22 0 (s 22 0 + 1))) (e' := (e)) rfl rfl rfl rfl rfl rfl rfl rfl rfl rfl rfl rfl rfl i) (fun i => kc_17 (ac := jj_ac X) (ad := (aU (aU ad 24 (s 22 0) q82) 25 (s 22 0) a1)) (s := s) (e := (e)) (s' := (sU (sU s 23 (s 22 0) k) 22 0 (s 22 0 + 1))) (e' := (e)) rfl rfl i) (fun i => kc_18 (ac := jj_ac X) (ad := (aU (aU ad 24 (s 22 0) q82) 25 (s 22 0) a1)) (s := s) (e := (e)) (s' := (sU (sU s 23 (s 22 0) k) 22 0 (s 22 0 + 1))) (e' := (e)) rfl rfl i) (fun i => kc_19 (ac := jj_ac X) (ad := (aU (aU ad 24 (s 22 0) q82) 25 (s 22 0) a1)) (s := s) (e := (e)) (s' := (sU (sU s 23 (s 22 0) k) 22 0 (s 22 0 + 1))) (e' := (e)) rfl rfl i) (fun i => kc_20 (ac := jj_ac X) (ad := (aU (aU ad 24 (s 22 0) q82) 25 (s 22 0) a1)) (s := s) (e := (e)) (s' := (sU (sU s 23 (s 22 0) k) 22 0 (s 22 0 + 1))) (e' := (e)) rfl rfl rfl rfl i) (fun i => kc_21 (ac := jj_ac X) (ad := (aU (aU ad 24 (s 22 0) q82) 25 (s 22 0) a1)) (s := s) (e := (e)) (s' := (sU (sU s 23 (s 22 0) k) 22 0 (s 22 0 + 1))) (e' := (e)) rfl rfl i) (fun i => kc_22 (ac := jj_ac X) (ad := (aU (aU ad 24 (s 22 0) q82) 25 (s 22 0) a1)) (s := s) (e := (e)) (s' := (sU (sU s 23 (s 22 0) k) 22 0 (s 22 0 + 1))) (e' := (e)) rfl rfl i) (fun i => by exact dk_23 (fun i _ => rfl) (by omega) ⟨hkr, by assumption⟩ i) (fun i => by rw [cU_k (k := 23) (k' := 24) (by decide), cU_k (k := 0) (k' := 24) (by decide), cU_k (k := 3) (k' := 24) (by decide), cU_k (k := 25) (k' := 24) (by decide)]; exact dk_24 (by omega) (hI5.2.2.2.2.1 (s 22 0) (by omega) (by omega)) (by omega) i) (fun i => by rw [cU_k (k := 23) (k' := 25) (by decide), cU_k (k := 0) (k' := 25) (by decide), cU_k (k := 3) (k' := 25) (by decide)]; exact dk_25 (fun i _ => rfl) (by omega) (fun i h1 h2 => hI5.2.2.2.2.2 i h1 (by omega)) i) (fun i => kc_26 (ac := jj_ac X) (ad := (aU (aU ad 24 (s 22 0) q82) 25 (s 22 0) a1)) (s := s) (e := (e)) (s' := (sU (sU s 23 (s 22 0) k) 22 0 (s 22 0 + 1))) (e' := (e)) rfl rfl rfl i) (fun i => kc_27 (ac := jj_ac X) (ad := (aU (aU ad 24 (s 22 0) q82) 25 (s 22 0) a1)) (s := s) (e := (e)) (s' := (sU (sU s 23 (s 22 0) k) 22 0 (s 22 0 + 1))) (e' := (e)) rfl rfl i) (fun k i => rfl))
        have hR := hR.congr (C' := cC (jj_ac X) (aU (aU ad 24 (s 22 0) q82) 25 (s 22 0) a1) (sU (sU (sU s 37 0 0) 23 (s 22 0) k) 22 0 (s 22 0 + 1)) e) (kcases (fun i => kc_0 (ac := jj_ac X) (ad := (aU (aU ad 24 (s 22 0) q82) 25 (s 22 0) a1)) (s := (sU (sU s 23 (s 22 0) k) 22 0 (s 22 0 + 1))) (e := e) (s' := (sU (sU (sU s 37 0 0) 23 (s 22 0) k) 22 0 (s 22 0 + 1))) (e' := e) rfl rfl rfl rfl i) (fun i => kc_1 (ac := jj_ac X) (ad := (aU (aU ad 24 (s 22 0) q82) 25 (s 22 0) a1)) (s := (sU (sU s 23 (s 22 0) k) 22 0 (s 22 0 + 1))) (e := e) (s' := (sU (sU (sU s 37 0 0) 23 (s 22 0) k) 22 0 (s 22 0 + 1))) (e' := e) rfl i) (fun i => kc_2 (ac := jj_ac X) (ad := (aU (aU ad 24 (s 22 0) q82) 25 (s 22 0) a1)) (s := (sU (sU s 23 (s 22 0) k) 22 0 (s 22 0 + 1))) (e := e) (s' := (sU (sU (sU s 37 0 0) 23 (s 22 0) k) 22 0 (s 22 0 + 1))) (e' := e) rfl i) (fun i => kc_3 (ac := jj_ac X) (ad := (aU (aU ad 24 (s 22 0) q82) 25 (s 22 0) a1)) (s := (sU (sU s 23 (s 22 0) k) 22 0 (s 22 0 + 1))) (e := e) (s' := (sU (sU (sU s 37 0 0) 23 (s 22 0) k) 22 0 (s 22 0 + 1))) (e' := e) rfl i) (fun i => kc_4 (ac := jj_ac X) (ad := (aU (aU ad 24 (s 22 0) q82) 25 (s 22 0) a1)) (s := (sU (sU s 23 (s 22 0) k) 22 0 (s 22 0 + 1))) (e := e) (s' := (sU (sU (sU s 37 0 0) 23 (s 22 0) k) 22 0 (s 22 0 + 1))) (e' := e) rfl i) (fun i => kc_5 (ac := jj_ac X) (ad := (aU (aU ad 24 (s 22 0) q82) 25 (s 22 0) a1)) (s := (sU (sU s 23 (s 22 0) k) 22 0 (s 22 0 + 1))) (e := e) (s' := (sU (sU (sU s 37 0 0) 23 (s 22 0) k) 22 0 (s 22 0 + 1))) (e' := e) rfl rfl i) (fun i => kc_6 (ac := jj_ac X) (ad := (aU (aU ad 24 (s 22 0) q82) 25 (s 22 0) a1)) (s := (sU (sU s 23 (s 22 0) k) 22 0 (s 22 0 + 1))) (e := e) (s' := (sU (sU (sU s 37 0 0) 23 (s 22 0) k) 22 0 (s 22 0 + 1))) (e' := e) rfl rfl i) (fun i => kc_7 (ac := jj_ac X) (ad := (aU (aU ad 24 (s 22 0) q82) 25 (s 22 0) a1)) (s := (sU (sU s 23 (s 22 0) k) 22 0 (s 22 0 + 1))) (e := e) (s' := (sU (sU (sU s 37 0 0) 23 (s 22 0) k) 22 0 (s 22 0 + 1))) (e' := e) rfl i) (fun i => kc_8 (ac := jj_ac X) (ad := (aU (aU ad 24 (s 22 0) q82) 25 (s 22 0) a1)) (s := (sU (sU s 23 (s 22 0) k) 22 0 (s 22 0 + 1))) (e := e) (s' := (sU (sU (sU s 37 0 0) 23 (s 22 0) k) 22 0 (s 22 0 + 1))) (e' := e) rfl i) (fun i => kc_9 (ac := jj_ac X) (ad := (aU (aU ad 24 (s 22 0) q82) 25 (s 22 0) a1)) (s := (sU (sU s 23 (s 22 0) k) 22 0 (s 22 0 + 1))) (e := e) (s' := (sU (sU (sU s 37 0 0) 23 (s 22 0) k) 22 0 (s 22 0 + 1))) (e' := e) rfl i) (fun i => kc_10 (ac := jj_ac X) (ad := (aU (aU ad 24 (s 22 0) q82) 25 (s 22 0) a1)) (s := (sU (sU s 23 (s 22 0) k) 22 0 (s 22 0 + 1))) (e := e) (s' := (sU (sU (sU s 37 0 0) 23 (s 22 0) k) 22 0 (s 22 0 + 1))) (e' := e) rfl i) (fun i => kc_11 (ac := jj_ac X) (ad := (aU (aU ad 24 (s 22 0) q82) 25 (s 22 0) a1)) (s := (sU (sU s 23 (s 22 0) k) 22 0 (s 22 0 + 1))) (e := e) (s' := (sU (sU (sU s 37 0 0) 23 (s 22 0) k) 22 0 (s 22 0 + 1))) (e' := e) rfl i) (fun i => kc_12 (ac := jj_ac X) (ad := (aU (aU ad 24 (s 22 0) q82) 25 (s 22 0) a1)) (s := (sU (sU s 23 (s 22 0) k) 22 0 (s 22 0 + 1))) (e := e) (s' := (sU (sU (sU s 37 0 0) 23 (s 22 0) k) 22 0 (s 22 0 + 1))) (e' := e) rfl i) (fun i => kc_13 (ac := jj_ac X) (ad := (aU (aU ad 24 (s 22 0) q82) 25 (s 22 0) a1)) (s := (sU (sU s 23 (s 22 0) k) 22 0 (s 22 0 + 1))) (e := e) (s' := (sU (sU (sU s 37 0 0) 23 (s 22 0) k) 22 0 (s 22 0 + 1))) (e' := e) rfl i) (fun i => kc_14 (ac := jj_ac X) (ad := (aU (aU ad 24 (s 22 0) q82) 25 (s 22 0) a1)) (s := (sU (sU s 23 (s 22 0) k) 22 0 (s 22 0 + 1))) (e := e) (s' := (sU (sU (sU s 37 0 0) 23 (s 22 0) k) 22 0 (s 22 0 + 1))) (e' := e) rfl i) (fun i => kc_15 (ac := jj_ac X) (ad := (aU (aU ad 24 (s 22 0) q82) 25 (s 22 0) a1)) (s := (sU (sU s 23 (s 22 0) k) 22 0 (s 22 0 + 1))) (e := e) (s' := (sU (sU (sU s 37 0 0) 23 (s 22 0) k) 22 0 (s 22 0 + 1))) (e' := e) rfl i) (fun i => kc_16 (ac := jj_ac X) (ad := (aU (aU ad 24 (s 22 0) q82) 25 (s 22 0) a1)) (s := (sU (sU s 23 (s 22 0) k) 22 0 (s 22 0 + 1))) (e := e) (s' := (sU (sU (sU s 37 0 0) 23 (s 22 0) k) 22 0 (s 22 0 + 1))) (e' := e) rfl rfl rfl rfl rfl rfl rfl rfl rfl rfl rfl rfl rfl i) (fun i => kc_17 (ac := jj_ac X) (ad := (aU (aU ad 24 (s 22 0) q82) 25 (s 22 0) a1)) (s := (sU (sU s 23 (s 22 0) k) 22 0 (s 22 0 + 1))) (e := e) (s' := (sU (sU (sU s 37 0 0) 23 (s 22 0) k) 22 0 (s 22 0 + 1))) (e' := e) rfl rfl i) (fun i => kc_18 (ac := jj_ac X) (ad := (aU (aU ad 24 (s 22 0) q82) 25 (s 22 0) a1)) (s := (sU (sU s 23 (s 22 0) k) 22 0 (s 22 0 + 1))) (e := e) (s' := (sU (sU (sU s 37 0 0) 23 (s 22 0) k) 22 0 (s 22 0 + 1))) (e' := e) rfl rfl i) (fun i => kc_19 (ac := jj_ac X) (ad := (aU (aU ad 24 (s 22 0) q82) 25 (s 22 0) a1)) (s := (sU (sU s 23 (s 22 0) k) 22 0 (s 22 0 + 1))) (e := e) (s' := (sU (sU (sU s 37 0 0) 23 (s 22 0) k) 22 0 (s 22 0 + 1))) (e' := e) rfl rfl i) (fun i => kc_20 (ac := jj_ac X) (ad := (aU (aU ad 24 (s 22 0) q82) 25 (s 22 0) a1)) (s := (sU (sU s 23 (s 22 0) k) 22 0 (s 22 0 + 1))) (e := e) (s' := (sU (sU (sU s 37 0 0) 23 (s 22 0) k) 22 0 (s 22 0 + 1))) (e' := e) rfl rfl rfl rfl i) (fun i => kc_21 (ac := jj_ac X) (ad := (aU (aU ad 24 (s 22 0) q82) 25 (s 22 0) a1)) (s := (sU (sU s 23 (s 22 0) k) 22 0 (s 22 0 + 1))) (e := e) (s' := (sU (sU (sU s 37 0 0) 23 (s 22 0) k) 22 0 (s 22 0 + 1))) (e' := e) rfl rfl i) (fun i => kc_22 (ac := jj_ac X) (ad := (aU (aU ad 24 (s 22 0) q82) 25 (s 22 0) a1)) (s := (sU (sU s 23 (s 22 0) k) 22 0 (s 22 0 + 1))) (e := e) (s' := (sU (sU (sU s 37 0 0) 23 (s 22 0) k) 22 0 (s 22 0 + 1))) (e' := e) rfl rfl i) (fun i => kc_23 (ac := jj_ac X) (ad := (aU (aU ad 24 (s 22 0) q82) 25 (s 22 0) a1)) (s := (sU (sU s 23 (s 22 0) k) 22 0 (s 22 0 + 1))) (e := e) (s' := (sU (sU (sU s 37 0 0) 23 (s 22 0) k) 22 0 (s 22 0 + 1))) (e' := e) rfl rfl rfl rfl rfl rfl rfl rfl i) (fun i => kc_24 (ac := jj_ac X) (ad := (aU (aU ad 24 (s 22 0) q82) 25 (s 22 0) a1)) (s := (sU (sU s 23 (s 22 0) k) 22 0 (s 22 0 + 1))) (e := e) (s' := (sU (sU (sU s 37 0 0) 23 (s 22 0) k) 22 0 (s 22 0 + 1))) (e' := e) rfl rfl rfl i) (fun i => kc_25 (ac := jj_ac X) (ad := (aU (aU ad 24 (s 22 0) q82) 25 (s 22 0) a1)) (s := (sU (sU s 23 (s 22 0) k) 22 0 (s 22 0 + 1))) (e := e) (s' := (sU (sU (sU s 37 0 0) 23 (s 22 0) k) 22 0 (s 22 0 + 1))) (e' := e) rfl rfl i) (fun i => kc_26 (ac := jj_ac X) (ad := (aU (aU ad 24 (s 22 0) q82) 25 (s 22 0) a1)) (s := (sU (sU s 23 (s 22 0) k) 22 0 (s 22 0 + 1))) (e := e) (s' := (sU (sU (sU s 37 0 0) 23 (s 22 0) k) 22 0 (s 22 0 + 1))) (e' := e) rfl rfl rfl i) (fun i => kc_27 (ac := jj_ac X) (ad := (aU (aU ad 24 (s 22 0) q82) 25 (s 22 0) a1)) (s := (sU (sU s 23 (s 22 0) k) 22 0 (s 22 0 + 1))) (e := e) (s' := (sU (sU (sU s 37 0 0) 23 (s 22 0) k) 22 0 (s 22 0 + 1))) (e' := e) rfl rfl i) (fun k i => rfl))
        rw [hk] at hR
        exact jj_iret B dX8_disc_115 ⟨Nat.le_of_ble_eq_true rfl, Nat.le_of_ble_eq_true rfl⟩ (⟨_, rfl, htt, (by unfold r_disc; refine Eq.trans ?_ (if_pos htt).symm; rfl), (aU (aU ad 24 (s 22 0) q82) 25 (s 22 0) a1), rfl, (by unfold n_disc; first | (rw [if_pos htt]; exact hR) | exact hR | exact hR.c37)⟩)
      · skip
        exact jj_throwSW B th_3 sr_X8_289 rfl (Or.inr ⟨(by unfold t_disc; (try rw [← hk]); (repeat (first | rw [if_pos (by omega)] | rw [if_neg (by omega)]))), rfl⟩) ⟨Nat.le_of_ble_eq_true rfl, Nat.le_of_ble_eq_true rfl, Nat.le_of_ble_eq_true rfl, Nat.le_of_ble_eq_true rfl⟩ dX8_disc_65 dX8_disc_68 dX8_disc_69 dX8_disc_72 dX8_disc_75
    · skip
      exact jj_throwSW B th_3 sr_X8_284 rfl (Or.inr ⟨(by unfold t_disc; (try rw [← hk]); (repeat (first | rw [if_pos (by omega)] | rw [if_neg (by omega)]))), rfl⟩) ⟨Nat.le_of_ble_eq_true rfl, Nat.le_of_ble_eq_true rfl, Nat.le_of_ble_eq_true rfl, Nat.le_of_ble_eq_true rfl⟩ dX8_disc_33 dX8_disc_36 dX8_disc_37 dX8_disc_40 dX8_disc_43
