abbrev rm_X8_init : Room := { frames := 2, cells := 16, slots := 300, locals := 32 }
set_option maxRecDepth 100000 in
set_option maxHeartbeats 400000 in
theorem k8_init {l : Launch} {D : va_G} {ac : Nat → ClassId} (hl : l.stackTraces = false) {o : Nat} {G0 : jj_G}  {G : jj_G} (hL : GL G0 [(o, jj_o 8 [.int (jI 0), .null, .int (jI 0), .null, .null, .int (jI 0), .null, .int (jI 0), .null, .null])] G) : jj_C l D ac yX8_init (.code yX8_init cX8_init 1 none) rm_X8_init [.ref o] G (jj_pv (fun G' => ∃ a1 p p1 a4 a5 f f1 f2 f3 r r1 r2 r3 r4 r5, GL G0 [(o, jj_o 8 [.int (jI 0), .ref a1, .int (jI 0), .ref p, .ref a4, .int (jI 0), .ref a5, .int (jI 0), .ref f, .ref r]), (a1, jj_aq (ac 2) 30 (fun _ => none)), (p, jj_o 1 [.ref p1, .int (jI 0)]), (p1, jj_aq (ac 2) 6 (fun _ => none)), (a4, jj_aq (ac 3) 10 (fun _ => none)), (a5, jj_aq (ac 5) 20 (fun _ => none)), (f, jj_o 5 [.int (jI 0), .ref f1, .ref f2, .ref f3, .int (jI 0)]), (f1, jj_ai (ac 0) 8 (fun _ => 0)), (f2, jj_ai (ac 0) 20 (fun _ => 0)), (f3, jj_ai (ac 0) 20 (fun _ => 0)), (r, jj_o 2 [.ref r1, .ref r2, .ref r3, .ref r4, .ref r5, .int (jI 0)]), (r1, jj_ai (ac 0) 6 (fun _ => 0)), (r2, jj_ai (ac 0) 6 (fun _ => 0)), (r3, jj_ai (ac 0) 6 (fun _ => 0)), (r4, jj_ai (ac 0) 6 (fun _ => 0)), (r5, jj_aq (ac 6) 100 (fun _ => none))] G')) (jj_nx) := by
  refine jj_ofx (own := RX8) (lv0 := [some (.ref o)]) hl (by decide +kernel) rfl rfl (Nat.le_of_ble_eq_true rfl) rfl ?_
  intro X B hN hl0 hdg hac hin
  subst hl0; subst hdg; subst hac
  have F := B.F

  have hi := hin rfl
  refine jj_aload0 F dX8_init_0 ?_
  refine jj_objInit F ml_X8_1 oi_i oi_c ⟨Nat.le_of_ble_eq_true rfl, Nat.le_of_ble_eq_true rfl⟩ dX8_init_1 ?_
  refine jj_aload0 F dX8_init_4 ?_
  refine jj_bipush F (by decide) dX8_init_5 ?_
  refine cg_newQ F hL (N := 30) (k := 1) (n := 30) (t := 2) (fun _ => rfl) cl_X8_9 (by decide +kernel) (by decide) ⟨Nat.le_of_ble_eq_true rfl, Nat.le_of_ble_eq_true rfl, Nat.le_of_ble_eq_true rfl, Nat.le_of_ble_eq_true rfl⟩ dX8_init_7 (fun a1 G hL => ?_)
  refine cg_putF F hL (m := 0) rfl cs_8 (by decide) fd_X8_11 hi rfl rfl rfl rfl (Nat.le_of_ble_eq_true rfl) rfl dX8_init_10 (fun G hL => ?_)
  refine jj_aload0 F dX8_init_13 ?_
  refine jj_new F (k := 2) (n := 32) (fs := [.null, .int (jI 0)]) cs_1 cl_X8_15 ins_1 ini_1 (fun j hj => match j, hj with | 0, _ => rfl | 1, _ => rfl | q + 2, h => absurd h (by omega)) ⟨Nat.le_of_ble_eq_true rfl, Nat.le_of_ble_eq_true rfl, Nat.le_of_ble_eq_true rfl, Nat.le_of_ble_eq_true rfl⟩ dX8_init_14 (fun q14 hq14 => ?_)
  have hM := GL.one hq14 (x := jj_o 1 [.null, .int (jI 0)])
  refine jj_dup F rfl dX8_init_17 ?_
  refine jj_callNv B (k := 3) (n := 38) (k1_init F.tr hM) lk_X8_17 rfl ⟨Nat.le_of_ble_eq_true rfl, Nat.le_of_ble_eq_true rfl, Nat.le_of_ble_eq_true rfl, Nat.le_of_ble_eq_true rfl, Nat.le_of_ble_eq_true rfl⟩ ⟨Nat.le_of_ble_eq_true rfl, Nat.le_of_ble_eq_true rfl, Nat.le_of_ble_eq_true rfl, Nat.le_of_ble_eq_true rfl⟩ jj_tx0 dX8_init_18 (fun G hG => ?_)
  obtain ⟨p1, hM⟩ := hG
  have hL := hL.app hM rfl
  refine cg_putF F hL (m := 0) rfl cs_8 (by decide) fd_X8_18 hi rfl rfl rfl rfl (Nat.le_of_ble_eq_true rfl) rfl dX8_init_21 (fun G hL => ?_)
  refine jj_aload0 F dX8_init_24 ?_
  refine jj_bipush F (by decide) dX8_init_25 ?_
  refine cg_newQ F hL (N := 10) (k := 4) (n := 48) (t := 3) (fun _ => rfl) cl_X8_22 (by decide +kernel) (by decide) ⟨Nat.le_of_ble_eq_true rfl, Nat.le_of_ble_eq_true rfl, Nat.le_of_ble_eq_true rfl, Nat.le_of_ble_eq_true rfl⟩ dX8_init_27 (fun a4 G hL => ?_)
  refine cg_putF F hL (m := 0) rfl cs_8 (by decide) fd_X8_24 hi rfl rfl rfl rfl (Nat.le_of_ble_eq_true rfl) rfl dX8_init_30 (fun G hL => ?_)
  refine jj_aload0 F dX8_init_33 ?_
  refine jj_bipush F (by decide) dX8_init_34 ?_
  refine cg_newQ F hL (N := 20) (k := 5) (n := 68) (t := 5) (fun _ => rfl) cl_X8_28 (by decide +kernel) (by decide) ⟨Nat.le_of_ble_eq_true rfl, Nat.le_of_ble_eq_true rfl, Nat.le_of_ble_eq_true rfl, Nat.le_of_ble_eq_true rfl⟩ dX8_init_36 (fun a5 G hL => ?_)
  refine cg_putF F hL (m := 0) rfl cs_8 (by decide) fd_X8_30 hi rfl rfl rfl rfl (Nat.le_of_ble_eq_true rfl) rfl dX8_init_39 (fun G hL => ?_)
  refine jj_aload0 F dX8_init_42 ?_
  refine jj_new F (k := 6) (n := 73) (fs := [.int (jI 0), .null, .null, .null, .int (jI 0)]) cs_5 cl_X8_34 ins_5 ini_5 (fun j hj => match j, hj with | 0, _ => rfl | 1, _ => rfl | 2, _ => rfl | 3, _ => rfl | 4, _ => rfl | q + 5, h => absurd h (by omega)) ⟨Nat.le_of_ble_eq_true rfl, Nat.le_of_ble_eq_true rfl, Nat.le_of_ble_eq_true rfl, Nat.le_of_ble_eq_true rfl⟩ dX8_init_43 (fun q43 hq43 => ?_)
  have hM := GL.one hq43 (x := jj_o 5 [.int (jI 0), .null, .null, .null, .int (jI 0)])
  refine jj_dup F rfl dX8_init_46 ?_
  refine jj_callNv B (k := 9) (n := 121) (k5_init F.tr hM) lk_X8_36 rfl ⟨Nat.le_of_ble_eq_true rfl, Nat.le_of_ble_eq_true rfl, Nat.le_of_ble_eq_true rfl, Nat.le_of_ble_eq_true rfl, Nat.le_of_ble_eq_true rfl⟩ ⟨Nat.le_of_ble_eq_true rfl, Nat.le_of_ble_eq_true rfl, Nat.le_of_ble_eq_true rfl, Nat.le_of_ble_eq_true rfl⟩ jj_tx0 dX8_init_47 (fun G hG => ?_)
  obtain ⟨f1, f2, f3, hM⟩ := hG
  have hL := hL.app hM rfl
  refine cg_putF F hL (m := 0) rfl cs_8 (by decide) fd_X8_37 hi rfl rfl rfl rfl (Nat.le_of_ble_eq_true rfl) rfl dX8_init_50 (fun G hL => ?_)
  refine jj_aload0 F dX8_init_53 ?_
  refine jj_new F (k := 10) (n := 127) (fs := [.null, .null, .null, .null, .null, .int (jI 0)]) cs_2 cl_X8_41 ins_2 ini_2 (fun j hj => match j, hj with | 0, _ => rfl | 1, _ => rfl | 2, _ => rfl | 3, _ => rfl | 4, _ => rfl | 5, _ => rfl | q + 6, h => absurd h (by omega)) ⟨Nat.le_of_ble_eq_true rfl, Nat.le_of_ble_eq_true rfl, Nat.le_of_ble_eq_true rfl, Nat.le_of_ble_eq_true rfl⟩ dX8_init_54 (fun q54 hq54 => ?_)
  have hM := GL.one hq54 (x := jj_o 2 [.null, .null, .null, .null, .null, .int (jI 0)])
  refine jj_dup F rfl dX8_init_57 ?_
  refine jj_callNv B (k := 15) (n := 251) (k2_init F.tr hM) lk_X8_43 rfl ⟨Nat.le_of_ble_eq_true rfl, Nat.le_of_ble_eq_true rfl, Nat.le_of_ble_eq_true rfl, Nat.le_of_ble_eq_true rfl, Nat.le_of_ble_eq_true rfl⟩ ⟨Nat.le_of_ble_eq_true rfl, Nat.le_of_ble_eq_true rfl, Nat.le_of_ble_eq_true rfl, Nat.le_of_ble_eq_true rfl⟩ jj_tx0 dX8_init_58 (fun G hG => ?_)
  obtain ⟨r1, r2, r3, r4, r5, hM⟩ := hG
  have hL := hL.app hM rfl
  refine cg_putF F hL (m := 0) rfl cs_8 (by decide) fd_X8_44 hi rfl rfl rfl rfl (Nat.le_of_ble_eq_true rfl) rfl dX8_init_61 (fun G hL => ?_)
  exact jj_vret B dX8_init_64 ⟨Nat.le_of_ble_eq_true rfl, Nat.le_of_ble_eq_true rfl⟩ (⟨rfl, _, _, _, _, _, _, _, _, _, _, _, _, _, _, _, hL⟩)
