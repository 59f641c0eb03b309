theorem GL.eq {G0 G : jj_G} {L L' : Gl} (h : GL G0 L G) (e : L = L') : GL G0 L' G := by rw [← e]; exact h
abbrev fNew (S : Sg) (v0 v1 v2 v3 v4 v5 v6 v7 : Value) (a1 a2 a3 : Nat) : List Value := [v0, v1, v2, v3, v4, v5, v6, v7, .ref a1, .ref a2, .ref a3, .int (jI (S 7 (S 1 0))), .int (jI (sLen S (S 1 0))), .int (jI 0), .int (jI 0)]
abbrev tNew (cI : ClassId) (S : Sg) (v0 v1 v2 v3 v4 v5 v6 v7 : Value) (o a1 a2 a3 : Nat) : Gl := [(o, jj_o 7 (fNew S v0 v1 v2 v3 v4 v5 v6 v7 a1 a2 a3)), (a1, jj_ai cI 20 (wn 20 (fun j => S 8 (20 * S 1 0 + j)))), (a2, jj_ai cI 20 (wn 20 (fun j => S 9 (20 * S 1 0 + j)))), (a3, jj_ai cI 20 (wn 20 (fun j => S 10 (20 * S 1 0 + j))))]
theorem sLen_puts {S : Sg} {x f u : Int} (h7 : 0 ≤ S 7 (S 1 0)) : sLen (sPuts S x f u) (S 1 0) = sLen S (S 1 0) + (u - f) := by
  unfold sLen
  rw [sPuts_7, ju_s, show (S 7 (S 1 0) + 1).toNat = (S 7 (S 1 0)).toNat + 1 by omega]
  show sLenTo _ _ _ + _ = _
  rw [sLenTo_c (s := S) (s' := sPuts S x f u) _ (fun j hj => by rw [sPuts_9, ju_n (by omega)]) (fun j hj => by rw [sPuts_10, ju_n (by omega)]), sPuts_9, sPuts_10,
    show (20 * S 1 0 + ((S 7 (S 1 0)).toNat : Int)) = 20 * S 1 0 + S 7 (S 1 0) by omega, ju_s, ju_s]
theorem wn_puts {g g' : Int → Int} {T p x : Int} (hp : 0 ≤ p ∧ p < 20) (h : g' = ju g (20 * T + p) x) : ju (wn 20 (fun j => g (20 * T + j))) p x = wn 20 (fun j => g' (20 * T + j)) := by
  refine wn_ju hp (fun j h1 h2 => ?_)
  rw [h]
  unfold ju
  by_cases hj : j = p
  · rw [if_pos hj, if_pos (by omega)]
  · rw [if_neg hj, if_neg (by omega)]
theorem tNew_puts {cI : ClassId} {S : Sg} {v0 v1 v2 v3 v4 v5 v6 v7 : Value} {o a1 a2 a3 : Nat} {x f u : Int} (h7 : 0 ≤ S 7 (S 1 0) ∧ S 7 (S 1 0) < 20) : [(o, jj_o 7 [v0, v1, v2, v3, v4, v5, v6, v7, .ref a1, .ref a2, .ref a3, .int (jI (S 7 (S 1 0) + 1)), .int (jI (sLen S (S 1 0) + (u - f))), .int (jI 0), .int (jI 0)]), (a1, jj_ai cI 20 (ju (wn 20 (fun j => S 8 (20 * S 1 0 + j))) (S 7 (S 1 0)) x)), (a2, jj_ai cI 20 (ju (wn 20 (fun j => S 9 (20 * S 1 0 + j))) (S 7 (S 1 0)) f)), (a3, jj_ai cI 20 (ju (wn 20 (fun j => S 10 (20 * S 1 0 + j))) (S 7 (S 1 0)) u))] = tNew cI (sPuts S x f u) v0 v1 v2 v3 v4 v5 v6 v7 o a1 a2 a3 := by
  unfold tNew fNew
  rw [show sPuts S x f u 1 0 = S 1 0 from rfl, sLen_puts h7.1, show sPuts S x f u 7 (S 1 0) = S 7 (S 1 0) + 1 by rw [sPuts_7, ju_s], wn_puts (g' := sPuts S x f u 8) h7 sPuts_8, wn_puts (g' := sPuts S x f u 9) h7 sPuts_9, wn_puts (g' := sPuts S x f u 10) h7 sPuts_10]
theorem tNew_0 {cI : ClassId} {S : Sg} {v0 v1 v2 v3 v4 v5 v6 v7 : Value} {o a1 a2 a3 : Nat} (h7 : S 7 (S 1 0) = 0) (h8 : ∀ i, 20 * S 1 0 ≤ i → i < 20 * S 1 0 + 20 → S 8 i = 0 ∧ S 9 i = 0 ∧ S 10 i = 0) : [(o, jj_o 7 [v0, v1, v2, v3, v4, v5, v6, v7, .ref a1, .ref a2, .ref a3, .int (jI 0), .int (jI 0), .int (jI 0), .int (jI 0)]), (a1, jj_ai cI 20 (fun _ => 0)), (a2, jj_ai cI 20 (fun _ => 0)), (a3, jj_ai cI 20 (fun _ => 0))] = tNew cI S v0 v1 v2 v3 v4 v5 v6 v7 o a1 a2 a3 := by
  unfold tNew fNew
  rw [h7, show sLen S (S 1 0) = 0 by unfold sLen; rw [h7]; rfl, wn_0 (fun j h1 h2 => (h8 _ (by omega) (by omega)).1), wn_0 (fun j h1 h2 => (h8 _ (by omega) (by omega)).2.1), wn_0 (fun j h1 h2 => (h8 _ (by omega) (by omega)).2.2)]

abbrev rm_X6_init : Room := { frames := 1, cells := 0, slots := 0, locals := 12 }
set_option maxRecDepth 100000 in
set_option maxHeartbeats 400000 in
theorem k6_init {l : Launch} {D : va_G} {ac : Nat → ClassId} (hl : l.stackTraces = false) {x : Int} {o : Nat} {G0 : jj_G}  {G : jj_G} (hL : GL G0 [(o, jj_o 6 [.int (jI 0), .int (jI 0), .int (jI 0), .int (jI 0), .int (jI 0), .int (jI 0), .int (jI 0)])] G) : jj_C l D ac yX6_init (.code yX6_init cX6_init 2 none) rm_X6_init [.ref o, .int (jI x)] G (jj_pv (fun G' => GL G0 [(o, jj_o 6 [.int (jI x), .int (jI 0), .int (jI (-1)), .int (jI (-1)), .int (jI 0), .int (jI 0), .int (jI 0)])] G')) (jj_nx) := by
  refine jj_ofx (own := RX6) (lv0 := [some (.ref o), some (.int (jI x))]) hl (by decide +kernel) rfl rfl (Nat.le_of_ble_eq_true rfl) rfl ?_
  intro X B hN hl0 hdg hac hin
  subst hl0; subst hdg; subst hac
  have F := B.F

  have hi := hin rfl
  refine jj_aload0 F dX6_init_0 ?_
  refine jj_objInit F ml_X6_3 oi_i oi_c ⟨Nat.le_of_ble_eq_true rfl, Nat.le_of_ble_eq_true rfl⟩ dX6_init_1 ?_
  refine jj_aload0 F dX6_init_4 ?_
  refine jj_iconst F dX6_init_5 ?_
  refine cg_put F hL (m := 0) rfl cs_6 (by decide) fd_X6_9 rfl rfl rfl (Nat.le_of_ble_eq_true rfl) rfl dX6_init_6 (fun G hL => ?_)
  refine jj_aload0 F dX6_init_9 ?_
  refine jj_iconst F dX6_init_10 ?_
  refine cg_put F hL (m := 0) rfl cs_6 (by decide) fd_X6_15 rfl rfl rfl (Nat.le_of_ble_eq_true rfl) rfl dX6_init_11 (fun G hL => ?_)
  refine jj_aload0 F dX6_init_14 ?_
  refine jj_iload1 F dX6_init_15 ?_
  refine cg_putF F hL (m := 0) rfl cs_6 (by decide) fd_X6_18 hi rfl rfl rfl rfl (Nat.le_of_ble_eq_true rfl) rfl dX6_init_16 (fun G hL => ?_)
  exact jj_vret B dX6_init_19 ⟨Nat.le_of_ble_eq_true rfl, Nat.le_of_ble_eq_true rfl⟩ (⟨rfl, hL⟩)
abbrev rm_X0_init : Room := { frames := 1, cells := 1, slots := 8, locals := 12 }
set_option maxRecDepth 100000 in
set_option maxHeartbeats 400000 in
theorem k0_init {l : Launch} {D : va_G} {ac : Nat → ClassId} (hl : l.stackTraces = false) {b : Nat} {o : Nat} {G0 : jj_G}  {G : jj_G} (hL : GL G0 [(o, jj_o 0 [.null, .null, .int (jI 0)])] G) : jj_C l D ac yX0_init (.code yX0_init cX0_init 2 none) rm_X0_init [.ref o, .ref b] G (jj_pv (fun G' => ∃ a1, GL G0 [(o, jj_o 0 [.ref b, .ref a1, .int (jI 0)]), (a1, jj_ai (ac 0) 8 (fun _ => 0))] G')) (jj_nx) := by
  refine jj_ofx (own := RX0) (lv0 := [some (.ref o), some (.ref b)]) hl (by decide +kernel) rfl rfl (Nat.le_of_ble_eq_true rfl) rfl ?_
  intro X B hN hl0 hdg hac hin
  subst hl0; subst hdg; subst hac
  have F := B.F

  have hi := hin rfl
  refine jj_aload0 F dX0_init_0 ?_
  refine jj_objInit F ml_X0_3 oi_i oi_c ⟨Nat.le_of_ble_eq_true rfl, Nat.le_of_ble_eq_true rfl⟩ dX0_init_1 ?_
  refine jj_aload0 F dX0_init_4 ?_
  refine jj_bipush F (by decide) dX0_init_5 ?_
  refine cg_newI F hL (N := 8) (k := 1) (n := 8) aw_int (by decide) ⟨Nat.le_of_ble_eq_true rfl, Nat.le_of_ble_eq_true rfl, Nat.le_of_ble_eq_true rfl, Nat.le_of_ble_eq_true rfl⟩ dX0_init_7 (fun a1 G hL => ?_)
  refine cg_putF F hL (m := 0) rfl cs_0 (by decide) fd_X0_9 hi rfl rfl rfl rfl (Nat.le_of_ble_eq_true rfl) rfl dX0_init_9 (fun G hL => ?_)
  refine jj_aload0 F dX0_init_12 ?_
  refine jj_aload1 F dX0_init_13 ?_
  refine cg_putF F hL (m := 0) rfl cs_0 (by decide) fd_X0_15 hi rfl rfl rfl rfl (Nat.le_of_ble_eq_true rfl) rfl dX0_init_14 (fun G hL => ?_)
  exact jj_vret B dX0_init_17 ⟨Nat.le_of_ble_eq_true rfl, Nat.le_of_ble_eq_true rfl⟩ (⟨rfl, _, hL⟩)
abbrev rm_X3_init : Room := { frames := 1, cells := 0, slots := 0, locals := 12 }
set_option maxRecDepth 100000 in
set_option maxHeartbeats 400000 in
theorem k3_init {l : Launch} {D : va_G} {ac : Nat → ClassId} (hl : l.stackTraces = false) {b1 b2 b3 : Nat} {x : Int} {o : Nat} {G0 : jj_G}  {G : jj_G} (hL : GL G0 [(o, jj_o 3 [.null, .null, .null, .int (jI 0)])] G) : jj_C l D ac yX3_init (.code yX3_init cX3_init 5 none) rm_X3_init [.ref o, .ref b1, .ref b2, .ref b3, .int (jI x)] G (jj_pv (fun G' => GL G0 [(o, jj_o 3 [.ref b1, .ref b2, .ref b3, .int (jI x)])] G')) (jj_nx) := by
  refine jj_ofx (own := RX3) (lv0 := [some (.ref o), some (.ref b1), some (.ref b2), some (.ref b3), some (.int (jI x))]) hl (by decide +kernel) rfl rfl (Nat.le_of_ble_eq_true rfl) rfl ?_
  intro X B hN hl0 hdg hac hin
  subst hl0; subst hdg; subst hac
  have F := B.F

  have hi := hin rfl
  refine jj_aload0 F dX3_init_0 ?_
  refine jj_objInit F ml_X3_3 oi_i oi_c ⟨Nat.le_of_ble_eq_true rfl, Nat.le_of_ble_eq_true rfl⟩ dX3_init_1 ?_
  refine jj_aload0 F dX3_init_4 ?_
  refine jj_aload1 F dX3_init_5 ?_
  refine cg_putF F hL (m := 0) rfl cs_3 (by decide) fd_X3_9 hi rfl rfl rfl rfl (Nat.le_of_ble_eq_true rfl) rfl dX3_init_6 (fun G hL => ?_)
  refine jj_aload0 F dX3_init_9 ?_
  refine jj_aload2 F dX3_init_10 ?_
  refine cg_putF F hL (m := 0) rfl cs_3 (by decide) fd_X3_15 hi rfl rfl rfl rfl (Nat.le_of_ble_eq_true rfl) rfl dX3_init_11 (fun G hL => ?_)
  refine jj_aload0 F dX3_init_14 ?_
  refine jj_aload3 F dX3_init_15 ?_
  refine cg_putF F hL (m := 0) rfl cs_3 (by decide) fd_X3_19 hi rfl rfl rfl rfl (Nat.le_of_ble_eq_true rfl) rfl dX3_init_16 (fun G hL => ?_)
  refine jj_aload0 F dX3_init_19 ?_
  refine jj_iload4 F dX3_init_20 ?_
  refine cg_put F hL (m := 0) rfl cs_3 (by decide) fd_X3_23 rfl rfl rfl (Nat.le_of_ble_eq_true rfl) rfl dX3_init_22 (fun G hL => ?_)
  exact jj_vret B dX3_init_25 ⟨Nat.le_of_ble_eq_true rfl, Nat.le_of_ble_eq_true rfl⟩ (⟨rfl, hL⟩)
abbrev rm_X4_init : Room := { frames := 1, cells := 2, slots := 18, locals := 12 }
set_option maxRecDepth 100000 in
set_option maxHeartbeats 400000 in
theorem k4_init {l : Launch} {D : va_G} {ac : Nat → ClassId} (hl : l.stackTraces = false) {o : Nat} {G0 : jj_G}  {G : jj_G} (hL : GL G0 [(o, jj_o 4 [.null, .null, .int (jI 0), .int (jI 0), .int (jI 0)])] G) : jj_C l D ac yX4_init (.code yX4_init cX4_init 1 none) rm_X4_init [.ref o] G (jj_pv (fun G' => ∃ a1 a2, GL G0 [(o, jj_o 4 [.ref a1, .ref a2, .int (jI 0), .int (jI 0), .int (jI 0)]), (a1, jj_ai (ac 0) 6 (fun _ => 0)), (a2, jj_aq (ac 4) 12 (fun _ => none))] G')) (jj_nx) := by
  refine jj_ofx (own := RX4) (lv0 := [some (.ref o)]) hl (by decide +kernel) rfl rfl (Nat.le_of_ble_eq_true rfl) rfl ?_
  intro X B hN hl0 hdg hac hin
  subst hl0; subst hdg; subst hac
  have F := B.F

  have hi := hin rfl
  refine jj_aload0 F dX4_init_0 ?_
  refine jj_objInit F ml_X4_3 oi_i oi_c ⟨Nat.le_of_ble_eq_true rfl, Nat.le_of_ble_eq_true rfl⟩ dX4_init_1 ?_
  refine jj_aload0 F dX4_init_4 ?_
  refine jj_bipush F (by decide) dX4_init_5 ?_
  refine cg_newI F hL (N := 6) (k := 1) (n := 6) aw_int (by decide) ⟨Nat.le_of_ble_eq_true rfl, Nat.le_of_ble_eq_true rfl, Nat.le_of_ble_eq_true rfl, Nat.le_of_ble_eq_true rfl⟩ dX4_init_7 (fun a1 G hL => ?_)
  refine cg_putF F hL (m := 0) rfl cs_4 (by decide) fd_X4_9 hi rfl rfl rfl rfl (Nat.le_of_ble_eq_true rfl) rfl dX4_init_9 (fun G hL => ?_)
  refine jj_aload0 F dX4_init_12 ?_
  refine jj_bipush F (by decide) dX4_init_13 ?_
  refine cg_newQ F hL (N := 12) (k := 2) (n := 18) (t := 4) (fun _ => rfl) cl_X4_15 (by decide +kernel) (by decide) ⟨Nat.le_of_ble_eq_true rfl, Nat.le_of_ble_eq_true rfl, Nat.le_of_ble_eq_true rfl, Nat.le_of_ble_eq_true rfl⟩ dX4_init_15 (fun a2 G hL => ?_)
  refine cg_putF F hL (m := 0) rfl cs_4 (by decide) fd_X4_17 hi rfl rfl rfl rfl (Nat.le_of_ble_eq_true rfl) rfl dX4_init_18 (fun G hL => ?_)
  exact jj_vret B dX4_init_21 ⟨Nat.le_of_ble_eq_true rfl, Nat.le_of_ble_eq_true rfl⟩ (⟨rfl, _, _, hL⟩)
abbrev rm_X1_init : Room := { frames := 1, cells := 1, slots := 6, locals := 12 }
set_option maxRecDepth 100000 in
set_option maxHeartbeats 400000 in
theorem k1_init {l : Launch} {D : va_G} {ac : Nat → ClassId} (hl : l.stackTraces = false) {o : Nat} {G0 : jj_G}  {G : jj_G} (hL : GL G0 [(o, jj_o 1 [.null, .int (jI 0)])] G) : jj_C l D ac yX1_init (.code yX1_init cX1_init 1 none) rm_X1_init [.ref o] G (jj_pv (fun G' => ∃ a1, GL G0 [(o, jj_o 1 [.ref a1, .int (jI 0)]), (a1, jj_aq (ac 2) 6 (fun _ => none))] G')) (jj_nx) := by
  refine jj_ofx (own := RX1) (lv0 := [some (.ref o)]) hl (by decide +kernel) rfl rfl (Nat.le_of_ble_eq_true rfl) rfl ?_
  intro X B hN hl0 hdg hac hin
  subst hl0; subst hdg; subst hac
  have F := B.F

  have hi := hin rfl
  refine jj_aload0 F dX1_init_0 ?_
  refine jj_objInit F ml_X1_3 oi_i oi_c ⟨Nat.le_of_ble_eq_true rfl, Nat.le_of_ble_eq_true rfl⟩ dX1_init_1 ?_
  refine jj_aload0 F dX1_init_4 ?_
  refine jj_bipush F (by decide) dX1_init_5 ?_
  refine cg_newQ F hL (N := 6) (k := 1) (n := 6) (t := 2) (fun _ => rfl) cl_X1_9 (by decide +kernel) (by decide) ⟨Nat.le_of_ble_eq_true rfl, Nat.le_of_ble_eq_true rfl, Nat.le_of_ble_eq_true rfl, Nat.le_of_ble_eq_true rfl⟩ dX1_init_7 (fun a1 G hL => ?_)
  refine cg_putF F hL (m := 0) rfl cs_1 (by decide) fd_X1_11 hi rfl rfl rfl rfl (Nat.le_of_ble_eq_true rfl) rfl dX1_init_10 (fun G hL => ?_)
  exact jj_vret B dX1_init_13 ⟨Nat.le_of_ble_eq_true rfl, Nat.le_of_ble_eq_true rfl⟩ (⟨rfl, _, hL⟩)
abbrev rm_X5_init : Room := { frames := 1, cells := 3, slots := 48, locals := 12 }
set_option maxRecDepth 100000 in
set_option maxHeartbeats 400000 in
theorem k5_init {l : Launch} {D : va_G} {ac : Nat → ClassId} (hl : l.stackTraces = false) {o : Nat} {G0 : jj_G}  {G : jj_G} (hL : GL G0 [(o, jj_o 5 [.int (jI 0), .null, .null, .null, .int (jI 0)])] G) : jj_C l D ac yX5_init (.code yX5_init cX5_init 1 none) rm_X5_init [.ref o] G (jj_pv (fun G' => ∃ a1 a2 a3, GL G0 [(o, jj_o 5 [.int (jI 0), .ref a1, .ref a2, .ref a3, .int (jI 0)]), (a1, jj_ai (ac 0) 8 (fun _ => 0)), (a2, jj_ai (ac 0) 20 (fun _ => 0)), (a3, jj_ai (ac 0) 20 (fun _ => 0))] G')) (jj_nx) := by
  refine jj_ofx (own := RX5) (lv0 := [some (.ref o)]) hl (by decide +kernel) rfl rfl (Nat.le_of_ble_eq_true rfl) rfl ?_
  intro X B hN hl0 hdg hac hin
  subst hl0; subst hdg; subst hac
  have F := B.F

  have hi := hin rfl
  refine jj_aload0 F dX5_init_0 ?_
  refine jj_objInit F ml_X5_3 oi_i oi_c ⟨Nat.le_of_ble_eq_true rfl, Nat.le_of_ble_eq_true rfl⟩ dX5_init_1 ?_
  refine jj_aload0 F dX5_init_4 ?_
  refine jj_bipush F (by decide) dX5_init_5 ?_
  refine cg_newI F hL (N := 8) (k := 1) (n := 8) aw_int (by decide) ⟨Nat.le_of_ble_eq_true rfl, Nat.le_of_ble_eq_true rfl, Nat.le_of_ble_eq_true rfl, Nat.le_of_ble_eq_true rfl⟩ dX5_init_7 (fun a1 G hL => ?_)
  refine cg_putF F hL (m := 0) rfl cs_5 (by decide) fd_X5_9 hi rfl rfl rfl rfl (Nat.le_of_ble_eq_true rfl) rfl dX5_init_9 (fun G hL => ?_)
  refine jj_aload0 F dX5_init_12 ?_
  refine jj_bipush F (by decide) dX5_init_13 ?_
  refine cg_newI F hL (N := 20) (k := 2) (n := 28) aw_int (by decide) ⟨Nat.le_of_ble_eq_true rfl, Nat.le_of_ble_eq_true rfl, Nat.le_of_ble_eq_true rfl, Nat.le_of_ble_eq_true rfl⟩ dX5_init_15 (fun a2 G hL => ?_)
  refine cg_putF F hL (m := 0) rfl cs_5 (by decide) fd_X5_15 hi rfl rfl rfl rfl (Nat.le_of_ble_eq_true rfl) rfl dX5_init_17 (fun G hL => ?_)
  refine jj_aload0 F dX5_init_20 ?_
  refine jj_bipush F (by decide) dX5_init_21 ?_
  refine cg_newI F hL (N := 20) (k := 3) (n := 48) aw_int (by decide) ⟨Nat.le_of_ble_eq_true rfl, Nat.le_of_ble_eq_true rfl, Nat.le_of_ble_eq_true rfl, Nat.le_of_ble_eq_true rfl⟩ dX5_init_23 (fun a3 G hL => ?_)
  refine cg_putF F hL (m := 0) rfl cs_5 (by decide) fd_X5_18 hi rfl rfl rfl rfl (Nat.le_of_ble_eq_true rfl) rfl dX5_init_25 (fun G hL => ?_)
  exact jj_vret B dX5_init_28 ⟨Nat.le_of_ble_eq_true rfl, Nat.le_of_ble_eq_true rfl⟩ (⟨rfl, _, _, _, hL⟩)
abbrev rm_X2_init : Room := { frames := 1, cells := 5, slots := 124, locals := 12 }
set_option maxRecDepth 100000 in
set_option maxHeartbeats 400000 in
theorem k2_init {l : Launch} {D : va_G} {ac : Nat → ClassId} (hl : l.stackTraces = false) {o : Nat} {G0 : jj_G}  {G : jj_G} (hL : GL G0 [(o, jj_o 2 [.null, .null, .null, .null, .null, .int (jI 0)])] G) : jj_C l D ac yX2_init (.code yX2_init cX2_init 1 none) rm_X2_init [.ref o] G (jj_pv (fun G' => ∃ a1 a2 a3 a4 a5, GL G0 [(o, jj_o 2 [.ref a1, .ref a2, .ref a3, .ref a4, .ref a5, .int (jI 0)]), (a1, jj_ai (ac 0) 6 (fun _ => 0)), (a2, jj_ai (ac 0) 6 (fun _ => 0)), (a3, jj_ai (ac 0) 6 (fun _ => 0)), (a4, jj_ai (ac 0) 6 (fun _ => 0)), (a5, jj_aq (ac 6) 100 (fun _ => none))] G')) (jj_nx) := by
  refine jj_ofx (own := RX2) (lv0 := [some (.ref o)]) hl (by decide +kernel) rfl rfl (Nat.le_of_ble_eq_true rfl) rfl ?_
  intro X B hN hl0 hdg hac hin
  subst hl0; subst hdg; subst hac
  have F := B.F

  have hi := hin rfl
  refine jj_aload0 F dX2_init_0 ?_
  refine jj_objInit F ml_X2_3 oi_i oi_c ⟨Nat.le_of_ble_eq_true rfl, Nat.le_of_ble_eq_true rfl⟩ dX2_init_1 ?_
  refine jj_aload0 F dX2_init_4 ?_
  refine jj_bipush F (by decide) dX2_init_5 ?_
  refine cg_newI F hL (N := 6) (k := 1) (n := 6) aw_int (by decide) ⟨Nat.le_of_ble_eq_true rfl, Nat.le_of_ble_eq_true rfl, Nat.le_of_ble_eq_true rfl, Nat.le_of_ble_eq_true rfl⟩ dX2_init_7 (fun a1 G hL => ?_)
  refine cg_putF F hL (m := 0) rfl cs_2 (by decide) fd_X2_9 hi rfl rfl rfl rfl (Nat.le_of_ble_eq_true rfl) rfl dX2_init_9 (fun G hL => ?_)
  refine jj_aload0 F dX2_init_12 ?_
  refine jj_bipush F (by decide) dX2_init_13 ?_
  refine cg_newI F hL (N := 6) (k := 2) (n := 12) aw_int (by decide) ⟨Nat.le_of_ble_eq_true rfl, Nat.le_of_ble_eq_true rfl, Nat.le_of_ble_eq_true rfl, Nat.le_of_ble_eq_true rfl⟩ dX2_init_15 (fun a2 G hL => ?_)
  refine cg_putF F hL (m := 0) rfl cs_2 (by decide) fd_X2_15 hi rfl rfl rfl rfl (Nat.le_of_ble_eq_true rfl) rfl dX2_init_17 (fun G hL => ?_)
  refine jj_aload0 F dX2_init_20 ?_
  refine jj_bipush F (by decide) dX2_init_21 ?_
  refine cg_newI F hL (N := 6) (k := 3) (n := 18) aw_int (by decide) ⟨Nat.le_of_ble_eq_true rfl, Nat.le_of_ble_eq_true rfl, Nat.le_of_ble_eq_true rfl, Nat.le_of_ble_eq_true rfl⟩ dX2_init_23 (fun a3 G hL => ?_)
  refine cg_putF F hL (m := 0) rfl cs_2 (by decide) fd_X2_18 hi rfl rfl rfl rfl (Nat.le_of_ble_eq_true rfl) rfl dX2_init_25 (fun G hL => ?_)
  refine jj_aload0 F dX2_init_28 ?_
  refine jj_bipush F (by decide) dX2_init_29 ?_
  refine cg_newI F hL (N := 6) (k := 4) (n := 24) aw_int (by decide) ⟨Nat.le_of_ble_eq_true rfl, Nat.le_of_ble_eq_true rfl, Nat.le_of_ble_eq_true rfl, Nat.le_of_ble_eq_true rfl⟩ dX2_init_31 (fun a4 G hL => ?_)
  refine cg_putF F hL (m := 0) rfl cs_2 (by decide) fd_X2_21 hi rfl rfl rfl rfl (Nat.le_of_ble_eq_true rfl) rfl dX2_init_33 (fun G hL => ?_)
  refine jj_aload0 F dX2_init_36 ?_
  refine jj_bipush F (by decide) dX2_init_37 ?_
  refine cg_newQ F hL (N := 100) (k := 5) (n := 124) (t := 6) (fun _ => rfl) cl_X2_24 (by decide +kernel) (by decide) ⟨Nat.le_of_ble_eq_true rfl, Nat.le_of_ble_eq_true rfl, Nat.le_of_ble_eq_true rfl, Nat.le_of_ble_eq_true rfl⟩ dX2_init_39 (fun a5 G hL => ?_)
  refine cg_putF F hL (m := 0) rfl cs_2 (by decide) fd_X2_26 hi rfl rfl rfl rfl (Nat.le_of_ble_eq_true rfl) rfl dX2_init_42 (fun G hL => ?_)
  exact jj_vret B dX2_init_45 ⟨Nat.le_of_ble_eq_true rfl, Nat.le_of_ble_eq_true rfl⟩ (⟨rfl, _, _, _, _, _, hL⟩)
abbrev rm_X7_append : Room := { frames := 1, cells := 0, slots := 0, locals := 20 }
set_option maxRecDepth 100000 in
set_option maxHeartbeats 400000 in
theorem k7_append {l : Launch} {D : va_G} {ac : Nat → ClassId} (hl : l.stackTraces = false) {v0 v1 v2 v3 v4 v5 v6 v7 : Value} {o a1 a2 a3 : Nat} {G0 : jj_G} {S : Sg} {x f u : Int}  {G : jj_G} (hL : GL G0 (tNew (ac 0) S v0 v1 v2 v3 v4 v5 v6 v7 o a1 a2 a3) G) (h7 : 0 ≤ S 7 (S 1 0) ∧ S 7 (S 1 0) < 20) : jj_C l D ac yX7_append (.code yX7_append cX7_append 4 none) rm_X7_append [.ref o, .int (jI x), .int (jI f), .int (jI u)] G (jj_pv (fun G' => GL G0 (tNew (ac 0) (sPuts S x f u) v0 v1 v2 v3 v4 v5 v6 v7 o a1 a2 a3) G')) (jj_nx) := by
  refine jj_ofx (own := RX7) (lv0 := [some (.ref o), some (.int (jI x)), some (.int (jI f)), some (.int (jI u))]) hl (by decide +kernel) rfl rfl (Nat.le_of_ble_eq_true rfl) rfl ?_
  intro X B hN hl0 hdg hac hin
  subst hl0; subst hdg; subst hac
  have F := B.F

  refine jj_aload0 F dX7_append_0 ?_
  refine jj_get F (hL.at (m := 0) rfl) cs_7 (by decide) fd_X7_74 rfl dX7_append_1 ?_
  refine jj_callSr B (k := 0) (n := 0) (k7_isPlace F.tr h7) lk_X7_70 rfl ⟨Nat.le_of_ble_eq_true rfl, Nat.le_of_ble_eq_true rfl, Nat.le_of_ble_eq_true rfl, Nat.le_of_ble_eq_true rfl, Nat.le_of_ble_eq_true rfl⟩ ⟨Nat.le_of_ble_eq_true rfl, Nat.le_of_ble_eq_true rfl, Nat.le_of_ble_eq_true rfl, Nat.le_of_ble_eq_true rfl⟩ jj_tx0 dX7_append_4 ?_
  refine jj_if_eq F (tgt := 62) dX7_append_7 rfl (by omega) (fun c7 => by exfalso; omega) (fun c7 => ?_)
  refine jj_aload0 F dX7_append_10 ?_
  refine jj_get F (hL.at (m := 0) rfl) cs_7 (by decide) fd_X7_9 rfl dX7_append_11 ?_
  refine jj_aload0 F dX7_append_14 ?_
  refine jj_get F (hL.at (m := 0) rfl) cs_7 (by decide) fd_X7_74 rfl dX7_append_15 ?_
  refine jj_iload1 F dX7_append_18 ?_
  refine cg_iast F hL (m := 1) rfl (by omega) (by decide) rfl dX7_append_19 (fun G hL => ?_)
  refine jj_aload0 F dX7_append_20 ?_
  refine jj_get F (hL.at (m := 0) rfl) cs_7 (by decide) fd_X7_15 rfl dX7_append_21 ?_
  refine jj_aload0 F dX7_append_24 ?_
  refine jj_get F (hL.at (m := 0) rfl) cs_7 (by decide) fd_X7_74 rfl dX7_append_25 ?_
  refine jj_iload2 F dX7_append_28 ?_
  refine cg_iast F hL (m := 2) rfl (by omega) (by decide) rfl dX7_append_29 (fun G hL => ?_)
  refine jj_aload0 F dX7_append_30 ?_
  refine jj_get F (hL.at (m := 0) rfl) cs_7 (by decide) fd_X7_18 rfl dX7_append_31 ?_
  refine jj_aload0 F dX7_append_34 ?_
  refine jj_get F (hL.at (m := 0) rfl) cs_7 (by decide) fd_X7_74 rfl dX7_append_35 ?_
  refine jj_iload3 F dX7_append_38 ?_
  refine cg_iast F hL (m := 3) rfl (by omega) (by decide) rfl dX7_append_39 (fun G hL => ?_)
  refine jj_aload0 F dX7_append_40 ?_
  refine jj_dup F rfl dX7_append_41 ?_
  refine jj_get F (hL.at (m := 0) rfl) cs_7 (by decide) fd_X7_74 rfl dX7_append_42 ?_
  refine jj_iconst F dX7_append_45 ?_
  refine jj_iadd F dX7_append_46 ?_
  refine cg_put F hL (m := 0) rfl cs_7 (by decide) fd_X7_74 rfl rfl rfl (Nat.le_of_ble_eq_true rfl) rfl dX7_append_47 (fun G hL => ?_)
  refine jj_aload0 F dX7_append_50 ?_
  refine jj_dup F rfl dX7_append_51 ?_
  refine jj_get F (hL.at (m := 0) rfl) cs_7 (by decide) fd_X7_64 rfl dX7_append_52 ?_
  refine jj_iload3 F dX7_append_55 ?_
  refine jj_iload2 F dX7_append_56 ?_
  refine jj_isub F dX7_append_57 ?_
  refine jj_iadd F dX7_append_58 ?_
  refine cg_put F hL (m := 0) rfl cs_7 (by decide) fd_X7_64 rfl rfl rfl (Nat.le_of_ble_eq_true rfl) rfl dX7_append_59 (fun G hL => ?_)
  exact jj_vret B dX7_append_62 ⟨Nat.le_of_ble_eq_true rfl, Nat.le_of_ble_eq_true rfl⟩ (⟨rfl, hL.eq (tNew_puts h7)⟩)
