/-! ===== at the law's entry: what the tables give, two fresh houses ===== -/
theorem ac_int {s : State} {args : Array Value} (h : (Cond.arrayClass .int).before args s = true) : ∃ cA, ArrOfT s cA .int ∧ va_RA s cA .int := by
  obtain ⟨cA, kA, comp, h1, h2, h3⟩ := Cond.arrayClass_spec h
  exact ⟨cA, fun n z => ⟨fun k hk => (by cases hk), kA, h2, comp, h3⟩, h1⟩
theorem ac_long {s : State} {args : Array Value} (h : (Cond.arrayClass .long).before args s = true) : ∃ cA, ArrOfT s cA .long ∧ va_RA s cA .long := by
  obtain ⟨cA, kA, comp, h1, h2, h3⟩ := Cond.arrayClass_spec h
  exact ⟨cA, fun n z => ⟨fun k hk => (by cases hk), kA, h2, comp, h3⟩, h1⟩
theorem ac_obj {C : String} {s : State} (h : va_AO C s) : ∃ cA, ArrOfT s cA (.object C) ∧ va_RA s cA (.object C) := by
  obtain ⟨comp, c, k, h1, h2, h3, h4, h5⟩ := Cond.arrayOver_spec h
  exact ⟨c, fun n z => ⟨fun q hq => (by cases hq), k, h3, comp, h4⟩, k, comp, h3, h4, h1, h5⟩
theorem str_ref {own tx : String} {k : Nat} {s : State} {args : Array Value} (h : (Cond.stringRef own k tx).before args s = true) : ∃ a, vk_R own k tx a s := by
  have h1 : (Cond.stringRef own k tx).before #[] s = true := h
  cases hc : s.vm.findClass own with
  | none => simp [Cond.before, Cond.holds, Cond.value, hc] at h
  | some cur =>
    obtain ⟨k1, cf, i, a, -, -, -, -, -, he⟩ := Cond.stringRef_spec hc h1
    exact ⟨a, vk_R.of h1 he⟩
theorem ao_all {s : State} {args : Array Value} (hts : ∀ w ∈ lw_tbl, w.before args s = true) : ∀ C ∈ jj_O, va_AO C s := by
  exact List.forall_mem_cons.mpr ⟨va_AO.of (hts _ (List.mem_of_getElem? (i := 60) (a := Cond.arrayOver (.object "MatrixHouse$Tape")) (by decide +kernel))), List.forall_mem_cons.mpr ⟨va_AO.of (hts _ (List.mem_of_getElem? (i := 78) (a := Cond.arrayOver (.object "MatrixHouse$Side")) (by decide +kernel))), List.forall_mem_cons.mpr ⟨va_AO.of (hts _ (List.mem_of_getElem? (i := 548) (a := Cond.arrayOver (.object "MatrixHouse$Stamper")) (by decide +kernel))), List.forall_mem_cons.mpr ⟨va_AO.of (hts _ (List.mem_of_getElem? (i := 80) (a := Cond.arrayOver (.object "MatrixHouse$Disc")) (by decide +kernel))), List.forall_mem_cons.mpr ⟨va_AO.of (hts _ (List.mem_of_getElem? (i := 113) (a := Cond.arrayOver (.object "MatrixHouse$Sale")) (by decide +kernel))), fun _ h => absurd h List.not_mem_nil⟩⟩⟩⟩⟩
set_option maxRecDepth 100000 in
set_option maxHeartbeats 4000000 in
theorem jj_E_start {s : State} {args : Array Value} (hts : ∀ w ∈ lw_tbl, w.before args s = true) (hgv : (Jvm.Cond.and given_1 narrow_1).before args s = true) {A : Nat → Prop} (hA : ∀ a : Nat, a < s.heap.size → ¬ A a) : ∃ (D : va_G) (ac : Nat → ClassId), jj_E D ac A s s.heap := by
  have hgw : ∀ w ∈ jj_GW, w.before args s = true := fun w hw => hts w (List.mem_filter.mp hw).1
  obtain ⟨c0, i0, k0⟩ := u_known (args := args) (C := RX0) (T := TX0) (N := 3) (n := 3) hgw cs_0.2.1 (hgw _ ins_0)
  obtain ⟨c1, i1, k1⟩ := u_known (args := args) (C := RX1) (T := TX1) (N := 2) (n := 2) hgw cs_1.2.1 (hgw _ ins_1)
  obtain ⟨c2, i2, k2⟩ := u_known (args := args) (C := RX2) (T := TX2) (N := 6) (n := 6) hgw cs_2.2.1 (hgw _ ins_2)
  obtain ⟨c3, i3, k3⟩ := u_known (args := args) (C := RX3) (T := TX3) (N := 4) (n := 4) hgw cs_3.2.1 (hgw _ ins_3)
  obtain ⟨c4, i4, k4⟩ := u_known (args := args) (C := RX4) (T := TX4) (N := 5) (n := 5) hgw cs_4.2.1 (hgw _ ins_4)
  obtain ⟨c5, i5, k5⟩ := u_known (args := args) (C := RX5) (T := TX5) (N := 5) (n := 5) hgw cs_5.2.1 (hgw _ ins_5)
  obtain ⟨c6, i6, k6⟩ := u_known (args := args) (C := RX6) (T := TX6) (N := 7) (n := 7) hgw cs_6.2.1 (hgw _ ins_6)
  obtain ⟨c7, i7, k7⟩ := u_known (args := args) (C := RX7) (T := TX7) (N := 15) (n := 15) hgw cs_7.2.1 (hgw _ ins_7)
  obtain ⟨c8, i8, k8⟩ := u_known (args := args) (C := RX8) (T := TX8) (N := 10) (n := 10) hgw cs_8.2.1 (hgw _ ins_8)
  obtain ⟨c9, i9, k9⟩ := u_known (args := args) (C := RX9) (T := TX9) (N := 38) (n := 38) hgw cs_9.2.1 (hgw _ ins_9)
  obtain ⟨dC, dI, hKc⟩ : ∃ (dC : Nat → ClassId) (dI : Nat → Nat → Nat), ∀ (k : Nat) (q : vw_C), vwCl[k]? = some q → u_Kn s q.1 q.2.1 q.2.2 (dC k) (dI k) := by
    refine ⟨fun k => match k with | 0 => c0 | 1 => c1 | 2 => c2 | 3 => c3 | 4 => c4 | 5 => c5 | 6 => c6 | 7 => c7 | 8 => c8 | _ => c9, fun k => match k with | 0 => i0 | 1 => i1 | 2 => i2 | 3 => i3 | 4 => i4 | 5 => i5 | 6 => i6 | 7 => i7 | 8 => i8 | _ => i9, ?_⟩
    intro k q hq
    match k, hq with
    | 0, hq => cases hq; exact k0
    | 1, hq => cases hq; exact k1
    | 2, hq => cases hq; exact k2
    | 3, hq => cases hq; exact k3
    | 4, hq => cases hq; exact k4
    | 5, hq => cases hq; exact k5
    | 6, hq => cases hq; exact k6
    | 7, hq => cases hq; exact k7
    | 8, hq => cases hq; exact k8
    | 9, hq => cases hq; exact k9
    | k + 10, hq => simp at hq
  have hO := ao_all hts
  obtain ⟨a0, p0⟩ := ac_int (hgw _ aw_int)
  obtain ⟨a1, p1⟩ := ac_long (hgw _ aw_long)
  obtain ⟨a2, p2⟩ := ac_obj (hO "MatrixHouse$Tape" (List.mem_of_getElem? (i := 0) rfl))
  obtain ⟨a3, p3⟩ := ac_obj (hO "MatrixHouse$Side" (List.mem_of_getElem? (i := 1) rfl))
  obtain ⟨a4, p4⟩ := ac_obj (hO "MatrixHouse$Stamper" (List.mem_of_getElem? (i := 2) rfl))
  obtain ⟨a5, p5⟩ := ac_obj (hO "MatrixHouse$Disc" (List.mem_of_getElem? (i := 3) rfl))
  obtain ⟨a6, p6⟩ := ac_obj (hO "MatrixHouse$Sale" (List.mem_of_getElem? (i := 4) rfl))
  refine ⟨(dC, dI), fun k => match k with | 0 => a0 | 1 => a1 | 2 => a2 | 3 => a3 | 4 => a4 | 5 => a5 | _ => a6, ?_⟩
  refine ⟨fun w hw => word_at (State.WarmedH.refl s) (good_of_word (jj_gw_good hw)) (hgw w hw), ⟨hKc, fun k q hk => ?_⟩, fun q hq => ?_, fun w hw => va_Nw.of (jj_T_on hw) (hts w (List.mem_filter.mp hw).1), hO, fun q hq => ?_, vx_Zqof (hts _ (List.mem_of_getElem? (i := 216) (a := Cond.laysStatic Bundle.tN "UNASSIGNED_STACK" Bundle.steD) (by decide +kernel))) (hts _ (List.mem_of_getElem? (i := 39) (a := Cond.initialized Bundle.tN) (by decide +kernel))) (flat_of_before _ hgv (Cond.isRef (.static Bundle.tN "UNASSIGNED_STACK" Bundle.steD)) (by decide +kernel)) hA, vx_Zqof (hts _ (List.mem_of_getElem? (i := 218) (a := Cond.laysStatic Bundle.tN "SUPPRESSED_SENTINEL" Bundle.listD) (by decide +kernel))) (hts _ (List.mem_of_getElem? (i := 39) (a := Cond.initialized Bundle.tN) (by decide +kernel))) (flat_of_before _ hgv (Cond.isRef (.static Bundle.tN "SUPPRESSED_SENTINEL" Bundle.listD)) (by decide +kernel)) hA⟩
  · match k, hk with
    | 0, hk => cases hk; exact p0
    | 1, hk => cases hk; exact p1
    | 2, hk => cases hk; exact p2
    | 3, hk => cases hk; exact p3
    | 4, hk => cases hk; exact p4
    | 5, hk => cases hk; exact p5
    | 6, hk => cases hk; exact p6
    | k + 7, hk => simp [jj_ty] at hk
  · obtain ⟨w, hw, he⟩ := List.mem_filterMap.mp hq
    have h := hts w hw
    cases w <;> first | (simp [jj_sw] at he; done) | skip
    simp only [jj_sw, Option.some.injEq] at he
    subst he
    exact str_ref h
  · simp only [jj_N, List.mem_cons, List.not_mem_nil, or_false] at hq
    rcases hq with rfl | rfl | rfl
    · exact va_Nc.of (flat_of_before _ hgv (Cond.not (.castable eA eB)) (by decide +kernel))
    · exact va_Nc.of (flat_of_before _ hgv (Cond.not (.castable eS eB)) (by decide +kernel))
    · exact va_Nc.of (flat_of_before _ hgv (Cond.not (.castable eS eA)) (by decide +kernel))
theorem jj_uj {G : jj_G} {q : Nat} {x : va_E} : jj_u G q x = jj_j (jone q x) G := by
  funext a
  by_cases e : a = q
  · subst e; rw [jj_us, jj_jl (jj_sn jone_s), jone_s]
  · rw [jj_un e, jj_jr (jone_n e)]
theorem jj_jn {A B : jj_G} {q : Nat} (h : jj_j A B q = none) : A q = none ∧ B q = none := by
  cases ha : A q with
  | none => rw [jj_jr ha] at h; exact ⟨rfl, h⟩
  | some x => rw [jj_jl (jj_sn ha), ha] at h; cases h
theorem RI.zero {cI : ClassId} {o : Nat} {a : Nat → Nat} {G : jj_G} (h : G o = some (jj_o 9 (ri_fs a 0))) : RI cI o a 0 G := ⟨h, fun k hk => absurd hk (Nat.not_lt_zero k), fun k _ hk => absurd hk (Nat.not_lt_zero k), fun k hk => absurd hk (Nat.not_lt_zero k)⟩
set_option maxRecDepth 100000 in
set_option maxHeartbeats 4000000 in
theorem law_body {X : jj_X} (F : jj_F X RL cL_law room_1) (hN : ∀ k, k < 7 → k < jj_nL X) {b L : Nat} {xs : Nat → Int32} (hX : jj_scr X b L xs) (hL : L ≤ 3072) (kend : ∀ (G : jj_G) (kc kn : Nat) (lv : List (Option Value)), kc ≤ 601024 → kn ≤ 7293034 → jj_J X G kc kn 2418 lv []) : jj_J X (fun _ => none) 0 0 0 [some (.ref b), none, none, none, none, none, none] [] := by
  refine jj_new F (k := 1) (n := 10) (fs := [.int (jI 0), .null, .int (jI 0), .null, .null, .int (jI 0), .null, .int (jI 0), .null, .null]) cs_8 cl_L_8 ins_8 ini_8 (fun j hj => match j, hj with | 0, _ => rfl | 1, _ => rfl | 2, _ => rfl | 3, _ => rfl | 4, _ => rfl | 5, _ => rfl | 6, _ => rfl | 7, _ => rfl | 8, _ => rfl | 9, _ => rfl | q + 10, h => absurd h (by omega)) ⟨Nat.le_of_ble_eq_true rfl, Nat.le_of_ble_eq_true rfl, Nat.le_of_ble_eq_true rfl, Nat.le_of_ble_eq_true rfl⟩ dL_law_0 (fun xo hxo => ?_)
  refine jj_dup F rfl dL_law_3 ?_
  have hL0 : GL (fun _ => none) [(xo, jj_o 8 [.int (jI 0), .null, .int (jI 0), .null, .null, .int (jI 0), .null, .int (jI 0), .null, .null])] (jj_u (fun _ => none) xo (jj_o 8 [.int (jI 0), .null, .int (jI 0), .null, .null, .int (jI 0), .null, .int (jI 0), .null, .null])) := GL.one hxo
  refine jj_run F (jj_runI F (k8_init F.tr hL0) lk_L_122 rfl ⟨Nat.le_of_ble_eq_true rfl, Nat.le_of_ble_eq_true rfl, Nat.le_of_ble_eq_true rfl, Nat.le_of_ble_eq_true rfl, Nat.le_of_ble_eq_true rfl⟩ dL_law_4) (k := 100) (n := 1000) ⟨Nat.le_of_ble_eq_true rfl, Nat.le_of_ble_eq_true rfl⟩ rfl (fun E hE => hE.elim) ?_
  rintro v G1 ⟨rfl, a1, q1, q2, a4, a5, f, f1, f2, f3, r, r1, r2, r3, r4, r5, hL1⟩
  obtain ⟨ad, hxa, hR⟩ := house_new hL1
  clear hL0 hL1 hxo
  show jj_J X G1 100 1000 7 _ [.ref xo]
  refine jj_astore1 F dL_law_7 (hN _ (by decide)) rfl ?_
  refine jj_new F (k := 101) (n := 1038) (fs := ri_fs (fun _ => 0) 0) cs_9 cl_L_123 ins_9 ini_9 (fun j hj => match j, hj with | 0, _ => rfl | 1, _ => rfl | 2, _ => rfl | 3, _ => rfl | 4, _ => rfl | 5, _ => rfl | 6, _ => rfl | 7, _ => rfl | 8, _ => rfl | 9, _ => rfl | 10, _ => rfl | 11, _ => rfl | 12, _ => rfl | 13, _ => rfl | 14, _ => rfl | 15, _ => rfl | 16, _ => rfl | 17, _ => rfl | 18, _ => rfl | 19, _ => rfl | 20, _ => rfl | 21, _ => rfl | 22, _ => rfl | 23, _ => rfl | 24, _ => rfl | 25, _ => rfl | 26, _ => rfl | 27, _ => rfl | 28, _ => rfl | 29, _ => rfl | 30, _ => rfl | 31, _ => rfl | 32, _ => rfl | 33, _ => rfl | 34, _ => rfl | 35, _ => rfl | 36, _ => rfl | 37, _ => rfl | q + 38, h => absurd h (by omega)) ⟨Nat.le_of_ble_eq_true rfl, Nat.le_of_ble_eq_true rfl, Nat.le_of_ble_eq_true rfl, Nat.le_of_ble_eq_true rfl⟩ dL_law_8 (fun mo hmo => ?_)
  refine jj_dup F rfl dL_law_11 ?_
  rw [jj_uj]
  refine jj_runF F (jDj.one hmo).symm (jj_runI F (k9_init F.tr (RI.zero (a := fun _ => 0) jone_s)) lk_L_125 rfl ⟨Nat.le_of_ble_eq_true rfl, Nat.le_of_ble_eq_true rfl, Nat.le_of_ble_eq_true rfl, Nat.le_of_ble_eq_true rfl, Nat.le_of_ble_eq_true rfl⟩ dL_law_12) (k := 200) (n := 6000) ⟨Nat.le_of_ble_eq_true rfl, Nat.le_of_ble_eq_true rfl⟩ rfl (fun E hE => hE.elim) ?_
  rintro v G2 ⟨rfl, a2, hM⟩ hd
  show jj_J X (jj_j G2 G1) 200 6000 15 _ [.ref mo]
  refine jj_astore2 F dL_law_15 (hN _ (by decide)) rfl ?_
  refine jj_iconst F dL_law_16 ?_
  refine jj_newL F (N := 1) (k := 201) (n := 6001) aw_long (by decide) ⟨Nat.le_of_ble_eq_true rfl, Nat.le_of_ble_eq_true rfl, Nat.le_of_ble_eq_true rfl, Nat.le_of_ble_eq_true rfl⟩ dL_law_17 (fun oo hoo => ?_)
  obtain ⟨h2n, h1n⟩ := jj_jn hoo
  rw [jj_ur h2n, jj_uj, jj_j_comm (jDj.one h1n).symm]
  refine jj_astore3 F dL_law_19 (hN _ (by decide)) rfl ?_
  refine jj_iconst F dL_law_20 ?_
  refine jj_istore4 F dL_law_21 (hN _ (by decide)) rfl ?_
  exact law_loop F hN hX hL kend 513 0 0 _ _ _ _ _ (by omega) (by omega) (by omega) (by omega) (lInv.of hInv_new hR hxa hM (hd.j (jDj.one h2n)) h1n) (by omega) (by omega)
