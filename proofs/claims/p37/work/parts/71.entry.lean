/-! ===== at the law's entry: what the tables give, two fresh houses ===== -/
theorem ac_int {s : State} {args : Array Value} (h : (Cond.arrayClass .int).before args s = true) : ∃ cA, ArrOfT s cA .int ∧ va_RA s cA .int := by
  obtain ⟨cA, kA, comp, h1, h2, h3⟩ := Cond.arrayClass_spec h
  exact ⟨cA, fun n z => ⟨fun k hk => (by cases hk), kA, h2, comp, h3⟩, h1⟩
theorem ac_obj {C : String} {s : State} (h : va_AO C s) : ∃ cA, ArrOfT s cA (.object C) ∧ va_RA s cA (.object C) := by
  obtain ⟨comp, c, k, h1, h2, h3, h4, h5⟩ := Cond.arrayOver_spec h
  exact ⟨c, fun n z => ⟨fun q hq => (by cases hq), k, h3, comp, h4⟩, k, comp, h3, h4, h1, h5⟩
theorem str_ref {own tx : String} {k : Nat} {s : State} {args : Array Value} (h : (Cond.stringRef own k tx).before args s = true) : ∃ a, vk_R own k tx a s := by
  have h1 : (Cond.stringRef own k tx).before #[] s = true := h
  cases hc : s.vm.findClass own with
  | none => simp [Cond.before, Cond.holds, Cond.value, hc] at h
  | some cur =>
    obtain ⟨k1, cf, i, a, -, -, -, -, -, he⟩ := Cond.stringRef_spec hc h1
    exact ⟨a, vk_R.of h1 he⟩
theorem ao_all {s : State} {args : Array Value} (hts : ∀ w ∈ lw_tbl, w.before args s = true) : ∀ C ∈ jj_O, va_AO C s := by
  exact List.forall_mem_cons.mpr ⟨va_AO.of (hts _ (List.mem_of_getElem? (i := 39) (a := Cond.arrayOver (.object "MatrixHouse$Tape")) (by decide +kernel))), List.forall_mem_cons.mpr ⟨va_AO.of (hts _ (List.mem_of_getElem? (i := 57) (a := Cond.arrayOver (.object "MatrixHouse$Side")) (by decide +kernel))), List.forall_mem_cons.mpr ⟨va_AO.of (hts _ (List.mem_of_getElem? (i := 569) (a := Cond.arrayOver (.object "MatrixHouse$Stamper")) (by decide +kernel))), List.forall_mem_cons.mpr ⟨va_AO.of (hts _ (List.mem_of_getElem? (i := 59) (a := Cond.arrayOver (.object "MatrixHouse$Disc")) (by decide +kernel))), List.forall_mem_cons.mpr ⟨va_AO.of (hts _ (List.mem_of_getElem? (i := 92) (a := Cond.arrayOver (.object "MatrixHouse$Sale")) (by decide +kernel))), fun _ h => absurd h List.not_mem_nil⟩⟩⟩⟩⟩
set_option maxRecDepth 100000 in
set_option maxHeartbeats 4000000 in
theorem jj_E_start {s : State} {args : Array Value} (hts : ∀ w ∈ lw_tbl, w.before args s = true) (hgv : (Jvm.Cond.and given_1 narrow_1).before args s = true) {A : Nat → Prop} (hA : ∀ a : Nat, a < s.heap.size → ¬ A a) : ∃ (D : va_G) (ac : Nat → ClassId), jj_E D ac A s s.heap := by
  have hgw : ∀ w ∈ jj_GW, w.before args s = true := fun w hw => hts w (List.mem_filter.mp hw).1
  obtain ⟨c0, i0, k0⟩ := u_known (args := args) (C := RX0) (T := TX0) (N := 3) (n := 3) hgw cs_0.2.1 (hgw _ ins_0)
  obtain ⟨c1, i1, k1⟩ := u_known (args := args) (C := RX1) (T := TX1) (N := 2) (n := 2) hgw cs_1.2.1 (hgw _ ins_1)
  obtain ⟨c2, i2, k2⟩ := u_known (args := args) (C := RX2) (T := TX2) (N := 6) (n := 6) hgw cs_2.2.1 (hgw _ ins_2)
  obtain ⟨c3, i3, k3⟩ := u_known (args := args) (C := RX3) (T := TX3) (N := 4) (n := 4) hgw cs_3.2.1 (hgw _ ins_3)
  obtain ⟨c4, i4, k4⟩ := u_known (args := args) (C := RX4) (T := TX4) (N := 5) (n := 5) hgw cs_4.2.1 (hgw _ ins_4)
  obtain ⟨c5, i5, k5⟩ := u_known (args := args) (C := RX5) (T := TX5) (N := 5) (n := 5) hgw cs_5.2.1 (hgw _ ins_5)
  obtain ⟨c6, i6, k6⟩ := u_known (args := args) (C := RX6) (T := TX6) (N := 7) (n := 7) hgw cs_6.2.1 (hgw _ ins_6)
  obtain ⟨c7, i7, k7⟩ := u_known (args := args) (C := RX7) (T := TX7) (N := 15) (n := 15) hgw cs_7.2.1 (hgw _ ins_7)
  obtain ⟨c8, i8, k8⟩ := u_known (args := args) (C := RX8) (T := TX8) (N := 10) (n := 10) hgw cs_8.2.1 (hgw _ ins_8)
  obtain ⟨dC, dI, hKc⟩ : ∃ (dC : Nat → ClassId) (dI : Nat → Nat → Nat), ∀ (k : Nat) (q : vw_C), vwCl[k]? = some q → u_Kn s q.1 q.2.1 q.2.2 (dC k) (dI k) := by
    refine ⟨fun k => match k with | 0 => c0 | 1 => c1 | 2 => c2 | 3 => c3 | 4 => c4 | 5 => c5 | 6 => c6 | 7 => c7 | _ => c8, fun k => match k with | 0 => i0 | 1 => i1 | 2 => i2 | 3 => i3 | 4 => i4 | 5 => i5 | 6 => i6 | 7 => i7 | _ => i8, ?_⟩
    intro k q hq
    match k, hq with
    | 0, hq => cases hq; exact k0
    | 1, hq => cases hq; exact k1
    | 2, hq => cases hq; exact k2
    | 3, hq => cases hq; exact k3
    | 4, hq => cases hq; exact k4
    | 5, hq => cases hq; exact k5
    | 6, hq => cases hq; exact k6
    | 7, hq => cases hq; exact k7
    | 8, hq => cases hq; exact k8
    | k + 9, hq => simp at hq
  have hO := ao_all hts
  obtain ⟨a0, p0⟩ := ac_int (hgw _ aw_int)
  obtain ⟨a1, p1⟩ := ac_int (hgw _ aw_int)
  obtain ⟨a2, p2⟩ := ac_obj (hO "MatrixHouse$Tape" (List.mem_of_getElem? (i := 0) rfl))
  obtain ⟨a3, p3⟩ := ac_obj (hO "MatrixHouse$Side" (List.mem_of_getElem? (i := 1) rfl))
  obtain ⟨a4, p4⟩ := ac_obj (hO "MatrixHouse$Stamper" (List.mem_of_getElem? (i := 2) rfl))
  obtain ⟨a5, p5⟩ := ac_obj (hO "MatrixHouse$Disc" (List.mem_of_getElem? (i := 3) rfl))
  obtain ⟨a6, p6⟩ := ac_obj (hO "MatrixHouse$Sale" (List.mem_of_getElem? (i := 4) rfl))
  refine ⟨(dC, dI), fun k => match k with | 0 => a0 | 1 => a1 | 2 => a2 | 3 => a3 | 4 => a4 | 5 => a5 | _ => a6, ?_⟩
  refine ⟨fun w hw => word_at (State.WarmedH.refl s) (good_of_word (jj_gw_good hw)) (hgw w hw), ⟨hKc, fun k q hk => ?_⟩, fun q hq => ?_, fun w hw => va_Nw.of (jj_T_on hw) (hts w (List.mem_filter.mp hw).1), hO, fun q hq => ?_, vx_Zqof (hts _ (List.mem_of_getElem? (i := 194) (a := Cond.laysStatic Bundle.tN "UNASSIGNED_STACK" Bundle.steD) (by decide +kernel))) (hts _ (List.mem_of_getElem? (i := 18) (a := Cond.initialized Bundle.tN) (by decide +kernel))) (flat_of_before _ hgv (Cond.isRef (.static Bundle.tN "UNASSIGNED_STACK" Bundle.steD)) (by decide +kernel)) hA, vx_Zqof (hts _ (List.mem_of_getElem? (i := 196) (a := Cond.laysStatic Bundle.tN "SUPPRESSED_SENTINEL" Bundle.listD) (by decide +kernel))) (hts _ (List.mem_of_getElem? (i := 18) (a := Cond.initialized Bundle.tN) (by decide +kernel))) (flat_of_before _ hgv (Cond.isRef (.static Bundle.tN "SUPPRESSED_SENTINEL" Bundle.listD)) (by decide +kernel)) hA⟩
  · match k, hk with
    | 0, hk => cases hk; exact p0
    | 1, hk => cases hk; exact p1
    | 2, hk => cases hk; exact p2
    | 3, hk => cases hk; exact p3
    | 4, hk => cases hk; exact p4
    | 5, hk => cases hk; exact p5
    | 6, hk => cases hk; exact p6
    | k + 7, hk => simp [jj_ty] at hk
  · obtain ⟨w, hw, he⟩ := List.mem_filterMap.mp hq
    have h := hts w hw
    cases w <;> first | (simp [jj_sw] at he; done) | skip
    simp only [jj_sw, Option.some.injEq] at he
    subst he
    exact str_ref h
  · simp only [jj_N, List.mem_cons, List.not_mem_nil, or_false] at hq
    rcases hq with rfl | rfl | rfl
    · exact va_Nc.of (flat_of_before _ hgv (Cond.not (.castable eA eB)) (by decide +kernel))
    · exact va_Nc.of (flat_of_before _ hgv (Cond.not (.castable eS eB)) (by decide +kernel))
    · exact va_Nc.of (flat_of_before _ hgv (Cond.not (.castable eS eA)) (by decide +kernel))
