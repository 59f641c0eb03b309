theorem house_rep {ac : Nat → ClassId} {G0 G : jj_G} {o a1 p p1 a4 a5 f f1 f2 f3 r r1 r2 r3 r4 r5 : Nat} (hL : GL G0 [(o, jj_o 8 [.int (jI 0), .ref a1, .int (jI 0), .ref p, .ref a4, .int (jI 0), .ref a5, .int (jI 0), .ref f, .ref r]), (a1, jj_aq (ac 2) 30 (fun _ => Option.none)), (p, jj_o 1 [.ref p1, .int (jI 0)]), (p1, jj_aq (ac 2) 6 (fun _ => Option.none)), (a4, jj_aq (ac 3) 10 (fun _ => Option.none)), (a5, jj_aq (ac 5) 20 (fun _ => Option.none)), (f, jj_o 5 [.int (jI 0), .ref f1, .ref f2, .ref f3, .int (jI 0)]), (f1, jj_ai (ac 0) 8 (fun _ => 0)), (f2, jj_ai (ac 0) 20 (fun _ => 0)), (f3, jj_ai (ac 0) 20 (fun _ => 0)), (r, jj_o 2 [.ref r1, .ref r2, .ref r3, .ref r4, .ref r5, .int (jI 0)]), (r1, jj_ai (ac 0) 6 (fun _ => 0)), (r2, jj_ai (ac 0) 6 (fun _ => 0)), (r3, jj_ai (ac 0) 6 (fun _ => 0)), (r4, jj_ai (ac 0) 6 (fun _ => 0)), (r5, jj_aq (ac 6) 100 (fun _ => Option.none))] G) : ∃ (ad : Ad) (C : Cm), ad 0 0 = o ∧ Rep ad C G ∧ (ad 0 0 = o ∧ C 0 0 = some (jj_o 8 [.int (jI 0), .ref a1, .int (jI 0), .ref p, .ref a4, .int (jI 0), .ref a5, .int (jI 0), .ref f, .ref r])) ∧ (ad 1 0 = a1 ∧ C 1 0 = some (jj_aq (ac 2) 30 (fun _ => Option.none))) ∧ (ad 4 0 = p ∧ C 4 0 = some (jj_o 1 [.ref p1, .int (jI 0)])) ∧ (ad 5 0 = p1 ∧ C 5 0 = some (jj_aq (ac 2) 6 (fun _ => Option.none))) ∧ (ad 2 0 = a4 ∧ C 2 0 = some (jj_aq (ac 3) 10 (fun _ => Option.none))) ∧ (ad 3 0 = a5 ∧ C 3 0 = some (jj_aq (ac 5) 20 (fun _ => Option.none))) ∧ (ad 6 0 = f ∧ C 6 0 = some (jj_o 5 [.int (jI 0), .ref f1, .ref f2, .ref f3, .int (jI 0)])) ∧ (ad 7 0 = f1 ∧ C 7 0 = some (jj_ai (ac 0) 8 (fun _ => 0))) ∧ (ad 8 0 = f2 ∧ C 8 0 = some (jj_ai (ac 0) 20 (fun _ => 0))) ∧ (ad 9 0 = f3 ∧ C 9 0 = some (jj_ai (ac 0) 20 (fun _ => 0))) ∧ (ad 10 0 = r ∧ C 10 0 = some (jj_o 2 [.ref r1, .ref r2, .ref r3, .ref r4, .ref r5, .int (jI 0)])) ∧ (ad 11 0 = r1 ∧ C 11 0 = some (jj_ai (ac 0) 6 (fun _ => 0))) ∧ (ad 12 0 = r2 ∧ C 12 0 = some (jj_ai (ac 0) 6 (fun _ => 0))) ∧ (ad 13 0 = r3 ∧ C 13 0 = some (jj_ai (ac 0) 6 (fun _ => 0))) ∧ (ad 14 0 = r4 ∧ C 14 0 = some (jj_ai (ac 0) 6 (fun _ => 0))) ∧ (ad 15 0 = r5 ∧ C 15 0 = some (jj_aq (ac 6) 100 (fun _ => Option.none))) ∧ (∀ k i, i ≠ 0 → C k i = Option.none) ∧ (∀ k i, C (k + 16) i = Option.none) := by
  have hR0 : Rep (fun _ _ => 0) (fun _ _ => Option.none) G0 := Rep.nil
  have hR1 := hR0.new (k := 0) (i := 0) rfl hL.first (jj_o 8 [.int (jI 0), .ref a1, .int (jI 0), .ref p, .ref a4, .int (jI 0), .ref a5, .int (jI 0), .ref f, .ref r])
  replace hL := hL.peel
  have hR2 := hR1.new (k := 1) (i := 0) rfl hL.first (jj_aq (ac 2) 30 (fun _ => Option.none))
  replace hL := hL.peel
  have hR3 := hR2.new (k := 4) (i := 0) rfl hL.first (jj_o 1 [.ref p1, .int (jI 0)])
  replace hL := hL.peel
  have hR4 := hR3.new (k := 5) (i := 0) rfl hL.first (jj_aq (ac 2) 6 (fun _ => Option.none))
  replace hL := hL.peel
  have hR5 := hR4.new (k := 2) (i := 0) rfl hL.first (jj_aq (ac 3) 10 (fun _ => Option.none))
  replace hL := hL.peel
  have hR6 := hR5.new (k := 3) (i := 0) rfl hL.first (jj_aq (ac 5) 20 (fun _ => Option.none))
  replace hL := hL.peel
  have hR7 := hR6.new (k := 6) (i := 0) rfl hL.first (jj_o 5 [.int (jI 0), .ref f1, .ref f2, .ref f3, .int (jI 0)])
  replace hL := hL.peel
  have hR8 := hR7.new (k := 7) (i := 0) rfl hL.first (jj_ai (ac 0) 8 (fun _ => 0))
  replace hL := hL.peel
  have hR9 := hR8.new (k := 8) (i := 0) rfl hL.first (jj_ai (ac 0) 20 (fun _ => 0))
  replace hL := hL.peel
  have hR10 := hR9.new (k := 9) (i := 0) rfl hL.first (jj_ai (ac 0) 20 (fun _ => 0))
  replace hL := hL.peel
  have hR11 := hR10.new (k := 10) (i := 0) rfl hL.first (jj_o 2 [.ref r1, .ref r2, .ref r3, .ref r4, .ref r5, .int (jI 0)])
  replace hL := hL.peel
  have hR12 := hR11.new (k := 11) (i := 0) rfl hL.first (jj_ai (ac 0) 6 (fun _ => 0))
  replace hL := hL.peel
  have hR13 := hR12.new (k := 12) (i := 0) rfl hL.first (jj_ai (ac 0) 6 (fun _ => 0))
  replace hL := hL.peel
  have hR14 := hR13.new (k := 13) (i := 0) rfl hL.first (jj_ai (ac 0) 6 (fun _ => 0))
  replace hL := hL.peel
  have hR15 := hR14.new (k := 14) (i := 0) rfl hL.first (jj_ai (ac 0) 6 (fun _ => 0))
  replace hL := hL.peel
  have hR16 := hR15.new (k := 15) (i := 0) rfl hL.first (jj_aq (ac 6) 100 (fun _ => Option.none))
  replace hL := hL.peel
  refine ⟨_, _, rfl, hR16.heap hL, ⟨rfl, rfl⟩, ⟨rfl, rfl⟩, ⟨rfl, rfl⟩, ⟨rfl, rfl⟩, ⟨rfl, rfl⟩, ⟨rfl, rfl⟩, ⟨rfl, rfl⟩, ⟨rfl, rfl⟩, ⟨rfl, rfl⟩, ⟨rfl, rfl⟩, ⟨rfl, rfl⟩, ⟨rfl, rfl⟩, ⟨rfl, rfl⟩, ⟨rfl, rfl⟩, ⟨rfl, rfl⟩, ⟨rfl, rfl⟩, fun k i hi => ?_, fun k i => ?_⟩
  · simp [cU, hi]
  · simp [cU]
