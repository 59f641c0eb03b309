theorem kz {C : Cm} {k : Nat} {A X : va_E} (hC : ∀ i, i ≠ 0 → C k i = none) (h : A = X) (i : Int) : (if i = 0 then some A else none) = cU C k 0 X k i := by
  by_cases hi : i = 0
  · subst hi; rw [cU_s, if_pos rfl, h]
  · rw [cU_i hi, if_neg hi, hC i hi]
/-- a kind with many: one of them changed -/
theorem ki {C : Cm} {k : Nat} {i0 : Int} {X : va_E} {p p' : Int → Prop} {dp : ∀ i, Decidable (p i)} {dp' : ∀ i, Decidable (p' i)} {A B : Int → va_E} (hC : ∀ i, i ≠ i0 → C k i = if p' i then some (B i) else none) (h0 : p i0) (hA : A i0 = X) (hp : ∀ i, i ≠ i0 → (p i ↔ p' i)) (hB : ∀ i, i ≠ i0 → p i → A i = B i) (i : Int) : (if p i then some (A i) else none) = cU C k i0 X k i := by
  by_cases hi : i = i0
  · subst hi; rw [cU_s, if_pos h0, hA]
  · rw [cU_i hi, hC i hi]
    by_cases hp1 : p i
    · rw [if_pos hp1, if_pos ((hp i hi).mp hp1), hB i hi hp1]
    · rw [if_neg hp1, if_neg (fun h => hp1 ((hp i hi).mpr h))]
/-- .. none of them -/
theorem kj {p p' : Int → Prop} {dp : ∀ i, Decidable (p i)} {dp' : ∀ i, Decidable (p' i)} {A B : Int → va_E} (hp : ∀ i, p i ↔ p' i) (hB : ∀ i, p i → A i = B i) (i : Int) : (if p i then some (A i) else none) = (if p' i then some (B i) else none) := by
  by_cases hp1 : p i
  · rw [if_pos hp1, if_pos ((hp i).mp hp1), hB i hp1]
  · rw [if_neg hp1, if_neg (fun h => hp1 ((hp i).mpr h))]
theorem cU_u {C : Cm} {k : Nat} {i : Int} {x y : va_E} : cU (cU C k i x) k i y = cU C k i y := by
  funext k' i'
  unfold cU
  by_cases h1 : k' = k
  · by_cases h2 : i' = i
    · rw [if_pos h1, if_pos h2, if_pos h1, if_pos h2]
    · rw [if_pos h1, if_neg h2, if_pos h1, if_neg h2, if_pos h1, if_neg h2]
  · rw [if_neg h1, if_neg h1, if_neg h1]
theorem cU_id {C : Cm} {k : Nat} {i : Int} {x : va_E} (h : C k i = some x) : cU C k i x = C := by
  funext k' i'
  unfold cU
  by_cases h1 : k' = k
  · by_cases h2 : i' = i
    · rw [if_pos h1, if_pos h2, h1, h2, h]
    · rw [if_pos h1, if_neg h2]
  · rw [if_neg h1]

abbrev rm_X8_leastNoisy : Room := { frames := 7, cells := 0, slots := 0, locals := 112 }
set_option maxRecDepth 100000 in
set_option maxHeartbeats 400000 in
theorem k8_leastNoisy {l : Launch} {D : va_G} {ac : Nat → ClassId} (hl : l.stackTraces = false) {ad : Ad} {s e : Sg} {q p c : Int}  {G : jj_G} (hH : Has ad (cC ac ad s e) G) (hI5 : sI5 s c) (hc : 0 ≤ c ∧ c ≤ 512) (hA : ¬ sAre s q = 0) (hp : 0 ≤ p ∧ p < 8)  : jj_C l D ac yX8_leastNoisy (.code yX8_leastNoisy cX8_leastNoisy 7 (some .int)) rm_X8_leastNoisy [.ref (ad 0 0), .int (jI q), .int (jI p)] G (jj_ri (sJoin s q p) G) (jj_nx) := by
  refine jj_ofx (own := RX8) (lv0 := [some (.ref (ad 0 0)), some (.int (jI q)), some (.int (jI p)), none, none, none, none]) hl (by decide +kernel) rfl rfl (Nat.le_of_ble_eq_true rfl) rfl ?_
  intro X B hN hl0 hdg hac hin
  subst hl0; subst hdg; subst hac
  have F := B.F

  have i22 := hI5.1
  have hw : ∀ d : Int, 0 ≤ d → d < s 22 0 → 0 ≤ s 24 d ∧ s 24 d ≤ 100000 := fun d h1 h2 => by have := hI5.2.1 d h1 (by omega); omega
  have hno : ∀ d : Int, 0 ≤ d ∧ d < 20 → 0 ≤ sNoise s d p ∧ sNoise s d p ≤ 100000 := fun d hd => sNoise_in hI5 hc hd hp
  refine jj_iconst F dX8_leastNoisy_0 ?_
  refine jj_istore3 F dX8_leastNoisy_1 (hN _ (by decide)) rfl ?_
  refine jj_iconst F dX8_leastNoisy_2 ?_
  refine jj_istore4 F dX8_leastNoisy_3 (hN _ (by decide)) rfl ?_
  refine jj_iconst F dX8_leastNoisy_5 ?_
  refine jj_istore5 F dX8_leastNoisy_6 (hN _ (by decide)) rfl ?_
  have loop : ∀ (n j : Nat) (x6 : Option Value), n + j = 20 → jj_J X G 0 0 8 [some (.ref (ad 0 0)), some (.int (jI q)), some (.int (jI p)), some (.int (jI (sJoinTo s q p (min j (s 22 0).toNat)))), some (.int (jI (sLeast s q p (min j (s 22 0).toNat)))), some (.int (jI j)), x6] [] := by
    intro n
    induction n with
    | zero =>
      intro j x6 hj
      refine jj_iload5 F dX8_leastNoisy_8 ?_
      refine jj_aload0 F dX8_leastNoisy_10 ?_
      refine jj_get F (hH.at (k := 0) (i := 0) cc_0) cs_8 (by decide) fd_X8_30 rfl dX8_leastNoisy_11 ?_
      refine jj_alenQ F (fun _ => rfl) (hH.at (k := 3) (i := 0) cc_3) dX8_leastNoisy_14 ?_
      refine jj_icmp_ge F (tgt := 64) dX8_leastNoisy_15 rfl (by omega) (fun c15 => ?_) (fun c15 => by exfalso; omega)
      refine jj_iload3 F dX8_leastNoisy_64 ?_
      exact jj_iretr B dX8_leastNoisy_65 ⟨Nat.le_of_ble_eq_true rfl, Nat.le_of_ble_eq_true rfl⟩ (by rw [show min j (s 22 0).toNat = (s 22 0).toNat by omega]; rfl)
    | succ n ih =>
      intro j x6 hj
      refine jj_iload5 F dX8_leastNoisy_8 ?_
      refine jj_aload0 F dX8_leastNoisy_10 ?_
      refine jj_get F (hH.at (k := 0) (i := 0) cc_0) cs_8 (by decide) fd_X8_30 rfl dX8_leastNoisy_11 ?_
      refine jj_alenQ F (fun _ => rfl) (hH.at (k := 3) (i := 0) cc_3) dX8_leastNoisy_14 ?_
      refine jj_icmp_ge F (tgt := 64) dX8_leastNoisy_15 rfl (by omega) (fun c15 => by exfalso; omega) (fun c15 => ?_)
      refine jj_iload1 F dX8_leastNoisy_18 ?_
      refine jj_iload5 F dX8_leastNoisy_19 ?_
      refine jj_callSr B (k := 0) (n := 0) (k8_has F.tr (q := q) (k := (j : Int))) lk_X8_148 rfl ⟨Nat.le_of_ble_eq_true rfl, Nat.le_of_ble_eq_true rfl, Nat.le_of_ble_eq_true rfl, Nat.le_of_ble_eq_true rfl, Nat.le_of_ble_eq_true rfl⟩ ⟨Nat.le_of_ble_eq_true rfl, Nat.le_of_ble_eq_true rfl, Nat.le_of_ble_eq_true rfl, Nat.le_of_ble_eq_true rfl⟩ jj_tx0 dX8_leastNoisy_21 ?_
      refine jj_if_eq F (tgt := 58) dX8_leastNoisy_24 rfl (by unfold sHas; split <;> omega) (fun c24 => ?_) (fun c24 => ?_)
      · skip
        have hm1 : ¬ sHas q j = 1 := by omega
        refine jj_iinc5 F dX8_leastNoisy_58 (hN _ (by decide)) rfl ?_
        refine jj_goto F (tgt := 8) dX8_leastNoisy_61 rfl ?_
        have ih1 := fun x => ih (j + 1) x (by omega)
        rw [show (((j + 1 : Nat)) : Int) = (j : Int) + 1 from rfl] at ih1
        have hmn : (j : Int) < s 22 0 ∨ ¬ (j : Int) < s 22 0 := by omega
        rcases hmn with hmn | hmn
        · rw [show min (j + 1) (s 22 0).toNat = j + 1 by omega] at ih1
          rw [show min j (s 22 0).toNat = j by omega]
          have hj1 : sJoinTo s q p (j + 1) = sJoinTo s q p j := by show (if _ then _ else _) = _; exact if_neg (fun h => hm1 h.1)
          rw [show sLeast s q p (j + 1) = sLeast s q p j by unfold sLeast; rw [hj1], hj1] at ih1
          exact ih1 _
        · rw [show min (j + 1) (s 22 0).toNat = min j (s 22 0).toNat by omega] at ih1
          exact ih1 _
      · skip
        have hm1 : sHas q j = 1 := by revert c24; unfold sHas; split <;> intro h <;> first | rfl | (exfalso; omega)
        have hm : (j : Int) < s 22 0 := sAre_mem hA i22 (by omega) hm1
        rw [show min j (s 22 0).toNat = j by omega]
        refine jj_aload0 F dX8_leastNoisy_27 ?_
        refine jj_iload5 F dX8_leastNoisy_28 ?_
        refine jj_callVq B (k := 0) (n := 0) (k8_discAt_in F.tr hH (by omega) ⟨by omega, hm⟩) lk_X8_297 (hH.at (k := 0) (i := 0) cc_0) cs_8 rfl rfl ⟨Nat.le_of_ble_eq_true rfl, Nat.le_of_ble_eq_true rfl, Nat.le_of_ble_eq_true rfl, Nat.le_of_ble_eq_true rfl, Nat.le_of_ble_eq_true rfl⟩ ⟨Nat.le_of_ble_eq_true rfl, Nat.le_of_ble_eq_true rfl, Nat.le_of_ble_eq_true rfl, Nat.le_of_ble_eq_true rfl⟩ jj_tx0 dX8_leastNoisy_30 (fun r G h => ?_)
        obtain ⟨rfl, rfl⟩ := h
        refine jj_iload2 F dX8_leastNoisy_33 ?_
        refine jj_callVr B (k := 0) (n := 0) (k0_noiseOf F.tr hH ⟨by omega, hm⟩ hp (hw j (by omega) hm)) lk_X8_312 (hH.at (k := 24) (i := (j : Int)) (if_pos (by omega))) cs_0 rfl rfl ⟨Nat.le_of_ble_eq_true rfl, Nat.le_of_ble_eq_true rfl, Nat.le_of_ble_eq_true rfl, Nat.le_of_ble_eq_true rfl, Nat.le_of_ble_eq_true rfl⟩ ⟨Nat.le_of_ble_eq_true rfl, Nat.le_of_ble_eq_true rfl, Nat.le_of_ble_eq_true rfl, Nat.le_of_ble_eq_true rfl⟩ jj_tx0 dX8_leastNoisy_34 ?_
        refine jj_istore6 F dX8_leastNoisy_37 (hN _ (by decide)) rfl ?_
        refine jj_iload3 F dX8_leastNoisy_39 ?_
        refine jj_iconst F dX8_leastNoisy_40 ?_
        refine jj_icmp_eq F (tgt := 51) dX8_leastNoisy_41 rfl (by have := sJoinTo_in s q p j; omega) (fun c41 => ?_) (fun c41 => ?_)
        · skip
          refine jj_iload5 F dX8_leastNoisy_51 ?_
          refine jj_istore3 F dX8_leastNoisy_53 (hN _ (by decide)) rfl ?_
          refine jj_iload6 F dX8_leastNoisy_54 ?_
          refine jj_istore4 F dX8_leastNoisy_56 (hN _ (by decide)) rfl ?_
          refine jj_iinc5 F dX8_leastNoisy_58 (hN _ (by decide)) rfl ?_
          refine jj_goto F (tgt := 8) dX8_leastNoisy_61 rfl ?_
          have ih1 := fun x => ih (j + 1) x (by omega)
          rw [show (((j + 1 : Nat)) : Int) = (j : Int) + 1 from rfl] at ih1
          rw [show min (j + 1) (s 22 0).toNat = j + 1 by omega] at ih1
          have hj1 : sJoinTo s q p (j + 1) = j := by show (if _ then _ else _) = _; exact if_pos ⟨hm1, Or.inl c41⟩
          rw [show sLeast s q p (j + 1) = sNoise s j p by unfold sLeast; rw [hj1, if_neg (by omega)], hj1] at ih1
          exact ih1 _
        · skip
          refine jj_iload6 F dX8_leastNoisy_44 ?_
          refine jj_iload4 F dX8_leastNoisy_46 ?_
          refine jj_icmp_ge F (tgt := 58) dX8_leastNoisy_48 rfl (by have h1 := hno j (by omega); have h2 := hno (sJoinTo s q p j) (by have := sJoinTo_in s q p j; omega); unfold sLeast; rw [if_neg c41]; omega) (fun c48 => ?_) (fun c48 => ?_)
          · skip
            refine jj_iinc5 F dX8_leastNoisy_58 (hN _ (by decide)) rfl ?_
            refine jj_goto F (tgt := 8) dX8_leastNoisy_61 rfl ?_
            have ih1 := fun x => ih (j + 1) x (by omega)
            rw [show (((j + 1 : Nat)) : Int) = (j : Int) + 1 from rfl] at ih1
            rw [show min (j + 1) (s 22 0).toNat = j + 1 by omega] at ih1
            have hj1 : sJoinTo s q p (j + 1) = sJoinTo s q p j := by
              show (if _ then _ else _) = _
              refine if_neg (fun h => ?_)
              have h3 : sNoise s j p < sNoise s (sJoinTo s q p j) p := h.2.resolve_left c41
              unfold sLeast at c48
              rw [if_neg c41] at c48
              omega
            rw [show sLeast s q p (j + 1) = sLeast s q p j by unfold sLeast; rw [hj1], hj1] at ih1
            exact ih1 _
          · skip
            refine jj_iload5 F dX8_leastNoisy_51 ?_
            refine jj_istore3 F dX8_leastNoisy_53 (hN _ (by decide)) rfl ?_
            refine jj_iload6 F dX8_leastNoisy_54 ?_
            refine jj_istore4 F dX8_leastNoisy_56 (hN _ (by decide)) rfl ?_
            refine jj_iinc5 F dX8_leastNoisy_58 (hN _ (by decide)) rfl ?_
            refine jj_goto F (tgt := 8) dX8_leastNoisy_61 rfl ?_
            have ih1 := fun x => ih (j + 1) x (by omega)
            rw [show (((j + 1 : Nat)) : Int) = (j : Int) + 1 from rfl] at ih1
            rw [show min (j + 1) (s 22 0).toNat = j + 1 by omega] at ih1
            have hj1 : sJoinTo s q p (j + 1) = j := by show (if _ then _ else _) = _; exact if_pos ⟨hm1, Or.inr (by unfold sLeast at c48; rw [if_neg c41] at c48; omega)⟩
            rw [show sLeast s q p (j + 1) = sNoise s j p by unfold sLeast; rw [hj1, if_neg (by omega)], hj1] at ih1
            exact ih1 _
  have l0 := loop 20 0 none (by omega)
  rw [show min 0 (s 22 0).toNat = 0 by omega] at l0
  exact l0
abbrev rm_X0_addScratch : Room := { frames := 0, cells := 0, slots := 0, locals := 0 }
set_option maxRecDepth 100000 in
set_option maxHeartbeats 400000 in
theorem k0_addScratch {l : Launch} {D : va_G} {ac : Nat → ClassId} (hl : l.stackTraces = false) {ad : Ad} {s e : Sg} {d p : Int}  {G : jj_G} (hR : Rep ad (cC ac ad s e) G) (hd : 0 ≤ d ∧ d < s 22 0) (hp : 0 ≤ p ∧ p < 8) : jj_C l D ac yX0_addScratch (.code yX0_addScratch cX0_addScratch 2 none) rm_X0_addScratch [.ref (ad 24 d), .int (jI p)] G (jj_pv (fun G' => Rep ad (cC ac ad (sU s 25 (8 * d + p) (s 25 (8 * d + p) + 1)) e) G')) (jj_nx) := by
  refine jj_ofx (own := RX0) (lv0 := [some (.ref (ad 24 d)), some (.int (jI p))]) hl (by decide +kernel) rfl rfl (Nat.le_of_ble_eq_true rfl) rfl ?_
  intro X B hN hl0 hdg hac hin
  subst hl0; subst hdg; subst hac
  have F := B.F

  refine jj_iload1 F dX0_addScratch_0 ?_
  refine jj_if_lt F (tgt := 23) dX0_addScratch_1 rfl (by omega) (fun c1 => by exfalso; omega) (fun c1 => ?_)
  refine jj_iload1 F dX0_addScratch_4 ?_
  refine jj_aload0 F dX0_addScratch_5 ?_
  refine jj_get F (hR.at (k := 24) (i := d) (if_pos (by omega))) cs_0 (by decide) fd_X0_9 rfl dX0_addScratch_6 ?_
  refine jj_alenI F (hR.at (k := 25) (i := d) (if_pos (by omega))) dX0_addScratch_9 ?_
  refine jj_icmp_ge F (tgt := 23) dX0_addScratch_10 rfl (by omega) (fun c10 => by exfalso; omega) (fun c10 => ?_)
  refine jj_aload0 F dX0_addScratch_13 ?_
  refine jj_get F (hR.at (k := 24) (i := d) (if_pos (by omega))) cs_0 (by decide) fd_X0_9 rfl dX0_addScratch_14 ?_
  refine jj_iload1 F dX0_addScratch_17 ?_
  refine jj_dup2 F rfl rfl dX0_addScratch_18 ?_
  refine c8_ald F (hR.at (k := 25) (i := d) (if_pos (by omega))) (by omega) rfl (by decide) dX0_addScratch_19 ?_
  refine jj_iconst F dX0_addScratch_20 ?_
  refine jj_iadd F dX0_addScratch_21 ?_
  refine c8_iast F (ad := ad) hR (k := 25) (i := d) (if_pos (by omega)) (by omega) (by decide) dX0_addScratch_22 (fun G hR => ?_)
  have hR := hR.congr (C' := cC (jj_ac X) ad (sU s 25 (8 * d + p) (s 25 (8 * d + p) + 1)) (e)) (kcases (fun i => kc_0 (s := s) (e := (e)) (s' := (sU s 25 (8 * d + p) (s 25 (8 * d + p) + 1))) (e' := (e)) rfl rfl rfl rfl i) (fun i => kc_1 (s := s) (e := (e)) (s' := (sU s 25 (8 * d + p) (s 25 (8 * d + p) + 1))) (e' := (e)) rfl i) (fun i => kc_2 (s := s) (e := (e)) (s' := (sU s 25 (8 * d + p) (s 25 (8 * d + p) + 1))) (e' := (e)) rfl i) (fun i => kc_3 (s := s) (e := (e)) (s' := (sU s 25 (8 * d + p) (s 25 (8 * d + p) + 1))) (e' := (e)) rfl i) (fun i => kc_4 (s := s) (e := (e)) (s' := (sU s 25 (8 * d + p) (s 25 (8 * d + p) + 1))) (e' := (e)) rfl i) (fun i => kc_5 (s := s) (e := (e)) (s' := (sU s 25 (8 * d + p) (s 25 (8 * d + p) + 1))) (e' := (e)) rfl rfl i) (fun i => kc_6 (s := s) (e := (e)) (s' := (sU s 25 (8 * d + p) (s 25 (8 * d + p) + 1))) (e' := (e)) rfl rfl i) (fun i => kc_7 (s := s) (e := (e)) (s' := (sU s 25 (8 * d + p) (s 25 (8 * d + p) + 1))) (e' := (e)) rfl i) (fun i => kc_8 (s := s) (e := (e)) (s' := (sU s 25 (8 * d + p) (s 25 (8 * d + p) + 1))) (e' := (e)) rfl i) (fun i => kc_9 (s := s) (e := (e)) (s' := (sU s 25 (8 * d + p) (s 25 (8 * d + p) + 1))) (e' := (e)) rfl i) (fun i => kc_10 (s := s) (e := (e)) (s' := (sU s 25 (8 * d + p) (s 25 (8 * d + p) + 1))) (e' := (e)) rfl i) (fun i => kc_11 (s := s) (e := (e)) (s' := (sU s 25 (8 * d + p) (s 25 (8 * d + p) + 1))) (e' := (e)) rfl i) (fun i => kc_12 (s := s) (e := (e)) (s' := (sU s 25 (8 * d + p) (s 25 (8 * d + p) + 1))) (e' := (e)) rfl i) (fun i => kc_13 (s := s) (e := (e)) (s' := (sU s 25 (8 * d + p) (s 25 (8 * d + p) + 1))) (e' := (e)) rfl i) (fun i => kc_14 (s := s) (e := (e)) (s' := (sU s 25 (8 * d + p) (s 25 (8 * d + p) + 1))) (e' := (e)) rfl i) (fun i => kc_15 (s := s) (e := (e)) (s' := (sU s 25 (8 * d + p) (s 25 (8 * d + p) + 1))) (e' := (e)) rfl i) (fun i => kc_16 (s := s) (e := (e)) (s' := (sU s 25 (8 * d + p) (s 25 (8 * d + p) + 1))) (e' := (e)) rfl rfl rfl rfl rfl rfl rfl rfl rfl rfl rfl rfl rfl i) (fun i => kc_17 (s := s) (e := (e)) (s' := (sU s 25 (8 * d + p) (s 25 (8 * d + p) + 1))) (e' := (e)) rfl rfl i) (fun i => kc_18 (s := s) (e := (e)) (s' := (sU s 25 (8 * d + p) (s 25 (8 * d + p) + 1))) (e' := (e)) rfl rfl i) (fun i => kc_19 (s := s) (e := (e)) (s' := (sU s 25 (8 * d + p) (s 25 (8 * d + p) + 1))) (e' := (e)) rfl rfl i) (fun i => kc_20 (s := s) (e := (e)) (s' := (sU s 25 (8 * d + p) (s 25 (8 * d + p) + 1))) (e' := (e)) rfl rfl rfl rfl i) (fun i => kc_21 (s := s) (e := (e)) (s' := (sU s 25 (8 * d + p) (s 25 (8 * d + p) + 1))) (e' := (e)) rfl rfl i) (fun i => kc_22 (s := s) (e := (e)) (s' := (sU s 25 (8 * d + p) (s 25 (8 * d + p) + 1))) (e' := (e)) rfl rfl i) (fun i => kc_23 (s := s) (e := (e)) (s' := (sU s 25 (8 * d + p) (s 25 (8 * d + p) + 1))) (e' := (e)) rfl rfl rfl rfl rfl rfl rfl rfl i) (fun i => kc_24 (s := s) (e := (e)) (s' := (sU s 25 (8 * d + p) (s 25 (8 * d + p) + 1))) (e' := (e)) rfl rfl rfl i) (ki (C := cC (jj_ac X) ad s e) (fun i _ => rfl) hd (congrArg (jj_ai (jj_ac X 0) 8) (wn_ju hp (fun j h1 h2 => by rw [sU_k]; unfold ju; by_cases hj : j = p; rw [if_pos hj, if_pos (by omega)]; rw [if_neg hj, if_neg (by omega)])).symm) (fun i _ => Iff.rfl) (fun i hi hp1 => congrArg (jj_ai (jj_ac X 0) 8) (wn_c (fun j h1 h2 => by rw [sU_i (by omega)])))) (fun i => kc_26 (s := s) (e := (e)) (s' := (sU s 25 (8 * d + p) (s 25 (8 * d + p) + 1))) (e' := (e)) rfl rfl rfl i) (fun i => kc_27 (s := s) (e := (e)) (s' := (sU s 25 (8 * d + p) (s 25 (8 * d + p) + 1))) (e' := (e)) rfl rfl i) (fun k i => rfl))
  exact jj_vret B dX0_addScratch_23 ⟨Nat.le_of_ble_eq_true rfl, Nat.le_of_ble_eq_true rfl⟩ (⟨rfl, hR⟩)
abbrev rm_X5_begin : Room := { frames := 0, cells := 0, slots := 0, locals := 0 }
set_option maxRecDepth 100000 in
set_option maxHeartbeats 400000 in
theorem k5_begin {l : Launch} {D : va_G} {ac : Nat → ClassId} (hl : l.stackTraces = false) {ad : Ad} {s e : Sg}  {G : jj_G} (hR : Rep ad (cC ac ad s e) G)  : jj_C l D ac yX5_begin (.code yX5_begin cX5_begin 1 none) rm_X5_begin [.ref (ad 6 0)] G (jj_pv (fun G' => Rep ad (cC ac ad (sU (sU s 26 0 1) 28 0 0) e) G')) (jj_nx) := by
  refine jj_ofx (own := RX5) (lv0 := [some (.ref (ad 6 0))]) hl (by decide +kernel) rfl rfl (Nat.le_of_ble_eq_true rfl) rfl ?_
  intro X B hN hl0 hdg hac hin
  subst hl0; subst hdg; subst hac
  have F := B.F

  refine jj_aload0 F dX5_begin_0 ?_
  refine jj_iconst F dX5_begin_1 ?_
  refine c8_put F (ad := ad) hR (k := 6) (i := 0) cc_6 cs_5 (by decide) fd_X5_21 rfl rfl rfl (Nat.le_of_ble_eq_true rfl) dX5_begin_2 (fun G hR => ?_)
  refine jj_aload0 F dX5_begin_5 ?_
  refine jj_iconst F dX5_begin_6 ?_
  refine c8_put F (ad := ad) hR (k := 6) (i := 0) cU_s cs_5 (by decide) fd_X5_25 rfl rfl rfl (Nat.le_of_ble_eq_true rfl) dX5_begin_7 (fun G hR => ?_)
  have hR := hR.congr (C' := cC (jj_ac X) ad (sU (sU s 26 0 1) 28 0 0) (e)) (kcases (fun i => kc_0 (s := s) (e := (e)) (s' := (sU (sU s 26 0 1) 28 0 0)) (e' := (e)) rfl rfl rfl rfl i) (fun i => kc_1 (s := s) (e := (e)) (s' := (sU (sU s 26 0 1) 28 0 0)) (e' := (e)) rfl i) (fun i => kc_2 (s := s) (e := (e)) (s' := (sU (sU s 26 0 1) 28 0 0)) (e' := (e)) rfl i) (fun i => kc_3 (s := s) (e := (e)) (s' := (sU (sU s 26 0 1) 28 0 0)) (e' := (e)) rfl i) (fun i => kc_4 (s := s) (e := (e)) (s' := (sU (sU s 26 0 1) 28 0 0)) (e' := (e)) rfl i) (fun i => kc_5 (s := s) (e := (e)) (s' := (sU (sU s 26 0 1) 28 0 0)) (e' := (e)) rfl rfl i) (fun i => by exact kz (fun i hi => by simp [cU, cC, hi]) (rfl) i) (fun i => kc_7 (s := s) (e := (e)) (s' := (sU (sU s 26 0 1) 28 0 0)) (e' := (e)) rfl i) (fun i => kc_8 (s := s) (e := (e)) (s' := (sU (sU s 26 0 1) 28 0 0)) (e' := (e)) rfl i) (fun i => kc_9 (s := s) (e := (e)) (s' := (sU (sU s 26 0 1) 28 0 0)) (e' := (e)) rfl i) (fun i => kc_10 (s := s) (e := (e)) (s' := (sU (sU s 26 0 1) 28 0 0)) (e' := (e)) rfl i) (fun i => kc_11 (s := s) (e := (e)) (s' := (sU (sU s 26 0 1) 28 0 0)) (e' := (e)) rfl i) (fun i => kc_12 (s := s) (e := (e)) (s' := (sU (sU s 26 0 1) 28 0 0)) (e' := (e)) rfl i) (fun i => kc_13 (s := s) (e := (e)) (s' := (sU (sU s 26 0 1) 28 0 0)) (e' := (e)) rfl i) (fun i => kc_14 (s := s) (e := (e)) (s' := (sU (sU s 26 0 1) 28 0 0)) (e' := (e)) rfl i) (fun i => kc_15 (s := s) (e := (e)) (s' := (sU (sU s 26 0 1) 28 0 0)) (e' := (e)) rfl i) (fun i => kc_16 (s := s) (e := (e)) (s' := (sU (sU s 26 0 1) 28 0 0)) (e' := (e)) rfl rfl rfl rfl rfl rfl rfl rfl rfl rfl rfl rfl rfl i) (fun i => kc_17 (s := s) (e := (e)) (s' := (sU (sU s 26 0 1) 28 0 0)) (e' := (e)) rfl rfl i) (fun i => kc_18 (s := s) (e := (e)) (s' := (sU (sU s 26 0 1) 28 0 0)) (e' := (e)) rfl rfl i) (fun i => kc_19 (s := s) (e := (e)) (s' := (sU (sU s 26 0 1) 28 0 0)) (e' := (e)) rfl rfl i) (fun i => kc_20 (s := s) (e := (e)) (s' := (sU (sU s 26 0 1) 28 0 0)) (e' := (e)) rfl rfl rfl rfl i) (fun i => kc_21 (s := s) (e := (e)) (s' := (sU (sU s 26 0 1) 28 0 0)) (e' := (e)) rfl rfl i) (fun i => kc_22 (s := s) (e := (e)) (s' := (sU (sU s 26 0 1) 28 0 0)) (e' := (e)) rfl rfl i) (fun i => kc_23 (s := s) (e := (e)) (s' := (sU (sU s 26 0 1) 28 0 0)) (e' := (e)) rfl rfl rfl rfl rfl rfl rfl rfl i) (fun i => kc_24 (s := s) (e := (e)) (s' := (sU (sU s 26 0 1) 28 0 0)) (e' := (e)) rfl rfl rfl i) (fun i => kc_25 (s := s) (e := (e)) (s' := (sU (sU s 26 0 1) 28 0 0)) (e' := (e)) rfl rfl i) (fun i => kc_26 (s := s) (e := (e)) (s' := (sU (sU s 26 0 1) 28 0 0)) (e' := (e)) rfl rfl rfl i) (fun i => kc_27 (s := s) (e := (e)) (s' := (sU (sU s 26 0 1) 28 0 0)) (e' := (e)) rfl rfl i) (fun k i => rfl))
  exact jj_vret B dX5_begin_10 ⟨Nat.le_of_ble_eq_true rfl, Nat.le_of_ble_eq_true rfl⟩ (⟨rfl, hR⟩)
abbrev rm_X5_write : Room := { frames := 0, cells := 0, slots := 0, locals := 0 }
set_option maxRecDepth 100000 in
set_option maxHeartbeats 400000 in
theorem k5_write {l : Launch} {D : va_G} {ac : Nat → ClassId} (hl : l.stackTraces = false) {ad : Ad} {s e : Sg} {p x : Int}  {G : jj_G} (hR : Rep ad (cC ac ad s e) G) (hp : 0 ≤ p ∧ p < 8) : jj_C l D ac yX5_write (.code yX5_write cX5_write 3 none) rm_X5_write [.ref (ad 6 0), .int (jI p), .int (jI x)] G (jj_pv (fun G' => Rep ad (cC ac ad (sU s 27 p x) e) G')) (jj_nx) := by
  refine jj_ofx (own := RX5) (lv0 := [some (.ref (ad 6 0)), some (.int (jI p)), some (.int (jI x))]) hl (by decide +kernel) rfl rfl (Nat.le_of_ble_eq_true rfl) rfl ?_
  intro X B hN hl0 hdg hac hin
  subst hl0; subst hdg; subst hac
  have F := B.F

  refine jj_iload1 F dX5_write_0 ?_
  refine jj_if_lt F (tgt := 20) dX5_write_1 rfl (by omega) (fun c1 => by exfalso; omega) (fun c1 => ?_)
  refine jj_iload1 F dX5_write_4 ?_
  refine jj_aload0 F dX5_write_5 ?_
  refine jj_get F (hR.at (k := 6) (i := 0) cc_6) cs_5 (by decide) fd_X5_9 rfl dX5_write_6 ?_
  refine jj_alenI F (hR.at (k := 7) (i := 0) cc_7) dX5_write_9 ?_
  refine jj_icmp_ge F (tgt := 20) dX5_write_10 rfl (by omega) (fun c10 => by exfalso; omega) (fun c10 => ?_)
  refine jj_aload0 F dX5_write_13 ?_
  refine jj_get F (hR.at (k := 6) (i := 0) cc_6) cs_5 (by decide) fd_X5_9 rfl dX5_write_14 ?_
  refine jj_iload1 F dX5_write_17 ?_
  refine jj_iload2 F dX5_write_18 ?_
  refine c8_iast F (ad := ad) hR (k := 7) (i := 0) cc_7 (by omega) (by decide) dX5_write_19 (fun G hR => ?_)
  have hR := hR.congr (C' := cC (jj_ac X) ad (sU s 27 p x) (e)) (kcases (fun i => kc_0 (s := s) (e := (e)) (s' := (sU s 27 p x)) (e' := (e)) rfl rfl rfl rfl i) (fun i => kc_1 (s := s) (e := (e)) (s' := (sU s 27 p x)) (e' := (e)) rfl i) (fun i => kc_2 (s := s) (e := (e)) (s' := (sU s 27 p x)) (e' := (e)) rfl i) (fun i => kc_3 (s := s) (e := (e)) (s' := (sU s 27 p x)) (e' := (e)) rfl i) (fun i => kc_4 (s := s) (e := (e)) (s' := (sU s 27 p x)) (e' := (e)) rfl i) (fun i => kc_5 (s := s) (e := (e)) (s' := (sU s 27 p x)) (e' := (e)) rfl rfl i) (fun i => kc_6 (s := s) (e := (e)) (s' := (sU s 27 p x)) (e' := (e)) rfl rfl i) (fun i => by exact kz (fun i hi => by simp [cU, cC, hi]) (rfl) i) (fun i => kc_8 (s := s) (e := (e)) (s' := (sU s 27 p x)) (e' := (e)) rfl i) (fun i => kc_9 (s := s) (e := (e)) (s' := (sU s 27 p x)) (e' := (e)) rfl i) (fun i => kc_10 (s := s) (e := (e)) (s' := (sU s 27 p x)) (e' := (e)) rfl i) (fun i => kc_11 (s := s) (e := (e)) (s' := (sU s 27 p x)) (e' := (e)) rfl i) (fun i => kc_12 (s := s) (e := (e)) (s' := (sU s 27 p x)) (e' := (e)) rfl i) (fun i => kc_13 (s := s) (e := (e)) (s' := (sU s 27 p x)) (e' := (e)) rfl i) (fun i => kc_14 (s := s) (e := (e)) (s' := (sU s 27 p x)) (e' := (e)) rfl i) (fun i => kc_15 (s := s) (e := (e)) (s' := (sU s 27 p x)) (e' := (e)) rfl i) (fun i => kc_16 (s := s) (e := (e)) (s' := (sU s 27 p x)) (e' := (e)) rfl rfl rfl rfl rfl rfl rfl rfl rfl rfl rfl rfl rfl i) (fun i => kc_17 (s := s) (e := (e)) (s' := (sU s 27 p x)) (e' := (e)) rfl rfl i) (fun i => kc_18 (s := s) (e := (e)) (s' := (sU s 27 p x)) (e' := (e)) rfl rfl i) (fun i => kc_19 (s := s) (e := (e)) (s' := (sU s 27 p x)) (e' := (e)) rfl rfl i) (fun i => kc_20 (s := s) (e := (e)) (s' := (sU s 27 p x)) (e' := (e)) rfl rfl rfl rfl i) (fun i => kc_21 (s := s) (e := (e)) (s' := (sU s 27 p x)) (e' := (e)) rfl rfl i) (fun i => kc_22 (s := s) (e := (e)) (s' := (sU s 27 p x)) (e' := (e)) rfl rfl i) (fun i => kc_23 (s := s) (e := (e)) (s' := (sU s 27 p x)) (e' := (e)) rfl rfl rfl rfl rfl rfl rfl rfl i) (fun i => kc_24 (s := s) (e := (e)) (s' := (sU s 27 p x)) (e' := (e)) rfl rfl rfl i) (fun i => kc_25 (s := s) (e := (e)) (s' := (sU s 27 p x)) (e' := (e)) rfl rfl i) (fun i => kc_26 (s := s) (e := (e)) (s' := (sU s 27 p x)) (e' := (e)) rfl rfl rfl i) (fun i => kc_27 (s := s) (e := (e)) (s' := (sU s 27 p x)) (e' := (e)) rfl rfl i) (fun k i => rfl))
  exact jj_vret B dX5_write_20 ⟨Nat.le_of_ble_eq_true rfl, Nat.le_of_ble_eq_true rfl⟩ (⟨rfl, hR⟩)
abbrev rm_X5_halve : Room := { frames := 1, cells := 0, slots := 0, locals := 22 }
set_option maxRecDepth 100000 in
set_option maxHeartbeats 400000 in
theorem k5_halve {l : Launch} {D : va_G} {ac : Nat → ClassId} (hl : l.stackTraces = false) {ad : Ad} {s e : Sg} {p : Int}  {G : jj_G} (hR : Rep ad (cC ac ad s e) G) (hp : 0 ≤ p ∧ p < 8) (h27 : 0 ≤ s 27 p ∧ s 27 p ≤ 1000000) (h28 : 0 ≤ s 28 0 ∧ s 28 0 < 20) : jj_C l D ac yX5_halve (.code yX5_halve cX5_halve 3 (some .int)) rm_X5_halve [.ref (ad 6 0), .int (jI p)] G (jj_pi (fun r G' => r = s 27 p / 2 ∧ Rep ad (cC ac ad (sU (sU (sU (sU s 29 (s 28 0) p) 30 (s 28 0) (s 27 p)) 28 0 (s 28 0 + 1)) 27 p (s 27 p / 2)) e) G')) (jj_nx) := by
  refine jj_ofx (own := RX5) (lv0 := [some (.ref (ad 6 0)), some (.int (jI p)), none]) hl (by decide +kernel) rfl rfl (Nat.le_of_ble_eq_true rfl) rfl ?_
  intro X B hN hl0 hdg hac hin
  subst hl0; subst hdg; subst hac
  have F := B.F

  refine jj_aload0 F dX5_halve_0 ?_
  refine jj_iload1 F dX5_halve_1 ?_
  refine jj_callVr B (k := 0) (n := 0) (k5_noiseOf F.tr hR.1 hp) lk_X5_29 (hR.at (k := 6) (i := 0) cc_6) cs_5 rfl rfl ⟨Nat.le_of_ble_eq_true rfl, Nat.le_of_ble_eq_true rfl, Nat.le_of_ble_eq_true rfl, Nat.le_of_ble_eq_true rfl, Nat.le_of_ble_eq_true rfl⟩ ⟨Nat.le_of_ble_eq_true rfl, Nat.le_of_ble_eq_true rfl, Nat.le_of_ble_eq_true rfl, Nat.le_of_ble_eq_true rfl⟩ jj_tx0 dX5_halve_2 ?_
  refine jj_istore2 F dX5_halve_5 (hN _ (by decide)) rfl ?_
  refine jj_aload0 F dX5_halve_6 ?_
  refine jj_get F (hR.at (k := 6) (i := 0) cc_6) cs_5 (by decide) fd_X5_25 rfl dX5_halve_7 ?_
  refine jj_if_lt F (tgt := 60) dX5_halve_10 rfl (by omega) (fun c10 => by exfalso; omega) (fun c10 => ?_)
  refine jj_aload0 F dX5_halve_13 ?_
  refine jj_get F (hR.at (k := 6) (i := 0) cc_6) cs_5 (by decide) fd_X5_25 rfl dX5_halve_14 ?_
  refine jj_bipush F (by decide) dX5_halve_17 ?_
  refine jj_icmp_ge F (tgt := 60) dX5_halve_19 rfl (by omega) (fun c19 => by exfalso; omega) (fun c19 => ?_)
  refine jj_aload0 F dX5_halve_22 ?_
  refine jj_get F (hR.at (k := 6) (i := 0) cc_6) cs_5 (by decide) fd_X5_15 rfl dX5_halve_23 ?_
  refine jj_aload0 F dX5_halve_26 ?_
  refine jj_get F (hR.at (k := 6) (i := 0) cc_6) cs_5 (by decide) fd_X5_25 rfl dX5_halve_27 ?_
  refine jj_iload1 F dX5_halve_30 ?_
  refine c8_iast F (ad := ad) hR (k := 8) (i := 0) cc_8 (by omega) (by decide) dX5_halve_31 (fun G hR => ?_)
  refine jj_aload0 F dX5_halve_32 ?_
  refine jj_get F (hR.at (k := 6) (i := 0) ((cU_k (by decide)).trans cc_6)) cs_5 (by decide) fd_X5_18 rfl dX5_halve_33 ?_
  refine jj_aload0 F dX5_halve_36 ?_
  refine jj_get F (hR.at (k := 6) (i := 0) ((cU_k (by decide)).trans cc_6)) cs_5 (by decide) fd_X5_25 rfl dX5_halve_37 ?_
  refine jj_iload2 F dX5_halve_40 ?_
  refine c8_iast F (ad := ad) hR (k := 9) (i := 0) ((cU_k (by decide)).trans cc_9) (by omega) (by decide) dX5_halve_41 (fun G hR => ?_)
  refine jj_aload0 F dX5_halve_42 ?_
  refine jj_dup F rfl dX5_halve_43 ?_
  refine jj_get F (hR.at (k := 6) (i := 0) ((cU_k (by decide)).trans ((cU_k (by decide)).trans cc_6))) cs_5 (by decide) fd_X5_25 rfl dX5_halve_44 ?_
  refine jj_iconst F dX5_halve_47 ?_
  refine jj_iadd F dX5_halve_48 ?_
  refine c8_put F (ad := ad) hR (k := 6) (i := 0) ((cU_k (by decide)).trans ((cU_k (by decide)).trans cc_6)) cs_5 (by decide) fd_X5_25 rfl rfl rfl (Nat.le_of_ble_eq_true rfl) dX5_halve_49 (fun G hR => ?_)
  refine jj_aload0 F dX5_halve_52 ?_
  refine jj_iload1 F dX5_halve_53 ?_
  refine jj_iload2 F dX5_halve_54 ?_
  refine jj_iconst F dX5_halve_55 ?_
  refine jj_idiv F (by omega) dX5_halve_56 ?_
  have hR := hR.congr (C' := cC (jj_ac X) ad (sU (sU (sU s 29 (s 28 0) p) 30 (s 28 0) (s 27 p)) 28 0 (s 28 0 + 1)) (e)) (kcases (fun i => kc_0 (s := s) (e := (e)) (s' := (sU (sU (sU s 29 (s 28 0) p) 30 (s 28 0) (s 27 p)) 28 0 (s 28 0 + 1))) (e' := (e)) rfl rfl rfl rfl i) (fun i => kc_1 (s := s) (e := (e)) (s' := (sU (sU (sU s 29 (s 28 0) p) 30 (s 28 0) (s 27 p)) 28 0 (s 28 0 + 1))) (e' := (e)) rfl i) (fun i => kc_2 (s := s) (e := (e)) (s' := (sU (sU (sU s 29 (s 28 0) p) 30 (s 28 0) (s 27 p)) 28 0 (s 28 0 + 1))) (e' := (e)) rfl i) (fun i => kc_3 (s := s) (e := (e)) (s' := (sU (sU (sU s 29 (s 28 0) p) 30 (s 28 0) (s 27 p)) 28 0 (s 28 0 + 1))) (e' := (e)) rfl i) (fun i => kc_4 (s := s) (e := (e)) (s' := (sU (sU (sU s 29 (s 28 0) p) 30 (s 28 0) (s 27 p)) 28 0 (s 28 0 + 1))) (e' := (e)) rfl i) (fun i => kc_5 (s := s) (e := (e)) (s' := (sU (sU (sU s 29 (s 28 0) p) 30 (s 28 0) (s 27 p)) 28 0 (s 28 0 + 1))) (e' := (e)) rfl rfl i) (fun i => by exact kz (fun i hi => by simp [cU, cC, hi]) (rfl) i) (fun i => kc_7 (s := s) (e := (e)) (s' := (sU (sU (sU s 29 (s 28 0) p) 30 (s 28 0) (s 27 p)) 28 0 (s 28 0 + 1))) (e' := (e)) rfl i) (fun i => by rw [cU_k (k := 6) (k' := 8) (by decide), cU_k (k := 9) (k' := 8) (by decide)]; exact kz (fun i hi => by simp [cU, cC, hi]) (rfl) i) (fun i => by rw [cU_k (k := 6) (k' := 9) (by decide)]; exact kz (fun i hi => by simp [cU, cC, hi]) (rfl) i) (fun i => kc_10 (s := s) (e := (e)) (s' := (sU (sU (sU s 29 (s 28 0) p) 30 (s 28 0) (s 27 p)) 28 0 (s 28 0 + 1))) (e' := (e)) rfl i) (fun i => kc_11 (s := s) (e := (e)) (s' := (sU (sU (sU s 29 (s 28 0) p) 30 (s 28 0) (s 27 p)) 28 0 (s 28 0 + 1))) (e' := (e)) rfl i) (fun i => kc_12 (s := s) (e := (e)) (s' := (sU (sU (sU s 29 (s 28 0) p) 30 (s 28 0) (s 27 p)) 28 0 (s 28 0 + 1))) (e' := (e)) rfl i) (fun i => kc_13 (s := s) (e := (e)) (s' := (sU (sU (sU s 29 (s 28 0) p) 30 (s 28 0) (s 27 p)) 28 0 (s 28 0 + 1))) (e' := (e)) rfl i) (fun i => kc_14 (s := s) (e := (e)) (s' := (sU (sU (sU s 29 (s 28 0) p) 30 (s 28 0) (s 27 p)) 28 0 (s 28 0 + 1))) (e' := (e)) rfl i) (fun i => kc_15 (s := s) (e := (e)) (s' := (sU (sU (sU s 29 (s 28 0) p) 30 (s 28 0) (s 27 p)) 28 0 (s 28 0 + 1))) (e' := (e)) rfl i) (fun i => kc_16 (s := s) (e := (e)) (s' := (sU (sU (sU s 29 (s 28 0) p) 30 (s 28 0) (s 27 p)) 28 0 (s 28 0 + 1))) (e' := (e)) rfl rfl rfl rfl rfl rfl rfl rfl rfl rfl rfl rfl rfl i) (fun i => kc_17 (s := s) (e := (e)) (s' := (sU (sU (sU s 29 (s 28 0) p) 30 (s 28 0) (s 27 p)) 28 0 (s 28 0 + 1))) (e' := (e)) rfl rfl i) (fun i => kc_18 (s := s) (e := (e)) (s' := (sU (sU (sU s 29 (s 28 0) p) 30 (s 28 0) (s 27 p)) 28 0 (s 28 0 + 1))) (e' := (e)) rfl rfl i) (fun i => kc_19 (s := s) (e := (e)) (s' := (sU (sU (sU s 29 (s 28 0) p) 30 (s 28 0) (s 27 p)) 28 0 (s 28 0 + 1))) (e' := (e)) rfl rfl i) (fun i => kc_20 (s := s) (e := (e)) (s' := (sU (sU (sU s 29 (s 28 0) p) 30 (s 28 0) (s 27 p)) 28 0 (s 28 0 + 1))) (e' := (e)) rfl rfl rfl rfl i) (fun i => kc_21 (s := s) (e := (e)) (s' := (sU (sU (sU s 29 (s 28 0) p) 30 (s 28 0) (s 27 p)) 28 0 (s 28 0 + 1))) (e' := (e)) rfl rfl i) (fun i => kc_22 (s := s) (e := (e)) (s' := (sU (sU (sU s 29 (s 28 0) p) 30 (s 28 0) (s 27 p)) 28 0 (s 28 0 + 1))) (e' := (e)) rfl rfl i) (fun i => kc_23 (s := s) (e := (e)) (s' := (sU (sU (sU s 29 (s 28 0) p) 30 (s 28 0) (s 27 p)) 28 0 (s 28 0 + 1))) (e' := (e)) rfl rfl rfl rfl rfl rfl rfl rfl i) (fun i => kc_24 (s := s) (e := (e)) (s' := (sU (sU (sU s 29 (s 28 0) p) 30 (s 28 0) (s 27 p)) 28 0 (s 28 0 + 1))) (e' := (e)) rfl rfl rfl i) (fun i => kc_25 (s := s) (e := (e)) (s' := (sU (sU (sU s 29 (s 28 0) p) 30 (s 28 0) (s 27 p)) 28 0 (s 28 0 + 1))) (e' := (e)) rfl rfl i) (fun i => kc_26 (s := s) (e := (e)) (s' := (sU (sU (sU s 29 (s 28 0) p) 30 (s 28 0) (s 27 p)) 28 0 (s 28 0 + 1))) (e' := (e)) rfl rfl rfl i) (fun i => kc_27 (s := s) (e := (e)) (s' := (sU (sU (sU s 29 (s 28 0) p) 30 (s 28 0) (s 27 p)) 28 0 (s 28 0 + 1))) (e' := (e)) rfl rfl i) (fun k i => rfl))
  refine jj_callVv B (k := 0) (n := 0) (k5_write F.tr hR hp) lk_X5_33 (hR.at (k := 6) (i := 0) cc_6) cs_5 rfl rfl ⟨Nat.le_of_ble_eq_true rfl, Nat.le_of_ble_eq_true rfl, Nat.le_of_ble_eq_true rfl, Nat.le_of_ble_eq_true rfl, Nat.le_of_ble_eq_true rfl⟩ ⟨Nat.le_of_ble_eq_true rfl, Nat.le_of_ble_eq_true rfl, Nat.le_of_ble_eq_true rfl, Nat.le_of_ble_eq_true rfl⟩ jj_tx0 dX5_halve_57 (fun G hR => ?_)
  refine jj_aload0 F dX5_halve_60 ?_
  refine jj_iload1 F dX5_halve_61 ?_
  refine jj_callVr B (k := 0) (n := 0) (k5_noiseOf F.tr hR.1 hp) lk_X5_29 (hR.at (k := 6) (i := 0) cc_6) cs_5 rfl rfl ⟨Nat.le_of_ble_eq_true rfl, Nat.le_of_ble_eq_true rfl, Nat.le_of_ble_eq_true rfl, Nat.le_of_ble_eq_true rfl, Nat.le_of_ble_eq_true rfl⟩ ⟨Nat.le_of_ble_eq_true rfl, Nat.le_of_ble_eq_true rfl, Nat.le_of_ble_eq_true rfl, Nat.le_of_ble_eq_true rfl⟩ jj_tx0 dX5_halve_62 ?_
  refine jj_eqi (b := s 27 p / 2) sU_s ?_
  exact jj_iret B dX5_halve_65 ⟨Nat.le_of_ble_eq_true rfl, Nat.le_of_ble_eq_true rfl⟩ (⟨_, rfl, rfl, hR⟩)
abbrev rm_X5_takeBackLatest : Room := { frames := 1, cells := 0, slots := 0, locals := 22 }
set_option maxRecDepth 100000 in
set_option maxHeartbeats 400000 in
theorem k5_takeBackLatest {l : Launch} {D : va_G} {ac : Nat → ClassId} (hl : l.stackTraces = false) {ad : Ad} {s e : Sg}  {G : jj_G} (hR : Rep ad (cC ac ad s e) G) (h28 : 1 ≤ s 28 0 ∧ s 28 0 ≤ 20) (h29 : 0 ≤ s 29 (s 28 0 - 1) ∧ s 29 (s 28 0 - 1) < 8) : jj_C l D ac yX5_takeBackLatest (.code yX5_takeBackLatest cX5_takeBackLatest 2 (some .int)) rm_X5_takeBackLatest [.ref (ad 6 0)] G (jj_pi (fun r G' => r = s 29 (s 28 0 - 1) ∧ Rep ad (cC ac ad (sU (sU s 28 0 (s 28 0 - 1)) 27 (s 29 (s 28 0 - 1)) (s 30 (s 28 0 - 1))) e) G')) (jj_nx) := by
  refine jj_ofx (own := RX5) (lv0 := [some (.ref (ad 6 0)), none]) hl (by decide +kernel) rfl rfl (Nat.le_of_ble_eq_true rfl) rfl ?_
  intro X B hN hl0 hdg hac hin
  subst hl0; subst hdg; subst hac
  have F := B.F

  refine jj_aload0 F dX5_takeBackLatest_0 ?_
  refine jj_get F (hR.at (k := 6) (i := 0) cc_6) cs_5 (by decide) fd_X5_25 rfl dX5_takeBackLatest_1 ?_
  refine jj_iconst F dX5_takeBackLatest_4 ?_
  refine jj_isub F dX5_takeBackLatest_5 ?_
  refine jj_istore1 F dX5_takeBackLatest_6 (hN _ (by decide)) rfl ?_
  refine jj_iload1 F dX5_takeBackLatest_7 ?_
  refine jj_if_lt F (tgt := 17) dX5_takeBackLatest_8 rfl (by omega) (fun c8 => by exfalso; omega) (fun c8 => ?_)
  refine jj_iload1 F dX5_takeBackLatest_11 ?_
  refine jj_bipush F (by decide) dX5_takeBackLatest_12 ?_
  refine jj_icmp_lt F (tgt := 19) dX5_takeBackLatest_14 rfl (by omega) (fun c14 => ?_) (fun c14 => by exfalso; omega)
  refine jj_aload0 F dX5_takeBackLatest_19 ?_
  refine jj_iload1 F dX5_takeBackLatest_20 ?_
  refine c8_put F (ad := ad) hR (k := 6) (i := 0) cc_6 cs_5 (by decide) fd_X5_25 rfl rfl rfl (Nat.le_of_ble_eq_true rfl) dX5_takeBackLatest_21 (fun G hR => ?_)
  refine jj_aload0 F dX5_takeBackLatest_24 ?_
  refine jj_aload0 F dX5_takeBackLatest_25 ?_
  refine jj_get F (hR.at (k := 6) (i := 0) cU_s) cs_5 (by decide) fd_X5_15 rfl dX5_takeBackLatest_26 ?_
  refine jj_iload1 F dX5_takeBackLatest_29 ?_
  refine jj_iald F (hR.at (k := 8) (i := 0) ((cU_k (by decide)).trans cc_8)) (by omega) (by decide) dX5_takeBackLatest_30 ?_
  refine jj_aload0 F dX5_takeBackLatest_31 ?_
  refine jj_get F (hR.at (k := 6) (i := 0) cU_s) cs_5 (by decide) fd_X5_18 rfl dX5_takeBackLatest_32 ?_
  refine jj_iload1 F dX5_takeBackLatest_35 ?_
  refine jj_iald F (hR.at (k := 9) (i := 0) ((cU_k (by decide)).trans cc_9)) (by omega) (by decide) dX5_takeBackLatest_36 ?_
  have hR := hR.congr (C' := cC (jj_ac X) ad (sU s 28 0 (s 28 0 - 1)) (e)) (kcases (fun i => kc_0 (s := s) (e := (e)) (s' := (sU s 28 0 (s 28 0 - 1))) (e' := (e)) rfl rfl rfl rfl i) (fun i => kc_1 (s := s) (e := (e)) (s' := (sU s 28 0 (s 28 0 - 1))) (e' := (e)) rfl i) (fun i => kc_2 (s := s) (e := (e)) (s' := (sU s 28 0 (s 28 0 - 1))) (e' := (e)) rfl i) (fun i => kc_3 (s := s) (e := (e)) (s' := (sU s 28 0 (s 28 0 - 1))) (e' := (e)) rfl i) (fun i => kc_4 (s := s) (e := (e)) (s' := (sU s 28 0 (s 28 0 - 1))) (e' := (e)) rfl i) (fun i => kc_5 (s := s) (e := (e)) (s' := (sU s 28 0 (s 28 0 - 1))) (e' := (e)) rfl rfl i) (fun i => by exact kz (fun i hi => by simp [cU, cC, hi]) (rfl) i) (fun i => kc_7 (s := s) (e := (e)) (s' := (sU s 28 0 (s 28 0 - 1))) (e' := (e)) rfl i) (fun i => kc_8 (s := s) (e := (e)) (s' := (sU s 28 0 (s 28 0 - 1))) (e' := (e)) rfl i) (fun i => kc_9 (s := s) (e := (e)) (s' := (sU s 28 0 (s 28 0 - 1))) (e' := (e)) rfl i) (fun i => kc_10 (s := s) (e := (e)) (s' := (sU s 28 0 (s 28 0 - 1))) (e' := (e)) rfl i) (fun i => kc_11 (s := s) (e := (e)) (s' := (sU s 28 0 (s 28 0 - 1))) (e' := (e)) rfl i) (fun i => kc_12 (s := s) (e := (e)) (s' := (sU s 28 0 (s 28 0 - 1))) (e' := (e)) rfl i) (fun i => kc_13 (s := s) (e := (e)) (s' := (sU s 28 0 (s 28 0 - 1))) (e' := (e)) rfl i) (fun i => kc_14 (s := s) (e := (e)) (s' := (sU s 28 0 (s 28 0 - 1))) (e' := (e)) rfl i) (fun i => kc_15 (s := s) (e := (e)) (s' := (sU s 28 0 (s 28 0 - 1))) (e' := (e)) rfl i) (fun i => kc_16 (s := s) (e := (e)) (s' := (sU s 28 0 (s 28 0 - 1))) (e' := (e)) rfl rfl rfl rfl rfl rfl rfl rfl rfl rfl rfl rfl rfl i) (fun i => kc_17 (s := s) (e := (e)) (s' := (sU s 28 0 (s 28 0 - 1))) (e' := (e)) rfl rfl i) (fun i => kc_18 (s := s) (e := (e)) (s' := (sU s 28 0 (s 28 0 - 1))) (e' := (e)) rfl rfl i) (fun i => kc_19 (s := s) (e := (e)) (s' := (sU s 28 0 (s 28 0 - 1))) (e' := (e)) rfl rfl i) (fun i => kc_20 (s := s) (e := (e)) (s' := (sU s 28 0 (s 28 0 - 1))) (e' := (e)) rfl rfl rfl rfl i) (fun i => kc_21 (s := s) (e := (e)) (s' := (sU s 28 0 (s 28 0 - 1))) (e' := (e)) rfl rfl i) (fun i => kc_22 (s := s) (e := (e)) (s' := (sU s 28 0 (s 28 0 - 1))) (e' := (e)) rfl rfl i) (fun i => kc_23 (s := s) (e := (e)) (s' := (sU s 28 0 (s 28 0 - 1))) (e' := (e)) rfl rfl rfl rfl rfl rfl rfl rfl i) (fun i => kc_24 (s := s) (e := (e)) (s' := (sU s 28 0 (s 28 0 - 1))) (e' := (e)) rfl rfl rfl i) (fun i => kc_25 (s := s) (e := (e)) (s' := (sU s 28 0 (s 28 0 - 1))) (e' := (e)) rfl rfl i) (fun i => kc_26 (s := s) (e := (e)) (s' := (sU s 28 0 (s 28 0 - 1))) (e' := (e)) rfl rfl rfl i) (fun i => kc_27 (s := s) (e := (e)) (s' := (sU s 28 0 (s 28 0 - 1))) (e' := (e)) rfl rfl i) (fun k i => rfl))
  refine jj_callVv B (k := 0) (n := 0) (k5_write F.tr hR h29) lk_X5_33 (hR.at (k := 6) (i := 0) cc_6) cs_5 rfl rfl ⟨Nat.le_of_ble_eq_true rfl, Nat.le_of_ble_eq_true rfl, Nat.le_of_ble_eq_true rfl, Nat.le_of_ble_eq_true rfl, Nat.le_of_ble_eq_true rfl⟩ ⟨Nat.le_of_ble_eq_true rfl, Nat.le_of_ble_eq_true rfl, Nat.le_of_ble_eq_true rfl, Nat.le_of_ble_eq_true rfl⟩ jj_tx0 dX5_takeBackLatest_37 (fun G hR => ?_)
  refine jj_aload0 F dX5_takeBackLatest_40 ?_
  refine jj_get F (hR.at (k := 6) (i := 0) cc_6) cs_5 (by decide) fd_X5_15 rfl dX5_takeBackLatest_41 ?_
  refine jj_iload1 F dX5_takeBackLatest_44 ?_
  refine jj_iald F (hR.at (k := 8) (i := 0) cc_8) (by omega) (by decide) dX5_takeBackLatest_45 ?_
  exact jj_iret B dX5_takeBackLatest_46 ⟨Nat.le_of_ble_eq_true rfl, Nat.le_of_ble_eq_true rfl⟩ (⟨_, rfl, rfl, hR⟩)
theorem pRow_add {ad : Ad} {s : Sg} {t : Int} (h : 0 ≤ s 11 0) : pRow ad (sU (sU s 12 (s 11 0) t) 11 0 (s 11 0 + 1)) = ju (pRow ad s) (s 11 0) (some (ad 16 t)) := by
  funext j
  unfold pRow ju
  rw [sU_s, sU_n (k := 11) (k' := 12) (by decide), sU_k]
  by_cases hj : j = s 11 0
  · subst hj; rw [if_pos (by omega), if_pos rfl]; unfold ju; rw [if_pos rfl]
  · rw [if_neg hj]
    show _ = (if 0 ≤ j ∧ j < s 11 0 then some (ad 16 (s 12 j)) else none)
    by_cases h2 : 0 ≤ j ∧ j < s 11 0
    · rw [if_pos h2, if_pos (by omega)]; unfold ju; rw [if_neg hj]
    · rw [if_neg h2, if_neg (by omega)]
def eRow (ad : Ad) (s : Sg) (n : Nat) : Int → Option Nat := fun j => if 0 ≤ j ∧ j < n then none else pRow ad s j
theorem eRow_ju {ad : Ad} {s : Sg} {n : Nat} : ju (eRow ad s n) n none = eRow ad s (n + 1) := by
  funext j
  unfold ju eRow
  by_cases hj : j = n
  · rw [if_pos hj, if_pos (by omega)]
  · rw [if_neg hj]
    by_cases h2 : 0 ≤ j ∧ j < n
    · rw [if_pos h2, if_pos (by omega)]
    · rw [if_neg h2, if_neg (by omega)]
theorem eRow_0 {ad : Ad} {s : Sg} : eRow ad s 0 = pRow ad s := by funext j; exact if_neg (by omega)
theorem eRow_6 {ad : Ad} {s : Sg} (h : s 11 0 ≤ 6) : pRow ad (sU s 11 0 0) = eRow ad s 6 := by
  funext j
  unfold eRow pRow
  rw [sU_s, if_neg (by omega)]
  by_cases h2 : 0 ≤ j ∧ j < ((6 : Nat) : Int)
  · rw [if_pos h2]
  · rw [if_neg h2, if_neg (by omega)]
abbrev rm_X1_append : Room := { frames := 0, cells := 0, slots := 0, locals := 0 }
set_option maxRecDepth 100000 in
set_option maxHeartbeats 400000 in
theorem k1_append {l : Launch} {D : va_G} {ac : Nat → ClassId} (hl : l.stackTraces = false) {ad : Ad} {s e : Sg} {t : Int}  {G : jj_G} (hR : Rep ad (cC ac ad s e) G) (ht : 0 ≤ t ∧ t < s 1 0) (h11 : 0 ≤ s 11 0 ∧ s 11 0 < 6) : jj_C l D ac yX1_append (.code yX1_append cX1_append 2 none) rm_X1_append [.ref (ad 4 0), .ref (ad 16 t)] G (jj_pv (fun G' => Rep ad (cC ac ad (sU (sU s 12 (s 11 0) t) 11 0 (s 11 0 + 1)) e) G')) (jj_nx) := by
  refine jj_ofx (own := RX1) (lv0 := [some (.ref (ad 4 0)), some (.ref (ad 16 t))]) hl (by decide +kernel) rfl rfl (Nat.le_of_ble_eq_true rfl) rfl ?_
  intro X B hN hl0 hdg hac hin
  subst hl0; subst hdg; subst hac
  have F := B.F

  refine jj_aload0 F dX1_append_0 ?_
  refine jj_get F (hR.at (k := 4) (i := 0) cc_4) cs_1 (by decide) fd_X1_17 rfl dX1_append_1 ?_
  refine jj_if_lt F (tgt := 39) dX1_append_4 rfl (by omega) (fun c4 => by exfalso; omega) (fun c4 => ?_)
  refine jj_aload0 F dX1_append_7 ?_
  refine jj_get F (hR.at (k := 4) (i := 0) cc_4) cs_1 (by decide) fd_X1_17 rfl dX1_append_8 ?_
  refine jj_aload0 F dX1_append_11 ?_
  refine jj_get F (hR.at (k := 4) (i := 0) cc_4) cs_1 (by decide) fd_X1_11 rfl dX1_append_12 ?_
  refine jj_alenQ F (fun _ => rfl) (hR.at (k := 5) (i := 0) cc_5) dX1_append_15 ?_
  refine jj_icmp_ge F (tgt := 39) dX1_append_16 rfl (by omega) (fun c16 => by exfalso; omega) (fun c16 => ?_)
  refine jj_aload0 F dX1_append_19 ?_
  refine jj_get F (hR.at (k := 4) (i := 0) cc_4) cs_1 (by decide) fd_X1_11 rfl dX1_append_20 ?_
  refine jj_aload0 F dX1_append_23 ?_
  refine jj_get F (hR.at (k := 4) (i := 0) cc_4) cs_1 (by decide) fd_X1_17 rfl dX1_append_24 ?_
  refine jj_aload1 F dX1_append_27 ?_
  refine c8_ast F (ad := ad) (fun _ => rfl) hR (k := 5) (i := 0) cc_5 (hR.at (k := 16) (i := t) (if_pos (by omega))) cs_7 (by omega) (by decide) dX1_append_28 (fun G hR => ?_)
  refine jj_aload0 F dX1_append_29 ?_
  refine jj_dup F rfl dX1_append_30 ?_
  refine jj_get F (hR.at (k := 4) (i := 0) ((cU_k (by decide)).trans cc_4)) cs_1 (by decide) fd_X1_17 rfl dX1_append_31 ?_
  refine jj_iconst F dX1_append_34 ?_
  refine jj_iadd F dX1_append_35 ?_
  refine c8_put F (ad := ad) hR (k := 4) (i := 0) ((cU_k (by decide)).trans cc_4) cs_1 (by decide) fd_X1_17 rfl rfl rfl (Nat.le_of_ble_eq_true rfl) dX1_append_36 (fun G hR => ?_)
  have hR := hR.congr (C' := cC (jj_ac X) ad (sU (sU s 12 (s 11 0) t) 11 0 (s 11 0 + 1)) (e)) (kcases (fun i => kc_0 (s := s) (e := (e)) (s' := (sU (sU s 12 (s 11 0) t) 11 0 (s 11 0 + 1))) (e' := (e)) rfl rfl rfl rfl i) (fun i => kc_1 (s := s) (e := (e)) (s' := (sU (sU s 12 (s 11 0) t) 11 0 (s 11 0 + 1))) (e' := (e)) rfl i) (fun i => kc_2 (s := s) (e := (e)) (s' := (sU (sU s 12 (s 11 0) t) 11 0 (s 11 0 + 1))) (e' := (e)) rfl i) (fun i => kc_3 (s := s) (e := (e)) (s' := (sU (sU s 12 (s 11 0) t) 11 0 (s 11 0 + 1))) (e' := (e)) rfl i) (fun i => by exact kz (fun i hi => by simp [cU, cC, hi]) (rfl) i) (fun i => by rw [cU_k (k := 4) (k' := 5) (by decide)]; exact kz (fun i hi => by simp [cU, cC, hi]) (congrArg (jj_aq (jj_ac X 2) 6) (pRow_add (by omega))) i) (fun i => kc_6 (s := s) (e := (e)) (s' := (sU (sU s 12 (s 11 0) t) 11 0 (s 11 0 + 1))) (e' := (e)) rfl rfl i) (fun i => kc_7 (s := s) (e := (e)) (s' := (sU (sU s 12 (s 11 0) t) 11 0 (s 11 0 + 1))) (e' := (e)) rfl i) (fun i => kc_8 (s := s) (e := (e)) (s' := (sU (sU s 12 (s 11 0) t) 11 0 (s 11 0 + 1))) (e' := (e)) rfl i) (fun i => kc_9 (s := s) (e := (e)) (s' := (sU (sU s 12 (s 11 0) t) 11 0 (s 11 0 + 1))) (e' := (e)) rfl i) (fun i => kc_10 (s := s) (e := (e)) (s' := (sU (sU s 12 (s 11 0) t) 11 0 (s 11 0 + 1))) (e' := (e)) rfl i) (fun i => kc_11 (s := s) (e := (e)) (s' := (sU (sU s 12 (s 11 0) t) 11 0 (s 11 0 + 1))) (e' := (e)) rfl i) (fun i => kc_12 (s := s) (e := (e)) (s' := (sU (sU s 12 (s 11 0) t) 11 0 (s 11 0 + 1))) (e' := (e)) rfl i) (fun i => kc_13 (s := s) (e := (e)) (s' := (sU (sU s 12 (s 11 0) t) 11 0 (s 11 0 + 1))) (e' := (e)) rfl i) (fun i => kc_14 (s := s) (e := (e)) (s' := (sU (sU s 12 (s 11 0) t) 11 0 (s 11 0 + 1))) (e' := (e)) rfl i) (fun i => kc_15 (s := s) (e := (e)) (s' := (sU (sU s 12 (s 11 0) t) 11 0 (s 11 0 + 1))) (e' := (e)) rfl i) (fun i => kc_16 (s := s) (e := (e)) (s' := (sU (sU s 12 (s 11 0) t) 11 0 (s 11 0 + 1))) (e' := (e)) rfl rfl rfl rfl rfl rfl rfl rfl rfl rfl rfl rfl rfl i) (fun i => kc_17 (s := s) (e := (e)) (s' := (sU (sU s 12 (s 11 0) t) 11 0 (s 11 0 + 1))) (e' := (e)) rfl rfl i) (fun i => kc_18 (s := s) (e := (e)) (s' := (sU (sU s 12 (s 11 0) t) 11 0 (s 11 0 + 1))) (e' := (e)) rfl rfl i) (fun i => kc_19 (s := s) (e := (e)) (s' := (sU (sU s 12 (s 11 0) t) 11 0 (s 11 0 + 1))) (e' := (e)) rfl rfl i) (fun i => kc_20 (s := s) (e := (e)) (s' := (sU (sU s 12 (s 11 0) t) 11 0 (s 11 0 + 1))) (e' := (e)) rfl rfl rfl rfl i) (fun i => kc_21 (s := s) (e := (e)) (s' := (sU (sU s 12 (s 11 0) t) 11 0 (s 11 0 + 1))) (e' := (e)) rfl rfl i) (fun i => kc_22 (s := s) (e := (e)) (s' := (sU (sU s 12 (s 11 0) t) 11 0 (s 11 0 + 1))) (e' := (e)) rfl rfl i) (fun i => kc_23 (s := s) (e := (e)) (s' := (sU (sU s 12 (s 11 0) t) 11 0 (s 11 0 + 1))) (e' := (e)) rfl rfl rfl rfl rfl rfl rfl rfl i) (fun i => kc_24 (s := s) (e := (e)) (s' := (sU (sU s 12 (s 11 0) t) 11 0 (s 11 0 + 1))) (e' := (e)) rfl rfl rfl i) (fun i => kc_25 (s := s) (e := (e)) (s' := (sU (sU s 12 (s 11 0) t) 11 0 (s 11 0 + 1))) (e' := (e)) rfl rfl i) (fun i => kc_26 (s := s) (e := (e)) (s' := (sU (sU s 12 (s 11 0) t) 11 0 (s 11 0 + 1))) (e' := (e)) rfl rfl rfl i) (fun i => kc_27 (s := s) (e := (e)) (s' := (sU (sU s 12 (s 11 0) t) 11 0 (s 11 0 + 1))) (e' := (e)) rfl rfl i) (fun k i => rfl))
  exact jj_vret B dX1_append_39 ⟨Nat.le_of_ble_eq_true rfl, Nat.le_of_ble_eq_true rfl⟩ (⟨rfl, hR⟩)
abbrev rm_X1_empty : Room := { frames := 0, cells := 0, slots := 0, locals := 0 }
set_option maxRecDepth 100000 in
set_option maxHeartbeats 400000 in
theorem k1_empty {l : Launch} {D : va_G} {ac : Nat → ClassId} (hl : l.stackTraces = false) {ad : Ad} {s e : Sg}  {G : jj_G} (hR : Rep ad (cC ac ad s e) G) (h11 : 0 ≤ s 11 0 ∧ s 11 0 ≤ 6) : jj_C l D ac yX1_empty (.code yX1_empty cX1_empty 2 none) rm_X1_empty [.ref (ad 4 0)] G (jj_pv (fun G' => Rep ad (cC ac ad (sU s 11 0 0) e) G')) (jj_nx) := by
  refine jj_ofx (own := RX1) (lv0 := [some (.ref (ad 4 0)), none]) hl (by decide +kernel) rfl rfl (Nat.le_of_ble_eq_true rfl) rfl ?_
  intro X B hN hl0 hdg hac hin
  subst hl0; subst hdg; subst hac
  have F := B.F

  refine jj_iconst F dX1_empty_0 ?_
  refine jj_istore1 F dX1_empty_1 (hN _ (by decide)) rfl ?_
  have loop : ∀ (n j : Nat) (G : jj_G), n + j = 6 → Rep ad (cU (cC (jj_ac X) ad s e) 5 0 (jj_aq (jj_ac X 2) 6 (eRow ad s j))) G → jj_J X G 0 0 2 [some (.ref (ad 4 0)), some (.int (jI j))] [] := by
    intro n
    induction n with
    | zero =>
      intro j G hj hR
      refine jj_iload1 F dX1_empty_2 ?_
      refine jj_aload0 F dX1_empty_3 ?_
      refine jj_get F (hR.at (k := 4) (i := 0) ((cU_k (by decide)).trans cc_4)) cs_1 (by decide) fd_X1_11 rfl dX1_empty_4 ?_
      refine jj_alenQ F (fun _ => rfl) (hR.at (k := 5) (i := 0) cU_s) dX1_empty_7 ?_
      refine jj_icmp_ge F (tgt := 24) dX1_empty_8 rfl (by omega) (fun c8 => ?_) (fun c8 => by exfalso; omega)
      refine jj_aload0 F dX1_empty_24 ?_
      refine jj_iconst F dX1_empty_25 ?_
      refine c8_put F (ad := ad) hR (k := 4) (i := 0) ((cU_k (by decide)).trans cc_4) cs_1 (by decide) fd_X1_17 rfl rfl rfl (Nat.le_of_ble_eq_true rfl) dX1_empty_26 (fun G hR => ?_)
      rw [show j = 6 by omega] at hR
      have hR := hR.congr (C' := cC (jj_ac X) ad (sU s 11 0 0) (e)) (kcases (fun i => kc_0 (s := s) (e := (e)) (s' := (sU s 11 0 0)) (e' := (e)) rfl rfl rfl rfl i) (fun i => kc_1 (s := s) (e := (e)) (s' := (sU s 11 0 0)) (e' := (e)) rfl i) (fun i => kc_2 (s := s) (e := (e)) (s' := (sU s 11 0 0)) (e' := (e)) rfl i) (fun i => kc_3 (s := s) (e := (e)) (s' := (sU s 11 0 0)) (e' := (e)) rfl i) (fun i => by exact kz (fun i hi => by simp [cU, cC, hi]) (rfl) i) (fun i => by rw [cU_k (k := 4) (k' := 5) (by decide)]; exact kz (fun i hi => by simp [cU, cC, hi]) (congrArg (jj_aq (jj_ac X 2) 6) (eRow_6 h11.2)) i) (fun i => kc_6 (s := s) (e := (e)) (s' := (sU s 11 0 0)) (e' := (e)) rfl rfl i) (fun i => kc_7 (s := s) (e := (e)) (s' := (sU s 11 0 0)) (e' := (e)) rfl i) (fun i => kc_8 (s := s) (e := (e)) (s' := (sU s 11 0 0)) (e' := (e)) rfl i) (fun i => kc_9 (s := s) (e := (e)) (s' := (sU s 11 0 0)) (e' := (e)) rfl i) (fun i => kc_10 (s := s) (e := (e)) (s' := (sU s 11 0 0)) (e' := (e)) rfl i) (fun i => kc_11 (s := s) (e := (e)) (s' := (sU s 11 0 0)) (e' := (e)) rfl i) (fun i => kc_12 (s := s) (e := (e)) (s' := (sU s 11 0 0)) (e' := (e)) rfl i) (fun i => kc_13 (s := s) (e := (e)) (s' := (sU s 11 0 0)) (e' := (e)) rfl i) (fun i => kc_14 (s := s) (e := (e)) (s' := (sU s 11 0 0)) (e' := (e)) rfl i) (fun i => kc_15 (s := s) (e := (e)) (s' := (sU s 11 0 0)) (e' := (e)) rfl i) (fun i => kc_16 (s := s) (e := (e)) (s' := (sU s 11 0 0)) (e' := (e)) rfl rfl rfl rfl rfl rfl rfl rfl rfl rfl rfl rfl rfl i) (fun i => kc_17 (s := s) (e := (e)) (s' := (sU s 11 0 0)) (e' := (e)) rfl rfl i) (fun i => kc_18 (s := s) (e := (e)) (s' := (sU s 11 0 0)) (e' := (e)) rfl rfl i) (fun i => kc_19 (s := s) (e := (e)) (s' := (sU s 11 0 0)) (e' := (e)) rfl rfl i) (fun i => kc_20 (s := s) (e := (e)) (s' := (sU s 11 0 0)) (e' := (e)) rfl rfl rfl rfl i) (fun i => kc_21 (s := s) (e := (e)) (s' := (sU s 11 0 0)) (e' := (e)) rfl rfl i) (fun i => kc_22 (s := s) (e := (e)) (s' := (sU s 11 0 0)) (e' := (e)) rfl rfl i) (fun i => kc_23 (s := s) (e := (e)) (s' := (sU s 11 0 0)) (e' := (e)) rfl rfl rfl rfl rfl rfl rfl rfl i) (fun i => kc_24 (s := s) (e := (e)) (s' := (sU s 11 0 0)) (e' := (e)) rfl rfl rfl i) (fun i => kc_25 (s := s) (e := (e)) (s' := (sU s 11 0 0)) (e' := (e)) rfl rfl i) (fun i => kc_26 (s := s) (e := (e)) (s' := (sU s 11 0 0)) (e' := (e)) rfl rfl rfl i) (fun i => kc_27 (s := s) (e := (e)) (s' := (sU s 11 0 0)) (e' := (e)) rfl rfl i) (fun k i => rfl))
      exact jj_vret B dX1_empty_29 ⟨Nat.le_of_ble_eq_true rfl, Nat.le_of_ble_eq_true rfl⟩ (⟨rfl, hR⟩)
    | succ n ih =>
      intro j G hj hR
      refine jj_iload1 F dX1_empty_2 ?_
      refine jj_aload0 F dX1_empty_3 ?_
      refine jj_get F (hR.at (k := 4) (i := 0) ((cU_k (by decide)).trans cc_4)) cs_1 (by decide) fd_X1_11 rfl dX1_empty_4 ?_
      refine jj_alenQ F (fun _ => rfl) (hR.at (k := 5) (i := 0) cU_s) dX1_empty_7 ?_
      refine jj_icmp_ge F (tgt := 24) dX1_empty_8 rfl (by omega) (fun c8 => by exfalso; omega) (fun c8 => ?_)
      refine jj_aload0 F dX1_empty_11 ?_
      refine jj_get F (hR.at (k := 4) (i := 0) ((cU_k (by decide)).trans cc_4)) cs_1 (by decide) fd_X1_11 rfl dX1_empty_12 ?_
      refine jj_iload1 F dX1_empty_15 ?_
      refine jj_null F dX1_empty_16 ?_
      refine c8_astN F (ad := ad) (fun _ => rfl) hR (k := 5) (i := 0) cU_s (by omega) (by decide) dX1_empty_17 (fun G hR => ?_)
      refine jj_iinc1 F dX1_empty_18 (hN _ (by decide)) rfl ?_
      refine jj_goto F (tgt := 2) dX1_empty_21 rfl ?_
      rw [cU_u, eRow_ju] at hR
      have ih1 := ih (j + 1) G (by omega) hR
      rw [show (((j + 1 : Nat)) : Int) = (j : Int) + 1 from rfl] at ih1
      exact ih1
  exact loop 6 0 G (by omega) (by rw [eRow_0, cU_id cc_5]; exact hR)
