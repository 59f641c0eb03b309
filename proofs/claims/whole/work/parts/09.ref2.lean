abbrev rm_X9_goes : Room := { frames := 0, cells := 0, slots := 0, locals := 0 }
set_option maxRecDepth 100000 in
set_option maxHeartbeats 4000000 in
theorem k9_goes {l : Launch} {D : va_G} {ac : Nat → ClassId} (hl : l.stackTraces = false) {o : Nat} {a : Nat → Nat} {s : Sg} {q : Int} {G : jj_G} (hR : RM (ac 0) o a s G) (hq : jR q) : jj_C l D ac yX9_goes (.code yX9_goes cX9_goes 2 (some .boolean)) rm_X9_goes [.ref o, .int (jI q)] G (jj_pi (fun r G' => r = (if q = 0 then 1 else 0) ∧ RM (ac 0) o a (sU s 37 0 q) G')) (jj_nx) := by
  refine jj_ofx (own := RX9) (lv0 := [some (.ref o), some (.int (jI q))]) hl (by decide +kernel) rfl rfl (Nat.le_of_ble_eq_true rfl) rfl ?_
  intro X B hN hl0 hdg hac hin
  subst hl0; subst hdg; subst hac
  have F := B.F

  refine jj_aload0 F dX9_goes_0 ?_
  refine jj_iload1 F dX9_goes_1 ?_
  refine m9_put F hR fd_X9_97 rfl hq (by decide) rfl (by first | rfl | decide) (by first | rfl | decide) dX9_goes_2 (fun G hR => ?_)
  refine jj_iload1 F dX9_goes_5 ?_
  refine jj_if_ne F (tgt := 13) dX9_goes_6 rfl (by omega) (fun c6 => ?_) (fun c6 => ?_)
  · skip
    refine jj_iconst F dX9_goes_13 ?_
    exact jj_zret B dX9_goes_14 ⟨Nat.le_of_ble_eq_true rfl, Nat.le_of_ble_eq_true rfl⟩ (by omega) (⟨_, rfl, by first | rw [if_pos (by omega)] | rw [if_neg (by omega)], hR⟩)
  · skip
    refine jj_iconst F dX9_goes_9 ?_
    refine jj_goto F (tgt := 14) dX9_goes_10 rfl ?_
    exact jj_zret B dX9_goes_14 ⟨Nat.le_of_ble_eq_true rfl, Nat.le_of_ble_eq_true rfl⟩ (by omega) (⟨_, rfl, by first | rw [if_pos (by omega)] | rw [if_neg (by omega)], hR⟩)
abbrev rm_X9_thrown : Room := { frames := 0, cells := 0, slots := 0, locals := 0 }
set_option maxRecDepth 100000 in
set_option maxHeartbeats 4000000 in
theorem k9_thrown {l : Launch} {D : va_G} {ac : Nat → ClassId} (hl : l.stackTraces = false) {o : Nat} {a : Nat → Nat} {s : Sg}  {G : jj_G} (hR : RM (ac 0) o a s G)  : jj_C l D ac yX9_thrown (.code yX9_thrown cX9_thrown 1 (some .int)) rm_X9_thrown [.ref o] G (jj_ri (s 37 0) G) (jj_nx) := by
  refine jj_ofx (own := RX9) (lv0 := [some (.ref o)]) hl (by decide +kernel) rfl rfl (Nat.le_of_ble_eq_true rfl) rfl ?_
  intro X B hN hl0 hdg hac hin
  subst hl0; subst hdg; subst hac
  have F := B.F

  refine jj_aload0 F dX9_thrown_0 ?_
  refine m9_get F hR fd_X9_97 (by decide) rfl dX9_thrown_1 ?_
  exact jj_iretr B dX9_thrown_4 ⟨Nat.le_of_ble_eq_true rfl, Nat.le_of_ble_eq_true rfl⟩ (rfl)
abbrev rm_X9_puts : Room := { frames := 0, cells := 0, slots := 0, locals := 0 }
set_option maxRecDepth 100000 in
set_option maxHeartbeats 4000000 in
theorem k9_puts {l : Launch} {D : va_G} {ac : Nat → ClassId} (hl : l.stackTraces = false) {o : Nat} {a : Nat → Nat} {s : Sg} {x y z : Int} {G : jj_G} (hR : RM (ac 0) o a s G) (h1 : 0 ≤ s 1 0 ∧ s 1 0 < 30) (h7 : 0 ≤ s 7 (s 1 0) ∧ s 7 (s 1 0) < 20) (hx : jR x) (hy : jR y) (hz : jR z) : jj_C l D ac yX9_puts (.code yX9_puts cX9_puts 5 none) rm_X9_puts [.ref o, .int (jI x), .int (jI y), .int (jI z)] G (jj_pv (fun G' => RM (ac 0) o a (sPuts s x y z) G')) (jj_nx) := by
  refine jj_ofx (own := RX9) (lv0 := [some (.ref o), some (.int (jI x)), some (.int (jI y)), some (.int (jI z)), none]) hl (by decide +kernel) rfl rfl (Nat.le_of_ble_eq_true rfl) rfl ?_
  intro X B hN hl0 hdg hac hin
  subst hl0; subst hdg; subst hac
  have F := B.F

  have r1 := hR.rng 1 0
  have r7 := hR.rng 7 (s 1 0)
  refine jj_bipush F (by decide) dX9_puts_0 ?_
  refine jj_aload0 F dX9_puts_2 ?_
  refine m9_get F hR fd_X9_101 (by decide) rfl dX9_puts_3 ?_
  refine jj_imul F dX9_puts_6 ?_
  refine jj_aload0 F dX9_puts_7 ?_
  refine m9_get F hR fd_X9_25 (by decide) rfl dX9_puts_8 ?_
  refine jj_aload0 F dX9_puts_11 ?_
  refine m9_get F hR fd_X9_101 (by decide) rfl dX9_puts_12 ?_
  refine m9_ald F hR (n := 30) rfl (by omega) (by decide) dX9_puts_15 (fun r_15 => ?_)
  refine jj_iadd F dX9_puts_16 ?_
  refine jj_istore4 F dX9_puts_17 (hN _ (by decide)) rfl ?_
  refine jj_aload0 F dX9_puts_19 ?_
  refine m9_get F hR fd_X9_28 (by decide) rfl dX9_puts_20 ?_
  refine jj_iload4 F dX9_puts_23 ?_
  refine jj_iload1 F dX9_puts_25 ?_
  refine m9_ast F hR (n := 600) rfl (by omega) (by decide) (by omega) dX9_puts_26 (fun G hR => ?_)
  refine jj_aload0 F dX9_puts_27 ?_
  refine m9_get F hR fd_X9_31 (by decide) rfl dX9_puts_28 ?_
  refine jj_iload4 F dX9_puts_31 ?_
  refine jj_iload2 F dX9_puts_33 ?_
  refine m9_ast F hR (n := 600) rfl (by omega) (by decide) (by omega) dX9_puts_34 (fun G hR => ?_)
  refine jj_aload0 F dX9_puts_35 ?_
  refine m9_get F hR fd_X9_34 (by decide) rfl dX9_puts_36 ?_
  refine jj_iload4 F dX9_puts_39 ?_
  refine jj_iload3 F dX9_puts_41 ?_
  refine m9_ast F hR (n := 600) rfl (by omega) (by decide) (by omega) dX9_puts_42 (fun G hR => ?_)
  refine jj_aload0 F dX9_puts_43 ?_
  refine m9_get F hR fd_X9_25 (by decide) rfl dX9_puts_44 ?_
  refine jj_aload0 F dX9_puts_47 ?_
  refine m9_get F hR fd_X9_101 (by decide) rfl dX9_puts_48 ?_
  refine jj_eqi (b := s 1 0) rfl ?_
  refine jj_dup2 F rfl rfl dX9_puts_51 ?_
  refine m9_ald F hR (n := 30) rfl (by omega) (by decide) dX9_puts_52 (fun r_52 => ?_)
  refine jj_eqi (b := s 7 _) rfl ?_
  have r_52 : jR (s 7 _) := r_52
  refine jj_iconst F dX9_puts_53 ?_
  refine jj_iadd F dX9_puts_54 ?_
  refine m9_ast F hR (n := 30) rfl (by omega) (by decide) (by omega) dX9_puts_55 (fun G hR => ?_)
  exact jj_vret B dX9_puts_56 ⟨Nat.le_of_ble_eq_true rfl, Nat.le_of_ble_eq_true rfl⟩ (⟨rfl, hR⟩)
abbrev rm_X9_makes : Room := { frames := 0, cells := 0, slots := 0, locals := 0 }
set_option maxRecDepth 100000 in
set_option maxHeartbeats 4000000 in
theorem k9_makes {l : Launch} {D : va_G} {ac : Nat → ClassId} (hl : l.stackTraces = false) {o : Nat} {a : Nat → Nat} {s : Sg} {x y : Int} {G : jj_G} (hR : RM (ac 0) o a s G) (h1 : 0 ≤ s 1 0 ∧ s 1 0 < 30) (hx : jR x) (hy : jR y) : jj_C l D ac yX9_makes (.code yX9_makes cX9_makes 3 (some .int)) rm_X9_makes [.ref o, .int (jI x), .int (jI y)] G (jj_pi (fun r G' => r = (s 1 0) ∧ RM (ac 0) o a (sMakes s x y) G')) (jj_nx) := by
  refine jj_ofx (own := RX9) (lv0 := [some (.ref o), some (.int (jI x)), some (.int (jI y))]) hl (by decide +kernel) rfl rfl (Nat.le_of_ble_eq_true rfl) rfl ?_
  intro X B hN hl0 hdg hac hin
  subst hl0; subst hdg; subst hac
  have F := B.F

  have r1 := hR.rng 1 0
  refine jj_aload0 F dX9_makes_0 ?_
  refine m9_get F hR fd_X9_7 (by decide) rfl dX9_makes_1 ?_
  refine jj_aload0 F dX9_makes_4 ?_
  refine m9_get F hR fd_X9_101 (by decide) rfl dX9_makes_5 ?_
  refine jj_iconst F dX9_makes_8 ?_
  refine m9_ast F hR (n := 30) rfl (by omega) (by decide) (by omega) dX9_makes_9 (fun G hR => ?_)
  refine jj_aload0 F dX9_makes_10 ?_
  refine m9_get F hR fd_X9_16 (by decide) rfl dX9_makes_11 ?_
  refine jj_aload0 F dX9_makes_14 ?_
  refine m9_get F hR fd_X9_101 (by decide) rfl dX9_makes_15 ?_
  refine jj_eqi (b := s 1 0) rfl ?_
  refine jj_iload1 F dX9_makes_18 ?_
  refine m9_ast F hR (n := 30) rfl (by omega) (by decide) (by omega) dX9_makes_19 (fun G hR => ?_)
  refine jj_aload0 F dX9_makes_20 ?_
  refine m9_get F hR fd_X9_19 (by decide) rfl dX9_makes_21 ?_
  refine jj_aload0 F dX9_makes_24 ?_
  refine m9_get F hR fd_X9_101 (by decide) rfl dX9_makes_25 ?_
  refine jj_eqi (b := s 1 0) rfl ?_
  refine jj_iload2 F dX9_makes_28 ?_
  refine m9_ast F hR (n := 30) rfl (by omega) (by decide) (by omega) dX9_makes_29 (fun G hR => ?_)
  refine jj_aload0 F dX9_makes_30 ?_
  refine jj_dup F rfl dX9_makes_31 ?_
  refine m9_get F hR fd_X9_101 (by decide) rfl dX9_makes_32 ?_
  refine jj_eqi (b := s 1 0) rfl ?_
  refine jj_iconst F dX9_makes_35 ?_
  refine jj_iadd F dX9_makes_36 ?_
  refine m9_put F hR fd_X9_101 rfl (by omega) (by decide) rfl (by first | rfl | decide) (by first | rfl | decide) dX9_makes_37 (fun G hR => ?_)
  refine jj_aload0 F dX9_makes_40 ?_
  refine m9_get F hR fd_X9_101 (by decide) rfl dX9_makes_41 ?_
  refine jj_eqi (b := s 1 0 + 1) rfl ?_
  refine jj_iconst F dX9_makes_44 ?_
  refine jj_isub F dX9_makes_45 ?_
  exact jj_iret B dX9_makes_46 ⟨Nat.le_of_ble_eq_true rfl, Nat.le_of_ble_eq_true rfl⟩ (⟨_, rfl, by omega, hR⟩)
abbrev rm_X9_copies : Room := { frames := 1, cells := 0, slots := 0, locals := 24 }
set_option maxRecDepth 100000 in
set_option maxHeartbeats 4000000 in
theorem k9_copies {l : Launch} {D : va_G} {ac : Nat → ClassId} (hl : l.stackTraces = false) {o : Nat} {a : Nat → Nat} {s : Sg} {t f u : Int} {G : jj_G} (hR : RM (ac 0) o a s G) (h1 : 0 ≤ s 1 0 ∧ s 1 0 < 30) (ht : 0 ≤ t ∧ t < s 1 0) (hs : 0 ≤ s 7 t ∧ s 7 t ≤ 20) (h7 : 0 ≤ s 7 (s 1 0) ∧ s 7 (s 1 0) ≤ 20) (hsp : s 7 (s 1 0) + sSpans s t f u ≤ 20) (hfu : f < u) (hf : 0 ≤ f ∧ f ≤ 100000) (hu : 0 ≤ u ∧ u ≤ 100000) (hfr : ∀ i : Int, 20 * t ≤ i ∧ i < 20 * t + s 7 t → 0 ≤ s 9 i ∧ s 9 i ≤ 900) (hlt : ∀ j : Nat, (j : Int) < s 7 t → sLenTo s t j < sLenTo s t (j + 1)) (hle : ∀ j : Nat, j ≤ (s 7 t).toNat → 0 ≤ sLenTo s t j ∧ sLenTo s t j ≤ 100000) : jj_C l D ac yX9_copies (.code yX9_copies cX9_copies 9 none) rm_X9_copies [.ref o, .int (jI t), .int (jI f), .int (jI u)] G (jj_pv (fun G' => RM (ac 0) o a (sCopy s t f u) G')) (jj_nx) := by
  refine jj_ofx (own := RX9) (lv0 := [some (.ref o), some (.int (jI t)), some (.int (jI f)), some (.int (jI u)), none, none, none, none, none]) hl (by decide +kernel) rfl rfl (Nat.le_of_ble_eq_true rfl) rfl ?_
  intro X B hN hl0 hdg hac hin
  subst hl0; subst hdg; subst hac
  have F := B.F

  have hc7 : ∀ j, sCopyTo s t f u j 7 t = s 7 t := fun j => sCopyTo_7 j (by omega)
  have hcc : ∀ (k : Nat), k = 8 ∨ k = 9 ∨ k = 10 → ∀ (j : Nat) (i : Int), (j : Int) ≤ s 7 t → i < 20 * s 1 0 → sCopyTo s t f u j k i = s k i := fun k hk j i hj hi => sCopyTo_c hk h7.1 hlt hfu j hj (by omega)
  refine jj_iconst F dX9_copies_0 ?_
  refine jj_istore4 F dX9_copies_1 (hN _ (by decide)) rfl ?_
  refine jj_bipush F (by decide) dX9_copies_3 ?_
  refine jj_iload1 F dX9_copies_5 ?_
  refine jj_imul F dX9_copies_6 ?_
  refine jj_istore5 F dX9_copies_7 (hN _ (by decide)) rfl ?_
  have loop : ∀ (n j : Nat) (x6 x7 x8 : Option Value) (G : jj_G), n + j = (s 7 t).toNat → RM (jj_ac X 0) o a (sCopyTo s t f u j) G → jj_J X G 0 0 9 [some (.ref o), some (.int (jI t)), some (.int (jI f)), some (.int (jI u)), some (.int (jI (sLenTo s t j))), some (.int (jI (20 * t + j))), x6, x7, x8] [] := by
    intro n
    induction n with
    | zero =>
      intro j x6 x7 x8 G hj hR
      have e1 : (j : Int) = s 7 t := by omega
      refine jj_iload5 F dX9_copies_9 ?_
      refine jj_bipush F (by decide) dX9_copies_11 ?_
      refine jj_iload1 F dX9_copies_13 ?_
      refine jj_imul F dX9_copies_14 ?_
      refine jj_aload0 F dX9_copies_15 ?_
      refine m9_get F hR fd_X9_25 (by decide) rfl dX9_copies_16 ?_
      refine jj_iload1 F dX9_copies_19 ?_
      refine m9_ald F hR (n := 30) rfl (by omega) (by decide) dX9_copies_20 (fun r_20 => ?_)
      refine jj_eqi (hc7 j) ?_
      refine jj_iadd F dX9_copies_21 ?_
      refine jj_icmp_ge F (tgt := 127) dX9_copies_22 rfl (by omega) (fun c22 => ?_) (fun c22 => by exfalso; omega)
      exact jj_vret B dX9_copies_127 ⟨Nat.le_of_ble_eq_true rfl, Nat.le_of_ble_eq_true rfl⟩ (⟨rfl, by unfold sCopy; rw [show (s 7 t).toNat = j by omega]; exact hR⟩)
    | succ n ih =>
      intro j x6 x7 x8 G hj hR
      have e1 : (j : Int) < s 7 t := by omega
      have e2 : sLenTo s t (j + 1) = sLenTo s t j + (s 10 (20 * t + j) - s 9 (20 * t + j)) := rfl
      have e3 := hle j (by omega)
      have e4 := hle (j + 1) (by omega)
      have e5 := hfr (20 * t + j) (by omega)
      have e6 := hlt j (by omega)
      refine jj_iload5 F dX9_copies_9 ?_
      refine jj_bipush F (by decide) dX9_copies_11 ?_
      refine jj_iload1 F dX9_copies_13 ?_
      refine jj_imul F dX9_copies_14 ?_
      refine jj_aload0 F dX9_copies_15 ?_
      refine m9_get F hR fd_X9_25 (by decide) rfl dX9_copies_16 ?_
      refine jj_iload1 F dX9_copies_19 ?_
      refine m9_ald F hR (n := 30) rfl (by omega) (by decide) dX9_copies_20 (fun r_20 => ?_)
      refine jj_eqi (hc7 j) ?_
      refine jj_iadd F dX9_copies_21 ?_
      refine jj_icmp_ge F (tgt := 127) dX9_copies_22 rfl (by omega) (fun c22 => by exfalso; omega) (fun c22 => ?_)
      refine jj_iload4 F dX9_copies_25 ?_
      refine jj_aload0 F dX9_copies_27 ?_
      refine m9_get F hR fd_X9_34 (by decide) rfl dX9_copies_28 ?_
      refine jj_iload5 F dX9_copies_31 ?_
      refine m9_ald F hR (n := 600) rfl (by omega) (by decide) dX9_copies_33 (fun r_33 => ?_)
      refine jj_eqi (hcc 10 (by omega) j _ (by omega) (by omega)) ?_
      refine jj_iadd F dX9_copies_34 ?_
      refine jj_aload0 F dX9_copies_35 ?_
      refine m9_get F hR fd_X9_31 (by decide) rfl dX9_copies_36 ?_
      refine jj_iload5 F dX9_copies_39 ?_
      refine m9_ald F hR (n := 600) rfl (by omega) (by decide) dX9_copies_41 (fun r_41 => ?_)
      refine jj_eqi (hcc 9 (by omega) j _ (by omega) (by omega)) ?_
      refine jj_isub F dX9_copies_42 ?_
      refine jj_istore6 F dX9_copies_43 (hN _ (by decide)) rfl ?_
      refine jj_iload2 F dX9_copies_45 ?_
      refine jj_iload4 F dX9_copies_46 ?_
      refine jj_icmp_le F (tgt := 55) dX9_copies_48 rfl (by omega) (fun c48 => ?_) (fun c48 => ?_)
      · skip
        refine jj_iload4 F dX9_copies_55 ?_
        refine jj_istore7 F dX9_copies_57 (hN _ (by decide)) rfl ?_
        refine jj_iload3 F dX9_copies_59 ?_
        refine jj_iload6 F dX9_copies_60 ?_
        refine jj_icmp_ge F (tgt := 69) dX9_copies_62 rfl (by omega) (fun c62 => ?_) (fun c62 => ?_)
        · skip
          refine jj_iload6 F dX9_copies_69 ?_
          refine jj_istore8 F dX9_copies_71 (hN _ (by decide)) rfl ?_
          refine jj_iload7 F dX9_copies_73 ?_
          refine jj_iload8 F dX9_copies_75 ?_
          refine jj_icmp_ge F (tgt := 117) dX9_copies_77 rfl (by omega) (fun c77 => ?_) (fun c77 => ?_)
          · skip
            refine jj_iload6 F dX9_copies_117 ?_
            refine jj_istore4 F dX9_copies_119 (hN _ (by decide)) rfl ?_
            refine jj_iinc5 F dX9_copies_121 (hN _ (by decide)) rfl ?_
            refine jj_goto F (tgt := 9) dX9_copies_124 rfl ?_
            have m1 : sFi f (sLenTo s t j) = sLenTo s t j := by unfold sFi; split <;> omega
            have m2 : sLa u (sLenTo s t (j + 1)) = sLenTo s t (j + 1) := by unfold sLa; split <;> omega
            have hR2 : RM (jj_ac X 0) o a (sCopyTo s t f u (j + 1)) G := by
              have e7 : sCopyTo s t f u (j + 1) = sCopyTo s t f u j := by
                show (if _ then _ else _) = _
                rw [m1, m2]
                exact if_neg (by omega)
              rw [e7]; exact hR
            have ih1 := ih (j + 1) (some (.int (jI (sLenTo s t j + s 10 (20 * t + j) - s 9 (20 * t + j))))) (some (.int (jI (sLenTo s t j)))) (some (.int (jI (sLenTo s t j + s 10 (20 * t + j) - s 9 (20 * t + j))))) G (by omega) hR2
            rw [show (((j + 1 : Nat)) : Int) = (j : Int) + 1 from rfl] at ih1
            rw [show 20 * t + ((j : Int) + 1) = 20 * t + (j : Int) + 1 by omega] at ih1
            rw [e2, ← Int.add_sub_assoc] at ih1
            exact ih1
          · skip
            refine jj_aload0 F dX9_copies_80 ?_
            refine jj_aload0 F dX9_copies_81 ?_
            refine m9_get F hR fd_X9_28 (by decide) rfl dX9_copies_82 ?_
            refine jj_iload5 F dX9_copies_85 ?_
            refine m9_ald F hR (n := 600) rfl (by omega) (by decide) dX9_copies_87 (fun r_87 => ?_)
            refine jj_eqi (hcc 8 (by omega) j _ (by omega) (by omega)) ?_
            refine jj_aload0 F dX9_copies_88 ?_
            refine m9_get F hR fd_X9_31 (by decide) rfl dX9_copies_89 ?_
            refine jj_iload5 F dX9_copies_92 ?_
            refine m9_ald F hR (n := 600) rfl (by omega) (by decide) dX9_copies_94 (fun r_94 => ?_)
            refine jj_eqi (hcc 9 (by omega) j _ (by omega) (by omega)) ?_
            refine jj_iload7 F dX9_copies_95 ?_
            refine jj_iadd F dX9_copies_97 ?_
            refine jj_iload4 F dX9_copies_98 ?_
            refine jj_isub F dX9_copies_100 ?_
            refine jj_aload0 F dX9_copies_101 ?_
            refine m9_get F hR fd_X9_31 (by decide) rfl dX9_copies_102 ?_
            refine jj_iload5 F dX9_copies_105 ?_
            refine m9_ald F hR (n := 600) rfl (by omega) (by decide) dX9_copies_107 (fun r_107 => ?_)
            refine jj_eqi (hcc 9 (by omega) j _ (by omega) (by omega)) ?_
            refine jj_iload8 F dX9_copies_108 ?_
            refine jj_iadd F dX9_copies_110 ?_
            refine jj_iload4 F dX9_copies_111 ?_
            refine jj_isub F dX9_copies_113 ?_
            refine jj_callVv B (k := 0) (n := 0) (k9_puts F.tr hR (by rw [sCopyTo_n (k := 1) (by decide)]; omega) (by rw [sCopyTo_n (k := 1) (by decide), sCopyTo_T hlt hfu j (by omega)]; have g1 := sSpansTo_in s t f u j; have g2 := sSpansTo_mono s t f u (show j + 1 ≤ (s 7 t).toNat by omega); simp only [sSpansTo] at g2; rw [if_pos (by omega)] at g2; unfold sSpans at hsp; omega) (by have := hR.rng 8 (20 * t + j); rw [hcc 8 (by omega) j _ (by omega) (by omega)] at this; omega) (by omega) (by omega)) lk_X9_121 hR.1 cs_9 rfl rfl ⟨Nat.le_of_ble_eq_true rfl, Nat.le_of_ble_eq_true rfl, Nat.le_of_ble_eq_true rfl, Nat.le_of_ble_eq_true rfl, Nat.le_of_ble_eq_true rfl⟩ ⟨Nat.le_of_ble_eq_true rfl, Nat.le_of_ble_eq_true rfl, Nat.le_of_ble_eq_true rfl, Nat.le_of_ble_eq_true rfl⟩ jj_tx0 dX9_copies_114 (fun G hR => ?_)
            refine jj_iload6 F dX9_copies_117 ?_
            refine jj_istore4 F dX9_copies_119 (hN _ (by decide)) rfl ?_
            refine jj_iinc5 F dX9_copies_121 (hN _ (by decide)) rfl ?_
            refine jj_goto F (tgt := 9) dX9_copies_124 rfl ?_
            have m1 : sFi f (sLenTo s t j) = sLenTo s t j := by unfold sFi; split <;> omega
            have m2 : sLa u (sLenTo s t (j + 1)) = sLenTo s t (j + 1) := by unfold sLa; split <;> omega
            rw [show sLenTo s t j + s 10 (20 * t + j) - s 9 (20 * t + j) = sLenTo s t (j + 1) by omega] at hR
            have hR2 : RM (jj_ac X 0) o a (sCopyTo s t f u (j + 1)) G := by
              have e7 : sCopyTo s t f u (j + 1) = sPuts (sCopyTo s t f u j) (s 8 (20 * t + j)) (s 9 (20 * t + j) + sLenTo s t j - sLenTo s t j) (s 9 (20 * t + j) + sLenTo s t (j + 1) - sLenTo s t j) := by
                show (if _ then _ else _) = _
                rw [m1, m2]
                exact if_pos (by omega)
              rw [e7]
              exact hR
            have ih1 := ih (j + 1) (some (.int (jI (sLenTo s t j + s 10 (20 * t + j) - s 9 (20 * t + j))))) (some (.int (jI (sLenTo s t j)))) (some (.int (jI (sLenTo s t j + s 10 (20 * t + j) - s 9 (20 * t + j))))) G (by omega) hR2
            rw [show (((j + 1 : Nat)) : Int) = (j : Int) + 1 from rfl] at ih1
            rw [show 20 * t + ((j : Int) + 1) = 20 * t + (j : Int) + 1 by omega] at ih1
            rw [e2, ← Int.add_sub_assoc] at ih1
            exact ih1
        · skip
          refine jj_iload3 F dX9_copies_65 ?_
          refine jj_goto F (tgt := 71) dX9_copies_66 rfl ?_
          refine jj_istore8 F dX9_copies_71 (hN _ (by decide)) rfl ?_
          refine jj_iload7 F dX9_copies_73 ?_
          refine jj_iload8 F dX9_copies_75 ?_
          refine jj_icmp_ge F (tgt := 117) dX9_copies_77 rfl (by omega) (fun c77 => ?_) (fun c77 => ?_)
          · skip
            refine jj_iload6 F dX9_copies_117 ?_
            refine jj_istore4 F dX9_copies_119 (hN _ (by decide)) rfl ?_
            refine jj_iinc5 F dX9_copies_121 (hN _ (by decide)) rfl ?_
            refine jj_goto F (tgt := 9) dX9_copies_124 rfl ?_
            have m1 : sFi f (sLenTo s t j) = sLenTo s t j := by unfold sFi; split <;> omega
            have m2 : sLa u (sLenTo s t (j + 1)) = u := by unfold sLa; split <;> omega
            have hR2 : RM (jj_ac X 0) o a (sCopyTo s t f u (j + 1)) G := by
              have e7 : sCopyTo s t f u (j + 1) = sCopyTo s t f u j := by
                show (if _ then _ else _) = _
                rw [m1, m2]
                exact if_neg (by omega)
              rw [e7]; exact hR
            have ih1 := ih (j + 1) (some (.int (jI (sLenTo s t j + s 10 (20 * t + j) - s 9 (20 * t + j))))) (some (.int (jI (sLenTo s t j)))) (some (.int (jI (u)))) G (by omega) hR2
            rw [show (((j + 1 : Nat)) : Int) = (j : Int) + 1 from rfl] at ih1
            rw [show 20 * t + ((j : Int) + 1) = 20 * t + (j : Int) + 1 by omega] at ih1
            rw [e2, ← Int.add_sub_assoc] at ih1
            exact ih1
          · skip
            refine jj_aload0 F dX9_copies_80 ?_
            refine jj_aload0 F dX9_copies_81 ?_
            refine m9_get F hR fd_X9_28 (by decide) rfl dX9_copies_82 ?_
            refine jj_iload5 F dX9_copies_85 ?_
            refine m9_ald F hR (n := 600) rfl (by omega) (by decide) dX9_copies_87 (fun r_87 => ?_)
            refine jj_eqi (hcc 8 (by omega) j _ (by omega) (by omega)) ?_
            refine jj_aload0 F dX9_copies_88 ?_
            refine m9_get F hR fd_X9_31 (by decide) rfl dX9_copies_89 ?_
            refine jj_iload5 F dX9_copies_92 ?_
            refine m9_ald F hR (n := 600) rfl (by omega) (by decide) dX9_copies_94 (fun r_94 => ?_)
            refine jj_eqi (hcc 9 (by omega) j _ (by omega) (by omega)) ?_
            refine jj_iload7 F dX9_copies_95 ?_
            refine jj_iadd F dX9_copies_97 ?_
            refine jj_iload4 F dX9_copies_98 ?_
            refine jj_isub F dX9_copies_100 ?_
            refine jj_aload0 F dX9_copies_101 ?_
            refine m9_get F hR fd_X9_31 (by decide) rfl dX9_copies_102 ?_
            refine jj_iload5 F dX9_copies_105 ?_
            refine m9_ald F hR (n := 600) rfl (by omega) (by decide) dX9_copies_107 (fun r_107 => ?_)
            refine jj_eqi (hcc 9 (by omega) j _ (by omega) (by omega)) ?_
            refine jj_iload8 F dX9_copies_108 ?_
            refine jj_iadd F dX9_copies_110 ?_
            refine jj_iload4 F dX9_copies_111 ?_
            refine jj_isub F dX9_copies_113 ?_
            refine jj_callVv B (k := 0) (n := 0) (k9_puts F.tr hR (by rw [sCopyTo_n (k := 1) (by decide)]; omega) (by rw [sCopyTo_n (k := 1) (by decide), sCopyTo_T hlt hfu j (by omega)]; have g1 := sSpansTo_in s t f u j; have g2 := sSpansTo_mono s t f u (show j + 1 ≤ (s 7 t).toNat by omega); simp only [sSpansTo] at g2; rw [if_pos (by omega)] at g2; unfold sSpans at hsp; omega) (by have := hR.rng 8 (20 * t + j); rw [hcc 8 (by omega) j _ (by omega) (by omega)] at this; omega) (by omega) (by omega)) lk_X9_121 hR.1 cs_9 rfl rfl ⟨Nat.le_of_ble_eq_true rfl, Nat.le_of_ble_eq_true rfl, Nat.le_of_ble_eq_true rfl, Nat.le_of_ble_eq_true rfl, Nat.le_of_ble_eq_true rfl⟩ ⟨Nat.le_of_ble_eq_true rfl, Nat.le_of_ble_eq_true rfl, Nat.le_of_ble_eq_true rfl, Nat.le_of_ble_eq_true rfl⟩ jj_tx0 dX9_copies_114 (fun G hR => ?_)
            refine jj_iload6 F dX9_copies_117 ?_
            refine jj_istore4 F dX9_copies_119 (hN _ (by decide)) rfl ?_
            refine jj_iinc5 F dX9_copies_121 (hN _ (by decide)) rfl ?_
            refine jj_goto F (tgt := 9) dX9_copies_124 rfl ?_
            have m1 : sFi f (sLenTo s t j) = sLenTo s t j := by unfold sFi; split <;> omega
            have m2 : sLa u (sLenTo s t (j + 1)) = u := by unfold sLa; split <;> omega
            have hR2 : RM (jj_ac X 0) o a (sCopyTo s t f u (j + 1)) G := by
              have e7 : sCopyTo s t f u (j + 1) = sPuts (sCopyTo s t f u j) (s 8 (20 * t + j)) (s 9 (20 * t + j) + sLenTo s t j - sLenTo s t j) (s 9 (20 * t + j) + u - sLenTo s t j) := by
                show (if _ then _ else _) = _
                rw [m1, m2]
                exact if_pos (by omega)
              rw [e7]
              exact hR
            have ih1 := ih (j + 1) (some (.int (jI (sLenTo s t j + s 10 (20 * t + j) - s 9 (20 * t + j))))) (some (.int (jI (sLenTo s t j)))) (some (.int (jI (u)))) G (by omega) hR2
            rw [show (((j + 1 : Nat)) : Int) = (j : Int) + 1 from rfl] at ih1
            rw [show 20 * t + ((j : Int) + 1) = 20 * t + (j : Int) + 1 by omega] at ih1
            rw [e2, ← Int.add_sub_assoc] at ih1
            exact ih1
      · skip
        refine jj_iload2 F dX9_copies_51 ?_
        refine jj_goto F (tgt := 57) dX9_copies_52 rfl ?_
        refine jj_istore7 F dX9_copies_57 (hN _ (by decide)) rfl ?_
        refine jj_iload3 F dX9_copies_59 ?_
        refine jj_iload6 F dX9_copies_60 ?_
        refine jj_icmp_ge F (tgt := 69) dX9_copies_62 rfl (by omega) (fun c62 => ?_) (fun c62 => ?_)
        · skip
          refine jj_iload6 F dX9_copies_69 ?_
          refine jj_istore8 F dX9_copies_71 (hN _ (by decide)) rfl ?_
          refine jj_iload7 F dX9_copies_73 ?_
          refine jj_iload8 F dX9_copies_75 ?_
          refine jj_icmp_ge F (tgt := 117) dX9_copies_77 rfl (by omega) (fun c77 => ?_) (fun c77 => ?_)
          · skip
            refine jj_iload6 F dX9_copies_117 ?_
            refine jj_istore4 F dX9_copies_119 (hN _ (by decide)) rfl ?_
            refine jj_iinc5 F dX9_copies_121 (hN _ (by decide)) rfl ?_
            refine jj_goto F (tgt := 9) dX9_copies_124 rfl ?_
            have m1 : sFi f (sLenTo s t j) = f := by unfold sFi; split <;> omega
            have m2 : sLa u (sLenTo s t (j + 1)) = sLenTo s t (j + 1) := by unfold sLa; split <;> omega
            have hR2 : RM (jj_ac X 0) o a (sCopyTo s t f u (j + 1)) G := by
              have e7 : sCopyTo s t f u (j + 1) = sCopyTo s t f u j := by
                show (if _ then _ else _) = _
                rw [m1, m2]
                exact if_neg (by omega)
              rw [e7]; exact hR
            have ih1 := ih (j + 1) (some (.int (jI (sLenTo s t j + s 10 (20 * t + j) - s 9 (20 * t + j))))) (some (.int (jI (f)))) (some (.int (jI (sLenTo s t j + s 10 (20 * t + j) - s 9 (20 * t + j))))) G (by omega) hR2
            rw [show (((j + 1 : Nat)) : Int) = (j : Int) + 1 from rfl] at ih1
            rw [show 20 * t + ((j : Int) + 1) = 20 * t + (j : Int) + 1 by omega] at ih1
            rw [e2, ← Int.add_sub_assoc] at ih1
            exact ih1
          · skip
            refine jj_aload0 F dX9_copies_80 ?_
            refine jj_aload0 F dX9_copies_81 ?_
            refine m9_get F hR fd_X9_28 (by decide) rfl dX9_copies_82 ?_
            refine jj_iload5 F dX9_copies_85 ?_
            refine m9_ald F hR (n := 600) rfl (by omega) (by decide) dX9_copies_87 (fun r_87 => ?_)
            refine jj_eqi (hcc 8 (by omega) j _ (by omega) (by omega)) ?_
            refine jj_aload0 F dX9_copies_88 ?_
            refine m9_get F hR fd_X9_31 (by decide) rfl dX9_copies_89 ?_
            refine jj_iload5 F dX9_copies_92 ?_
            refine m9_ald F hR (n := 600) rfl (by omega) (by decide) dX9_copies_94 (fun r_94 => ?_)
            refine jj_eqi (hcc 9 (by omega) j _ (by omega) (by omega)) ?_
            refine jj_iload7 F dX9_copies_95 ?_
            refine jj_iadd F dX9_copies_97 ?_
            refine jj_iload4 F dX9_copies_98 ?_
            refine jj_isub F dX9_copies_100 ?_
            refine jj_aload0 F dX9_copies_101 ?_
            refine m9_get F hR fd_X9_31 (by decide) rfl dX9_copies_102 ?_
            refine jj_iload5 F dX9_copies_105 ?_
            refine m9_ald F hR (n := 600) rfl (by omega) (by decide) dX9_copies_107 (fun r_107 => ?_)
            refine jj_eqi (hcc 9 (by omega) j _ (by omega) (by omega)) ?_
            refine jj_iload8 F dX9_copies_108 ?_
            refine jj_iadd F dX9_copies_110 ?_
            refine jj_iload4 F dX9_copies_111 ?_
            refine jj_isub F dX9_copies_113 ?_
            refine jj_callVv B (k := 0) (n := 0) (k9_puts F.tr hR (by rw [sCopyTo_n (k := 1) (by decide)]; omega) (by rw [sCopyTo_n (k := 1) (by decide), sCopyTo_T hlt hfu j (by omega)]; have g1 := sSpansTo_in s t f u j; have g2 := sSpansTo_mono s t f u (show j + 1 ≤ (s 7 t).toNat by omega); simp only [sSpansTo] at g2; rw [if_pos (by omega)] at g2; unfold sSpans at hsp; omega) (by have := hR.rng 8 (20 * t + j); rw [hcc 8 (by omega) j _ (by omega) (by omega)] at this; omega) (by omega) (by omega)) lk_X9_121 hR.1 cs_9 rfl rfl ⟨Nat.le_of_ble_eq_true rfl, Nat.le_of_ble_eq_true rfl, Nat.le_of_ble_eq_true rfl, Nat.le_of_ble_eq_true rfl, Nat.le_of_ble_eq_true rfl⟩ ⟨Nat.le_of_ble_eq_true rfl, Nat.le_of_ble_eq_true rfl, Nat.le_of_ble_eq_true rfl, Nat.le_of_ble_eq_true rfl⟩ jj_tx0 dX9_copies_114 (fun G hR => ?_)
            refine jj_iload6 F dX9_copies_117 ?_
            refine jj_istore4 F dX9_copies_119 (hN _ (by decide)) rfl ?_
            refine jj_iinc5 F dX9_copies_121 (hN _ (by decide)) rfl ?_
            refine jj_goto F (tgt := 9) dX9_copies_124 rfl ?_
            have m1 : sFi f (sLenTo s t j) = f := by unfold sFi; split <;> omega
            have m2 : sLa u (sLenTo s t (j + 1)) = sLenTo s t (j + 1) := by unfold sLa; split <;> omega
            rw [show sLenTo s t j + s 10 (20 * t + j) - s 9 (20 * t + j) = sLenTo s t (j + 1) by omega] at hR
            have hR2 : RM (jj_ac X 0) o a (sCopyTo s t f u (j + 1)) G := by
              have e7 : sCopyTo s t f u (j + 1) = sPuts (sCopyTo s t f u j) (s 8 (20 * t + j)) (s 9 (20 * t + j) + f - sLenTo s t j) (s 9 (20 * t + j) + sLenTo s t (j + 1) - sLenTo s t j) := by
                show (if _ then _ else _) = _
                rw [m1, m2]
                exact if_pos (by omega)
              rw [e7]
              exact hR
            have ih1 := ih (j + 1) (some (.int (jI (sLenTo s t j + s 10 (20 * t + j) - s 9 (20 * t + j))))) (some (.int (jI (f)))) (some (.int (jI (sLenTo s t j + s 10 (20 * t + j) - s 9 (20 * t + j))))) G (by omega) hR2
            rw [show (((j + 1 : Nat)) : Int) = (j : Int) + 1 from rfl] at ih1
            rw [show 20 * t + ((j : Int) + 1) = 20 * t + (j : Int) + 1 by omega] at ih1
            rw [e2, ← Int.add_sub_assoc] at ih1
            exact ih1
        · skip
          refine jj_iload3 F dX9_copies_65 ?_
          refine jj_goto F (tgt := 71) dX9_copies_66 rfl ?_
          refine jj_istore8 F dX9_copies_71 (hN _ (by decide)) rfl ?_
          refine jj_iload7 F dX9_copies_73 ?_
          refine jj_iload8 F dX9_copies_75 ?_
          refine jj_icmp_ge F (tgt := 117) dX9_copies_77 rfl (by omega) (fun c77 => ?_) (fun c77 => ?_)
          · skip
            refine jj_iload6 F dX9_copies_117 ?_
            refine jj_istore4 F dX9_copies_119 (hN _ (by decide)) rfl ?_
            refine jj_iinc5 F dX9_copies_121 (hN _ (by decide)) rfl ?_
            refine jj_goto F (tgt := 9) dX9_copies_124 rfl ?_
            have m1 : sFi f (sLenTo s t j) = f := by unfold sFi; split <;> omega
            have m2 : sLa u (sLenTo s t (j + 1)) = u := by unfold sLa; split <;> omega
            have hR2 : RM (jj_ac X 0) o a (sCopyTo s t f u (j + 1)) G := by
              have e7 : sCopyTo s t f u (j + 1) = sCopyTo s t f u j := by
                show (if _ then _ else _) = _
                rw [m1, m2]
                exact if_neg (by omega)
              rw [e7]; exact hR
            have ih1 := ih (j + 1) (some (.int (jI (sLenTo s t j + s 10 (20 * t + j) - s 9 (20 * t + j))))) (some (.int (jI (f)))) (some (.int (jI (u)))) G (by omega) hR2
            rw [show (((j + 1 : Nat)) : Int) = (j : Int) + 1 from rfl] at ih1
            rw [show 20 * t + ((j : Int) + 1) = 20 * t + (j : Int) + 1 by omega] at ih1
            rw [e2, ← Int.add_sub_assoc] at ih1
            exact ih1
          · skip
            refine jj_aload0 F dX9_copies_80 ?_
            refine jj_aload0 F dX9_copies_81 ?_
            refine m9_get F hR fd_X9_28 (by decide) rfl dX9_copies_82 ?_
            refine jj_iload5 F dX9_copies_85 ?_
            refine m9_ald F hR (n := 600) rfl (by omega) (by decide) dX9_copies_87 (fun r_87 => ?_)
            refine jj_eqi (hcc 8 (by omega) j _ (by omega) (by omega)) ?_
            refine jj_aload0 F dX9_copies_88 ?_
            refine m9_get F hR fd_X9_31 (by decide) rfl dX9_copies_89 ?_
            refine jj_iload5 F dX9_copies_92 ?_
            refine m9_ald F hR (n := 600) rfl (by omega) (by decide) dX9_copies_94 (fun r_94 => ?_)
            refine jj_eqi (hcc 9 (by omega) j _ (by omega) (by omega)) ?_
            refine jj_iload7 F dX9_copies_95 ?_
            refine jj_iadd F dX9_copies_97 ?_
            refine jj_iload4 F dX9_copies_98 ?_
            refine jj_isub F dX9_copies_100 ?_
            refine jj_aload0 F dX9_copies_101 ?_
            refine m9_get F hR fd_X9_31 (by decide) rfl dX9_copies_102 ?_
            refine jj_iload5 F dX9_copies_105 ?_
            refine m9_ald F hR (n := 600) rfl (by omega) (by decide) dX9_copies_107 (fun r_107 => ?_)
            refine jj_eqi (hcc 9 (by omega) j _ (by omega) (by omega)) ?_
            refine jj_iload8 F dX9_copies_108 ?_
            refine jj_iadd F dX9_copies_110 ?_
            refine jj_iload4 F dX9_copies_111 ?_
            refine jj_isub F dX9_copies_113 ?_
            refine jj_callVv B (k := 0) (n := 0) (k9_puts F.tr hR (by rw [sCopyTo_n (k := 1) (by decide)]; omega) (by rw [sCopyTo_n (k := 1) (by decide), sCopyTo_T hlt hfu j (by omega)]; have g1 := sSpansTo_in s t f u j; have g2 := sSpansTo_mono s t f u (show j + 1 ≤ (s 7 t).toNat by omega); simp only [sSpansTo] at g2; rw [if_pos (by omega)] at g2; unfold sSpans at hsp; omega) (by have := hR.rng 8 (20 * t + j); rw [hcc 8 (by omega) j _ (by omega) (by omega)] at this; omega) (by omega) (by omega)) lk_X9_121 hR.1 cs_9 rfl rfl ⟨Nat.le_of_ble_eq_true rfl, Nat.le_of_ble_eq_true rfl, Nat.le_of_ble_eq_true rfl, Nat.le_of_ble_eq_true rfl, Nat.le_of_ble_eq_true rfl⟩ ⟨Nat.le_of_ble_eq_true rfl, Nat.le_of_ble_eq_true rfl, Nat.le_of_ble_eq_true rfl, Nat.le_of_ble_eq_true rfl⟩ jj_tx0 dX9_copies_114 (fun G hR => ?_)
            refine jj_iload6 F dX9_copies_117 ?_
            refine jj_istore4 F dX9_copies_119 (hN _ (by decide)) rfl ?_
            refine jj_iinc5 F dX9_copies_121 (hN _ (by decide)) rfl ?_
            refine jj_goto F (tgt := 9) dX9_copies_124 rfl ?_
            have m1 : sFi f (sLenTo s t j) = f := by unfold sFi; split <;> omega
            have m2 : sLa u (sLenTo s t (j + 1)) = u := by unfold sLa; split <;> omega
            have hR2 : RM (jj_ac X 0) o a (sCopyTo s t f u (j + 1)) G := by
              have e7 : sCopyTo s t f u (j + 1) = sPuts (sCopyTo s t f u j) (s 8 (20 * t + j)) (s 9 (20 * t + j) + f - sLenTo s t j) (s 9 (20 * t + j) + u - sLenTo s t j) := by
                show (if _ then _ else _) = _
                rw [m1, m2]
                exact if_pos (by omega)
              rw [e7]
              exact hR
            have ih1 := ih (j + 1) (some (.int (jI (sLenTo s t j + s 10 (20 * t + j) - s 9 (20 * t + j))))) (some (.int (jI (f)))) (some (.int (jI (u)))) G (by omega) hR2
            rw [show (((j + 1 : Nat)) : Int) = (j : Int) + 1 from rfl] at ih1
            rw [show 20 * t + ((j : Int) + 1) = 20 * t + (j : Int) + 1 by omega] at ih1
            rw [e2, ← Int.add_sub_assoc] at ih1
            exact ih1
  have l0 := loop (s 7 t).toNat 0 none none none G (by omega) hR
  rw [show (20 * t + ((0 : Nat) : Int)) = 20 * t by omega] at l0
  exact l0
