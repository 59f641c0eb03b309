abbrev rm_X7_copy : Room := { frames := 2, cells := 0, slots := 0, locals := 43 }
set_option maxRecDepth 100000 in
set_option maxHeartbeats 400000 in
theorem k7_copy {l : Launch} {D : va_G} {ac : Nat → ClassId} (hl : l.stackTraces = false) {ad : Ad} {s e : Sg} {v0 v1 v2 v3 v4 v5 v6 v7 : Value} {o a1 a2 a3 : Nat} {G0 : jj_G} {S : Sg} {t f u : Int}  {G : jj_G} (hH : Has ad (cC ac ad s e) G0) (hI : sI1 s) (ht : 0 ≤ t ∧ t < s 1 0) (hL : GL G0 (tNew (ac 0) S v0 v1 v2 v3 v4 v5 v6 v7 o a1 a2 a3) G) (hS7 : S 7 t = s 7 t) (hS8 : ∀ i, 20 * t ≤ i → i < 20 * t + 20 → S 8 i = s 8 i ∧ S 9 i = s 9 i ∧ S 10 i = s 10 i) (h7 : 0 ≤ S 7 (S 1 0)) (hsp : S 7 (S 1 0) + sSpans S t f u ≤ 20) (hfu : f < u) (hf : 0 ≤ f ∧ f ≤ 50000) (hu : 0 ≤ u ∧ u ≤ 50000) : jj_C l D ac yX7_copy (.code yX7_copy cX7_copy 8 none) rm_X7_copy [.ref o, .ref (ad 16 t), .int (jI f), .int (jI u)] G (jj_pv (fun G' => GL G0 (tNew (ac 0) (sCopy S t f u) v0 v1 v2 v3 v4 v5 v6 v7 o a1 a2 a3) G')) (jj_nx) := by
  refine jj_ofx (own := RX7) (lv0 := [some (.ref o), some (.ref (ad 16 t)), some (.int (jI f)), some (.int (jI u)), none, none, none, none]) hl (by decide +kernel) rfl rfl (Nat.le_of_ble_eq_true rfl) rfl ?_
  intro X B hN hl0 hdg hac hin
  subst hl0; subst hdg; subst hac
  have F := B.F

  have g := hI.tape ht
  have hSL : ∀ j : Nat, (j : Int) ≤ s 7 t → sLenTo S t j = sLenTo s t j := fun j hj => sLenTo_c j (fun i hi => (hS8 _ (by omega) (by omega)).2.1) (fun i hi => (hS8 _ (by omega) (by omega)).2.2)
  have hlt : ∀ j : Nat, (j : Int) < S 7 t → sLenTo S t j < sLenTo S t (j + 1) := by
    intro j hj
    rw [hS7] at hj
    rw [hSL j (by omega), hSL (j + 1) (by omega)]
    exact sLen_lt hI ht j hj
  refine jj_iconst F dX7_copy_0 ?_
  refine jj_istore4 F dX7_copy_1 (hN _ (by decide)) rfl ?_
  refine jj_iconst F dX7_copy_3 ?_
  refine jj_istore5 F dX7_copy_4 (hN _ (by decide)) rfl ?_
  have loop : ∀ (n j : Nat) (x6 x7 : Option Value) (G : jj_G), n + j = (s 7 t).toNat → GL G0 (tNew (jj_ac X 0) (sCopyTo S t f u j) v0 v1 v2 v3 v4 v5 v6 v7 o a1 a2 a3) G → jj_J X G 0 0 6 [some (.ref o), some (.ref (ad 16 t)), some (.int (jI f)), some (.int (jI u)), some (.int (jI (sLenTo s t j))), some (.int (jI j)), x6, x7] [] := by
    intro n
    induction n with
    | zero =>
      intro j x6 x7 G hj hL
      have e1 : (j : Int) = s 7 t := by omega
      refine jj_iload5 F dX7_copy_6 ?_
      refine jj_aload1 F dX7_copy_8 ?_
      refine jj_get F ((hL.has hH).at (k := 16) (i := t) (if_pos (by omega))) cs_7 (by decide) fd_X7_74 rfl dX7_copy_9 ?_
      refine jj_icmp_ge F (tgt := 92) dX7_copy_12 rfl (by omega) (fun c12 => ?_) (fun c12 => by exfalso; omega)
      exact jj_vret B dX7_copy_92 ⟨Nat.le_of_ble_eq_true rfl, Nat.le_of_ble_eq_true rfl⟩ (⟨rfl, by unfold sCopy; rw [hS7, show (s 7 t).toNat = j by omega]; exact hL⟩)
    | succ n ih =>
      intro j x6 x7 G hj hL
      have e1 : (j : Int) < s 7 t := by omega
      have e2 : sLenTo s t (j + 1) = sLenTo s t j + (s 10 (20 * t + j) - s 9 (20 * t + j)) := rfl
      have e3 := sLen_le hI ht j (by omega)
      have e4 := sLen_le hI ht (j + 1) (by omega)
      have e5 := hI.span ht (show 0 ≤ (j : Int) ∧ (j : Int) < s 7 t by omega)
      have e8 := hS8 (20 * t + j) (by omega) (by omega)
      have hC1 : sCopyTo S t f u j 1 0 = S 1 0 := by rw [sCopyTo_n (by decide)]
      have hCT : sCopyTo S t f u j 7 (S 1 0) = S 7 (S 1 0) + sSpansTo S t f u j := sCopyTo_T hlt hfu j (by omega)
      have hs1 := sSpansTo_in S t f u j
      refine jj_iload5 F dX7_copy_6 ?_
      refine jj_aload1 F dX7_copy_8 ?_
      refine jj_get F ((hL.has hH).at (k := 16) (i := t) (if_pos (by omega))) cs_7 (by decide) fd_X7_74 rfl dX7_copy_9 ?_
      refine jj_icmp_ge F (tgt := 92) dX7_copy_12 rfl (by omega) (fun c12 => by exfalso; omega) (fun c12 => ?_)
      refine jj_iload2 F dX7_copy_15 ?_
      refine jj_iload4 F dX7_copy_16 ?_
      refine jj_isub F dX7_copy_18 ?_
      refine jj_iconst F dX7_copy_19 ?_
      refine jj_mmax F ml_X7_54 mmax_s m_i mmax_c ⟨Nat.le_of_ble_eq_true rfl, Nat.le_of_ble_eq_true rfl, Nat.le_of_ble_eq_true rfl, Nat.le_of_ble_eq_true rfl⟩ (by omega) dX7_copy_20 ?_
      refine jj_namei (fun A hA => ?_)
      have hA1 : A = sFi f (sLenTo s t j) - sLenTo s t j := by rw [hA]; unfold sFi; split <;> split <;> omega
      have hA2 : 0 ≤ A ∧ A ≤ 100000 := by rw [hA]; split <;> omega
      clear hA
      refine jj_istore6 F dX7_copy_23 (hN _ (by decide)) rfl ?_
      refine jj_iload3 F dX7_copy_25 ?_
      refine jj_iload4 F dX7_copy_26 ?_
      refine jj_isub F dX7_copy_28 ?_
      refine jj_aload1 F dX7_copy_29 ?_
      refine jj_iload5 F dX7_copy_30 ?_
      refine jj_callVr B (k := 0) (n := 0) (k7_lengthOf F.tr (hL.has hH) ht (by omega)) lk_X7_77 ((hL.has hH).at (k := 16) (i := t) (if_pos (by omega))) cs_7 rfl rfl ⟨Nat.le_of_ble_eq_true rfl, Nat.le_of_ble_eq_true rfl, Nat.le_of_ble_eq_true rfl, Nat.le_of_ble_eq_true rfl, Nat.le_of_ble_eq_true rfl⟩ ⟨Nat.le_of_ble_eq_true rfl, Nat.le_of_ble_eq_true rfl, Nat.le_of_ble_eq_true rfl, Nat.le_of_ble_eq_true rfl⟩ jj_tx0 dX7_copy_32 ?_
      refine jj_mmin F ml_X7_87 mmin_s m_i mmin_c ⟨Nat.le_of_ble_eq_true rfl, Nat.le_of_ble_eq_true rfl, Nat.le_of_ble_eq_true rfl, Nat.le_of_ble_eq_true rfl⟩ (by omega) dX7_copy_35 ?_
      refine jj_namei (fun Y hY => ?_)
      have hY1 : Y = sLa u (sLenTo s t (j + 1)) - sLenTo s t j := by rw [hY, e2]; unfold sLa; split <;> split <;> omega
      have hY2 : -100000 ≤ Y ∧ Y ≤ 100000 := by rw [hY]; split <;> omega
      clear hY
      refine jj_istore7 F dX7_copy_38 (hN _ (by decide)) rfl ?_
      refine jj_iload6 F dX7_copy_40 ?_
      refine jj_iload7 F dX7_copy_42 ?_
      refine jj_icmp_ge F (tgt := 75) dX7_copy_44 rfl (by omega) (fun c44 => ?_) (fun c44 => ?_)
      · skip
        have hnx : sCopyTo S t f u (j + 1) = sCopyTo S t f u j := by
          simp only [sCopyTo]
          rw [if_neg (by rw [hSL j (by omega), hSL (j + 1) (by omega)]; omega)]
        refine jj_iload4 F dX7_copy_75 ?_
        refine jj_aload1 F dX7_copy_77 ?_
        refine jj_iload5 F dX7_copy_78 ?_
        refine jj_callVr B (k := 0) (n := 0) (k7_lengthOf F.tr (hL.has hH) ht (by omega)) lk_X7_77 ((hL.has hH).at (k := 16) (i := t) (if_pos (by omega))) cs_7 rfl rfl ⟨Nat.le_of_ble_eq_true rfl, Nat.le_of_ble_eq_true rfl, Nat.le_of_ble_eq_true rfl, Nat.le_of_ble_eq_true rfl, Nat.le_of_ble_eq_true rfl⟩ ⟨Nat.le_of_ble_eq_true rfl, Nat.le_of_ble_eq_true rfl, Nat.le_of_ble_eq_true rfl, Nat.le_of_ble_eq_true rfl⟩ jj_tx0 dX7_copy_80 ?_
        refine jj_iadd F dX7_copy_83 ?_
        refine jj_istore4 F dX7_copy_84 (hN _ (by decide)) rfl ?_
        refine jj_iinc5 F dX7_copy_86 (hN _ (by decide)) rfl ?_
        refine jj_goto F (tgt := 6) dX7_copy_89 rfl ?_
        rw [← hnx] at hL
        have ih1 := fun x6 x7 => ih (j + 1) x6 x7 G (by omega) hL
        rw [show (((j + 1 : Nat)) : Int) = (j : Int) + 1 from rfl] at ih1
        rw [e2] at ih1
        exact ih1 _ _
      · skip
        have hst : sFi f (sLenTo S t j) < sLa u (sLenTo S t (j + 1)) := by rw [hSL j (by omega), hSL (j + 1) (by omega)]; omega
        have hcnt : sSpansTo S t f u (j + 1) = sSpansTo S t f u j + 1 := by
          have h2 : sLenTo S t j < u ∧ f < sLenTo S t (j + 1) := by unfold sFi sLa at hst; split at hst <;> split at hst <;> omega
          show _ + _ = _
          rw [if_pos h2]
        have hmo := sSpansTo_mono S t f u (n := j + 1) (m := (S 7 t).toNat) (by omega)
        have hnx : sCopyTo S t f u (j + 1) = sPuts (sCopyTo S t f u j) (s 8 (20 * t + j)) (s 9 (20 * t + j) + A) (s 9 (20 * t + j) + Y) := by
          simp only [sCopyTo]
          rw [if_pos hst, hSL j (by omega), hSL (j + 1) (by omega), e8.1, e8.2.1, show s 9 (20 * t + j) + A = s 9 (20 * t + j) + sFi f (sLenTo s t j) - sLenTo s t j by omega, show s 9 (20 * t + j) + Y = s 9 (20 * t + j) + sLa u (sLenTo s t (j + 1)) - sLenTo s t j by omega]
        unfold sSpans at hsp
        refine jj_aload0 F dX7_copy_47 ?_
        refine jj_aload1 F dX7_copy_48 ?_
        refine jj_iload5 F dX7_copy_49 ?_
        refine jj_callVr B (k := 0) (n := 0) (k7_takeOf F.tr (hL.has hH) ht (by omega)) lk_X7_81 ((hL.has hH).at (k := 16) (i := t) (if_pos (by omega))) cs_7 rfl rfl ⟨Nat.le_of_ble_eq_true rfl, Nat.le_of_ble_eq_true rfl, Nat.le_of_ble_eq_true rfl, Nat.le_of_ble_eq_true rfl, Nat.le_of_ble_eq_true rfl⟩ ⟨Nat.le_of_ble_eq_true rfl, Nat.le_of_ble_eq_true rfl, Nat.le_of_ble_eq_true rfl, Nat.le_of_ble_eq_true rfl⟩ jj_tx0 dX7_copy_51 ?_
        refine jj_aload1 F dX7_copy_54 ?_
        refine jj_iload5 F dX7_copy_55 ?_
        refine jj_callVr B (k := 0) (n := 0) (k7_fromOf F.tr (hL.has hH) ht (by omega)) lk_X7_84 ((hL.has hH).at (k := 16) (i := t) (if_pos (by omega))) cs_7 rfl rfl ⟨Nat.le_of_ble_eq_true rfl, Nat.le_of_ble_eq_true rfl, Nat.le_of_ble_eq_true rfl, Nat.le_of_ble_eq_true rfl, Nat.le_of_ble_eq_true rfl⟩ ⟨Nat.le_of_ble_eq_true rfl, Nat.le_of_ble_eq_true rfl, Nat.le_of_ble_eq_true rfl, Nat.le_of_ble_eq_true rfl⟩ jj_tx0 dX7_copy_57 ?_
        refine jj_iload6 F dX7_copy_60 ?_
        refine jj_iadd F dX7_copy_62 ?_
        refine jj_aload1 F dX7_copy_63 ?_
        refine jj_iload5 F dX7_copy_64 ?_
        refine jj_callVr B (k := 0) (n := 0) (k7_fromOf F.tr (hL.has hH) ht (by omega)) lk_X7_84 ((hL.has hH).at (k := 16) (i := t) (if_pos (by omega))) cs_7 rfl rfl ⟨Nat.le_of_ble_eq_true rfl, Nat.le_of_ble_eq_true rfl, Nat.le_of_ble_eq_true rfl, Nat.le_of_ble_eq_true rfl, Nat.le_of_ble_eq_true rfl⟩ ⟨Nat.le_of_ble_eq_true rfl, Nat.le_of_ble_eq_true rfl, Nat.le_of_ble_eq_true rfl, Nat.le_of_ble_eq_true rfl⟩ jj_tx0 dX7_copy_66 ?_
        refine jj_iload7 F dX7_copy_69 ?_
        refine jj_iadd F dX7_copy_71 ?_
        refine jj_callVv B (k := 0) (n := 0) (k7_append F.tr hL (by rw [hC1, hCT]; omega)) lk_X7_50 (hL.at (m := 0) rfl) cs_7 rfl rfl ⟨Nat.le_of_ble_eq_true rfl, Nat.le_of_ble_eq_true rfl, Nat.le_of_ble_eq_true rfl, Nat.le_of_ble_eq_true rfl, Nat.le_of_ble_eq_true rfl⟩ ⟨Nat.le_of_ble_eq_true rfl, Nat.le_of_ble_eq_true rfl, Nat.le_of_ble_eq_true rfl, Nat.le_of_ble_eq_true rfl⟩ jj_tx0 dX7_copy_72 (fun G hL => ?_)
        refine jj_iload4 F dX7_copy_75 ?_
        refine jj_aload1 F dX7_copy_77 ?_
        refine jj_iload5 F dX7_copy_78 ?_
        refine jj_callVr B (k := 0) (n := 0) (k7_lengthOf F.tr (hL.has hH) ht (by omega)) lk_X7_77 ((hL.has hH).at (k := 16) (i := t) (if_pos (by omega))) cs_7 rfl rfl ⟨Nat.le_of_ble_eq_true rfl, Nat.le_of_ble_eq_true rfl, Nat.le_of_ble_eq_true rfl, Nat.le_of_ble_eq_true rfl, Nat.le_of_ble_eq_true rfl⟩ ⟨Nat.le_of_ble_eq_true rfl, Nat.le_of_ble_eq_true rfl, Nat.le_of_ble_eq_true rfl, Nat.le_of_ble_eq_true rfl⟩ jj_tx0 dX7_copy_80 ?_
        refine jj_iadd F dX7_copy_83 ?_
        refine jj_istore4 F dX7_copy_84 (hN _ (by decide)) rfl ?_
        refine jj_iinc5 F dX7_copy_86 (hN _ (by decide)) rfl ?_
        refine jj_goto F (tgt := 6) dX7_copy_89 rfl ?_
        rw [← hnx] at hL
        have ih1 := fun x6 x7 => ih (j + 1) x6 x7 G (by omega) hL
        rw [show (((j + 1 : Nat)) : Int) = (j : Int) + 1 from rfl] at ih1
        rw [e2] at ih1
        exact ih1 _ _
  exact loop (s 7 t).toNat 0 none none G (by omega) hL
abbrev rm_X7_init : Room := { frames := 2, cells := 3, slots := 60, locals := 43 }
set_option maxRecDepth 100000 in
set_option maxHeartbeats 400000 in
theorem k7_init {l : Launch} {D : va_G} {ac : Nat → ClassId} (hl : l.stackTraces = false) {o : Nat} {G0 : jj_G} {S : Sg} {n v q c : Int}  {G : jj_G} (hL : GL G0 [(o, jj_o 7 [.int (jI 0), .int (jI 0), .int (jI 0), .int (jI 0), .null, .int (jI 0), .int (jI 0), .null, .null, .null, .null, .int (jI 0), .int (jI 0), .int (jI 0), .int (jI 0)])] G) (hT7 : S 7 (S 1 0) = 0) (hT8 : ∀ i, 20 * S 1 0 ≤ i → i < 20 * S 1 0 + 20 → S 8 i = 0 ∧ S 9 i = 0 ∧ S 10 i = 0)  : jj_C l D ac yX7_init (.code yX7_init cX7_init 5 none) rm_X7_init [.ref o, .int (jI n), .int (jI v), .int (jI q), .int (jI c)] G (jj_pv (fun G' => ∃ a1 a2 a3, GL G0 (tNew (ac 0) (sPuts S n 0 c) (.int (jI n)) (.int (jI v)) (.int (jI 0)) (.int (jI q)) .null (.int (jI 0)) (.int (jI 0)) .null o a1 a2 a3) G')) (jj_nx) := by
  refine jj_ofx (own := RX7) (lv0 := [some (.ref o), some (.int (jI n)), some (.int (jI v)), some (.int (jI q)), some (.int (jI c))]) hl (by decide +kernel) rfl rfl (Nat.le_of_ble_eq_true rfl) rfl ?_
  intro X B hN hl0 hdg hac hin
  subst hl0; subst hdg; subst hac
  have F := B.F

  have hi := hin rfl
  refine jj_aload0 F dX7_init_0 ?_
  refine jj_objInit F ml_X7_3 oi_i oi_c ⟨Nat.le_of_ble_eq_true rfl, Nat.le_of_ble_eq_true rfl⟩ dX7_init_1 ?_
  refine jj_aload0 F dX7_init_4 ?_
  refine jj_bipush F (by decide) dX7_init_5 ?_
  refine cg_newI F hL (N := 20) (k := 1) (n := 20) aw_int (by decide) ⟨Nat.le_of_ble_eq_true rfl, Nat.le_of_ble_eq_true rfl, Nat.le_of_ble_eq_true rfl, Nat.le_of_ble_eq_true rfl⟩ dX7_init_7 (fun a1 G hL => ?_)
  refine cg_putF F hL (m := 0) rfl cs_7 (by decide) fd_X7_9 hi rfl rfl rfl rfl (Nat.le_of_ble_eq_true rfl) rfl dX7_init_9 (fun G hL => ?_)
  refine jj_aload0 F dX7_init_12 ?_
  refine jj_bipush F (by decide) dX7_init_13 ?_
  refine cg_newI F hL (N := 20) (k := 2) (n := 40) aw_int (by decide) ⟨Nat.le_of_ble_eq_true rfl, Nat.le_of_ble_eq_true rfl, Nat.le_of_ble_eq_true rfl, Nat.le_of_ble_eq_true rfl⟩ dX7_init_15 (fun a2 G hL => ?_)
  refine cg_putF F hL (m := 0) rfl cs_7 (by decide) fd_X7_15 hi rfl rfl rfl rfl (Nat.le_of_ble_eq_true rfl) rfl dX7_init_17 (fun G hL => ?_)
  refine jj_aload0 F dX7_init_20 ?_
  refine jj_bipush F (by decide) dX7_init_21 ?_
  refine cg_newI F hL (N := 20) (k := 3) (n := 60) aw_int (by decide) ⟨Nat.le_of_ble_eq_true rfl, Nat.le_of_ble_eq_true rfl, Nat.le_of_ble_eq_true rfl, Nat.le_of_ble_eq_true rfl⟩ dX7_init_23 (fun a3 G hL => ?_)
  refine cg_putF F hL (m := 0) rfl cs_7 (by decide) fd_X7_18 hi rfl rfl rfl rfl (Nat.le_of_ble_eq_true rfl) rfl dX7_init_25 (fun G hL => ?_)
  refine jj_aload0 F dX7_init_28 ?_
  refine jj_iconst F dX7_init_29 ?_
  refine cg_put F hL (m := 0) rfl cs_7 (by decide) fd_X7_21 rfl rfl rfl (Nat.le_of_ble_eq_true rfl) rfl dX7_init_30 (fun G hL => ?_)
  refine jj_aload0 F dX7_init_33 ?_
  refine jj_iload1 F dX7_init_34 ?_
  refine cg_putF F hL (m := 0) rfl cs_7 (by decide) fd_X7_25 hi rfl rfl rfl rfl (Nat.le_of_ble_eq_true rfl) rfl dX7_init_35 (fun G hL => ?_)
  refine jj_aload0 F dX7_init_38 ?_
  refine jj_iload2 F dX7_init_39 ?_
  refine cg_putF F hL (m := 0) rfl cs_7 (by decide) fd_X7_28 hi rfl rfl rfl rfl (Nat.le_of_ble_eq_true rfl) rfl dX7_init_40 (fun G hL => ?_)
  refine jj_aload0 F dX7_init_43 ?_
  refine jj_iload3 F dX7_init_44 ?_
  refine cg_putF F hL (m := 0) rfl cs_7 (by decide) fd_X7_31 hi rfl rfl rfl rfl (Nat.le_of_ble_eq_true rfl) rfl dX7_init_45 (fun G hL => ?_)
  refine jj_aload0 F dX7_init_48 ?_
  refine jj_iconst F dX7_init_49 ?_
  refine cg_putF F hL (m := 0) rfl cs_7 (by decide) fd_X7_34 hi rfl rfl rfl rfl (Nat.le_of_ble_eq_true rfl) rfl dX7_init_50 (fun G hL => ?_)
  refine jj_aload0 F dX7_init_53 ?_
  refine jj_null F dX7_init_54 ?_
  refine cg_putF F hL (m := 0) rfl cs_7 (by decide) fd_X7_37 hi rfl rfl rfl rfl (Nat.le_of_ble_eq_true rfl) rfl dX7_init_55 (fun G hL => ?_)
  refine jj_aload0 F dX7_init_58 ?_
  refine jj_iconst F dX7_init_59 ?_
  refine cg_putF F hL (m := 0) rfl cs_7 (by decide) fd_X7_41 hi rfl rfl rfl rfl (Nat.le_of_ble_eq_true rfl) rfl dX7_init_60 (fun G hL => ?_)
  refine jj_aload0 F dX7_init_63 ?_
  refine jj_iconst F dX7_init_64 ?_
  refine cg_putF F hL (m := 0) rfl cs_7 (by decide) fd_X7_44 hi rfl rfl rfl rfl (Nat.le_of_ble_eq_true rfl) rfl dX7_init_65 (fun G hL => ?_)
  refine jj_aload0 F dX7_init_68 ?_
  refine jj_null F dX7_init_69 ?_
  refine cg_putF F hL (m := 0) rfl cs_7 (by decide) fd_X7_47 hi rfl rfl rfl rfl (Nat.le_of_ble_eq_true rfl) rfl dX7_init_70 (fun G hL => ?_)
  refine jj_aload0 F dX7_init_73 ?_
  refine jj_iload1 F dX7_init_74 ?_
  refine jj_iconst F dX7_init_75 ?_
  refine jj_iload4 F dX7_init_76 ?_
  have hL := hL.eq (tNew_0 (cI := jj_ac X 0) (S := S) hT7 hT8)
  refine jj_callVv B (k := 3) (n := 60) (k7_append F.tr hL (by omega)) lk_X7_50 (hL.at (m := 0) rfl) cs_7 rfl rfl ⟨Nat.le_of_ble_eq_true rfl, Nat.le_of_ble_eq_true rfl, Nat.le_of_ble_eq_true rfl, Nat.le_of_ble_eq_true rfl, Nat.le_of_ble_eq_true rfl⟩ ⟨Nat.le_of_ble_eq_true rfl, Nat.le_of_ble_eq_true rfl, Nat.le_of_ble_eq_true rfl, Nat.le_of_ble_eq_true rfl⟩ jj_tx0 dX7_init_78 (fun G hL => ?_)
  exact jj_vret B dX7_init_81 ⟨Nat.le_of_ble_eq_true rfl, Nat.le_of_ble_eq_true rfl⟩ (⟨rfl, _, _, _, hL⟩)
abbrev rm_X7_init_ : Room := { frames := 3, cells := 3, slots := 60, locals := 70 }
set_option maxRecDepth 100000 in
set_option maxHeartbeats 400000 in
theorem k7_init_n {l : Launch} {D : va_G} {ac : Nat → ClassId} (hl : l.stackTraces = false) {ad : Ad} {s e : Sg} {o : Nat} {G0 : jj_G} {n v t f u : Int}  {G : jj_G} (hL : GL G0 [(o, jj_o 7 [.int (jI 0), .int (jI 0), .int (jI 0), .int (jI 0), .null, .int (jI 0), .int (jI 0), .null, .null, .null, .null, .int (jI 0), .int (jI 0), .int (jI 0), .int (jI 0)])] G) (hH : Has ad (cC ac ad s e) G0) (hI : sI1 s) (hT : s 1 0 < 30) (ht : 0 ≤ t ∧ t < s 1 0) (hT8 : ∀ i, 20 * s 1 0 ≤ i → i < 20 * s 1 0 + 20 → s 8 i = 0 ∧ s 9 i = 0 ∧ s 10 i = 0) (hfu : 0 ≤ f ∧ f < u ∧ u ≤ sLen s t) (hsp : sSpans s t f u ≤ 20) : jj_C l D ac yX7_init_ (.code yX7_init_ cX7_init_ 8 none) rm_X7_init_ [.ref o, .int (jI n), .int (jI v), .ref (ad 16 t), .int (jI f), .int (jI u), .null] G (jj_pv (fun G' => ∃ a1 a2 a3, GL G0 (tNew (ac 0) (sCopy (sU s 37 0 0) t f u) (.int (jI n)) (.int (jI v)) (.int (jI (s 4 t + 1))) (.int (jI (-1))) (.ref (ad 16 t)) (.int (jI f)) (.int (jI u)) .null o a1 a2 a3) G')) (jj_nx) := by
  refine jj_ofx (own := RX7) (lv0 := [some (.ref o), some (.int (jI n)), some (.int (jI v)), some (.ref (ad 16 t)), some (.int (jI f)), some (.int (jI u)), some (.null), none]) hl (by decide +kernel) rfl rfl (Nat.le_of_ble_eq_true rfl) rfl ?_
  intro X B hN hl0 hdg hac hin
  subst hl0; subst hdg; subst hac
  have F := B.F

  have hi := hin rfl
  have g := hI.tape ht
  have hT7 : s 7 (s 1 0) = 0 := (hI.2.2.2.1 (s 1 0) (by have := hI.2.1; omega) hT).1
  have hln := sLen_in hI ht
  have hsq := sSpansTo_in s t f u (s 7 t).toNat
  refine jj_aload0 F dX7_init__0 ?_
  refine jj_objInit F ml_X7_3 oi_i oi_c ⟨Nat.le_of_ble_eq_true rfl, Nat.le_of_ble_eq_true rfl⟩ dX7_init__1 ?_
  refine jj_aload0 F dX7_init__4 ?_
  refine jj_bipush F (by decide) dX7_init__5 ?_
  refine cg_newI F hL (N := 20) (k := 1) (n := 20) aw_int (by decide) ⟨Nat.le_of_ble_eq_true rfl, Nat.le_of_ble_eq_true rfl, Nat.le_of_ble_eq_true rfl, Nat.le_of_ble_eq_true rfl⟩ dX7_init__7 (fun a1 G hL => ?_)
  refine cg_putF F hL (m := 0) rfl cs_7 (by decide) fd_X7_9 hi rfl rfl rfl rfl (Nat.le_of_ble_eq_true rfl) rfl dX7_init__9 (fun G hL => ?_)
  refine jj_aload0 F dX7_init__12 ?_
  refine jj_bipush F (by decide) dX7_init__13 ?_
  refine cg_newI F hL (N := 20) (k := 2) (n := 40) aw_int (by decide) ⟨Nat.le_of_ble_eq_true rfl, Nat.le_of_ble_eq_true rfl, Nat.le_of_ble_eq_true rfl, Nat.le_of_ble_eq_true rfl⟩ dX7_init__15 (fun a2 G hL => ?_)
  refine cg_putF F hL (m := 0) rfl cs_7 (by decide) fd_X7_15 hi rfl rfl rfl rfl (Nat.le_of_ble_eq_true rfl) rfl dX7_init__17 (fun G hL => ?_)
  refine jj_aload0 F dX7_init__20 ?_
  refine jj_bipush F (by decide) dX7_init__21 ?_
  refine cg_newI F hL (N := 20) (k := 3) (n := 60) aw_int (by decide) ⟨Nat.le_of_ble_eq_true rfl, Nat.le_of_ble_eq_true rfl, Nat.le_of_ble_eq_true rfl, Nat.le_of_ble_eq_true rfl⟩ dX7_init__23 (fun a3 G hL => ?_)
  refine cg_putF F hL (m := 0) rfl cs_7 (by decide) fd_X7_18 hi rfl rfl rfl rfl (Nat.le_of_ble_eq_true rfl) rfl dX7_init__25 (fun G hL => ?_)
  refine jj_aload0 F dX7_init__28 ?_
  refine jj_iconst F dX7_init__29 ?_
  refine cg_put F hL (m := 0) rfl cs_7 (by decide) fd_X7_21 rfl rfl rfl (Nat.le_of_ble_eq_true rfl) rfl dX7_init__30 (fun G hL => ?_)
  refine jj_aload0 F dX7_init__33 ?_
  refine jj_iload1 F dX7_init__34 ?_
  refine cg_putF F hL (m := 0) rfl cs_7 (by decide) fd_X7_25 hi rfl rfl rfl rfl (Nat.le_of_ble_eq_true rfl) rfl dX7_init__35 (fun G hL => ?_)
  refine jj_aload0 F dX7_init__38 ?_
  refine jj_iload2 F dX7_init__39 ?_
  refine cg_putF F hL (m := 0) rfl cs_7 (by decide) fd_X7_28 hi rfl rfl rfl rfl (Nat.le_of_ble_eq_true rfl) rfl dX7_init__40 (fun G hL => ?_)
  refine jj_aload0 F dX7_init__43 ?_
  refine jj_iconst F dX7_init__44 ?_
  refine cg_putF F hL (m := 0) rfl cs_7 (by decide) fd_X7_31 hi rfl rfl rfl rfl (Nat.le_of_ble_eq_true rfl) rfl dX7_init__45 (fun G hL => ?_)
  refine jj_nload6 F dX7_init__48 ?_
  refine jj_ifnonnull F (r := none) (tgt := 57) dX7_init__50 rfl (fun _ h => by cases h) (fun _ => ?_)
  refine jj_iconst F dX7_init__53 ?_
  refine jj_goto F (tgt := 62) dX7_init__54 rfl ?_
  refine jj_istore7 F dX7_init__62 (hN _ (by decide)) rfl ?_
  refine jj_aload0 F dX7_init__64 ?_
  refine jj_aload3 F dX7_init__65 ?_
  refine jj_get F ((hL.has hH).at (k := 16) (i := t) (if_pos (by omega))) cs_7 (by decide) fd_X7_34 rfl dX7_init__66 ?_
  refine jj_iload7 F dX7_init__69 ?_
  refine jj_mmax F ml_X7_54 mmax_s m_i mmax_c ⟨Nat.le_of_ble_eq_true rfl, Nat.le_of_ble_eq_true rfl, Nat.le_of_ble_eq_true rfl, Nat.le_of_ble_eq_true rfl⟩ (by omega) dX7_init__71 ?_
  refine jj_eqi (b := s 4 t) (if_neg (by omega)) ?_
  refine jj_iconst F dX7_init__74 ?_
  refine jj_iadd F dX7_init__75 ?_
  refine cg_putF F hL (m := 0) rfl cs_7 (by decide) fd_X7_34 hi rfl rfl rfl rfl (Nat.le_of_ble_eq_true rfl) rfl dX7_init__76 (fun G hL => ?_)
  refine jj_aload0 F dX7_init__79 ?_
  refine jj_aload3 F dX7_init__80 ?_
  refine cg_putF F hL (m := 0) rfl cs_7 (by decide) fd_X7_37 hi rfl rfl rfl rfl (Nat.le_of_ble_eq_true rfl) rfl dX7_init__81 (fun G hL => ?_)
  refine jj_aload0 F dX7_init__84 ?_
  refine jj_iload4 F dX7_init__85 ?_
  refine cg_putF F hL (m := 0) rfl cs_7 (by decide) fd_X7_41 hi rfl rfl rfl rfl (Nat.le_of_ble_eq_true rfl) rfl dX7_init__87 (fun G hL => ?_)
  refine jj_aload0 F dX7_init__90 ?_
  refine jj_iload5 F dX7_init__91 ?_
  refine cg_putF F hL (m := 0) rfl cs_7 (by decide) fd_X7_44 hi rfl rfl rfl rfl (Nat.le_of_ble_eq_true rfl) rfl dX7_init__93 (fun G hL => ?_)
  refine jj_aload0 F dX7_init__96 ?_
  refine jj_nload6 F dX7_init__97 ?_
  refine cg_putF F hL (m := 0) rfl cs_7 (by decide) fd_X7_47 hi rfl rfl rfl rfl (Nat.le_of_ble_eq_true rfl) rfl dX7_init__99 (fun G hL => ?_)
  refine jj_aload0 F dX7_init__102 ?_
  refine jj_aload3 F dX7_init__103 ?_
  refine jj_iload4 F dX7_init__104 ?_
  refine jj_iload5 F dX7_init__106 ?_
  have hL := hL.eq (tNew_0 (cI := jj_ac X 0) (S := sU s 37 0 0) hT7 hT8)
  refine jj_callVv B (k := 3) (n := 60) (k7_copy F.tr hH hI ht hL rfl (fun i _ _ => ⟨rfl, rfl, rfl⟩) (show 0 ≤ s 7 (s 1 0) by omega) (by rw [sSpans37]; show s 7 (s 1 0) + _ ≤ 20; omega) (by omega) (by omega) (by omega)) lk_X7_60 (hL.at (m := 0) rfl) cs_7 rfl rfl ⟨Nat.le_of_ble_eq_true rfl, Nat.le_of_ble_eq_true rfl, Nat.le_of_ble_eq_true rfl, Nat.le_of_ble_eq_true rfl, Nat.le_of_ble_eq_true rfl⟩ ⟨Nat.le_of_ble_eq_true rfl, Nat.le_of_ble_eq_true rfl, Nat.le_of_ble_eq_true rfl, Nat.le_of_ble_eq_true rfl⟩ jj_tx0 dX7_init__108 (fun G hL => ?_)
  refine jj_nload6 F dX7_init__111 ?_
  refine jj_ifnull F (r := none) (tgt := 128) dX7_init__113 rfl (fun _ => ?_) (fun _ h => by cases h)
  exact jj_vret B dX7_init__128 ⟨Nat.le_of_ble_eq_true rfl, Nat.le_of_ble_eq_true rfl⟩ (⟨rfl, _, _, _, hL⟩)
set_option maxRecDepth 100000 in
set_option maxHeartbeats 400000 in
theorem k7_init_t {l : Launch} {D : va_G} {ac : Nat → ClassId} (hl : l.stackTraces = false) {ad : Ad} {s e : Sg} {o : Nat} {G0 : jj_G} {n v t f u w : Int}  {G : jj_G} (hL : GL G0 [(o, jj_o 7 [.int (jI 0), .int (jI 0), .int (jI 0), .int (jI 0), .null, .int (jI 0), .int (jI 0), .null, .null, .null, .null, .int (jI 0), .int (jI 0), .int (jI 0), .int (jI 0)])] G) (hH : Has ad (cC ac ad s e) G0) (hI : sI1 s) (hT : s 1 0 < 30) (ht : 0 ≤ t ∧ t < s 1 0) (hT8 : ∀ i, 20 * s 1 0 ≤ i → i < 20 * s 1 0 + 20 → s 8 i = 0 ∧ s 9 i = 0 ∧ s 10 i = 0) (hfu : 0 ≤ f ∧ f < u ∧ u ≤ sLen s t) (hw : 0 ≤ w ∧ w < s 1 0) (hsp : sSpans s t f u + s 7 w ≤ 20) : jj_C l D ac yX7_init_ (.code yX7_init_ cX7_init_ 8 none) rm_X7_init_ [.ref o, .int (jI n), .int (jI v), .ref (ad 16 t), .int (jI f), .int (jI u), .ref (ad 16 w)] G (jj_pv (fun G' => ∃ a1 a2 a3, GL G0 (tNew (ac 0) (sCopy (sCopy (sU s 37 0 0) t f u) w 0 (sLen s w)) (.int (jI n)) (.int (jI v)) (.int (jI ((if s 4 t < s 4 w then s 4 w else s 4 t) + 1))) (.int (jI (-1))) (.ref (ad 16 t)) (.int (jI f)) (.int (jI u)) (.ref (ad 16 w)) o a1 a2 a3) G')) (jj_nx) := by
  refine jj_ofx (own := RX7) (lv0 := [some (.ref o), some (.int (jI n)), some (.int (jI v)), some (.ref (ad 16 t)), some (.int (jI f)), some (.int (jI u)), some (.ref (ad 16 w)), none]) hl (by decide +kernel) rfl rfl (Nat.le_of_ble_eq_true rfl) rfl ?_
  intro X B hN hl0 hdg hac hin
  subst hl0; subst hdg; subst hac
  have F := B.F

  have hi := hin rfl
  have g := hI.tape ht
  have hT7 : s 7 (s 1 0) = 0 := (hI.2.2.2.1 (s 1 0) (by have := hI.2.1; omega) hT).1
  have hln := sLen_in hI ht
  have hsq := sSpansTo_in s t f u (s 7 t).toNat
  have gw := hI.tape hw
  have hlw := sLen_in hI hw
  refine jj_aload0 F dX7_init__0 ?_
  refine jj_objInit F ml_X7_3 oi_i oi_c ⟨Nat.le_of_ble_eq_true rfl, Nat.le_of_ble_eq_true rfl⟩ dX7_init__1 ?_
  refine jj_aload0 F dX7_init__4 ?_
  refine jj_bipush F (by decide) dX7_init__5 ?_
  refine cg_newI F hL (N := 20) (k := 1) (n := 20) aw_int (by decide) ⟨Nat.le_of_ble_eq_true rfl, Nat.le_of_ble_eq_true rfl, Nat.le_of_ble_eq_true rfl, Nat.le_of_ble_eq_true rfl⟩ dX7_init__7 (fun a1 G hL => ?_)
  refine cg_putF F hL (m := 0) rfl cs_7 (by decide) fd_X7_9 hi rfl rfl rfl rfl (Nat.le_of_ble_eq_true rfl) rfl dX7_init__9 (fun G hL => ?_)
  refine jj_aload0 F dX7_init__12 ?_
  refine jj_bipush F (by decide) dX7_init__13 ?_
  refine cg_newI F hL (N := 20) (k := 2) (n := 40) aw_int (by decide) ⟨Nat.le_of_ble_eq_true rfl, Nat.le_of_ble_eq_true rfl, Nat.le_of_ble_eq_true rfl, Nat.le_of_ble_eq_true rfl⟩ dX7_init__15 (fun a2 G hL => ?_)
  refine cg_putF F hL (m := 0) rfl cs_7 (by decide) fd_X7_15 hi rfl rfl rfl rfl (Nat.le_of_ble_eq_true rfl) rfl dX7_init__17 (fun G hL => ?_)
  refine jj_aload0 F dX7_init__20 ?_
  refine jj_bipush F (by decide) dX7_init__21 ?_
  refine cg_newI F hL (N := 20) (k := 3) (n := 60) aw_int (by decide) ⟨Nat.le_of_ble_eq_true rfl, Nat.le_of_ble_eq_true rfl, Nat.le_of_ble_eq_true rfl, Nat.le_of_ble_eq_true rfl⟩ dX7_init__23 (fun a3 G hL => ?_)
  refine cg_putF F hL (m := 0) rfl cs_7 (by decide) fd_X7_18 hi rfl rfl rfl rfl (Nat.le_of_ble_eq_true rfl) rfl dX7_init__25 (fun G hL => ?_)
  refine jj_aload0 F dX7_init__28 ?_
  refine jj_iconst F dX7_init__29 ?_
  refine cg_put F hL (m := 0) rfl cs_7 (by decide) fd_X7_21 rfl rfl rfl (Nat.le_of_ble_eq_true rfl) rfl dX7_init__30 (fun G hL => ?_)
  refine jj_aload0 F dX7_init__33 ?_
  refine jj_iload1 F dX7_init__34 ?_
  refine cg_putF F hL (m := 0) rfl cs_7 (by decide) fd_X7_25 hi rfl rfl rfl rfl (Nat.le_of_ble_eq_true rfl) rfl dX7_init__35 (fun G hL => ?_)
  refine jj_aload0 F dX7_init__38 ?_
  refine jj_iload2 F dX7_init__39 ?_
  refine cg_putF F hL (m := 0) rfl cs_7 (by decide) fd_X7_28 hi rfl rfl rfl rfl (Nat.le_of_ble_eq_true rfl) rfl dX7_init__40 (fun G hL => ?_)
  refine jj_aload0 F dX7_init__43 ?_
  refine jj_iconst F dX7_init__44 ?_
  refine cg_putF F hL (m := 0) rfl cs_7 (by decide) fd_X7_31 hi rfl rfl rfl rfl (Nat.le_of_ble_eq_true rfl) rfl dX7_init__45 (fun G hL => ?_)
  refine jj_aload6 F dX7_init__48 ?_
  refine jj_ifnonnull F (r := some (ad 16 w)) (tgt := 57) dX7_init__50 rfl (fun _ _ => ?_) (fun h => by cases h)
  refine jj_aload6 F dX7_init__57 ?_
  refine jj_get F ((hL.has hH).at (k := 16) (i := w) (if_pos (by omega))) cs_7 (by decide) fd_X7_34 rfl dX7_init__59 ?_
  refine jj_istore7 F dX7_init__62 (hN _ (by decide)) rfl ?_
  refine jj_aload0 F dX7_init__64 ?_
  refine jj_aload3 F dX7_init__65 ?_
  refine jj_get F ((hL.has hH).at (k := 16) (i := t) (if_pos (by omega))) cs_7 (by decide) fd_X7_34 rfl dX7_init__66 ?_
  refine jj_iload7 F dX7_init__69 ?_
  refine jj_mmax F ml_X7_54 mmax_s m_i mmax_c ⟨Nat.le_of_ble_eq_true rfl, Nat.le_of_ble_eq_true rfl, Nat.le_of_ble_eq_true rfl, Nat.le_of_ble_eq_true rfl⟩ (by omega) dX7_init__71 ?_
  refine jj_eqi (b := (if s 4 t < s 4 w then s 4 w else s 4 t)) rfl ?_
  refine jj_iconst F dX7_init__74 ?_
  refine jj_iadd F dX7_init__75 ?_
  refine cg_putF F hL (m := 0) rfl cs_7 (by decide) fd_X7_34 hi rfl rfl rfl rfl (Nat.le_of_ble_eq_true rfl) rfl dX7_init__76 (fun G hL => ?_)
  refine jj_aload0 F dX7_init__79 ?_
  refine jj_aload3 F dX7_init__80 ?_
  refine cg_putF F hL (m := 0) rfl cs_7 (by decide) fd_X7_37 hi rfl rfl rfl rfl (Nat.le_of_ble_eq_true rfl) rfl dX7_init__81 (fun G hL => ?_)
  refine jj_aload0 F dX7_init__84 ?_
  refine jj_iload4 F dX7_init__85 ?_
  refine cg_putF F hL (m := 0) rfl cs_7 (by decide) fd_X7_41 hi rfl rfl rfl rfl (Nat.le_of_ble_eq_true rfl) rfl dX7_init__87 (fun G hL => ?_)
  refine jj_aload0 F dX7_init__90 ?_
  refine jj_iload5 F dX7_init__91 ?_
  refine cg_putF F hL (m := 0) rfl cs_7 (by decide) fd_X7_44 hi rfl rfl rfl rfl (Nat.le_of_ble_eq_true rfl) rfl dX7_init__93 (fun G hL => ?_)
  refine jj_aload0 F dX7_init__96 ?_
  refine jj_aload6 F dX7_init__97 ?_
  refine cg_putF F hL (m := 0) rfl cs_7 (by decide) fd_X7_47 hi rfl rfl rfl rfl (Nat.le_of_ble_eq_true rfl) rfl dX7_init__99 (fun G hL => ?_)
  refine jj_aload0 F dX7_init__102 ?_
  refine jj_aload3 F dX7_init__103 ?_
  refine jj_iload4 F dX7_init__104 ?_
  refine jj_iload5 F dX7_init__106 ?_
  have hL := hL.eq (tNew_0 (cI := jj_ac X 0) (S := sU s 37 0 0) hT7 hT8)
  refine jj_callVv B (k := 3) (n := 60) (k7_copy F.tr hH hI ht hL rfl (fun i _ _ => ⟨rfl, rfl, rfl⟩) (show 0 ≤ s 7 (s 1 0) by omega) (by rw [sSpans37]; show s 7 (s 1 0) + _ ≤ 20; omega) (by omega) (by omega) (by omega)) lk_X7_60 (hL.at (m := 0) rfl) cs_7 rfl rfl ⟨Nat.le_of_ble_eq_true rfl, Nat.le_of_ble_eq_true rfl, Nat.le_of_ble_eq_true rfl, Nat.le_of_ble_eq_true rfl, Nat.le_of_ble_eq_true rfl⟩ ⟨Nat.le_of_ble_eq_true rfl, Nat.le_of_ble_eq_true rfl, Nat.le_of_ble_eq_true rfl, Nat.le_of_ble_eq_true rfl⟩ jj_tx0 dX7_init__108 (fun G hL => ?_)
  refine jj_aload6 F dX7_init__111 ?_
  refine jj_ifnull F (r := some (ad 16 w)) (tgt := 128) dX7_init__113 rfl (fun h => by cases h) (fun _ _ => ?_)
  refine jj_aload0 F dX7_init__116 ?_
  refine jj_aload6 F dX7_init__117 ?_
  refine jj_iconst F dX7_init__119 ?_
  refine jj_aload6 F dX7_init__120 ?_
  refine jj_get F ((hL.has hH).at (k := 16) (i := w) (if_pos (by omega))) cs_7 (by decide) fd_X7_64 rfl dX7_init__122 ?_
  have hw7 : sCopy (sU s 37 0 0) t f u 7 w = s 7 w := sCopy_7 (by omega)
  have h10 : sCopy (sU s 37 0 0) t f u 1 0 = s 1 0 := by rw [sCopy_n (by decide)]; rfl
  have h7T : sCopy (sU s 37 0 0) t f u 7 (s 1 0) = sSpans s t f u := by rw [sCopy_T hI ht (by omega), hT7]; omega
  have hs2 := sSpansTo_in (sCopy (sU s 37 0 0) t f u) w 0 (sLen s w) (sCopy (sU s 37 0 0) t f u 7 w).toNat
  have hcc : ∀ k, (k = 8 ∨ k = 9 ∨ k = 10) → ∀ i, i < 20 * s 1 0 → sCopy (sU s 37 0 0) t f u k i = s k i := fun k hk i hi => sCopy_c hI hT ht (by omega) hk hi
  refine jj_callVv B (k := 3) (n := 60) (k7_copy F.tr hH hI hw hL hw7 (fun i h1 h2 => ⟨hcc 8 (by omega) i (by omega), hcc 9 (by omega) i (by omega), hcc 10 (by omega) i (by omega)⟩) (by rw [h10, h7T]; unfold sSpans; omega) (by rw [h10, h7T]; show sSpans s t f u + sSpansTo _ w 0 (sLen s w) (sCopy (sU s 37 0 0) t f u 7 w).toNat ≤ 20; omega) (by omega) (by omega) (by omega)) lk_X7_60 (hL.at (m := 0) rfl) cs_7 rfl rfl ⟨Nat.le_of_ble_eq_true rfl, Nat.le_of_ble_eq_true rfl, Nat.le_of_ble_eq_true rfl, Nat.le_of_ble_eq_true rfl, Nat.le_of_ble_eq_true rfl⟩ ⟨Nat.le_of_ble_eq_true rfl, Nat.le_of_ble_eq_true rfl, Nat.le_of_ble_eq_true rfl, Nat.le_of_ble_eq_true rfl⟩ jj_tx0 dX7_init__125 (fun G hL => ?_)
  exact jj_vret B dX7_init__128 ⟨Nat.le_of_ble_eq_true rfl, Nat.le_of_ble_eq_true rfl⟩ (⟨rfl, _, _, _, hL⟩)
