abbrev rm_X8_takesByMaking : Room := { frames := 1, cells := 0, slots := 0, locals := 21 }
set_option maxRecDepth 100000 in
set_option maxHeartbeats 400000 in
theorem k8_takesByMaking {l : Launch} {D : va_G} {ac : Nat → ClassId} (hl : l.stackTraces = false) {ad : Ad} {s e : Sg} {t : Int}  {G : jj_G} (hH : Has ad (cC ac ad s e) G) (hI : sI1 s) (ht : 0 ≤ t ∧ t < s 1 0) (hS : cStr s e)  : jj_C l D ac yX8_takesByMaking (.code yX8_takesByMaking cX8_takesByMaking 8 (some .int)) rm_X8_takesByMaking [.ref (ad 16 t)] G (jj_ri (sTakes s t) G) (jj_nx) := by
  refine jj_ofx (own := RX8) (lv0 := [some (.ref (ad 16 t)), none, none, none, none, none, none, none]) hl (by decide +kernel) rfl rfl (Nat.le_of_ble_eq_true rfl) rfl ?_
  intro X B hN hl0 hdg hac hin
  subst hl0; subst hdg; subst hac
  have F := B.F

  have hln := sLen_in hI ht
  have i1 := hI.2.1
  refine jj_iconst F dX8_takesByMaking_0 ?_
  refine jj_istore1 F dX8_takesByMaking_1 (hN _ (by decide)) rfl ?_
  refine jj_iconst F dX8_takesByMaking_2 ?_
  refine jj_istore2 F dX8_takesByMaking_3 (hN _ (by decide)) rfl ?_
  have loop : ∀ (n : Nat) (x K : Int) (x3 x4 x5 x6 x7 : Option Value), sLen s t - x ≤ n → (0 ≤ x ∧ x ≤ sLen s t) → TkSet s t x K → jj_J X G 0 0 4 [some (.ref (ad 16 t)), some (.int (jI K)), some (.int (jI x)), x3, x4, x5, x6, x7] [] := by
    intro n
    induction n with
    | zero =>
      intro x K x3 x4 x5 x6 x7 hn hx hK
      have e1 : x = sLen s t := by omega
      subst e1
      refine jj_iload2 F dX8_takesByMaking_4 ?_
      refine jj_aload0 F dX8_takesByMaking_5 ?_
      refine jj_get F (hH.at (k := 16) (i := t) (if_pos (by omega))) cs_7 (by decide) fd_X8_77 rfl dX8_takesByMaking_6 ?_
      refine jj_icmp_ge F (tgt := 135) dX8_takesByMaking_9 rfl (by omega) (fun c9 => ?_) (fun c9 => by exfalso; omega)
      refine jj_iload1 F dX8_takesByMaking_135 ?_
      refine jj_eqx (hK.done hI ht) ?_
      exact jj_iretr B dX8_takesByMaking_136 ⟨Nat.le_of_ble_eq_true rfl, Nat.le_of_ble_eq_true rfl⟩ rfl
    | succ n ih =>
      intro x K x3 x4 x5 x6 x7 hn hx hK
      by_cases hlt : x = sLen s t
      · subst hlt
        refine jj_iload2 F dX8_takesByMaking_4 ?_
        refine jj_aload0 F dX8_takesByMaking_5 ?_
        refine jj_get F (hH.at (k := 16) (i := t) (if_pos (by omega))) cs_7 (by decide) fd_X8_77 rfl dX8_takesByMaking_6 ?_
        refine jj_icmp_ge F (tgt := 135) dX8_takesByMaking_9 rfl (by omega) (fun c9 => ?_) (fun c9 => by exfalso; omega)
        refine jj_iload1 F dX8_takesByMaking_135 ?_
        refine jj_eqx (hK.done hI ht) ?_
        exact jj_iretr B dX8_takesByMaking_136 ⟨Nat.le_of_ble_eq_true rfl, Nat.le_of_ble_eq_true rfl⟩ rfl
      · skip
        refine jj_iload2 F dX8_takesByMaking_4 ?_
        refine jj_aload0 F dX8_takesByMaking_5 ?_
        refine jj_get F (hH.at (k := 16) (i := t) (if_pos (by omega))) cs_7 (by decide) fd_X8_77 rfl dX8_takesByMaking_6 ?_
        refine jj_icmp_ge F (tgt := 135) dX8_takesByMaking_9 rfl (by omega) (fun c9 => by exfalso; omega) (fun c9 => ?_)
        refine jj_aload0 F dX8_takesByMaking_12 ?_
        refine jj_astore3 F dX8_takesByMaking_13 (hN _ (by decide)) rfl ?_
        refine jj_iload2 F dX8_takesByMaking_14 ?_
        refine jj_istore4 F dX8_takesByMaking_15 (hN _ (by decide)) rfl ?_
        refine jj_aload0 F dX8_takesByMaking_17 ?_
        refine jj_get F (hH.at (k := 16) (i := t) (if_pos (by omega))) cs_7 (by decide) fd_X8_77 rfl dX8_takesByMaking_18 ?_
        refine jj_iload2 F dX8_takesByMaking_21 ?_
        refine jj_isub F dX8_takesByMaking_22 ?_
        refine jj_istore5 F dX8_takesByMaking_23 (hN _ (by decide)) rfl ?_
        refine jj_iconst F dX8_takesByMaking_25 ?_
        refine jj_istore6 F dX8_takesByMaking_26 (hN _ (by decide)) rfl ?_
        have loop2 : ∀ (m i : Nat) (τ y a : Int) (x7 : Option Value), m + i = 30 → (0 ≤ τ ∧ τ + i ≤ t) → (0 ≤ y ∧ y ≤ 100000) → (1 ≤ a ∧ x + a ≤ sLen s t) → (∀ z b, 0 ≤ z → z < a → TkAt s t (x + z) b → TkAt s τ (y + z) b) → jj_J X G 0 0 28 [some (.ref (ad 16 t)), some (.int (jI K)), some (.int (jI x)), some (.ref (ad 16 τ)), some (.int (jI y)), some (.int (jI a)), some (.int (jI i)), x7] [] := by
          intro m
          induction m with
          | zero =>
            intro i τ y a x7 hi hτ hy ha hz
            exfalso; omega
          | succ m ih2 =>
            intro i τ y a x7 hi hτ hy ha hz
            have hst := hS τ hτ.1 (by omega)
            have hti : 0 ≤ τ ∧ τ < s 1 0 := by omega
            obtain ⟨b0, hb0⟩ := TkAt.some (s := s) (t := t) (x := x) (by omega) (s 7 t).toNat (by have := hI.tape ht; omega) (by unfold sLen at ha; omega)
            have hc0 := hz 0 b0 (by omega) (by omega) (by rw [Int.add_zero]; exact hb0)
            rw [Int.add_zero] at hc0
            refine jj_iload6 F dX8_takesByMaking_28 ?_
            refine jj_bipush F (by decide) dX8_takesByMaking_30 ?_
            refine jj_icmp_ge F (tgt := 114) dX8_takesByMaking_32 rfl (by omega) (fun c32 => by exfalso; omega) (fun c32 => ?_)
            refine jj_aload3 F dX8_takesByMaking_35 ?_
            refine jj_get F (hH.at (k := 16) (i := τ) (if_pos hti)) cs_7 (by decide) fd_X8_139 rfl dX8_takesByMaking_36 ?_
            refine jj_ifnull F (tgt := 114) dX8_takesByMaking_39 rfl (fun c39 => ?_) (fun a39 c39 => ?_)
            · skip
              have hsn : e 2 τ = -1 := Classical.byContradiction fun h => by rw [oRef_at h] at c39; cases c39
              have hs2 := hst.2.1 hsn
              refine jj_iload1 F dX8_takesByMaking_114 ?_
              refine jj_iconst F dX8_takesByMaking_115 ?_
              refine jj_aload3 F dX8_takesByMaking_116 ?_
              refine jj_get F (hH.at (k := 16) (i := τ) (if_pos hti)) cs_7 (by decide) fd_X8_402 rfl dX8_takesByMaking_117 ?_
              refine jj_ishl F dX8_takesByMaking_120 ?_
              refine jj_topi (jI_of _) ?_
              refine jj_ior F dX8_takesByMaking_121 ?_
              refine jj_topi (jI_of _) ?_
              refine jj_istore1 F dX8_takesByMaking_122 (hN _ (by decide)) rfl ?_
              refine jj_iload2 F dX8_takesByMaking_123 ?_
              refine jj_iconst F dX8_takesByMaking_124 ?_
              refine jj_iload5 F dX8_takesByMaking_125 ?_
              refine jj_mmax F ml_X8_363 mmax_s m_i mmax_c ⟨Nat.le_of_ble_eq_true rfl, Nat.le_of_ble_eq_true rfl, Nat.le_of_ble_eq_true rfl, Nat.le_of_ble_eq_true rfl⟩ (by omega) dX8_takesByMaking_127 ?_
              refine jj_eqi (b := a) (by split <;> omega) ?_
              refine jj_iadd F dX8_takesByMaking_130 ?_
              refine jj_istore2 F dX8_takesByMaking_131 (hN _ (by decide)) rfl ?_
              refine jj_goto F (tgt := 4) dX8_takesByMaking_132 rfl ?_
              have hone : ∀ q b, TkAt s τ q b → b = τ := by
                rintro q b ⟨j, j1, -, -, j2⟩
                have j0 : j = 0 := by omega
                subst j0
                rw [show (20 * τ + ((0 : Nat) : Int)) = 20 * τ by omega, hs2.2.1] at j2
                exact j2.symm
              have hnx : TkSet s t (x + a) (sOr K (sBit τ)) := hK.step hx.1 ha.1 (by omega) (fun z b h1 h2 h3 => hone _ b (hz z b h1 h2 h3)) (by have := hone _ b0 hc0; rw [← this]; exact hb0)
              exact ih (x + a) (sOr K (sBit τ)) _ _ _ _ _ (by omega) (by omega) hnx
            · skip
              have hsn : ¬ e 2 τ = -1 := fun h => by rw [oRef_no h] at c39; cases c39
              have hs3 := hst.2.2 hsn
              have hs4 := hs3.2.2.2
              refine jj_aload3 F dX8_takesByMaking_42 ?_
              refine jj_get F (hH.at (k := 16) (i := τ) (if_pos hti)) cs_7 (by decide) fd_X8_390 rfl dX8_takesByMaking_43 ?_
              refine jj_aload3 F dX8_takesByMaking_46 ?_
              refine jj_get F (hH.at (k := 16) (i := τ) (if_pos hti)) cs_7 (by decide) fd_X8_393 rfl dX8_takesByMaking_47 ?_
              refine jj_isub F dX8_takesByMaking_50 ?_
              refine jj_istore7 F dX8_takesByMaking_51 (hN _ (by decide)) rfl ?_
              refine jj_iload4 F dX8_takesByMaking_53 ?_
              refine jj_iload7 F dX8_takesByMaking_55 ?_
              refine jj_icmp_ge F (tgt := 89) dX8_takesByMaking_57 rfl (by omega) (fun c57 => ?_) (fun c57 => ?_)
              · skip
                refine jj_aload3 F dX8_takesByMaking_89 ?_
                refine jj_get F (hH.at (k := 16) (i := τ) (if_pos hti)) cs_7 (by decide) fd_X8_399 rfl dX8_takesByMaking_90 ?_
                refine jj_ifnull F (tgt := 108) dX8_takesByMaking_93 rfl (fun c93 => ?_) (fun a93 c93 => ?_)
                · skip
                  have htn : e 5 τ = -1 := Classical.byContradiction fun h => by rw [oRef_at h] at c93; cases c93
                  exact absurd htn ((hs4 y b0 hc0).2 (by omega)).1
                · skip
                  have htn : ¬ e 5 τ = -1 := fun h => by rw [oRef_no h] at c93; cases c93
                  refine jj_iload4 F dX8_takesByMaking_96 ?_
                  refine jj_iload7 F dX8_takesByMaking_98 ?_
                  refine jj_isub F dX8_takesByMaking_100 ?_
                  refine jj_istore4 F dX8_takesByMaking_101 (hN _ (by decide)) rfl ?_
                  refine jj_aload3 F dX8_takesByMaking_103 ?_
                  refine jj_get F (hH.at (k := 16) (i := τ) (if_pos hti)) cs_7 (by decide) fd_X8_399 rfl dX8_takesByMaking_104 ?_
                  refine jj_qv (oRef_at htn) ?_
                  refine jj_astore3 F dX8_takesByMaking_107 (hN _ (by decide)) rfl ?_
                  refine jj_iinc6 F dX8_takesByMaking_108 (hN _ (by decide)) rfl ?_
                  refine jj_goto F (tgt := 28) dX8_takesByMaking_111 rfl ?_
                  have ih1 := fun x7 => ih2 (i + 1) (e 5 τ) (y - (e 4 τ - e 3 τ)) a x7 (by omega) (by omega) (by omega) (by omega) (fun z b h1 h2 h3 => by
                    have g1 := hz z b h1 (by omega) h3
                    have g2 := ((hs4 (y + z) b g1).2 (by omega)).2
                    rw [show y - (e 4 τ - e 3 τ) + z = y + z - (e 4 τ - e 3 τ) by omega]; exact g2)
                  rw [show (((i + 1 : Nat)) : Int) = (i : Int) + 1 from rfl] at ih1
                  exact ih1 _
              · skip
                refine jj_iload5 F dX8_takesByMaking_60 ?_
                refine jj_iload7 F dX8_takesByMaking_62 ?_
                refine jj_iload4 F dX8_takesByMaking_64 ?_
                refine jj_isub F dX8_takesByMaking_66 ?_
                refine jj_mmin F ml_X8_396 mmin_s m_i mmin_c ⟨Nat.le_of_ble_eq_true rfl, Nat.le_of_ble_eq_true rfl, Nat.le_of_ble_eq_true rfl, Nat.le_of_ble_eq_true rfl⟩ (by omega) dX8_takesByMaking_67 ?_
                refine jj_namei (fun a2 ha2 => ?_)
                have ha3 : 1 ≤ a2 ∧ a2 ≤ a ∧ a2 ≤ e 4 τ - e 3 τ - y := by rw [ha2]; split <;> omega
                clear ha2
                refine jj_istore5 F dX8_takesByMaking_70 (hN _ (by decide)) rfl ?_
                refine jj_iload4 F dX8_takesByMaking_72 ?_
                refine jj_aload3 F dX8_takesByMaking_74 ?_
                refine jj_get F (hH.at (k := 16) (i := τ) (if_pos hti)) cs_7 (by decide) fd_X8_393 rfl dX8_takesByMaking_75 ?_
                refine jj_iadd F dX8_takesByMaking_78 ?_
                refine jj_istore4 F dX8_takesByMaking_79 (hN _ (by decide)) rfl ?_
                refine jj_aload3 F dX8_takesByMaking_81 ?_
                refine jj_get F (hH.at (k := 16) (i := τ) (if_pos hti)) cs_7 (by decide) fd_X8_139 rfl dX8_takesByMaking_82 ?_
                refine jj_qv (oRef_at hsn) ?_
                refine jj_astore3 F dX8_takesByMaking_85 (hN _ (by decide)) rfl ?_
                refine jj_goto F (tgt := 108) dX8_takesByMaking_86 rfl ?_
                refine jj_iinc6 F dX8_takesByMaking_108 (hN _ (by decide)) rfl ?_
                refine jj_goto F (tgt := 28) dX8_takesByMaking_111 rfl ?_
                have ih1 := fun x7 => ih2 (i + 1) (e 2 τ) (y + e 3 τ) a2 x7 (by omega) (by omega) (by omega) (by omega) (fun z b h1 h2 h3 => by
                  have g1 := hz z b h1 (by omega) h3
                  have g2 := (hs4 (y + z) b g1).1 (by omega)
                  rw [show y + e 3 τ + z = y + z + e 3 τ by omega]; exact g2)
                rw [show (((i + 1 : Nat)) : Int) = (i : Int) + 1 from rfl] at ih1
                exact ih1 _
        exact loop2 30 0 t x (sLen s t - x) _ (by omega) (by omega) (by omega) (by omega) (fun z b _ _ h => h)
  exact loop (sLen s t).toNat 0 0 none none none none none (by omega) (by omega) TkSet.zero
abbrev rm_X8_takesAnew : Room := { frames := 7, cells := 2, slots := 12, locals := 112 }
set_option maxRecDepth 100000 in
set_option maxHeartbeats 400000 in
theorem x8_takesAnew {l : Launch} {D : va_G} {ac : Nat → ClassId} (hl : l.stackTraces = false) {ad : Ad} {s e : Sg} {t : Int}  {G : jj_G} (hR : Rep ad (cC ac ad s e) G) {c : Int} (hI : sInv s c) (ht : jR t) (hS : cStr s e) : jj_C l D ac yX8_takesAnew (.code yX8_takesAnew cX8_takesAnew 2 (some .int)) rm_X8_takesAnew [.ref (ad 0 0), .int (jI t)] G (jj_pi (fun r G' => t_is s t = 0 ∧ r = r_takes s t ∧ ∃ ad', ad' 0 0 = ad 0 0 ∧ Rep ad' (cC ac ad' (n_takes s t) (e)) G')) (jp1 (t_is s t) eB) := by
  refine jj_ofx (own := RX8) (lv0 := [some (.ref (ad 0 0)), some (.int (jI t))]) hl (by decide +kernel) rfl rfl (Nat.le_of_ble_eq_true rfl) rfl ?_
  intro X B hN hl0 hdg hac hin
  subst hl0; subst hdg; subst hac
  have F := B.F

  obtain ⟨hI1, hI2, hI3, hI4, hI5, hI6, hI7, hc⟩ := hI
  have i0 := hI1.1
  have i1 := hI1.2.1
  have i3 := hI3.1
  refine jj_aload0 F dX8_takesAnew_0 ?_
  refine jj_iload1 F dX8_takesAnew_1 ?_
  refine jj_callVq B (k := 1) (n := 6) (k8_tapeAt F.tr hR.1 (by omega) i1.2) lk_X8_73 (hR.at (k := 0) (i := 0) cc_0) cs_8 rfl rfl ⟨Nat.le_of_ble_eq_true rfl, Nat.le_of_ble_eq_true rfl, Nat.le_of_ble_eq_true rfl, Nat.le_of_ble_eq_true rfl, Nat.le_of_ble_eq_true rfl⟩ ⟨Nat.le_of_ble_eq_true rfl, Nat.le_of_ble_eq_true rfl, Nat.le_of_ble_eq_true rfl, Nat.le_of_ble_eq_true rfl⟩ (fun E h => ⟨rfl, by obtain ⟨rfl, hh⟩ := h; exact ⟨(by unfold t_is; (try rw [← hk]); (repeat (first | rw [if_pos (by omega)] | rw [if_neg (by omega)]))), rfl⟩⟩) dX8_takesAnew_2 (fun r G h => ?_)
  obtain ⟨rfl, hrg, rfl⟩ := h
  refine jj_callSr B (k := 1) (n := 6) (k8_takesByMaking F.tr hR.1 hI1 (by omega) hS) lk_X8_135 rfl ⟨Nat.le_of_ble_eq_true rfl, Nat.le_of_ble_eq_true rfl, Nat.le_of_ble_eq_true rfl, Nat.le_of_ble_eq_true rfl, Nat.le_of_ble_eq_true rfl⟩ ⟨Nat.le_of_ble_eq_true rfl, Nat.le_of_ble_eq_true rfl, Nat.le_of_ble_eq_true rfl, Nat.le_of_ble_eq_true rfl⟩ jj_tx0 dX8_takesAnew_5 ?_
  have htt : t_is s t = 0 := by unfold t_is; (try rw [← hk]); (repeat (first | rw [if_pos (by omega)] | rw [if_neg (by omega)]))
  exact jj_iret B dX8_takesAnew_8 ⟨Nat.le_of_ble_eq_true rfl, Nat.le_of_ble_eq_true rfl⟩ (⟨_, rfl, htt, (by unfold r_takes; refine Eq.trans ?_ (if_pos htt).symm; rfl), ad, rfl, (by unfold n_takes; first | (rw [if_pos htt]; exact hR) | exact hR | exact hR.c37)⟩)
