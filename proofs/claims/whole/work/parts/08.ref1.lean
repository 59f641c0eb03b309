abbrev rm_X9_isIn : Room := { frames := 0, cells := 0, slots := 0, locals := 0 }
set_option maxRecDepth 100000 in
set_option maxHeartbeats 4000000 in
theorem k9_isIn {l : Launch} {D : va_G} {ac : Nat → ClassId} (hl : l.stackTraces = false) {v q z : Int} {G : jj_G} (hv : jR v) (hq : jR q) (hz : jR z) : jj_C l D ac yX9_isIn (.code yX9_isIn cX9_isIn 3 (some .boolean)) rm_X9_isIn [.int (jI v), .int (jI q), .int (jI z)] G (jj_ri (sIn v q z) G) (jj_nx) := by
  refine jj_ofx (own := RX9) (lv0 := [some (.int (jI v)), some (.int (jI q)), some (.int (jI z))]) hl (by decide +kernel) rfl rfl (Nat.le_of_ble_eq_true rfl) rfl ?_
  intro X B hN hl0 hdg hac hin
  subst hl0; subst hdg; subst hac
  have F := B.F

  refine jj_iload0 F dX9_isIn_0 ?_
  refine jj_iload1 F dX9_isIn_1 ?_
  refine jj_icmp_lt F (tgt := 14) dX9_isIn_2 rfl (by omega) (fun c2 => ?_) (fun c2 => ?_)
  · skip
    refine jj_iconst F dX9_isIn_14 ?_
    exact jj_zretr B dX9_isIn_15 ⟨Nat.le_of_ble_eq_true rfl, Nat.le_of_ble_eq_true rfl⟩ (by omega) (by unfold sIn; first | rw [if_pos (by omega)] | rw [if_neg (by omega)])
  · skip
    refine jj_iload0 F dX9_isIn_5 ?_
    refine jj_iload2 F dX9_isIn_6 ?_
    refine jj_icmp_gt F (tgt := 14) dX9_isIn_7 rfl (by omega) (fun c7 => ?_) (fun c7 => ?_)
    · skip
      refine jj_iconst F dX9_isIn_14 ?_
      exact jj_zretr B dX9_isIn_15 ⟨Nat.le_of_ble_eq_true rfl, Nat.le_of_ble_eq_true rfl⟩ (by omega) (by unfold sIn; first | rw [if_pos (by omega)] | rw [if_neg (by omega)])
    · skip
      refine jj_iconst F dX9_isIn_10 ?_
      refine jj_goto F (tgt := 15) dX9_isIn_11 rfl ?_
      exact jj_zretr B dX9_isIn_15 ⟨Nat.le_of_ble_eq_true rfl, Nat.le_of_ble_eq_true rfl⟩ (by omega) (by unfold sIn; first | rw [if_pos (by omega)] | rw [if_neg (by omega)])
abbrev rm_X9_isTape : Room := { frames := 1, cells := 0, slots := 0, locals := 22 }
set_option maxRecDepth 100000 in
set_option maxHeartbeats 4000000 in
theorem k9_isTape {l : Launch} {D : va_G} {ac : Nat → ClassId} (hl : l.stackTraces = false) {o : Nat} {a : Nat → Nat} {s : Sg} {t : Int} {G : jj_G} (hR : RM (ac 0) o a s G) (ht : jR t) (h1 : 0 ≤ s 1 0) : jj_C l D ac yX9_isTape (.code yX9_isTape cX9_isTape 2 (some .boolean)) rm_X9_isTape [.ref o, .int (jI t)] G (jj_ri (sIn t 0 (s 1 0 - 1)) G) (jj_nx) := by
  refine jj_ofx (own := RX9) (lv0 := [some (.ref o), some (.int (jI t))]) hl (by decide +kernel) rfl rfl (Nat.le_of_ble_eq_true rfl) rfl ?_
  intro X B hN hl0 hdg hac hin
  subst hl0; subst hdg; subst hac
  have F := B.F

  have r1 := hR.rng 1 0
  skip
  refine jj_iload1 F dX9_isTape_0 ?_
  refine jj_iconst F dX9_isTape_1 ?_
  refine jj_aload0 F dX9_isTape_2 ?_
  refine m9_get F hR fd_X9_101 (by decide) rfl dX9_isTape_3 ?_
  refine jj_iconst F dX9_isTape_6 ?_
  refine jj_isub F dX9_isTape_7 ?_
  refine jj_callSr B (k := 0) (n := 0) (k9_isIn F.tr (by omega) (by omega) (by omega)) lk_X9_104 rfl ⟨Nat.le_of_ble_eq_true rfl, Nat.le_of_ble_eq_true rfl, Nat.le_of_ble_eq_true rfl, Nat.le_of_ble_eq_true rfl, Nat.le_of_ble_eq_true rfl⟩ ⟨Nat.le_of_ble_eq_true rfl, Nat.le_of_ble_eq_true rfl, Nat.le_of_ble_eq_true rfl, Nat.le_of_ble_eq_true rfl⟩ jj_tx0 dX9_isTape_8 ?_
  exact jj_zretr B dX9_isTape_11 ⟨Nat.le_of_ble_eq_true rfl, Nat.le_of_ble_eq_true rfl⟩ (sIn_01 _ _ _) (rfl)
abbrev rm_X9_isArtist : Room := { frames := 1, cells := 0, slots := 0, locals := 22 }
set_option maxRecDepth 100000 in
set_option maxHeartbeats 4000000 in
theorem k9_isArtist {l : Launch} {D : va_G} {ac : Nat → ClassId} (hl : l.stackTraces = false) {t : Int} {G : jj_G} (ht : jR t) : jj_C l D ac yX9_isArtist (.code yX9_isArtist cX9_isArtist 1 (some .boolean)) rm_X9_isArtist [.int (jI t)] G (jj_ri (sIn t 0 5) G) (jj_nx) := by
  refine jj_ofx (own := RX9) (lv0 := [some (.int (jI t))]) hl (by decide +kernel) rfl rfl (Nat.le_of_ble_eq_true rfl) rfl ?_
  intro X B hN hl0 hdg hac hin
  subst hl0; subst hdg; subst hac
  have F := B.F

  skip
  refine jj_iload0 F dX9_isArtist_0 ?_
  refine jj_iconst F dX9_isArtist_1 ?_
  refine jj_iconst F dX9_isArtist_2 ?_
  refine jj_callSr B (k := 0) (n := 0) (k9_isIn F.tr (by omega) (by omega) (by omega)) lk_X9_104 rfl ⟨Nat.le_of_ble_eq_true rfl, Nat.le_of_ble_eq_true rfl, Nat.le_of_ble_eq_true rfl, Nat.le_of_ble_eq_true rfl, Nat.le_of_ble_eq_true rfl⟩ ⟨Nat.le_of_ble_eq_true rfl, Nat.le_of_ble_eq_true rfl, Nat.le_of_ble_eq_true rfl, Nat.le_of_ble_eq_true rfl⟩ jj_tx0 dX9_isArtist_3 ?_
  exact jj_zretr B dX9_isArtist_6 ⟨Nat.le_of_ble_eq_true rfl, Nat.le_of_ble_eq_true rfl⟩ (sIn_01 _ _ _) (rfl)
abbrev rm_X9_isVault : Room := { frames := 1, cells := 0, slots := 0, locals := 22 }
set_option maxRecDepth 100000 in
set_option maxHeartbeats 4000000 in
theorem k9_isVault {l : Launch} {D : va_G} {ac : Nat → ClassId} (hl : l.stackTraces = false) {t : Int} {G : jj_G} (ht : jR t) : jj_C l D ac yX9_isVault (.code yX9_isVault cX9_isVault 1 (some .boolean)) rm_X9_isVault [.int (jI t)] G (jj_ri (sIn t 0 3) G) (jj_nx) := by
  refine jj_ofx (own := RX9) (lv0 := [some (.int (jI t))]) hl (by decide +kernel) rfl rfl (Nat.le_of_ble_eq_true rfl) rfl ?_
  intro X B hN hl0 hdg hac hin
  subst hl0; subst hdg; subst hac
  have F := B.F

  skip
  refine jj_iload0 F dX9_isVault_0 ?_
  refine jj_iconst F dX9_isVault_1 ?_
  refine jj_iconst F dX9_isVault_2 ?_
  refine jj_callSr B (k := 0) (n := 0) (k9_isIn F.tr (by omega) (by omega) (by omega)) lk_X9_104 rfl ⟨Nat.le_of_ble_eq_true rfl, Nat.le_of_ble_eq_true rfl, Nat.le_of_ble_eq_true rfl, Nat.le_of_ble_eq_true rfl, Nat.le_of_ble_eq_true rfl⟩ ⟨Nat.le_of_ble_eq_true rfl, Nat.le_of_ble_eq_true rfl, Nat.le_of_ble_eq_true rfl, Nat.le_of_ble_eq_true rfl⟩ jj_tx0 dX9_isVault_3 ?_
  exact jj_zretr B dX9_isVault_6 ⟨Nat.le_of_ble_eq_true rfl, Nat.le_of_ble_eq_true rfl⟩ (sIn_01 _ _ _) (rfl)
abbrev rm_X9_isPart : Room := { frames := 1, cells := 0, slots := 0, locals := 22 }
set_option maxRecDepth 100000 in
set_option maxHeartbeats 4000000 in
theorem k9_isPart {l : Launch} {D : va_G} {ac : Nat → ClassId} (hl : l.stackTraces = false) {t : Int} {G : jj_G} (ht : jR t) : jj_C l D ac yX9_isPart (.code yX9_isPart cX9_isPart 1 (some .boolean)) rm_X9_isPart [.int (jI t)] G (jj_ri (sIn t 0 7) G) (jj_nx) := by
  refine jj_ofx (own := RX9) (lv0 := [some (.int (jI t))]) hl (by decide +kernel) rfl rfl (Nat.le_of_ble_eq_true rfl) rfl ?_
  intro X B hN hl0 hdg hac hin
  subst hl0; subst hdg; subst hac
  have F := B.F

  skip
  refine jj_iload0 F dX9_isPart_0 ?_
  refine jj_iconst F dX9_isPart_1 ?_
  refine jj_bipush F (by decide) dX9_isPart_2 ?_
  refine jj_callSr B (k := 0) (n := 0) (k9_isIn F.tr (by omega) (by omega) (by omega)) lk_X9_104 rfl ⟨Nat.le_of_ble_eq_true rfl, Nat.le_of_ble_eq_true rfl, Nat.le_of_ble_eq_true rfl, Nat.le_of_ble_eq_true rfl, Nat.le_of_ble_eq_true rfl⟩ ⟨Nat.le_of_ble_eq_true rfl, Nat.le_of_ble_eq_true rfl, Nat.le_of_ble_eq_true rfl, Nat.le_of_ble_eq_true rfl⟩ jj_tx0 dX9_isPart_4 ?_
  exact jj_zretr B dX9_isPart_7 ⟨Nat.le_of_ble_eq_true rfl, Nat.le_of_ble_eq_true rfl⟩ (sIn_01 _ _ _) (rfl)
abbrev rm_X9_isDisc : Room := { frames := 1, cells := 0, slots := 0, locals := 22 }
set_option maxRecDepth 100000 in
set_option maxHeartbeats 4000000 in
theorem k9_isDisc {l : Launch} {D : va_G} {ac : Nat → ClassId} (hl : l.stackTraces = false) {o : Nat} {a : Nat → Nat} {s : Sg} {t : Int} {G : jj_G} (hR : RM (ac 0) o a s G) (ht : jR t) (h1 : 0 ≤ s 22 0) : jj_C l D ac yX9_isDisc (.code yX9_isDisc cX9_isDisc 2 (some .boolean)) rm_X9_isDisc [.ref o, .int (jI t)] G (jj_ri (sIn t 0 (s 22 0 - 1)) G) (jj_nx) := by
  refine jj_ofx (own := RX9) (lv0 := [some (.ref o), some (.int (jI t))]) hl (by decide +kernel) rfl rfl (Nat.le_of_ble_eq_true rfl) rfl ?_
  intro X B hN hl0 hdg hac hin
  subst hl0; subst hdg; subst hac
  have F := B.F

  have r22 := hR.rng 22 0
  skip
  refine jj_iload1 F dX9_isDisc_0 ?_
  refine jj_iconst F dX9_isDisc_1 ?_
  refine jj_aload0 F dX9_isDisc_2 ?_
  refine m9_get F hR fd_X9_178 (by decide) rfl dX9_isDisc_3 ?_
  refine jj_iconst F dX9_isDisc_6 ?_
  refine jj_isub F dX9_isDisc_7 ?_
  refine jj_callSr B (k := 0) (n := 0) (k9_isIn F.tr (by omega) (by omega) (by omega)) lk_X9_104 rfl ⟨Nat.le_of_ble_eq_true rfl, Nat.le_of_ble_eq_true rfl, Nat.le_of_ble_eq_true rfl, Nat.le_of_ble_eq_true rfl, Nat.le_of_ble_eq_true rfl⟩ ⟨Nat.le_of_ble_eq_true rfl, Nat.le_of_ble_eq_true rfl, Nat.le_of_ble_eq_true rfl, Nat.le_of_ble_eq_true rfl⟩ jj_tx0 dX9_isDisc_8 ?_
  exact jj_zretr B dX9_isDisc_11 ⟨Nat.le_of_ble_eq_true rfl, Nat.le_of_ble_eq_true rfl⟩ (sIn_01 _ _ _) (rfl)
abbrev rm_X9_isPlayable : Room := { frames := 0, cells := 0, slots := 0, locals := 0 }
set_option maxRecDepth 100000 in
set_option maxHeartbeats 4000000 in
theorem k9_isPlayable {l : Launch} {D : va_G} {ac : Nat → ClassId} (hl : l.stackTraces = false) {o : Nat} {a : Nat → Nat} {s : Sg} {t : Int} {G : jj_G} (hR : RM (ac 0) o a s G) (ht : 0 ≤ t ∧ t < 30) (hd : 0 ≤ s 0 0 ∧ s 0 0 ≤ 9999) (hb : 0 ≤ s 3 t ∧ s 3 t ≤ 9999) : jj_C l D ac yX9_isPlayable (.code yX9_isPlayable cX9_isPlayable 2 (some .boolean)) rm_X9_isPlayable [.ref o, .int (jI t)] G (jj_ri (sPlay s t) G) (jj_nx) := by
  refine jj_ofx (own := RX9) (lv0 := [some (.ref o), some (.int (jI t))]) hl (by decide +kernel) rfl rfl (Nat.le_of_ble_eq_true rfl) rfl ?_
  intro X B hN hl0 hdg hac hin
  subst hl0; subst hdg; subst hac
  have F := B.F

  have r0 := hR.rng 0 0
  have r3 := hR.rng 3 t
  refine jj_aload0 F dX9_isPlayable_0 ?_
  refine m9_get F hR fd_X9_7 (by decide) rfl dX9_isPlayable_1 ?_
  refine jj_iload1 F dX9_isPlayable_4 ?_
  refine m9_ald F hR (n := 30) rfl (by omega) (by decide) dX9_isPlayable_5 (fun r_5 => ?_)
  refine jj_if_eq F (tgt := 35) dX9_isPlayable_6 rfl (by omega) (fun c6 => ?_) (fun c6 => ?_)
  · skip
    refine jj_iconst F dX9_isPlayable_35 ?_
    refine jj_goto F (tgt := 40) dX9_isPlayable_36 rfl ?_
    exact jj_zretr B dX9_isPlayable_40 ⟨Nat.le_of_ble_eq_true rfl, Nat.le_of_ble_eq_true rfl⟩ (by omega) (by unfold sPlay; first | rw [if_pos (by omega)] | (rw [if_neg (by omega)]; first | rw [if_pos (by omega)] | rw [if_neg (by omega)]))
  · skip
    refine jj_aload0 F dX9_isPlayable_9 ?_
    refine m9_get F hR fd_X9_7 (by decide) rfl dX9_isPlayable_10 ?_
    refine jj_iload1 F dX9_isPlayable_13 ?_
    refine m9_ald F hR (n := 30) rfl (by omega) (by decide) dX9_isPlayable_14 (fun r_14 => ?_)
    refine jj_iconst F dX9_isPlayable_15 ?_
    refine jj_icmp_ne F (tgt := 39) dX9_isPlayable_16 rfl (by omega) (fun c16 => ?_) (fun c16 => ?_)
    · skip
      refine jj_iconst F dX9_isPlayable_39 ?_
      exact jj_zretr B dX9_isPlayable_40 ⟨Nat.le_of_ble_eq_true rfl, Nat.le_of_ble_eq_true rfl⟩ (by omega) (by unfold sPlay; first | rw [if_pos (by omega)] | (rw [if_neg (by omega)]; first | rw [if_pos (by omega)] | rw [if_neg (by omega)]))
    · skip
      refine jj_aload0 F dX9_isPlayable_19 ?_
      refine m9_get F hR fd_X9_108 (by decide) rfl dX9_isPlayable_20 ?_
      refine jj_aload0 F dX9_isPlayable_23 ?_
      refine m9_get F hR fd_X9_13 (by decide) rfl dX9_isPlayable_24 ?_
      refine jj_iload1 F dX9_isPlayable_27 ?_
      refine m9_ald F hR (n := 30) rfl (by omega) (by decide) dX9_isPlayable_28 (fun r_28 => ?_)
      refine jj_isub F dX9_isPlayable_29 ?_
      refine jj_bipush F (by decide) dX9_isPlayable_30 ?_
      refine jj_icmp_ge F (tgt := 39) dX9_isPlayable_32 rfl (by omega) (fun c32 => ?_) (fun c32 => ?_)
      · skip
        refine jj_iconst F dX9_isPlayable_39 ?_
        exact jj_zretr B dX9_isPlayable_40 ⟨Nat.le_of_ble_eq_true rfl, Nat.le_of_ble_eq_true rfl⟩ (by omega) (by unfold sPlay; first | rw [if_pos (by omega)] | (rw [if_neg (by omega)]; first | rw [if_pos (by omega)] | rw [if_neg (by omega)]))
      · skip
        refine jj_iconst F dX9_isPlayable_35 ?_
        refine jj_goto F (tgt := 40) dX9_isPlayable_36 rfl ?_
        exact jj_zretr B dX9_isPlayable_40 ⟨Nat.le_of_ble_eq_true rfl, Nat.le_of_ble_eq_true rfl⟩ (by omega) (by unfold sPlay; first | rw [if_pos (by omega)] | (rw [if_neg (by omega)]; first | rw [if_pos (by omega)] | rw [if_neg (by omega)]))
abbrev rm_X9_length : Room := { frames := 0, cells := 0, slots := 0, locals := 0 }
set_option maxRecDepth 100000 in
set_option maxHeartbeats 4000000 in
theorem k9_length {l : Launch} {D : va_G} {ac : Nat → ClassId} (hl : l.stackTraces = false) {o : Nat} {a : Nat → Nat} {s : Sg} {t : Int} {G : jj_G} (hR : RM (ac 0) o a s G) (ht : 0 ≤ t ∧ t < 30) (hs : 0 ≤ s 7 t ∧ s 7 t ≤ 20) : jj_C l D ac yX9_length (.code yX9_length cX9_length 4 (some .int)) rm_X9_length [.ref o, .int (jI t)] G (jj_ri (sLen s t) G) (jj_nx) := by
  refine jj_ofx (own := RX9) (lv0 := [some (.ref o), some (.int (jI t)), none, none]) hl (by decide +kernel) rfl rfl (Nat.le_of_ble_eq_true rfl) rfl ?_
  intro X B hN hl0 hdg hac hin
  subst hl0; subst hdg; subst hac
  have F := B.F

  refine jj_iconst F dX9_length_0 ?_
  refine jj_istore2 F dX9_length_1 (hN _ (by decide)) rfl ?_
  refine jj_bipush F (by decide) dX9_length_2 ?_
  refine jj_iload1 F dX9_length_4 ?_
  refine jj_imul F dX9_length_5 ?_
  refine jj_istore3 F dX9_length_6 (hN _ (by decide)) rfl ?_
  have loop : ∀ (n j : Nat), n + j = (s 7 t).toNat → jj_J X G 0 0 7 [some (.ref o), some (.int (jI t)), some (.int (jI (sLenTo s t j))), some (.int (jI (20 * t + j)))] [] := by
    intro n
    induction n with
    | zero =>
      intro j hj
      have e1 : (j : Int) = s 7 t := by omega
      refine jj_iload3 F dX9_length_7 ?_
      refine jj_bipush F (by decide) dX9_length_8 ?_
      refine jj_iload1 F dX9_length_10 ?_
      refine jj_imul F dX9_length_11 ?_
      refine jj_aload0 F dX9_length_12 ?_
      refine m9_get F hR fd_X9_25 (by decide) rfl dX9_length_13 ?_
      refine jj_iload1 F dX9_length_16 ?_
      refine m9_ald F hR (n := 30) rfl (by omega) (by decide) dX9_length_17 (fun r_17 => ?_)
      refine jj_iadd F dX9_length_18 ?_
      refine jj_icmp_ge F (tgt := 44) dX9_length_19 rfl (by omega) (fun c19 => ?_) (fun c19 => by exfalso; omega)
      refine jj_iload2 F dX9_length_44 ?_
      exact jj_iretr B dX9_length_45 ⟨Nat.le_of_ble_eq_true rfl, Nat.le_of_ble_eq_true rfl⟩ (by unfold sLen; rw [show (s 7 t).toNat = j by omega])
    | succ n ih =>
      intro j hj
      have e1 : (j : Int) < s 7 t := by omega
      refine jj_iload3 F dX9_length_7 ?_
      refine jj_bipush F (by decide) dX9_length_8 ?_
      refine jj_iload1 F dX9_length_10 ?_
      refine jj_imul F dX9_length_11 ?_
      refine jj_aload0 F dX9_length_12 ?_
      refine m9_get F hR fd_X9_25 (by decide) rfl dX9_length_13 ?_
      refine jj_iload1 F dX9_length_16 ?_
      refine m9_ald F hR (n := 30) rfl (by omega) (by decide) dX9_length_17 (fun r_17 => ?_)
      refine jj_iadd F dX9_length_18 ?_
      refine jj_icmp_ge F (tgt := 44) dX9_length_19 rfl (by omega) (fun c19 => by exfalso; omega) (fun c19 => ?_)
      refine jj_iload2 F dX9_length_22 ?_
      refine jj_aload0 F dX9_length_23 ?_
      refine m9_get F hR fd_X9_34 (by decide) rfl dX9_length_24 ?_
      refine jj_iload3 F dX9_length_27 ?_
      refine m9_ald F hR (n := 600) rfl (by omega) (by decide) dX9_length_28 (fun r_28 => ?_)
      refine jj_aload0 F dX9_length_29 ?_
      refine m9_get F hR fd_X9_31 (by decide) rfl dX9_length_30 ?_
      refine jj_iload3 F dX9_length_33 ?_
      refine m9_ald F hR (n := 600) rfl (by omega) (by decide) dX9_length_34 (fun r_34 => ?_)
      refine jj_isub F dX9_length_35 ?_
      refine jj_iadd F dX9_length_36 ?_
      refine jj_istore2 F dX9_length_37 (hN _ (by decide)) rfl ?_
      refine jj_iinc3 F dX9_length_38 (hN _ (by decide)) rfl ?_
      refine jj_goto F (tgt := 7) dX9_length_41 rfl ?_
      have ih1 := ih (j + 1) (by omega)
      have e2 : (20 * t + ((j + 1 : Nat) : Int)) = 20 * t + (j : Int) + 1 := by omega
      rw [e2] at ih1
      exact ih1
  have l0 := loop (s 7 t).toNat 0 (by omega)
  rw [show (20 * t + ((0 : Nat) : Int)) = 20 * t by omega] at l0
  exact l0
abbrev rm_X9_takesOf : Room := { frames := 0, cells := 0, slots := 0, locals := 0 }
set_option maxRecDepth 100000 in
set_option maxHeartbeats 4000000 in
theorem k9_takesOf {l : Launch} {D : va_G} {ac : Nat → ClassId} (hl : l.stackTraces = false) {o : Nat} {a : Nat → Nat} {s : Sg} {t : Int} {G : jj_G} (hR : RM (ac 0) o a s G) (ht : 0 ≤ t ∧ t < 30) (hs : 0 ≤ s 7 t ∧ s 7 t ≤ 20) : jj_C l D ac yX9_takesOf (.code yX9_takesOf cX9_takesOf 4 (some .int)) rm_X9_takesOf [.ref o, .int (jI t)] G (jj_ri (sTakes s t) G) (jj_nx) := by
  refine jj_ofx (own := RX9) (lv0 := [some (.ref o), some (.int (jI t)), none, none]) hl (by decide +kernel) rfl rfl (Nat.le_of_ble_eq_true rfl) rfl ?_
  intro X B hN hl0 hdg hac hin
  subst hl0; subst hdg; subst hac
  have F := B.F

  refine jj_iconst F dX9_takesOf_0 ?_
  refine jj_istore2 F dX9_takesOf_1 (hN _ (by decide)) rfl ?_
  refine jj_bipush F (by decide) dX9_takesOf_2 ?_
  refine jj_iload1 F dX9_takesOf_4 ?_
  refine jj_imul F dX9_takesOf_5 ?_
  refine jj_istore3 F dX9_takesOf_6 (hN _ (by decide)) rfl ?_
  have loop : ∀ (n j : Nat), n + j = (s 7 t).toNat → jj_J X G 0 0 7 [some (.ref o), some (.int (jI t)), some (.int (jI (sTakesTo s t j))), some (.int (jI (20 * t + j)))] [] := by
    intro n
    induction n with
    | zero =>
      intro j hj
      have e1 : (j : Int) = s 7 t := by omega
      refine jj_iload3 F dX9_takesOf_7 ?_
      refine jj_bipush F (by decide) dX9_takesOf_8 ?_
      refine jj_iload1 F dX9_takesOf_10 ?_
      refine jj_imul F dX9_takesOf_11 ?_
      refine jj_aload0 F dX9_takesOf_12 ?_
      refine m9_get F hR fd_X9_25 (by decide) rfl dX9_takesOf_13 ?_
      refine jj_iload1 F dX9_takesOf_16 ?_
      refine m9_ald F hR (n := 30) rfl (by omega) (by decide) dX9_takesOf_17 (fun r_17 => ?_)
      refine jj_iadd F dX9_takesOf_18 ?_
      refine jj_icmp_ge F (tgt := 39) dX9_takesOf_19 rfl (by omega) (fun c19 => ?_) (fun c19 => by exfalso; omega)
      refine jj_iload2 F dX9_takesOf_39 ?_
      exact jj_iretr B dX9_takesOf_40 ⟨Nat.le_of_ble_eq_true rfl, Nat.le_of_ble_eq_true rfl⟩ (by unfold sTakes; rw [show (s 7 t).toNat = j by omega])
    | succ n ih =>
      intro j hj
      have e1 : (j : Int) < s 7 t := by omega
      refine jj_iload3 F dX9_takesOf_7 ?_
      refine jj_bipush F (by decide) dX9_takesOf_8 ?_
      refine jj_iload1 F dX9_takesOf_10 ?_
      refine jj_imul F dX9_takesOf_11 ?_
      refine jj_aload0 F dX9_takesOf_12 ?_
      refine m9_get F hR fd_X9_25 (by decide) rfl dX9_takesOf_13 ?_
      refine jj_iload1 F dX9_takesOf_16 ?_
      refine m9_ald F hR (n := 30) rfl (by omega) (by decide) dX9_takesOf_17 (fun r_17 => ?_)
      refine jj_iadd F dX9_takesOf_18 ?_
      refine jj_icmp_ge F (tgt := 39) dX9_takesOf_19 rfl (by omega) (fun c19 => by exfalso; omega) (fun c19 => ?_)
      refine jj_iload2 F dX9_takesOf_22 ?_
      refine jj_iconst F dX9_takesOf_23 ?_
      refine jj_aload0 F dX9_takesOf_24 ?_
      refine m9_get F hR fd_X9_28 (by decide) rfl dX9_takesOf_25 ?_
      refine jj_iload3 F dX9_takesOf_28 ?_
      refine m9_ald F hR (n := 600) rfl (by omega) (by decide) dX9_takesOf_29 (fun r_29 => ?_)
      refine jj_ishl F dX9_takesOf_30 ?_
      refine jj_topi (jI_of _) ?_
      refine jj_ior F dX9_takesOf_31 ?_
      refine jj_topi (jI_of _) ?_
      refine jj_istore2 F dX9_takesOf_32 (hN _ (by decide)) rfl ?_
      refine jj_iinc3 F dX9_takesOf_33 (hN _ (by decide)) rfl ?_
      refine jj_goto F (tgt := 7) dX9_takesOf_36 rfl ?_
      have ih1 := ih (j + 1) (by omega)
      rw [show (((j + 1 : Nat)) : Int) = (j : Int) + 1 from rfl] at ih1
      rw [show 20 * t + ((j : Int) + 1) = 20 * t + (j : Int) + 1 by omega] at ih1
      exact ih1
  have l0 := loop (s 7 t).toNat 0 (by omega)
  rw [show (20 * t + ((0 : Nat) : Int)) = 20 * t by omega] at l0
  exact l0
abbrev rm_X9_spansIn : Room := { frames := 0, cells := 0, slots := 0, locals := 0 }
set_option maxRecDepth 100000 in
set_option maxHeartbeats 4000000 in
theorem k9_spansIn {l : Launch} {D : va_G} {ac : Nat → ClassId} (hl : l.stackTraces = false) {o : Nat} {a : Nat → Nat} {s : Sg} {t f u : Int} {G : jj_G} (hR : RM (ac 0) o a s G) (ht : 0 ≤ t ∧ t < 30) (hs : 0 ≤ s 7 t ∧ s 7 t ≤ 20) (hf : jR f) (hu : jR u) (hle : ∀ j : Nat, j ≤ (s 7 t).toNat → 0 ≤ sLenTo s t j ∧ sLenTo s t j ≤ 100000) : jj_C l D ac yX9_spansIn (.code yX9_spansIn cX9_spansIn 8 (some .int)) rm_X9_spansIn [.ref o, .int (jI t), .int (jI f), .int (jI u)] G (jj_ri (sSpans s t f u) G) (jj_nx) := by
  refine jj_ofx (own := RX9) (lv0 := [some (.ref o), some (.int (jI t)), some (.int (jI f)), some (.int (jI u)), none, none, none, none]) hl (by decide +kernel) rfl rfl (Nat.le_of_ble_eq_true rfl) rfl ?_
  intro X B hN hl0 hdg hac hin
  subst hl0; subst hdg; subst hac
  have F := B.F

  refine jj_iconst F dX9_spansIn_0 ?_
  refine jj_istore4 F dX9_spansIn_1 (hN _ (by decide)) rfl ?_
  refine jj_iconst F dX9_spansIn_3 ?_
  refine jj_istore5 F dX9_spansIn_4 (hN _ (by decide)) rfl ?_
  refine jj_bipush F (by decide) dX9_spansIn_6 ?_
  refine jj_iload1 F dX9_spansIn_8 ?_
  refine jj_imul F dX9_spansIn_9 ?_
  refine jj_istore6 F dX9_spansIn_10 (hN _ (by decide)) rfl ?_
  have loop : ∀ (n j : Nat) (x7 : Option Value), n + j = (s 7 t).toNat → jj_J X G 0 0 12 [some (.ref o), some (.int (jI t)), some (.int (jI f)), some (.int (jI u)), some (.int (jI (sSpansTo s t f u j))), some (.int (jI (sLenTo s t j))), some (.int (jI (20 * t + j))), x7] [] := by
    intro n
    induction n with
    | zero =>
      intro j x7 hj
      have e1 : (j : Int) = s 7 t := by omega
      refine jj_iload6 F dX9_spansIn_12 ?_
      refine jj_bipush F (by decide) dX9_spansIn_14 ?_
      refine jj_iload1 F dX9_spansIn_16 ?_
      refine jj_imul F dX9_spansIn_17 ?_
      refine jj_aload0 F dX9_spansIn_18 ?_
      refine m9_get F hR fd_X9_25 (by decide) rfl dX9_spansIn_19 ?_
      refine jj_iload1 F dX9_spansIn_22 ?_
      refine m9_ald F hR (n := 30) rfl (by omega) (by decide) dX9_spansIn_23 (fun r_23 => ?_)
      refine jj_iadd F dX9_spansIn_24 ?_
      refine jj_icmp_ge F (tgt := 80) dX9_spansIn_25 rfl (by omega) (fun c25 => ?_) (fun c25 => by exfalso; omega)
      refine jj_iload4 F dX9_spansIn_80 ?_
      exact jj_iretr B dX9_spansIn_82 ⟨Nat.le_of_ble_eq_true rfl, Nat.le_of_ble_eq_true rfl⟩ (by unfold sSpans; rw [show (s 7 t).toNat = j by omega])
    | succ n ih =>
      intro j x7 hj
      have e1 : (j : Int) < s 7 t := by omega
      have e2 : sLenTo s t (j + 1) = sLenTo s t j + (s 10 (20 * t + j) - s 9 (20 * t + j)) := rfl
      have e3 := hle j (by omega)
      have e4 := hle (j + 1) (by omega)
      refine jj_iload6 F dX9_spansIn_12 ?_
      refine jj_bipush F (by decide) dX9_spansIn_14 ?_
      refine jj_iload1 F dX9_spansIn_16 ?_
      refine jj_imul F dX9_spansIn_17 ?_
      refine jj_aload0 F dX9_spansIn_18 ?_
      refine m9_get F hR fd_X9_25 (by decide) rfl dX9_spansIn_19 ?_
      refine jj_iload1 F dX9_spansIn_22 ?_
      refine m9_ald F hR (n := 30) rfl (by omega) (by decide) dX9_spansIn_23 (fun r_23 => ?_)
      refine jj_iadd F dX9_spansIn_24 ?_
      refine jj_icmp_ge F (tgt := 80) dX9_spansIn_25 rfl (by omega) (fun c25 => by exfalso; omega) (fun c25 => ?_)
      refine jj_iload5 F dX9_spansIn_28 ?_
      refine jj_aload0 F dX9_spansIn_30 ?_
      refine m9_get F hR fd_X9_34 (by decide) rfl dX9_spansIn_31 ?_
      refine jj_iload6 F dX9_spansIn_34 ?_
      refine m9_ald F hR (n := 600) rfl (by omega) (by decide) dX9_spansIn_36 (fun r_36 => ?_)
      refine jj_iadd F dX9_spansIn_37 ?_
      refine jj_aload0 F dX9_spansIn_38 ?_
      refine m9_get F hR fd_X9_31 (by decide) rfl dX9_spansIn_39 ?_
      refine jj_iload6 F dX9_spansIn_42 ?_
      refine m9_ald F hR (n := 600) rfl (by omega) (by decide) dX9_spansIn_44 (fun r_44 => ?_)
      refine jj_isub F dX9_spansIn_45 ?_
      refine jj_istore7 F dX9_spansIn_46 (hN _ (by decide)) rfl ?_
      refine jj_iload4 F dX9_spansIn_48 ?_
      refine jj_iload5 F dX9_spansIn_50 ?_
      refine jj_iload3 F dX9_spansIn_52 ?_
      refine jj_icmp_ge F (tgt := 66) dX9_spansIn_53 rfl (by have := hle j (by omega); omega) (fun c53 => ?_) (fun c53 => ?_)
      · skip
        refine jj_iconst F dX9_spansIn_66 ?_
        refine jj_iadd F dX9_spansIn_67 ?_
        refine jj_istore4 F dX9_spansIn_68 (hN _ (by decide)) rfl ?_
        refine jj_iload7 F dX9_spansIn_70 ?_
        refine jj_istore5 F dX9_spansIn_72 (hN _ (by decide)) rfl ?_
        refine jj_iinc6 F dX9_spansIn_74 (hN _ (by decide)) rfl ?_
        refine jj_goto F (tgt := 12) dX9_spansIn_77 rfl ?_
        have ih1 := ih (j + 1) (some (.int (jI (sLenTo s t j + s 10 (20 * t + j) - s 9 (20 * t + j))))) (by omega)
        rw [show (((j + 1 : Nat)) : Int) = (j : Int) + 1 from rfl] at ih1
        rw [show 20 * t + ((j : Int) + 1) = 20 * t + (j : Int) + 1 by omega] at ih1
        simp only [sSpansTo] at ih1
        first | rw [if_pos (by omega)] at ih1 | rw [if_neg (by omega)] at ih1
        rw [e2, ← Int.add_sub_assoc] at ih1
        exact ih1
      · skip
        refine jj_iload7 F dX9_spansIn_56 ?_
        refine jj_iload2 F dX9_spansIn_58 ?_
        refine jj_icmp_le F (tgt := 66) dX9_spansIn_59 rfl (by have := hle (j + 1) (by omega); simp only [sLenTo] at this; omega) (fun c59 => ?_) (fun c59 => ?_)
        · skip
          refine jj_iconst F dX9_spansIn_66 ?_
          refine jj_iadd F dX9_spansIn_67 ?_
          refine jj_istore4 F dX9_spansIn_68 (hN _ (by decide)) rfl ?_
          refine jj_iload7 F dX9_spansIn_70 ?_
          refine jj_istore5 F dX9_spansIn_72 (hN _ (by decide)) rfl ?_
          refine jj_iinc6 F dX9_spansIn_74 (hN _ (by decide)) rfl ?_
          refine jj_goto F (tgt := 12) dX9_spansIn_77 rfl ?_
          have ih1 := ih (j + 1) (some (.int (jI (sLenTo s t j + s 10 (20 * t + j) - s 9 (20 * t + j))))) (by omega)
          rw [show (((j + 1 : Nat)) : Int) = (j : Int) + 1 from rfl] at ih1
          rw [show 20 * t + ((j : Int) + 1) = 20 * t + (j : Int) + 1 by omega] at ih1
          simp only [sSpansTo] at ih1
          first | rw [if_pos (by omega)] at ih1 | rw [if_neg (by omega)] at ih1
          rw [e2, ← Int.add_sub_assoc] at ih1
          exact ih1
        · skip
          refine jj_iconst F dX9_spansIn_62 ?_
          refine jj_goto F (tgt := 67) dX9_spansIn_63 rfl ?_
          refine jj_iadd F dX9_spansIn_67 ?_
          refine jj_istore4 F dX9_spansIn_68 (hN _ (by decide)) rfl ?_
          refine jj_iload7 F dX9_spansIn_70 ?_
          refine jj_istore5 F dX9_spansIn_72 (hN _ (by decide)) rfl ?_
          refine jj_iinc6 F dX9_spansIn_74 (hN _ (by decide)) rfl ?_
          refine jj_goto F (tgt := 12) dX9_spansIn_77 rfl ?_
          have ih1 := ih (j + 1) (some (.int (jI (sLenTo s t j + s 10 (20 * t + j) - s 9 (20 * t + j))))) (by omega)
          rw [show (((j + 1 : Nat)) : Int) = (j : Int) + 1 from rfl] at ih1
          rw [show 20 * t + ((j : Int) + 1) = 20 * t + (j : Int) + 1 by omega] at ih1
          simp only [sSpansTo] at ih1
          first | rw [if_pos (by omega)] at ih1 | rw [if_neg (by omega)] at ih1
          rw [e2, ← Int.add_sub_assoc] at ih1
          exact ih1
  have l0 := loop (s 7 t).toNat 0 none (by omega)
  rw [show (20 * t + ((0 : Nat) : Int)) = 20 * t by omega] at l0
  exact l0
abbrev rm_X9_secondsOf : Room := { frames := 0, cells := 0, slots := 0, locals := 0 }
set_option maxRecDepth 100000 in
set_option maxHeartbeats 4000000 in
theorem k9_secondsOf {l : Launch} {D : va_G} {ac : Nat → ClassId} (hl : l.stackTraces = false) {o : Nat} {a : Nat → Nat} {s : Sg} {d q : Int} {G : jj_G} (hR : RM (ac 0) o a s G) (hd : 0 ≤ d ∧ d < 10) (hq : jR q) : jj_C l D ac yX9_secondsOf (.code yX9_secondsOf cX9_secondsOf 5 (some .int)) rm_X9_secondsOf [.ref o, .int (jI d), .int (jI q)] G (jj_ri (sSec s d q) G) (jj_nx) := by
  refine jj_ofx (own := RX9) (lv0 := [some (.ref o), some (.int (jI d)), some (.int (jI q)), none, none]) hl (by decide +kernel) rfl rfl (Nat.le_of_ble_eq_true rfl) rfl ?_
  intro X B hN hl0 hdg hac hin
  subst hl0; subst hdg; subst hac
  have F := B.F

  refine jj_iconst F dX9_secondsOf_0 ?_
  refine jj_istore3 F dX9_secondsOf_1 (hN _ (by decide)) rfl ?_
  refine jj_iconst F dX9_secondsOf_2 ?_
  refine jj_istore4 F dX9_secondsOf_3 (hN _ (by decide)) rfl ?_
  have loop : ∀ (n j : Nat), n + j = 6 → jj_J X G 0 0 5 [some (.ref o), some (.int (jI d)), some (.int (jI q)), some (.int (jI (sSecTo s d q j))), some (.int (jI j))] [] := by
    intro n
    induction n with
    | zero =>
      intro j hj
      have e1 : (j : Int) = 6 := by omega
      refine jj_iload4 F dX9_secondsOf_5 ?_
      refine jj_bipush F (by decide) dX9_secondsOf_7 ?_
      refine jj_icmp_ge F (tgt := 48) dX9_secondsOf_9 rfl (by omega) (fun c9 => ?_) (fun c9 => by exfalso; omega)
      refine jj_iload3 F dX9_secondsOf_48 ?_
      exact jj_iretr B dX9_secondsOf_49 ⟨Nat.le_of_ble_eq_true rfl, Nat.le_of_ble_eq_true rfl⟩ (by unfold sSec; rw [show (6 : Nat) = j by omega])
    | succ n ih =>
      intro j hj
      have e1 : (j : Int) < 6 := by omega
      refine jj_iload4 F dX9_secondsOf_5 ?_
      refine jj_bipush F (by decide) dX9_secondsOf_7 ?_
      refine jj_icmp_ge F (tgt := 48) dX9_secondsOf_9 rfl (by omega) (fun c9 => by exfalso; omega) (fun c9 => ?_)
      refine jj_iload3 F dX9_secondsOf_12 ?_
      refine jj_iload2 F dX9_secondsOf_13 ?_
      refine jj_iconst F dX9_secondsOf_14 ?_
      refine jj_icmp_eq F (tgt := 24) dX9_secondsOf_15 rfl (by omega) (fun c15 => ?_) (fun c15 => ?_)
      · skip
        refine jj_aload0 F dX9_secondsOf_24 ?_
        refine m9_get F hR fd_X9_40 (by decide) rfl dX9_secondsOf_25 ?_
        refine jj_bipush F (by decide) dX9_secondsOf_28 ?_
        refine jj_iload1 F dX9_secondsOf_30 ?_
        refine jj_imul F dX9_secondsOf_31 ?_
        refine jj_iload4 F dX9_secondsOf_32 ?_
        refine jj_iadd F dX9_secondsOf_34 ?_
        refine m9_ald F hR (n := 60) rfl (by omega) (by decide) dX9_secondsOf_35 (fun r_35 => ?_)
        refine jj_goto F (tgt := 40) dX9_secondsOf_36 rfl ?_
        refine jj_iadd F dX9_secondsOf_40 ?_
        refine jj_istore3 F dX9_secondsOf_41 (hN _ (by decide)) rfl ?_
        refine jj_iinc4 F dX9_secondsOf_42 (hN _ (by decide)) rfl ?_
        refine jj_goto F (tgt := 5) dX9_secondsOf_45 rfl ?_
        have ih1 := ih (j + 1) (by omega)
        rw [show (((j + 1 : Nat)) : Int) = (j : Int) + 1 from rfl] at ih1
        simp only [sSecTo] at ih1
        first | rw [if_pos (by omega)] at ih1 | rw [if_neg (by omega)] at ih1
        exact ih1
      · skip
        refine jj_iload2 F dX9_secondsOf_18 ?_
        refine jj_iload4 F dX9_secondsOf_19 ?_
        refine jj_icmp_ne F (tgt := 39) dX9_secondsOf_21 rfl (by omega) (fun c21 => ?_) (fun c21 => ?_)
        · skip
          refine jj_iconst F dX9_secondsOf_39 ?_
          refine jj_iadd F dX9_secondsOf_40 ?_
          refine jj_istore3 F dX9_secondsOf_41 (hN _ (by decide)) rfl ?_
          refine jj_iinc4 F dX9_secondsOf_42 (hN _ (by decide)) rfl ?_
          refine jj_goto F (tgt := 5) dX9_secondsOf_45 rfl ?_
          have ih1 := ih (j + 1) (by omega)
          rw [show (((j + 1 : Nat)) : Int) = (j : Int) + 1 from rfl] at ih1
          simp only [sSecTo] at ih1
          first | rw [if_pos (by omega)] at ih1 | rw [if_neg (by omega)] at ih1
          exact ih1
        · skip
          refine jj_aload0 F dX9_secondsOf_24 ?_
          refine m9_get F hR fd_X9_40 (by decide) rfl dX9_secondsOf_25 ?_
          refine jj_bipush F (by decide) dX9_secondsOf_28 ?_
          refine jj_iload1 F dX9_secondsOf_30 ?_
          refine jj_imul F dX9_secondsOf_31 ?_
          refine jj_iload4 F dX9_secondsOf_32 ?_
          refine jj_iadd F dX9_secondsOf_34 ?_
          refine m9_ald F hR (n := 60) rfl (by omega) (by decide) dX9_secondsOf_35 (fun r_35 => ?_)
          refine jj_goto F (tgt := 40) dX9_secondsOf_36 rfl ?_
          refine jj_iadd F dX9_secondsOf_40 ?_
          refine jj_istore3 F dX9_secondsOf_41 (hN _ (by decide)) rfl ?_
          refine jj_iinc4 F dX9_secondsOf_42 (hN _ (by decide)) rfl ?_
          refine jj_goto F (tgt := 5) dX9_secondsOf_45 rfl ?_
          have ih1 := ih (j + 1) (by omega)
          rw [show (((j + 1 : Nat)) : Int) = (j : Int) + 1 from rfl] at ih1
          simp only [sSecTo] at ih1
          first | rw [if_pos (by omega)] at ih1 | rw [if_neg (by omega)] at ih1
          exact ih1
  exact loop 6 0 (by omega)
abbrev rm_X9_discsOf : Room := { frames := 0, cells := 0, slots := 0, locals := 0 }
set_option maxRecDepth 100000 in
set_option maxHeartbeats 4000000 in
theorem k9_discsOf {l : Launch} {D : va_G} {ac : Nat → ClassId} (hl : l.stackTraces = false) {o : Nat} {a : Nat → Nat} {s : Sg} {q : Int} {G : jj_G} (hR : RM (ac 0) o a s G) (hd : 0 ≤ s 22 0 ∧ s 22 0 ≤ 20) (hq : jR q) : jj_C l D ac yX9_discsOf (.code yX9_discsOf cX9_discsOf 4 (some .int)) rm_X9_discsOf [.ref o, .int (jI q)] G (jj_ri (sDiscs s q) G) (jj_nx) := by
  refine jj_ofx (own := RX9) (lv0 := [some (.ref o), some (.int (jI q)), none, none]) hl (by decide +kernel) rfl rfl (Nat.le_of_ble_eq_true rfl) rfl ?_
  intro X B hN hl0 hdg hac hin
  subst hl0; subst hdg; subst hac
  have F := B.F

  have r22 := hR.rng 22 0
  refine jj_iconst F dX9_discsOf_0 ?_
  refine jj_istore2 F dX9_discsOf_1 (hN _ (by decide)) rfl ?_
  refine jj_iconst F dX9_discsOf_2 ?_
  refine jj_istore3 F dX9_discsOf_3 (hN _ (by decide)) rfl ?_
  have loop : ∀ (n j : Nat), n + j = (s 22 0).toNat → jj_J X G 0 0 4 [some (.ref o), some (.int (jI q)), some (.int (jI (sDiscsTo s q j))), some (.int (jI j))] [] := by
    intro n
    induction n with
    | zero =>
      intro j hj
      have e1 : (j : Int) = s 22 0 := by omega
      refine jj_iload3 F dX9_discsOf_4 ?_
      refine jj_aload0 F dX9_discsOf_5 ?_
      refine m9_get F hR fd_X9_178 (by decide) rfl dX9_discsOf_6 ?_
      refine jj_icmp_ge F (tgt := 36) dX9_discsOf_9 rfl (by omega) (fun c9 => ?_) (fun c9 => by exfalso; omega)
      refine jj_iload2 F dX9_discsOf_36 ?_
      exact jj_iretr B dX9_discsOf_37 ⟨Nat.le_of_ble_eq_true rfl, Nat.le_of_ble_eq_true rfl⟩ (by unfold sDiscs; rw [show (s 22 0).toNat = j by omega])
    | succ n ih =>
      intro j hj
      have e1 : (j : Int) < s 22 0 := by omega
      refine jj_iload3 F dX9_discsOf_4 ?_
      refine jj_aload0 F dX9_discsOf_5 ?_
      refine m9_get F hR fd_X9_178 (by decide) rfl dX9_discsOf_6 ?_
      refine jj_icmp_ge F (tgt := 36) dX9_discsOf_9 rfl (by omega) (fun c9 => by exfalso; omega) (fun c9 => ?_)
      refine jj_iload2 F dX9_discsOf_12 ?_
      refine jj_aload0 F dX9_discsOf_13 ?_
      refine m9_get F hR fd_X9_64 (by decide) rfl dX9_discsOf_14 ?_
      refine jj_iload3 F dX9_discsOf_17 ?_
      refine m9_ald F hR (n := 20) rfl (by omega) (by decide) dX9_discsOf_18 (fun r_18 => ?_)
      refine jj_iload1 F dX9_discsOf_19 ?_
      refine jj_icmp_ne F (tgt := 27) dX9_discsOf_20 rfl (by omega) (fun c20 => ?_) (fun c20 => ?_)
      · skip
        refine jj_iconst F dX9_discsOf_27 ?_
        refine jj_iadd F dX9_discsOf_28 ?_
        refine jj_istore2 F dX9_discsOf_29 (hN _ (by decide)) rfl ?_
        refine jj_iinc3 F dX9_discsOf_30 (hN _ (by decide)) rfl ?_
        refine jj_goto F (tgt := 4) dX9_discsOf_33 rfl ?_
        have ih1 := ih (j + 1) (by omega)
        rw [show (((j + 1 : Nat)) : Int) = (j : Int) + 1 from rfl] at ih1
        simp only [sDiscsTo] at ih1
        first | rw [if_pos (by omega)] at ih1 | rw [if_neg (by omega)] at ih1
        exact ih1
      · skip
        refine jj_iconst F dX9_discsOf_23 ?_
        refine jj_goto F (tgt := 28) dX9_discsOf_24 rfl ?_
        refine jj_iadd F dX9_discsOf_28 ?_
        refine jj_istore2 F dX9_discsOf_29 (hN _ (by decide)) rfl ?_
        refine jj_iinc3 F dX9_discsOf_30 (hN _ (by decide)) rfl ?_
        refine jj_goto F (tgt := 4) dX9_discsOf_33 rfl ?_
        have ih1 := ih (j + 1) (by omega)
        rw [show (((j + 1 : Nat)) : Int) = (j : Int) + 1 from rfl] at ih1
        simp only [sDiscsTo] at ih1
        first | rw [if_pos (by omega)] at ih1 | rw [if_neg (by omega)] at ih1
        exact ih1
  exact loop (s 22 0).toNat 0 (by omega)
abbrev rm_X9_isNamed : Room := { frames := 1, cells := 0, slots := 0, locals := 22 }
set_option maxRecDepth 100000 in
set_option maxHeartbeats 4000000 in
theorem k9_isNamed {l : Launch} {D : va_G} {ac : Nat → ClassId} (hl : l.stackTraces = false) {o : Nat} {a : Nat → Nat} {s : Sg} {d q z : Int} {G : jj_G} (hR : RM (ac 0) o a s G) (hd : jR d) (hq : jR q) (hz : jR z) (h13 : 0 ≤ s 13 0) : jj_C l D ac yX9_isNamed (.code yX9_isNamed cX9_isNamed 4 (some .boolean)) rm_X9_isNamed [.ref o, .int (jI d), .int (jI q), .int (jI z)] G (jj_ri (sNamed s d q z) G) (jj_nx) := by
  refine jj_ofx (own := RX9) (lv0 := [some (.ref o), some (.int (jI d)), some (.int (jI q)), some (.int (jI z))]) hl (by decide +kernel) rfl rfl (Nat.le_of_ble_eq_true rfl) rfl ?_
  intro X B hN hl0 hdg hac hin
  subst hl0; subst hdg; subst hac
  have F := B.F

  have r13 := hR.rng 13 0
  refine jj_iload1 F dX9_isNamed_0 ?_
  refine jj_iconst F dX9_isNamed_1 ?_
  refine jj_aload0 F dX9_isNamed_2 ?_
  refine m9_get F hR fd_X9_149 (by decide) rfl dX9_isNamed_3 ?_
  refine jj_iconst F dX9_isNamed_6 ?_
  refine jj_isub F dX9_isNamed_7 ?_
  refine jj_callSr B (k := 0) (n := 0) (k9_isIn F.tr (by omega) (by omega) (by omega)) lk_X9_104 rfl ⟨Nat.le_of_ble_eq_true rfl, Nat.le_of_ble_eq_true rfl, Nat.le_of_ble_eq_true rfl, Nat.le_of_ble_eq_true rfl, Nat.le_of_ble_eq_true rfl⟩ ⟨Nat.le_of_ble_eq_true rfl, Nat.le_of_ble_eq_true rfl, Nat.le_of_ble_eq_true rfl, Nat.le_of_ble_eq_true rfl⟩ jj_tx0 dX9_isNamed_8 ?_
  refine jj_ifb_eq F (tgt := 36) dX9_isNamed_11 rfl (fun c11 => ?_) (fun c11 => ?_)
  · skip
    refine jj_iconst F dX9_isNamed_36 ?_
    exact jj_zretr B dX9_isNamed_37 ⟨Nat.le_of_ble_eq_true rfl, Nat.le_of_ble_eq_true rfl⟩ (by omega) (by unfold sNamed; first | rw [if_pos (by omega)] | rw [if_neg (by omega)])
  · skip
    refine jj_iload2 F dX9_isNamed_14 ?_
    refine jj_iconst F dX9_isNamed_15 ?_
    refine jj_iconst F dX9_isNamed_16 ?_
    refine jj_callSr B (k := 0) (n := 0) (k9_isIn F.tr (by omega) (by omega) (by omega)) lk_X9_104 rfl ⟨Nat.le_of_ble_eq_true rfl, Nat.le_of_ble_eq_true rfl, Nat.le_of_ble_eq_true rfl, Nat.le_of_ble_eq_true rfl, Nat.le_of_ble_eq_true rfl⟩ ⟨Nat.le_of_ble_eq_true rfl, Nat.le_of_ble_eq_true rfl, Nat.le_of_ble_eq_true rfl, Nat.le_of_ble_eq_true rfl⟩ jj_tx0 dX9_isNamed_17 ?_
    refine jj_ifb_eq F (tgt := 36) dX9_isNamed_20 rfl (fun c20 => ?_) (fun c20 => ?_)
    · skip
      refine jj_iconst F dX9_isNamed_36 ?_
      exact jj_zretr B dX9_isNamed_37 ⟨Nat.le_of_ble_eq_true rfl, Nat.le_of_ble_eq_true rfl⟩ (by omega) (by unfold sNamed; first | rw [if_pos (by omega)] | rw [if_neg (by omega)])
    · skip
      refine jj_iload3 F dX9_isNamed_23 ?_
      refine jj_iconst F dX9_isNamed_24 ?_
      refine jj_iconst F dX9_isNamed_25 ?_
      refine jj_callSr B (k := 0) (n := 0) (k9_isIn F.tr (by omega) (by omega) (by omega)) lk_X9_104 rfl ⟨Nat.le_of_ble_eq_true rfl, Nat.le_of_ble_eq_true rfl, Nat.le_of_ble_eq_true rfl, Nat.le_of_ble_eq_true rfl, Nat.le_of_ble_eq_true rfl⟩ ⟨Nat.le_of_ble_eq_true rfl, Nat.le_of_ble_eq_true rfl, Nat.le_of_ble_eq_true rfl, Nat.le_of_ble_eq_true rfl⟩ jj_tx0 dX9_isNamed_26 ?_
      refine jj_ifb_eq F (tgt := 36) dX9_isNamed_29 rfl (fun c29 => ?_) (fun c29 => ?_)
      · skip
        refine jj_iconst F dX9_isNamed_36 ?_
        exact jj_zretr B dX9_isNamed_37 ⟨Nat.le_of_ble_eq_true rfl, Nat.le_of_ble_eq_true rfl⟩ (by omega) (by unfold sNamed; first | rw [if_pos (by omega)] | rw [if_neg (by omega)])
      · skip
        refine jj_iconst F dX9_isNamed_32 ?_
        refine jj_goto F (tgt := 37) dX9_isNamed_33 rfl ?_
        exact jj_zretr B dX9_isNamed_37 ⟨Nat.le_of_ble_eq_true rfl, Nat.le_of_ble_eq_true rfl⟩ (by omega) (by unfold sNamed; first | rw [if_pos (by omega)] | rw [if_neg (by omega)])
abbrev rm_X9_stamperOf : Room := { frames := 0, cells := 0, slots := 0, locals := 0 }
set_option maxRecDepth 100000 in
set_option maxHeartbeats 4000000 in
theorem k9_stamperOf {l : Launch} {D : va_G} {ac : Nat → ClassId} (hl : l.stackTraces = false) {d q z : Int} {G : jj_G}  : jj_C l D ac yX9_stamperOf (.code yX9_stamperOf cX9_stamperOf 3 (some .int)) rm_X9_stamperOf [.int (jI d), .int (jI q), .int (jI z)] G (jj_ri (sSt d q z) G) (jj_nx) := by
  refine jj_ofx (own := RX9) (lv0 := [some (.int (jI d)), some (.int (jI q)), some (.int (jI z))]) hl (by decide +kernel) rfl rfl (Nat.le_of_ble_eq_true rfl) rfl ?_
  intro X B hN hl0 hdg hac hin
  subst hl0; subst hdg; subst hac
  have F := B.F

  refine jj_bipush F (by decide) dX9_stamperOf_0 ?_
  refine jj_iload0 F dX9_stamperOf_2 ?_
  refine jj_imul F dX9_stamperOf_3 ?_
  refine jj_iconst F dX9_stamperOf_4 ?_
  refine jj_iload1 F dX9_stamperOf_5 ?_
  refine jj_imul F dX9_stamperOf_6 ?_
  refine jj_iadd F dX9_stamperOf_7 ?_
  refine jj_iload2 F dX9_stamperOf_8 ?_
  refine jj_iadd F dX9_stamperOf_9 ?_
  exact jj_iretr B dX9_stamperOf_10 ⟨Nat.le_of_ble_eq_true rfl, Nat.le_of_ble_eq_true rfl⟩ (by unfold sSt; omega)
abbrev rm_X9_needed : Room := { frames := 0, cells := 0, slots := 0, locals := 0 }
set_option maxRecDepth 100000 in
set_option maxHeartbeats 4000000 in
theorem k9_needed {l : Launch} {D : va_G} {ac : Nat → ClassId} (hl : l.stackTraces = false) {q : Int} {G : jj_G} (hq : 0 ≤ q ∧ q < 120) : jj_C l D ac yX9_needed (.code yX9_needed cX9_needed 2 (some .int)) rm_X9_needed [.int (jI q)] G (jj_ri (sNeed q) G) (jj_nx) := by
  refine jj_ofx (own := RX9) (lv0 := [some (.int (jI q)), none]) hl (by decide +kernel) rfl rfl (Nat.le_of_ble_eq_true rfl) rfl ?_
  intro X B hN hl0 hdg hac hin
  subst hl0; subst hdg; subst hac
  have F := B.F

  refine jj_iload0 F dX9_needed_0 ?_
  refine jj_bipush F (by decide) dX9_needed_1 ?_
  refine jj_irem F (by omega) dX9_needed_3 ?_
  refine jj_istore1 F dX9_needed_4 (hN _ (by decide)) rfl ?_
  refine jj_iload1 F dX9_needed_5 ?_
  refine jj_if_ne F (tgt := 13) dX9_needed_6 rfl (by omega) (fun c6 => ?_) (fun c6 => ?_)
  · skip
    refine jj_iload1 F dX9_needed_13 ?_
    refine jj_iconst F dX9_needed_14 ?_
    refine jj_irem F (by omega) dX9_needed_15 ?_
    refine jj_if_ne F (tgt := 25) dX9_needed_16 rfl (by omega) (fun c16 => ?_) (fun c16 => ?_)
    · skip
      refine jj_iload0 F dX9_needed_25 ?_
      refine jj_iconst F dX9_needed_26 ?_
      refine jj_isub F dX9_needed_27 ?_
      exact jj_iretr B dX9_needed_28 ⟨Nat.le_of_ble_eq_true rfl, Nat.le_of_ble_eq_true rfl⟩ (by unfold sNeed; first | rw [if_pos (by omega)] | (rw [if_neg (by omega)]; first | rw [if_pos (by omega)] | rw [if_neg (by omega)]))
    · skip
      refine jj_iload0 F dX9_needed_19 ?_
      refine jj_iconst F dX9_needed_20 ?_
      refine jj_isub F dX9_needed_21 ?_
      refine jj_goto F (tgt := 28) dX9_needed_22 rfl ?_
      exact jj_iretr B dX9_needed_28 ⟨Nat.le_of_ble_eq_true rfl, Nat.le_of_ble_eq_true rfl⟩ (by unfold sNeed; first | rw [if_pos (by omega)] | (rw [if_neg (by omega)]; first | rw [if_pos (by omega)] | rw [if_neg (by omega)]))
  · skip
    refine jj_iconst F dX9_needed_9 ?_
    refine jj_goto F (tgt := 28) dX9_needed_10 rfl ?_
    exact jj_iretr B dX9_needed_28 ⟨Nat.le_of_ble_eq_true rfl, Nat.le_of_ble_eq_true rfl⟩ (by unfold sNeed; first | rw [if_pos (by omega)] | (rw [if_neg (by omega)]; first | rw [if_pos (by omega)] | rw [if_neg (by omega)]))
abbrev rm_X9_noiseOf : Room := { frames := 0, cells := 0, slots := 0, locals := 0 }
set_option maxRecDepth 100000 in
set_option maxHeartbeats 4000000 in
theorem k9_noiseOf {l : Launch} {D : va_G} {ac : Nat → ClassId} (hl : l.stackTraces = false) {o : Nat} {a : Nat → Nat} {s : Sg} {d p : Int} {G : jj_G} (hR : RM (ac 0) o a s G) (hd : 0 ≤ d ∧ d < 20) (hp : 0 ≤ p ∧ p < 8) (hw : 0 ≤ s 24 d ∧ s 24 d ≤ 100000) : jj_C l D ac yX9_noiseOf (.code yX9_noiseOf cX9_noiseOf 3 (some .int)) rm_X9_noiseOf [.ref o, .int (jI d), .int (jI p)] G (jj_ri (sNoise s d p) G) (jj_nx) := by
  refine jj_ofx (own := RX9) (lv0 := [some (.ref o), some (.int (jI d)), some (.int (jI p))]) hl (by decide +kernel) rfl rfl (Nat.le_of_ble_eq_true rfl) rfl ?_
  intro X B hN hl0 hdg hac hin
  subst hl0; subst hdg; subst hac
  have F := B.F

  have hm : 0 ≤ s 24 d * (p + 1) ∧ s 24 d * (p + 1) ≤ 800000 := by
    constructor
    · exact Int.mul_nonneg hw.1 (by omega)
    · have h1 : s 24 d * (p + 1) ≤ 100000 * (p + 1) := Int.mul_le_mul_of_nonneg_right hw.2 (by omega)
      omega
  refine jj_iconst F dX9_noiseOf_0 ?_
  refine jj_aload0 F dX9_noiseOf_1 ?_
  refine m9_get F hR fd_X9_70 (by decide) rfl dX9_noiseOf_2 ?_
  refine jj_bipush F (by decide) dX9_noiseOf_5 ?_
  refine jj_iload1 F dX9_noiseOf_7 ?_
  refine jj_imul F dX9_noiseOf_8 ?_
  refine jj_iload2 F dX9_noiseOf_9 ?_
  refine jj_iadd F dX9_noiseOf_10 ?_
  refine m9_ald F hR (n := 160) rfl (by omega) (by decide) dX9_noiseOf_11 (fun r_11 => ?_)
  refine jj_imul F dX9_noiseOf_12 ?_
  refine jj_aload0 F dX9_noiseOf_13 ?_
  refine m9_get F hR fd_X9_67 (by decide) rfl dX9_noiseOf_14 ?_
  refine jj_iload1 F dX9_noiseOf_17 ?_
  refine m9_ald F hR (n := 20) rfl (by omega) (by decide) dX9_noiseOf_18 (fun r_18 => ?_)
  refine jj_iload2 F dX9_noiseOf_19 ?_
  refine jj_iconst F dX9_noiseOf_20 ?_
  refine jj_iadd F dX9_noiseOf_21 ?_
  refine jj_imul F dX9_noiseOf_22 ?_
  refine jj_bipush F (by decide) dX9_noiseOf_23 ?_
  refine jj_idiv F ⟨hm.1, by omega, by omega, by omega⟩ dX9_noiseOf_25 ?_
  refine jj_iadd F dX9_noiseOf_26 ?_
  exact jj_iretr B dX9_noiseOf_27 ⟨Nat.le_of_ble_eq_true rfl, Nat.le_of_ble_eq_true rfl⟩ (rfl)
abbrev rm_X9_areDiscs : Room := { frames := 0, cells := 0, slots := 0, locals := 0 }
set_option maxRecDepth 100000 in
set_option maxHeartbeats 4000000 in
theorem k9_areDiscs {l : Launch} {D : va_G} {ac : Nat → ClassId} (hl : l.stackTraces = false) {o : Nat} {a : Nat → Nat} {s : Sg} {q : Int} {G : jj_G} (hR : RM (ac 0) o a s G) (hq : jR q) : jj_C l D ac yX9_areDiscs (.code yX9_areDiscs cX9_areDiscs 2 (some .boolean)) rm_X9_areDiscs [.ref o, .int (jI q)] G (jj_ri (sAre s q) G) (jj_nx) := by
  refine jj_ofx (own := RX9) (lv0 := [some (.ref o), some (.int (jI q))]) hl (by decide +kernel) rfl rfl (Nat.le_of_ble_eq_true rfl) rfl ?_
  intro X B hN hl0 hdg hac hin
  subst hl0; subst hdg; subst hac
  have F := B.F

  refine jj_iload1 F dX9_areDiscs_0 ?_
  refine jj_if_eq F (tgt := 23) dX9_areDiscs_1 rfl (by omega) (fun c1 => ?_) (fun c1 => ?_)
  · skip
    refine jj_iconst F dX9_areDiscs_23 ?_
    exact jj_zretr B dX9_areDiscs_24 ⟨Nat.le_of_ble_eq_true rfl, Nat.le_of_ble_eq_true rfl⟩ (by omega) (by unfold sAre; exact (if_neg (fun h => h.1 c1)).symm)
  · skip
    refine jj_iload1 F dX9_areDiscs_4 ?_
    refine jj_iconst F dX9_areDiscs_5 ?_
    refine jj_aload0 F dX9_areDiscs_6 ?_
    refine m9_get F hR fd_X9_178 (by decide) rfl dX9_areDiscs_7 ?_
    refine jj_ishl F dX9_areDiscs_10 ?_
    refine jj_topi (jI_of _) ?_
    refine jj_iconst F dX9_areDiscs_11 ?_
    refine jj_isub F dX9_areDiscs_12 ?_
    refine jj_iconst F dX9_areDiscs_13 ?_
    refine jj_ixor F dX9_areDiscs_14 ?_
    refine jj_iand F dX9_areDiscs_15 ?_
    refine jj_ifx_ne F (tgt := 23) dX9_areDiscs_16 rfl (fun c16 => ?_) (fun c16 => ?_)
    · skip
      refine jj_iconst F dX9_areDiscs_23 ?_
      exact jj_zretr B dX9_areDiscs_24 ⟨Nat.le_of_ble_eq_true rfl, Nat.le_of_ble_eq_true rfl⟩ (by omega) (by unfold sAre; exact (if_neg (fun h => c16 h.2)).symm)
    · skip
      refine jj_iconst F dX9_areDiscs_19 ?_
      refine jj_goto F (tgt := 24) dX9_areDiscs_20 rfl ?_
      exact jj_zretr B dX9_areDiscs_24 ⟨Nat.le_of_ble_eq_true rfl, Nat.le_of_ble_eq_true rfl⟩ (by omega) (by unfold sAre; exact (if_pos ⟨c1, c16⟩).symm)
abbrev rm_X9_areOfOneSide : Room := { frames := 0, cells := 0, slots := 0, locals := 0 }
set_option maxRecDepth 100000 in
set_option maxHeartbeats 4000000 in
theorem k9_areOfOneSide {l : Launch} {D : va_G} {ac : Nat → ClassId} (hl : l.stackTraces = false) {o : Nat} {a : Nat → Nat} {s : Sg} {q : Int} {G : jj_G} (hR : RM (ac 0) o a s G) (hd : 0 ≤ s 22 0 ∧ s 22 0 ≤ 20) (h23 : ∀ j : Nat, (j : Int) < s 22 0 → 0 ≤ s 23 j ∧ s 23 j < 120) (hsd : ∀ j : Nat, (j : Int) ≤ s 22 0 → -1 ≤ sSideTo s q j ∧ sSideTo s q j ≤ 1000) : jj_C l D ac yX9_areOfOneSide (.code yX9_areOfOneSide cX9_areOfOneSide 5 (some .boolean)) rm_X9_areOfOneSide [.ref o, .int (jI q)] G (jj_ri (sOne s q) G) (jj_nx) := by
  refine jj_ofx (own := RX9) (lv0 := [some (.ref o), some (.int (jI q)), none, none, none]) hl (by decide +kernel) rfl rfl (Nat.le_of_ble_eq_true rfl) rfl ?_
  intro X B hN hl0 hdg hac hin
  subst hl0; subst hdg; subst hac
  have F := B.F

  have r22 := hR.rng 22 0
  refine jj_iconst F dX9_areOfOneSide_0 ?_
  refine jj_istore2 F dX9_areOfOneSide_1 (hN _ (by decide)) rfl ?_
  refine jj_iconst F dX9_areOfOneSide_2 ?_
  refine jj_istore3 F dX9_areOfOneSide_3 (hN _ (by decide)) rfl ?_
  refine jj_iconst F dX9_areOfOneSide_4 ?_
  refine jj_istore4 F dX9_areOfOneSide_5 (hN _ (by decide)) rfl ?_
  have loop : ∀ (n j : Nat), n + j = (s 22 0).toNat → jj_J X G 0 0 7 [some (.ref o), some (.int (jI q)), some (.int (jI (sSideTo s q j))), some (.int (jI (sOneTo s q j))), some (.int (jI j))] [] := by
    intro n
    induction n with
    | zero =>
      intro j hj
      have e1 : (j : Int) = s 22 0 := by omega
      refine jj_iload4 F dX9_areOfOneSide_7 ?_
      refine jj_aload0 F dX9_areOfOneSide_9 ?_
      refine m9_get F hR fd_X9_178 (by decide) rfl dX9_areOfOneSide_10 ?_
      refine jj_icmp_ge F (tgt := 72) dX9_areOfOneSide_13 rfl (by omega) (fun c13 => ?_) (fun c13 => by exfalso; omega)
      refine jj_iload3 F dX9_areOfOneSide_72 ?_
      exact jj_zretr B dX9_areOfOneSide_73 ⟨Nat.le_of_ble_eq_true rfl, Nat.le_of_ble_eq_true rfl⟩ (by have := sOneTo_01 s q j; omega) (by unfold sOne; rw [show (s 22 0).toNat = j by omega])
    | succ n ih =>
      intro j hj
      have e1 : (j : Int) < s 22 0 := by omega
      refine jj_iload4 F dX9_areOfOneSide_7 ?_
      refine jj_aload0 F dX9_areOfOneSide_9 ?_
      refine m9_get F hR fd_X9_178 (by decide) rfl dX9_areOfOneSide_10 ?_
      refine jj_icmp_ge F (tgt := 72) dX9_areOfOneSide_13 rfl (by omega) (fun c13 => by exfalso; omega) (fun c13 => ?_)
      refine jj_iload1 F dX9_areOfOneSide_16 ?_
      refine jj_iload4 F dX9_areOfOneSide_17 ?_
      refine jj_ishr F dX9_areOfOneSide_19 ?_
      refine jj_iconst F dX9_areOfOneSide_20 ?_
      refine jj_iand F dX9_areOfOneSide_21 ?_
      refine jj_iconst F dX9_areOfOneSide_22 ?_
      refine jj_icmpx_ne F (tgt := 66) dX9_areOfOneSide_23 rfl (fun c23 => ?_) (fun c23 => ?_)
      · skip
        have hH := sHas_0 c23
        refine jj_iinc4 F dX9_areOfOneSide_66 (hN _ (by decide)) rfl ?_
        refine jj_goto F (tgt := 7) dX9_areOfOneSide_69 rfl ?_
        have ih1 := ih (j + 1) (by omega)
        rw [show (((j + 1 : Nat)) : Int) = (j : Int) + 1 from rfl] at ih1
        simp only [sOneTo, sSideTo] at ih1
        rw [if_neg hH, if_neg hH] at ih1
        exact ih1
      · skip
        have hH := sHas_1 c23
        refine jj_iload3 F dX9_areOfOneSide_26 ?_
        refine jj_if_eq F (tgt := 53) dX9_areOfOneSide_27 rfl (by have := sOneTo_01 s q j; omega) (fun c27 => ?_) (fun c27 => ?_)
        · skip
          refine jj_iconst F dX9_areOfOneSide_53 ?_
          refine jj_istore3 F dX9_areOfOneSide_54 (hN _ (by decide)) rfl ?_
          refine jj_aload0 F dX9_areOfOneSide_55 ?_
          refine m9_get F hR fd_X9_64 (by decide) rfl dX9_areOfOneSide_56 ?_
          refine jj_iload4 F dX9_areOfOneSide_59 ?_
          refine m9_ald F hR (n := 20) rfl (by omega) (by decide) dX9_areOfOneSide_61 (fun r_61 => ?_)
          refine jj_bipush F (by decide) dX9_areOfOneSide_62 ?_
          refine jj_idiv F (by have := h23 j (by omega); omega) dX9_areOfOneSide_64 ?_
          refine jj_istore2 F dX9_areOfOneSide_65 (hN _ (by decide)) rfl ?_
          refine jj_iinc4 F dX9_areOfOneSide_66 (hN _ (by decide)) rfl ?_
          refine jj_goto F (tgt := 7) dX9_areOfOneSide_69 rfl ?_
          have ih1 := ih (j + 1) (by omega)
          rw [show (((j + 1 : Nat)) : Int) = (j : Int) + 1 from rfl] at ih1
          simp only [sOneTo, sSideTo] at ih1
          rw [if_pos hH, if_pos hH] at ih1
          first | rw [if_pos (by omega)] at ih1 | rw [if_neg (by omega)] at ih1
          try (first | rw [if_pos (by omega)] at ih1 | rw [if_neg (by omega)] at ih1)
          exact ih1
        · skip
          refine jj_iload2 F dX9_areOfOneSide_30 ?_
          refine jj_iconst F dX9_areOfOneSide_31 ?_
          refine jj_icmp_eq F (tgt := 49) dX9_areOfOneSide_32 rfl (by have := hsd j (by omega); omega) (fun c32 => ?_) (fun c32 => ?_)
          · skip
            refine jj_iconst F dX9_areOfOneSide_49 ?_
            refine jj_goto F (tgt := 54) dX9_areOfOneSide_50 rfl ?_
            refine jj_istore3 F dX9_areOfOneSide_54 (hN _ (by decide)) rfl ?_
            refine jj_aload0 F dX9_areOfOneSide_55 ?_
            refine m9_get F hR fd_X9_64 (by decide) rfl dX9_areOfOneSide_56 ?_
            refine jj_iload4 F dX9_areOfOneSide_59 ?_
            refine m9_ald F hR (n := 20) rfl (by omega) (by decide) dX9_areOfOneSide_61 (fun r_61 => ?_)
            refine jj_bipush F (by decide) dX9_areOfOneSide_62 ?_
            refine jj_idiv F (by have := h23 j (by omega); omega) dX9_areOfOneSide_64 ?_
            refine jj_istore2 F dX9_areOfOneSide_65 (hN _ (by decide)) rfl ?_
            refine jj_iinc4 F dX9_areOfOneSide_66 (hN _ (by decide)) rfl ?_
            refine jj_goto F (tgt := 7) dX9_areOfOneSide_69 rfl ?_
            have ih1 := ih (j + 1) (by omega)
            rw [show (((j + 1 : Nat)) : Int) = (j : Int) + 1 from rfl] at ih1
            simp only [sOneTo, sSideTo] at ih1
            rw [if_pos hH, if_pos hH] at ih1
            first | rw [if_pos (by omega)] at ih1 | rw [if_neg (by omega)] at ih1
            try (first | rw [if_pos (by omega)] at ih1 | rw [if_neg (by omega)] at ih1)
            exact ih1
          · skip
            refine jj_iload2 F dX9_areOfOneSide_35 ?_
            refine jj_aload0 F dX9_areOfOneSide_36 ?_
            refine m9_get F hR fd_X9_64 (by decide) rfl dX9_areOfOneSide_37 ?_
            refine jj_iload4 F dX9_areOfOneSide_40 ?_
            refine m9_ald F hR (n := 20) rfl (by omega) (by decide) dX9_areOfOneSide_42 (fun r_42 => ?_)
            refine jj_bipush F (by decide) dX9_areOfOneSide_43 ?_
            refine jj_idiv F (by have := h23 j (by omega); omega) dX9_areOfOneSide_45 ?_
            refine jj_icmp_ne F (tgt := 53) dX9_areOfOneSide_46 rfl (by have := hsd j (by omega); omega) (fun c46 => ?_) (fun c46 => ?_)
            · skip
              refine jj_iconst F dX9_areOfOneSide_53 ?_
              refine jj_istore3 F dX9_areOfOneSide_54 (hN _ (by decide)) rfl ?_
              refine jj_aload0 F dX9_areOfOneSide_55 ?_
              refine m9_get F hR fd_X9_64 (by decide) rfl dX9_areOfOneSide_56 ?_
              refine jj_iload4 F dX9_areOfOneSide_59 ?_
              refine m9_ald F hR (n := 20) rfl (by omega) (by decide) dX9_areOfOneSide_61 (fun r_61 => ?_)
              refine jj_bipush F (by decide) dX9_areOfOneSide_62 ?_
              refine jj_idiv F (by have := h23 j (by omega); omega) dX9_areOfOneSide_64 ?_
              refine jj_istore2 F dX9_areOfOneSide_65 (hN _ (by decide)) rfl ?_
              refine jj_iinc4 F dX9_areOfOneSide_66 (hN _ (by decide)) rfl ?_
              refine jj_goto F (tgt := 7) dX9_areOfOneSide_69 rfl ?_
              have ih1 := ih (j + 1) (by omega)
              rw [show (((j + 1 : Nat)) : Int) = (j : Int) + 1 from rfl] at ih1
              simp only [sOneTo, sSideTo] at ih1
              rw [if_pos hH, if_pos hH] at ih1
              first | rw [if_pos (by omega)] at ih1 | rw [if_neg (by omega)] at ih1
              try (first | rw [if_pos (by omega)] at ih1 | rw [if_neg (by omega)] at ih1)
              exact ih1
            · skip
              refine jj_iconst F dX9_areOfOneSide_49 ?_
              refine jj_goto F (tgt := 54) dX9_areOfOneSide_50 rfl ?_
              refine jj_istore3 F dX9_areOfOneSide_54 (hN _ (by decide)) rfl ?_
              refine jj_aload0 F dX9_areOfOneSide_55 ?_
              refine m9_get F hR fd_X9_64 (by decide) rfl dX9_areOfOneSide_56 ?_
              refine jj_iload4 F dX9_areOfOneSide_59 ?_
              refine m9_ald F hR (n := 20) rfl (by omega) (by decide) dX9_areOfOneSide_61 (fun r_61 => ?_)
              refine jj_bipush F (by decide) dX9_areOfOneSide_62 ?_
              refine jj_idiv F (by have := h23 j (by omega); omega) dX9_areOfOneSide_64 ?_
              refine jj_istore2 F dX9_areOfOneSide_65 (hN _ (by decide)) rfl ?_
              refine jj_iinc4 F dX9_areOfOneSide_66 (hN _ (by decide)) rfl ?_
              refine jj_goto F (tgt := 7) dX9_areOfOneSide_69 rfl ?_
              have ih1 := ih (j + 1) (by omega)
              rw [show (((j + 1 : Nat)) : Int) = (j : Int) + 1 from rfl] at ih1
              simp only [sOneTo, sSideTo] at ih1
              rw [if_pos hH, if_pos hH] at ih1
              first | rw [if_pos (by omega)] at ih1 | rw [if_neg (by omega)] at ih1
              try (first | rw [if_pos (by omega)] at ih1 | rw [if_neg (by omega)] at ih1)
              exact ih1
  exact loop (s 22 0).toNat 0 (by omega)
abbrev rm_X9_joinOf : Room := { frames := 1, cells := 0, slots := 0, locals := 22 }
set_option maxRecDepth 100000 in
set_option maxHeartbeats 4000000 in
theorem k9_joinOf {l : Launch} {D : va_G} {ac : Nat → ClassId} (hl : l.stackTraces = false) {o : Nat} {a : Nat → Nat} {s : Sg} {q p : Int} {G : jj_G} (hR : RM (ac 0) o a s G) (hd : 0 ≤ s 22 0 ∧ s 22 0 ≤ 20) (hp : 0 ≤ p ∧ p < 8) (h24 : ∀ d : Int, 0 ≤ d ∧ d < 20 → 0 ≤ s 24 d ∧ s 24 d ≤ 100000) (hno : ∀ d : Int, 0 ≤ d ∧ d < 20 → 0 ≤ sNoise s d p ∧ sNoise s d p ≤ 1000000) : jj_C l D ac yX9_joinOf (.code yX9_joinOf cX9_joinOf 6 (some .int)) rm_X9_joinOf [.ref o, .int (jI q), .int (jI p)] G (jj_ri (sJoin s q p) G) (jj_nx) := by
  refine jj_ofx (own := RX9) (lv0 := [some (.ref o), some (.int (jI q)), some (.int (jI p)), none, none, none]) hl (by decide +kernel) rfl rfl (Nat.le_of_ble_eq_true rfl) rfl ?_
  intro X B hN hl0 hdg hac hin
  subst hl0; subst hdg; subst hac
  have F := B.F

  have r22 := hR.rng 22 0
  refine jj_iconst F dX9_joinOf_0 ?_
  refine jj_istore3 F dX9_joinOf_1 (hN _ (by decide)) rfl ?_
  refine jj_iconst F dX9_joinOf_2 ?_
  refine jj_istore4 F dX9_joinOf_3 (hN _ (by decide)) rfl ?_
  have loop : ∀ (n j : Nat) (x5 : Option Value), n + j = (s 22 0).toNat → jj_J X G 0 0 5 [some (.ref o), some (.int (jI q)), some (.int (jI p)), some (.int (jI (sJoinTo s q p j))), some (.int (jI j)), x5] [] := by
    intro n
    induction n with
    | zero =>
      intro j x5 hj
      have e1 : (j : Int) = s 22 0 := by omega
      refine jj_iload4 F dX9_joinOf_5 ?_
      refine jj_aload0 F dX9_joinOf_7 ?_
      refine m9_get F hR fd_X9_178 (by decide) rfl dX9_joinOf_8 ?_
      refine jj_icmp_ge F (tgt := 70) dX9_joinOf_11 rfl (by omega) (fun c11 => ?_) (fun c11 => by exfalso; omega)
      refine jj_iload3 F dX9_joinOf_70 ?_
      exact jj_iretr B dX9_joinOf_71 ⟨Nat.le_of_ble_eq_true rfl, Nat.le_of_ble_eq_true rfl⟩ (by unfold sJoin; rw [show (s 22 0).toNat = j by omega])
    | succ n ih =>
      intro j x5 hj
      have e1 : (j : Int) < s 22 0 := by omega
      have e2 := sJoinTo_in s q p j
      refine jj_iload4 F dX9_joinOf_5 ?_
      refine jj_aload0 F dX9_joinOf_7 ?_
      refine m9_get F hR fd_X9_178 (by decide) rfl dX9_joinOf_8 ?_
      refine jj_icmp_ge F (tgt := 70) dX9_joinOf_11 rfl (by omega) (fun c11 => by exfalso; omega) (fun c11 => ?_)
      refine jj_iload1 F dX9_joinOf_14 ?_
      refine jj_iload4 F dX9_joinOf_15 ?_
      refine jj_ishr F dX9_joinOf_17 ?_
      refine jj_iconst F dX9_joinOf_18 ?_
      refine jj_iand F dX9_joinOf_19 ?_
      refine jj_iconst F dX9_joinOf_20 ?_
      refine jj_icmpx_ne F (tgt := 49) dX9_joinOf_21 rfl (fun c21 => ?_) (fun c21 => ?_)
      · skip
        have hH := sHas_0 c21
        refine jj_iconst F dX9_joinOf_49 ?_
        refine jj_istore5 F dX9_joinOf_50 (hN _ (by decide)) rfl ?_
        refine jj_iload5 F dX9_joinOf_52 ?_
        refine jj_if_eq F (tgt := 62) dX9_joinOf_54 rfl (by omega) (fun c54 => ?_) (fun c54 => by exfalso; omega)
        refine jj_iload3 F dX9_joinOf_62 ?_
        refine jj_istore3 F dX9_joinOf_63 (hN _ (by decide)) rfl ?_
        refine jj_iinc4 F dX9_joinOf_64 (hN _ (by decide)) rfl ?_
        refine jj_goto F (tgt := 5) dX9_joinOf_67 rfl ?_
        have ih1 := ih (j + 1) (some (.int (jI 0))) (by omega)
        rw [show (((j + 1 : Nat)) : Int) = (j : Int) + 1 from rfl] at ih1
        simp only [sJoinTo] at ih1
        rw [if_neg (fun h => by omega)] at ih1
        exact ih1
      · skip
        have hH := sHas_1 c21
        refine jj_iload3 F dX9_joinOf_24 ?_
        refine jj_iconst F dX9_joinOf_25 ?_
        refine jj_icmp_eq F (tgt := 45) dX9_joinOf_26 rfl (by omega) (fun c26 => ?_) (fun c26 => ?_)
        · skip
          refine jj_iconst F dX9_joinOf_45 ?_
          refine jj_goto F (tgt := 50) dX9_joinOf_46 rfl ?_
          refine jj_istore5 F dX9_joinOf_50 (hN _ (by decide)) rfl ?_
          refine jj_iload5 F dX9_joinOf_52 ?_
          refine jj_if_eq F (tgt := 62) dX9_joinOf_54 rfl (by omega) (fun c54 => by exfalso; omega) (fun c54 => ?_)
          refine jj_iload4 F dX9_joinOf_57 ?_
          refine jj_goto F (tgt := 63) dX9_joinOf_59 rfl ?_
          refine jj_istore3 F dX9_joinOf_63 (hN _ (by decide)) rfl ?_
          refine jj_iinc4 F dX9_joinOf_64 (hN _ (by decide)) rfl ?_
          refine jj_goto F (tgt := 5) dX9_joinOf_67 rfl ?_
          have ih1 := ih (j + 1) (some (.int (jI 1))) (by omega)
          rw [show (((j + 1 : Nat)) : Int) = (j : Int) + 1 from rfl] at ih1
          simp only [sJoinTo] at ih1
          rw [if_pos ⟨hH, by omega⟩] at ih1
          exact ih1
        · skip
          refine jj_aload0 F dX9_joinOf_29 ?_
          refine jj_iload4 F dX9_joinOf_30 ?_
          refine jj_iload2 F dX9_joinOf_32 ?_
          refine jj_callVr B (k := 0) (n := 0) (k9_noiseOf F.tr hR (by omega) hp (h24 _ (by omega))) lk_X9_194 hR.1 cs_9 rfl rfl ⟨Nat.le_of_ble_eq_true rfl, Nat.le_of_ble_eq_true rfl, Nat.le_of_ble_eq_true rfl, Nat.le_of_ble_eq_true rfl, Nat.le_of_ble_eq_true rfl⟩ ⟨Nat.le_of_ble_eq_true rfl, Nat.le_of_ble_eq_true rfl, Nat.le_of_ble_eq_true rfl, Nat.le_of_ble_eq_true rfl⟩ jj_tx0 dX9_joinOf_33 ?_
          refine jj_aload0 F dX9_joinOf_36 ?_
          refine jj_iload3 F dX9_joinOf_37 ?_
          refine jj_iload2 F dX9_joinOf_38 ?_
          refine jj_callVr B (k := 0) (n := 0) (k9_noiseOf F.tr hR (by omega) hp (h24 _ (by omega))) lk_X9_194 hR.1 cs_9 rfl rfl ⟨Nat.le_of_ble_eq_true rfl, Nat.le_of_ble_eq_true rfl, Nat.le_of_ble_eq_true rfl, Nat.le_of_ble_eq_true rfl, Nat.le_of_ble_eq_true rfl⟩ ⟨Nat.le_of_ble_eq_true rfl, Nat.le_of_ble_eq_true rfl, Nat.le_of_ble_eq_true rfl, Nat.le_of_ble_eq_true rfl⟩ jj_tx0 dX9_joinOf_39 ?_
          refine jj_icmp_ge F (tgt := 49) dX9_joinOf_42 rfl (by have e6 := hno _ (show 0 ≤ (j : Int) ∧ (j : Int) < 20 by omega); have e7 := hno (sJoinTo s q p j) (by omega); omega) (fun c42 => ?_) (fun c42 => ?_)
          · skip
            refine jj_iconst F dX9_joinOf_49 ?_
            refine jj_istore5 F dX9_joinOf_50 (hN _ (by decide)) rfl ?_
            refine jj_iload5 F dX9_joinOf_52 ?_
            refine jj_if_eq F (tgt := 62) dX9_joinOf_54 rfl (by omega) (fun c54 => ?_) (fun c54 => by exfalso; omega)
            refine jj_iload3 F dX9_joinOf_62 ?_
            refine jj_istore3 F dX9_joinOf_63 (hN _ (by decide)) rfl ?_
            refine jj_iinc4 F dX9_joinOf_64 (hN _ (by decide)) rfl ?_
            refine jj_goto F (tgt := 5) dX9_joinOf_67 rfl ?_
            have ih1 := ih (j + 1) (some (.int (jI 0))) (by omega)
            rw [show (((j + 1 : Nat)) : Int) = (j : Int) + 1 from rfl] at ih1
            simp only [sJoinTo] at ih1
            rw [if_neg (fun h => by omega)] at ih1
            exact ih1
          · skip
            refine jj_iconst F dX9_joinOf_45 ?_
            refine jj_goto F (tgt := 50) dX9_joinOf_46 rfl ?_
            refine jj_istore5 F dX9_joinOf_50 (hN _ (by decide)) rfl ?_
            refine jj_iload5 F dX9_joinOf_52 ?_
            refine jj_if_eq F (tgt := 62) dX9_joinOf_54 rfl (by omega) (fun c54 => by exfalso; omega) (fun c54 => ?_)
            refine jj_iload4 F dX9_joinOf_57 ?_
            refine jj_goto F (tgt := 63) dX9_joinOf_59 rfl ?_
            refine jj_istore3 F dX9_joinOf_63 (hN _ (by decide)) rfl ?_
            refine jj_iinc4 F dX9_joinOf_64 (hN _ (by decide)) rfl ?_
            refine jj_goto F (tgt := 5) dX9_joinOf_67 rfl ?_
            have ih1 := ih (j + 1) (some (.int (jI 1))) (by omega)
            rw [show (((j + 1 : Nat)) : Int) = (j : Int) + 1 from rfl] at ih1
            simp only [sJoinTo] at ih1
            rw [if_pos ⟨hH, by omega⟩] at ih1
            exact ih1
  exact loop (s 22 0).toNat 0 none (by omega)
abbrev rm_X9_canCut : Room := { frames := 1, cells := 0, slots := 0, locals := 23 }
set_option maxRecDepth 100000 in
set_option maxHeartbeats 4000000 in
theorem k9_canCut {l : Launch} {D : va_G} {ac : Nat → ClassId} (hl : l.stackTraces = false) {o : Nat} {a : Nat → Nat} {s : Sg} {q : Int} {G : jj_G} (hR : RM (ac 0) o a s G) (h11 : 0 ≤ s 11 0 ∧ s 11 0 ≤ 6) (hq : 1 ≤ q ∧ q ≤ 5) (hd : 0 ≤ s 0 0 ∧ s 0 0 ≤ 9999) (hp : ∀ j : Nat, (j : Int) < s 11 0 → (0 ≤ s 12 j ∧ s 12 j < 30) ∧ (0 ≤ s 7 (s 12 j) ∧ s 7 (s 12 j) ≤ 20) ∧ (0 ≤ s 3 (s 12 j) ∧ s 3 (s 12 j) ≤ 9999)) (hall : ∀ j : Nat, (j : Int) ≤ s 11 0 → jR (sProgTo s j)) : jj_C l D ac yX9_canCut (.code yX9_canCut cX9_canCut 5 (some .boolean)) rm_X9_canCut [.ref o, .int (jI q)] G (jj_ri (sCanCut s q) G) (jj_nx) := by
  refine jj_ofx (own := RX9) (lv0 := [some (.ref o), some (.int (jI q)), none, none, none]) hl (by decide +kernel) rfl rfl (Nat.le_of_ble_eq_true rfl) rfl ?_
  intro X B hN hl0 hdg hac hin
  subst hl0; subst hdg; subst hac
  have F := B.F

  have r11 := hR.rng 11 0
  have r13 := hR.rng 13 0
  refine jj_iconst F dX9_canCut_0 ?_
  refine jj_aload0 F dX9_canCut_1 ?_
  refine m9_get F hR fd_X9_152 (by decide) rfl dX9_canCut_2 ?_
  refine jj_iconst F dX9_canCut_5 ?_
  refine jj_isub F dX9_canCut_6 ?_
  refine jj_imul F dX9_canCut_7 ?_
  refine jj_istore2 F dX9_canCut_8 (hN _ (by decide)) rfl ?_
  refine jj_iconst F dX9_canCut_9 ?_
  refine jj_istore3 F dX9_canCut_10 (hN _ (by decide)) rfl ?_
  refine jj_iconst F dX9_canCut_11 ?_
  refine jj_istore4 F dX9_canCut_12 (hN _ (by decide)) rfl ?_
  have loop : ∀ (n j : Nat), n + j = (s 11 0).toNat → jj_J X G 0 0 14 [some (.ref o), some (.int (jI q)), some (.int (jI (sProgTo s j))), some (.int (jI (sPlaysTo s j))), some (.int (jI j))] [] := by
    intro n
    induction n with
    | zero =>
      intro j hj
      have e1 : (j : Int) = s 11 0 := by omega
      refine jj_iload4 F dX9_canCut_14 ?_
      refine jj_aload0 F dX9_canCut_16 ?_
      refine m9_get F hR fd_X9_152 (by decide) rfl dX9_canCut_17 ?_
      refine jj_icmp_ge F (tgt := 67) dX9_canCut_20 rfl (by omega) (fun c20 => ?_) (fun c20 => by exfalso; omega)
      refine jj_aload0 F dX9_canCut_67 ?_
      refine m9_get F hR fd_X9_152 (by decide) rfl dX9_canCut_68 ?_
      refine jj_if_le F (tgt := 104) dX9_canCut_71 rfl (by omega) (fun c71 => ?_) (fun c71 => ?_)
      · skip
        refine jj_iconst F dX9_canCut_104 ?_
        exact jj_zretr B dX9_canCut_105 ⟨Nat.le_of_ble_eq_true rfl, Nat.le_of_ble_eq_true rfl⟩ (by omega) (by unfold sCanCut; have := sPlaysTo_01 s j; rw [show (s 11 0).toNat = j by omega]; first | rw [if_pos (by omega)] | rw [if_neg (by omega)])
      · skip
        refine jj_iload3 F dX9_canCut_74 ?_
        refine jj_if_eq F (tgt := 104) dX9_canCut_75 rfl (by have := sPlaysTo_01 s j; omega) (fun c75 => ?_) (fun c75 => ?_)
        · skip
          refine jj_iconst F dX9_canCut_104 ?_
          exact jj_zretr B dX9_canCut_105 ⟨Nat.le_of_ble_eq_true rfl, Nat.le_of_ble_eq_true rfl⟩ (by omega) (by unfold sCanCut; have := sPlaysTo_01 s j; rw [show (s 11 0).toNat = j by omega]; first | rw [if_pos (by omega)] | rw [if_neg (by omega)])
        · skip
          refine jj_iload2 F dX9_canCut_78 ?_
          refine jj_sipush F (by decide) dX9_canCut_79 ?_
          refine jj_sipush F (by decide) dX9_canCut_82 ?_
          refine jj_iload1 F dX9_canCut_85 ?_
          refine jj_imul F dX9_canCut_86 ?_
          refine jj_isub F dX9_canCut_87 ?_
          refine jj_icmp_gt F (tgt := 104) dX9_canCut_88 rfl (by have := hall j (by omega); omega) (fun c88 => ?_) (fun c88 => ?_)
          · skip
            refine jj_iconst F dX9_canCut_104 ?_
            exact jj_zretr B dX9_canCut_105 ⟨Nat.le_of_ble_eq_true rfl, Nat.le_of_ble_eq_true rfl⟩ (by omega) (by unfold sCanCut; have := sPlaysTo_01 s j; rw [show (s 11 0).toNat = j by omega]; first | rw [if_pos (by omega)] | rw [if_neg (by omega)])
          · skip
            refine jj_aload0 F dX9_canCut_91 ?_
            refine m9_get F hR fd_X9_149 (by decide) rfl dX9_canCut_92 ?_
            refine jj_bipush F (by decide) dX9_canCut_95 ?_
            refine jj_icmp_ge F (tgt := 104) dX9_canCut_97 rfl (by omega) (fun c97 => ?_) (fun c97 => ?_)
            · skip
              refine jj_iconst F dX9_canCut_104 ?_
              exact jj_zretr B dX9_canCut_105 ⟨Nat.le_of_ble_eq_true rfl, Nat.le_of_ble_eq_true rfl⟩ (by omega) (by unfold sCanCut; have := sPlaysTo_01 s j; rw [show (s 11 0).toNat = j by omega]; first | rw [if_pos (by omega)] | rw [if_neg (by omega)])
            · skip
              refine jj_iconst F dX9_canCut_100 ?_
              refine jj_goto F (tgt := 105) dX9_canCut_101 rfl ?_
              exact jj_zretr B dX9_canCut_105 ⟨Nat.le_of_ble_eq_true rfl, Nat.le_of_ble_eq_true rfl⟩ (by omega) (by unfold sCanCut; have := sPlaysTo_01 s j; rw [show (s 11 0).toNat = j by omega]; first | rw [if_pos (by omega)] | rw [if_neg (by omega)])
    | succ n ih =>
      intro j hj
      have e1 : (j : Int) < s 11 0 := by omega
      refine jj_iload4 F dX9_canCut_14 ?_
      refine jj_aload0 F dX9_canCut_16 ?_
      refine m9_get F hR fd_X9_152 (by decide) rfl dX9_canCut_17 ?_
      refine jj_icmp_ge F (tgt := 67) dX9_canCut_20 rfl (by omega) (fun c20 => by exfalso; omega) (fun c20 => ?_)
      refine jj_iload2 F dX9_canCut_23 ?_
      refine jj_aload0 F dX9_canCut_24 ?_
      refine jj_aload0 F dX9_canCut_25 ?_
      refine m9_get F hR fd_X9_37 (by decide) rfl dX9_canCut_26 ?_
      refine jj_iload4 F dX9_canCut_29 ?_
      refine m9_ald F hR (n := 6) rfl (by omega) (by decide) dX9_canCut_31 (fun r_31 => ?_)
      refine jj_callVr B (k := 0) (n := 0) (k9_length F.tr hR (hp j (by omega)).1 (hp j (by omega)).2.1) lk_X9_132 hR.1 cs_9 rfl rfl ⟨Nat.le_of_ble_eq_true rfl, Nat.le_of_ble_eq_true rfl, Nat.le_of_ble_eq_true rfl, Nat.le_of_ble_eq_true rfl, Nat.le_of_ble_eq_true rfl⟩ ⟨Nat.le_of_ble_eq_true rfl, Nat.le_of_ble_eq_true rfl, Nat.le_of_ble_eq_true rfl, Nat.le_of_ble_eq_true rfl⟩ jj_tx0 dX9_canCut_32 ?_
      refine jj_iadd F dX9_canCut_35 ?_
      refine jj_istore2 F dX9_canCut_36 (hN _ (by decide)) rfl ?_
      refine jj_iload3 F dX9_canCut_37 ?_
      refine jj_if_eq F (tgt := 59) dX9_canCut_38 rfl (by have := sPlaysTo_01 s j; omega) (fun c38 => ?_) (fun c38 => ?_)
      · skip
        refine jj_iconst F dX9_canCut_59 ?_
        refine jj_istore3 F dX9_canCut_60 (hN _ (by decide)) rfl ?_
        refine jj_iinc4 F dX9_canCut_61 (hN _ (by decide)) rfl ?_
        refine jj_goto F (tgt := 14) dX9_canCut_64 rfl ?_
        have ih1 := ih (j + 1) (by omega)
        rw [show (((j + 1 : Nat)) : Int) = (j : Int) + 1 from rfl] at ih1
        simp only [sProgTo, sPlaysTo] at ih1
        have e5 := sPlay_01 s (s 12 j)
        have e6 := sPlaysTo_01 s j
        rw [if_pos (by omega)] at ih1
        exact ih1
      · skip
        refine jj_aload0 F dX9_canCut_41 ?_
        refine jj_aload0 F dX9_canCut_42 ?_
        refine m9_get F hR fd_X9_37 (by decide) rfl dX9_canCut_43 ?_
        refine jj_iload4 F dX9_canCut_46 ?_
        refine m9_ald F hR (n := 6) rfl (by omega) (by decide) dX9_canCut_48 (fun r_48 => ?_)
        refine jj_callVr B (k := 0) (n := 0) (k9_isPlayable F.tr hR (hp j (by omega)).1 hd (hp j (by omega)).2.2) lk_X9_136 hR.1 cs_9 rfl rfl ⟨Nat.le_of_ble_eq_true rfl, Nat.le_of_ble_eq_true rfl, Nat.le_of_ble_eq_true rfl, Nat.le_of_ble_eq_true rfl, Nat.le_of_ble_eq_true rfl⟩ ⟨Nat.le_of_ble_eq_true rfl, Nat.le_of_ble_eq_true rfl, Nat.le_of_ble_eq_true rfl, Nat.le_of_ble_eq_true rfl⟩ jj_tx0 dX9_canCut_49 ?_
        refine jj_if_eq F (tgt := 59) dX9_canCut_52 rfl (by have := sPlay_01 s (s 12 j); omega) (fun c52 => ?_) (fun c52 => ?_)
        · skip
          refine jj_iconst F dX9_canCut_59 ?_
          refine jj_istore3 F dX9_canCut_60 (hN _ (by decide)) rfl ?_
          refine jj_iinc4 F dX9_canCut_61 (hN _ (by decide)) rfl ?_
          refine jj_goto F (tgt := 14) dX9_canCut_64 rfl ?_
          have ih1 := ih (j + 1) (by omega)
          rw [show (((j + 1 : Nat)) : Int) = (j : Int) + 1 from rfl] at ih1
          simp only [sProgTo, sPlaysTo] at ih1
          have e5 := sPlay_01 s (s 12 j)
          have e6 := sPlaysTo_01 s j
          rw [if_neg (by omega)] at ih1
          first | rw [show sPlay s (s 12 j) = 1 by omega] at ih1 | rw [show sPlay s (s 12 j) = 0 by omega] at ih1
          exact ih1
        · skip
          refine jj_iconst F dX9_canCut_55 ?_
          refine jj_goto F (tgt := 60) dX9_canCut_56 rfl ?_
          refine jj_istore3 F dX9_canCut_60 (hN _ (by decide)) rfl ?_
          refine jj_iinc4 F dX9_canCut_61 (hN _ (by decide)) rfl ?_
          refine jj_goto F (tgt := 14) dX9_canCut_64 rfl ?_
          have ih1 := ih (j + 1) (by omega)
          rw [show (((j + 1 : Nat)) : Int) = (j : Int) + 1 from rfl] at ih1
          simp only [sProgTo, sPlaysTo] at ih1
          have e5 := sPlay_01 s (s 12 j)
          have e6 := sPlaysTo_01 s j
          rw [if_neg (by omega)] at ih1
          first | rw [show sPlay s (s 12 j) = 1 by omega] at ih1 | rw [show sPlay s (s 12 j) = 0 by omega] at ih1
          exact ih1
  exact loop (s 11 0).toNat 0 (by omega)
abbrev rm_X9_dueOf : Room := { frames := 1, cells := 0, slots := 0, locals := 24 }
set_option maxRecDepth 100000 in
set_option maxHeartbeats 4000000 in
theorem k9_dueOf {l : Launch} {D : va_G} {ac : Nat → ClassId} (hl : l.stackTraces = false) {o : Nat} {a : Nat → Nat} {s : Sg} {z q m : Int} {G : jj_G} (hR : RM (ac 0) o a s G) (hz : 0 ≤ z ∧ z < 100) (hq : 0 ≤ q ∧ q < 6) (hm0 : 0 ≤ m ∧ m ≤ 500) (h32 : 0 ≤ s 32 z ∧ s 32 z < 120) (hr : 0 ≤ s 34 (6 * z + q) ∧ s 34 (6 * z + q) ≤ 9999) (hse : ∀ q : Int, 0 ≤ sSec s (s 32 z / 12) q ∧ sSec s (s 32 z / 12) q ≤ 2000) (hal : 1 ≤ sSec s (s 32 z / 12) (-1) ∧ sSec s (s 32 z / 12) (-1) ≤ 2000) : jj_C l D ac yX9_dueOf (.code yX9_dueOf cX9_dueOf 7 (some .int)) rm_X9_dueOf [.ref o, .int (jI z), .int (jI q), .int (jI m)] G (jj_ri (sDue s z q m) G) (jj_nx) := by
  refine jj_ofx (own := RX9) (lv0 := [some (.ref o), some (.int (jI z)), some (.int (jI q)), some (.int (jI m)), none, none, none]) hl (by decide +kernel) rfl rfl (Nat.le_of_ble_eq_true rfl) rfl ?_
  intro X B hN hl0 hdg hac hin
  subst hl0; subst hdg; subst hac
  have F := B.F

  have hm : 0 ≤ m * s 34 (6 * z + q) * sSec s (s 32 z / 12) q ∧ m * s 34 (6 * z + q) * sSec s (s 32 z / 12) q ≤ 9223372036854775807 := by
    have g1 := hse q
    have g2 : 0 ≤ m * s 34 (6 * z + q) := Int.mul_nonneg hm0.1 hr.1
    have g3 : m * s 34 (6 * z + q) ≤ 500 * 9999 := Int.mul_le_mul hm0.2 hr.2 hr.1 (by omega)
    exact ⟨Int.mul_nonneg g2 g1.1, by have := Int.mul_le_mul g3 g1.2 g1.1 (by omega); omega⟩
  refine jj_aload0 F dX9_dueOf_0 ?_
  refine m9_get F hR fd_X9_82 (by decide) rfl dX9_dueOf_1 ?_
  refine jj_iload1 F dX9_dueOf_4 ?_
  refine m9_ald F hR (n := 100) rfl (by omega) (by decide) dX9_dueOf_5 (fun r_5 => ?_)
  refine jj_bipush F (by decide) dX9_dueOf_6 ?_
  refine jj_idiv F (by omega) dX9_dueOf_8 ?_
  refine jj_istore4 F dX9_dueOf_9 (hN _ (by decide)) rfl ?_
  refine jj_iload3 F dX9_dueOf_11 ?_
  refine jj_i2l F (by omega) dX9_dueOf_12 ?_
  refine jj_aload0 F dX9_dueOf_13 ?_
  refine m9_get F hR fd_X9_88 (by decide) rfl dX9_dueOf_14 ?_
  refine jj_bipush F (by decide) dX9_dueOf_17 ?_
  refine jj_iload1 F dX9_dueOf_19 ?_
  refine jj_imul F dX9_dueOf_20 ?_
  refine jj_iload2 F dX9_dueOf_21 ?_
  refine jj_iadd F dX9_dueOf_22 ?_
  refine m9_ald F hR (n := 600) rfl (by omega) (by decide) dX9_dueOf_23 (fun r_23 => ?_)
  refine jj_i2l F (by omega) dX9_dueOf_24 ?_
  refine jj_lmul F dX9_dueOf_25 ?_
  refine jj_aload0 F dX9_dueOf_26 ?_
  refine jj_iload4 F dX9_dueOf_27 ?_
  refine jj_iload2 F dX9_dueOf_29 ?_
  refine jj_callVr B (k := 0) (n := 0) (k9_secondsOf F.tr hR (by omega) (by omega)) lk_X9_158 hR.1 cs_9 rfl rfl ⟨Nat.le_of_ble_eq_true rfl, Nat.le_of_ble_eq_true rfl, Nat.le_of_ble_eq_true rfl, Nat.le_of_ble_eq_true rfl, Nat.le_of_ble_eq_true rfl⟩ ⟨Nat.le_of_ble_eq_true rfl, Nat.le_of_ble_eq_true rfl, Nat.le_of_ble_eq_true rfl, Nat.le_of_ble_eq_true rfl⟩ jj_tx0 dX9_dueOf_30 ?_
  refine jj_i2l F (by have := hse q; omega) dX9_dueOf_33 ?_
  refine jj_lmul F dX9_dueOf_34 ?_
  refine jj_lstoreB F dX9_dueOf_35 (hN _ (by decide)) rfl ?_
  refine jj_lload5 F dX9_dueOf_37 ?_
  refine jj_ldc2 F (v := 100) cn_X9_170 (by decide) dX9_dueOf_39 ?_
  refine jj_aload0 F dX9_dueOf_42 ?_
  refine jj_iload4 F dX9_dueOf_43 ?_
  refine jj_iconst F dX9_dueOf_45 ?_
  refine jj_callVr B (k := 0) (n := 0) (k9_secondsOf F.tr hR (by omega) (by omega)) lk_X9_158 hR.1 cs_9 rfl rfl ⟨Nat.le_of_ble_eq_true rfl, Nat.le_of_ble_eq_true rfl, Nat.le_of_ble_eq_true rfl, Nat.le_of_ble_eq_true rfl, Nat.le_of_ble_eq_true rfl⟩ ⟨Nat.le_of_ble_eq_true rfl, Nat.le_of_ble_eq_true rfl, Nat.le_of_ble_eq_true rfl, Nat.le_of_ble_eq_true rfl⟩ jj_tx0 dX9_dueOf_46 ?_
  refine jj_i2l F (by omega) dX9_dueOf_49 ?_
  refine jj_lmul F dX9_dueOf_50 ?_
  refine jj_ldiv F ⟨hm.1, hm.2, by omega, by omega⟩ dX9_dueOf_51 ?_
  refine jj_l2i F dX9_dueOf_52 ?_
  exact jj_iretr B dX9_dueOf_53 ⟨Nat.le_of_ble_eq_true rfl, Nat.le_of_ble_eq_true rfl⟩ (by unfold sDue; rfl)
