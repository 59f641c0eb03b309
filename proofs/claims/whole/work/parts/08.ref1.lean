abbrev rm_X9_isIn : Room := { frames := 0, cells := 0, slots := 0, locals := 0 }
set_option maxRecDepth 100000 in
set_option maxHeartbeats 4000000 in
theorem k9_isIn {l : Launch} {D : va_G} {ac : Nat → ClassId} (hl : l.stackTraces = false) {v q z : Int} {G : jj_G} (hv : jR v) (hq : jR q) (hz : jR z) : jj_C l D ac yX9_isIn (.code yX9_isIn cX9_isIn 3 (some .boolean)) rm_X9_isIn [.int (jI v), .int (jI q), .int (jI z)] G (jj_ri (sIn v q z) G) (jj_nx) := by
  refine jj_ofx (own := RX9) (lv0 := [some (.int (jI v)), some (.int (jI q)), some (.int (jI z))]) hl (by decide +kernel) rfl rfl (Nat.le_of_ble_eq_true rfl) rfl ?_
  intro X B hN hl0 hdg hac hin
  subst hl0; subst hdg; subst hac
  have F := B.F

  refine jj_iload0 F dX9_isIn_0 ?_
  refine jj_iload1 F dX9_isIn_1 ?_
  refine jj_icmp_lt F (tgt := 14) dX9_isIn_2 rfl (by omega) (fun c2 => ?_) (fun c2 => ?_)
  · skip
    refine jj_iconst F dX9_isIn_14 ?_
    exact jj_zretr B dX9_isIn_15 ⟨Nat.le_of_ble_eq_true rfl, Nat.le_of_ble_eq_true rfl⟩ (by omega) (by unfold sIn; first | rw [if_pos (by omega)] | rw [if_neg (by omega)])
  · skip
    refine jj_iload0 F dX9_isIn_5 ?_
    refine jj_iload2 F dX9_isIn_6 ?_
    refine jj_icmp_gt F (tgt := 14) dX9_isIn_7 rfl (by omega) (fun c7 => ?_) (fun c7 => ?_)
    · skip
      refine jj_iconst F dX9_isIn_14 ?_
      exact jj_zretr B dX9_isIn_15 ⟨Nat.le_of_ble_eq_true rfl, Nat.le_of_ble_eq_true rfl⟩ (by omega) (by unfold sIn; first | rw [if_pos (by omega)] | rw [if_neg (by omega)])
    · skip
      refine jj_iconst F dX9_isIn_10 ?_
      refine jj_goto F (tgt := 15) dX9_isIn_11 rfl ?_
      exact jj_zretr B dX9_isIn_15 ⟨Nat.le_of_ble_eq_true rfl, Nat.le_of_ble_eq_true rfl⟩ (by omega) (by unfold sIn; first | rw [if_pos (by omega)] | rw [if_neg (by omega)])
abbrev rm_X9_isTape : Room := { frames := 1, cells := 0, slots := 0, locals := 22 }
set_option maxRecDepth 100000 in
set_option maxHeartbeats 4000000 in
theorem k9_isTape {l : Launch} {D : va_G} {ac : Nat → ClassId} (hl : l.stackTraces = false) {o : Nat} {a : Nat → Nat} {s : Sg} {t : Int} {G : jj_G} (hR : RM (ac 0) o a s G) (ht : jR t) (h1 : 0 ≤ s 1 0) : jj_C l D ac yX9_isTape (.code yX9_isTape cX9_isTape 2 (some .boolean)) rm_X9_isTape [.ref o, .int (jI t)] G (jj_ri (sIn t 0 (s 1 0 - 1)) G) (jj_nx) := by
  refine jj_ofx (own := RX9) (lv0 := [some (.ref o), some (.int (jI t))]) hl (by decide +kernel) rfl rfl (Nat.le_of_ble_eq_true rfl) rfl ?_
  intro X B hN hl0 hdg hac hin
  subst hl0; subst hdg; subst hac
  have F := B.F

  have r1 := hR.rng 1 0
  skip
  refine jj_iload1 F dX9_isTape_0 ?_
  refine jj_iconst F dX9_isTape_1 ?_
  refine jj_aload0 F dX9_isTape_2 ?_
  refine m9_get F hR fd_X9_101 (by decide) rfl dX9_isTape_3 ?_
  refine jj_iconst F dX9_isTape_6 ?_
  refine jj_isub F dX9_isTape_7 ?_
  refine jj_callSr B (k := 0) (n := 0) (k9_isIn F.tr (by omega) (by omega) (by omega)) lk_X9_104 rfl ⟨Nat.le_of_ble_eq_true rfl, Nat.le_of_ble_eq_true rfl, Nat.le_of_ble_eq_true rfl, Nat.le_of_ble_eq_true rfl, Nat.le_of_ble_eq_true rfl⟩ ⟨Nat.le_of_ble_eq_true rfl, Nat.le_of_ble_eq_true rfl, Nat.le_of_ble_eq_true rfl, Nat.le_of_ble_eq_true rfl⟩ jj_tx0 dX9_isTape_8 ?_
  exact jj_zretr B dX9_isTape_11 ⟨Nat.le_of_ble_eq_true rfl, Nat.le_of_ble_eq_true rfl⟩ (sIn_01 _ _ _) (rfl)
abbrev rm_X9_isArtist : Room := { frames := 1, cells := 0, slots := 0, locals := 22 }
set_option maxRecDepth 100000 in
set_option maxHeartbeats 4000000 in
theorem k9_isArtist {l : Launch} {D : va_G} {ac : Nat → ClassId} (hl : l.stackTraces = false) {t : Int} {G : jj_G} (ht : jR t) : jj_C l D ac yX9_isArtist (.code yX9_isArtist cX9_isArtist 1 (some .boolean)) rm_X9_isArtist [.int (jI t)] G (jj_ri (sIn t 0 5) G) (jj_nx) := by
  refine jj_ofx (own := RX9) (lv0 := [some (.int (jI t))]) hl (by decide +kernel) rfl rfl (Nat.le_of_ble_eq_true rfl) rfl ?_
  intro X B hN hl0 hdg hac hin
  subst hl0; subst hdg; subst hac
  have F := B.F

  skip
  refine jj_iload0 F dX9_isArtist_0 ?_
  refine jj_iconst F dX9_isArtist_1 ?_
  refine jj_iconst F dX9_isArtist_2 ?_
  refine jj_callSr B (k := 0) (n := 0) (k9_isIn F.tr (by omega) (by omega) (by omega)) lk_X9_104 rfl ⟨Nat.le_of_ble_eq_true rfl, Nat.le_of_ble_eq_true rfl, Nat.le_of_ble_eq_true rfl, Nat.le_of_ble_eq_true rfl, Nat.le_of_ble_eq_true rfl⟩ ⟨Nat.le_of_ble_eq_true rfl, Nat.le_of_ble_eq_true rfl, Nat.le_of_ble_eq_true rfl, Nat.le_of_ble_eq_true rfl⟩ jj_tx0 dX9_isArtist_3 ?_
  exact jj_zretr B dX9_isArtist_6 ⟨Nat.le_of_ble_eq_true rfl, Nat.le_of_ble_eq_true rfl⟩ (sIn_01 _ _ _) (rfl)
abbrev rm_X9_isVault : Room := { frames := 1, cells := 0, slots := 0, locals := 22 }
set_option maxRecDepth 100000 in
set_option maxHeartbeats 4000000 in
theorem k9_isVault {l : Launch} {D : va_G} {ac : Nat → ClassId} (hl : l.stackTraces = false) {t : Int} {G : jj_G} (ht : jR t) : jj_C l D ac yX9_isVault (.code yX9_isVault cX9_isVault 1 (some .boolean)) rm_X9_isVault [.int (jI t)] G (jj_ri (sIn t 0 3) G) (jj_nx) := by
  refine jj_ofx (own := RX9) (lv0 := [some (.int (jI t))]) hl (by decide +kernel) rfl rfl (Nat.le_of_ble_eq_true rfl) rfl ?_
  intro X B hN hl0 hdg hac hin
  subst hl0; subst hdg; subst hac
  have F := B.F

  skip
  refine jj_iload0 F dX9_isVault_0 ?_
  refine jj_iconst F dX9_isVault_1 ?_
  refine jj_iconst F dX9_isVault_2 ?_
  refine jj_callSr B (k := 0) (n := 0) (k9_isIn F.tr (by omega) (by omega) (by omega)) lk_X9_104 rfl ⟨Nat.le_of_ble_eq_true rfl, Nat.le_of_ble_eq_true rfl, Nat.le_of_ble_eq_true rfl, Nat.le_of_ble_eq_true rfl, Nat.le_of_ble_eq_true rfl⟩ ⟨Nat.le_of_ble_eq_true rfl, Nat.le_of_ble_eq_true rfl, Nat.le_of_ble_eq_true rfl, Nat.le_of_ble_eq_true rfl⟩ jj_tx0 dX9_isVault_3 ?_
  exact jj_zretr B dX9_isVault_6 ⟨Nat.le_of_ble_eq_true rfl, Nat.le_of_ble_eq_true rfl⟩ (sIn_01 _ _ _) (rfl)
abbrev rm_X9_isPart : Room := { frames := 1, cells := 0, slots := 0, locals := 22 }
set_option maxRecDepth 100000 in
set_option maxHeartbeats 4000000 in
theorem k9_isPart {l : Launch} {D : va_G} {ac : Nat → ClassId} (hl : l.stackTraces = false) {t : Int} {G : jj_G} (ht : jR t) : jj_C l D ac yX9_isPart (.code yX9_isPart cX9_isPart 1 (some .boolean)) rm_X9_isPart [.int (jI t)] G (jj_ri (sIn t 0 7) G) (jj_nx) := by
  refine jj_ofx (own := RX9) (lv0 := [some (.int (jI t))]) hl (by decide +kernel) rfl rfl (Nat.le_of_ble_eq_true rfl) rfl ?_
  intro X B hN hl0 hdg hac hin
  subst hl0; subst hdg; subst hac
  have F := B.F

  skip
  refine jj_iload0 F dX9_isPart_0 ?_
  refine jj_iconst F dX9_isPart_1 ?_
  refine jj_bipush F (by decide) dX9_isPart_2 ?_
  refine jj_callSr B (k := 0) (n := 0) (k9_isIn F.tr (by omega) (by omega) (by omega)) lk_X9_104 rfl ⟨Nat.le_of_ble_eq_true rfl, Nat.le_of_ble_eq_true rfl, Nat.le_of_ble_eq_true rfl, Nat.le_of_ble_eq_true rfl, Nat.le_of_ble_eq_true rfl⟩ ⟨Nat.le_of_ble_eq_true rfl, Nat.le_of_ble_eq_true rfl, Nat.le_of_ble_eq_true rfl, Nat.le_of_ble_eq_true rfl⟩ jj_tx0 dX9_isPart_4 ?_
  exact jj_zretr B dX9_isPart_7 ⟨Nat.le_of_ble_eq_true rfl, Nat.le_of_ble_eq_true rfl⟩ (sIn_01 _ _ _) (rfl)
abbrev rm_X9_isDisc : Room := { frames := 1, cells := 0, slots := 0, locals := 22 }
set_option maxRecDepth 100000 in
set_option maxHeartbeats 4000000 in
theorem k9_isDisc {l : Launch} {D : va_G} {ac : Nat → ClassId} (hl : l.stackTraces = false) {o : Nat} {a : Nat → Nat} {s : Sg} {t : Int} {G : jj_G} (hR : RM (ac 0) o a s G) (ht : jR t) (h1 : 0 ≤ s 22 0) : jj_C l D ac yX9_isDisc (.code yX9_isDisc cX9_isDisc 2 (some .boolean)) rm_X9_isDisc [.ref o, .int (jI t)] G (jj_ri (sIn t 0 (s 22 0 - 1)) G) (jj_nx) := by
  refine jj_ofx (own := RX9) (lv0 := [some (.ref o), some (.int (jI t))]) hl (by decide +kernel) rfl rfl (Nat.le_of_ble_eq_true rfl) rfl ?_
  intro X B hN hl0 hdg hac hin
  subst hl0; subst hdg; subst hac
  have F := B.F

  have r22 := hR.rng 22 0
  skip
  refine jj_iload1 F dX9_isDisc_0 ?_
  refine jj_iconst F dX9_isDisc_1 ?_
  refine jj_aload0 F dX9_isDisc_2 ?_
  refine m9_get F hR fd_X9_178 (by decide) rfl dX9_isDisc_3 ?_
  refine jj_iconst F dX9_isDisc_6 ?_
  refine jj_isub F dX9_isDisc_7 ?_
  refine jj_callSr B (k := 0) (n := 0) (k9_isIn F.tr (by omega) (by omega) (by omega)) lk_X9_104 rfl ⟨Nat.le_of_ble_eq_true rfl, Nat.le_of_ble_eq_true rfl, Nat.le_of_ble_eq_true rfl, Nat.le_of_ble_eq_true rfl, Nat.le_of_ble_eq_true rfl⟩ ⟨Nat.le_of_ble_eq_true rfl, Nat.le_of_ble_eq_true rfl, Nat.le_of_ble_eq_true rfl, Nat.le_of_ble_eq_true rfl⟩ jj_tx0 dX9_isDisc_8 ?_
  exact jj_zretr B dX9_isDisc_11 ⟨Nat.le_of_ble_eq_true rfl, Nat.le_of_ble_eq_true rfl⟩ (sIn_01 _ _ _) (rfl)
abbrev rm_X9_isPlayable : Room := { frames := 0, cells := 0, slots := 0, locals := 0 }
set_option maxRecDepth 100000 in
set_option maxHeartbeats 4000000 in
theorem k9_isPlayable {l : Launch} {D : va_G} {ac : Nat → ClassId} (hl : l.stackTraces = false) {o : Nat} {a : Nat → Nat} {s : Sg} {t : Int} {G : jj_G} (hR : RM (ac 0) o a s G) (ht : 0 ≤ t ∧ t < 30) (hd : 0 ≤ s 0 0 ∧ s 0 0 ≤ 9999) (hb : 0 ≤ s 3 t ∧ s 3 t ≤ 9999) : jj_C l D ac yX9_isPlayable (.code yX9_isPlayable cX9_isPlayable 2 (some .boolean)) rm_X9_isPlayable [.ref o, .int (jI t)] G (jj_ri (sPlay s t) G) (jj_nx) := by
  refine jj_ofx (own := RX9) (lv0 := [some (.ref o), some (.int (jI t))]) hl (by decide +kernel) rfl rfl (Nat.le_of_ble_eq_true rfl) rfl ?_
  intro X B hN hl0 hdg hac hin
  subst hl0; subst hdg; subst hac
  have F := B.F

  have r0 := hR.rng 0 0
  have r3 := hR.rng 3 t
  refine jj_aload0 F dX9_isPlayable_0 ?_
  refine m9_get F hR fd_X9_7 (by decide) rfl dX9_isPlayable_1 ?_
  refine jj_iload1 F dX9_isPlayable_4 ?_
  refine m9_ald F hR (n := 30) rfl (by omega) (by decide) dX9_isPlayable_5 (fun r_5 => ?_)
  refine jj_if_eq F (tgt := 35) dX9_isPlayable_6 rfl (by omega) (fun c6 => ?_) (fun c6 => ?_)
  · skip
    refine jj_iconst F dX9_isPlayable_35 ?_
    refine jj_goto F (tgt := 40) dX9_isPlayable_36 rfl ?_
    exact jj_zretr B dX9_isPlayable_40 ⟨Nat.le_of_ble_eq_true rfl, Nat.le_of_ble_eq_true rfl⟩ (by omega) (by unfold sPlay; first | rw [if_pos (by omega)] | (rw [if_neg (by omega)]; first | rw [if_pos (by omega)] | rw [if_neg (by omega)]))
  · skip
    refine jj_aload0 F dX9_isPlayable_9 ?_
    refine m9_get F hR fd_X9_7 (by decide) rfl dX9_isPlayable_10 ?_
    refine jj_iload1 F dX9_isPlayable_13 ?_
    refine m9_ald F hR (n := 30) rfl (by omega) (by decide) dX9_isPlayable_14 (fun r_14 => ?_)
    refine jj_iconst F dX9_isPlayable_15 ?_
    refine jj_icmp_ne F (tgt := 39) dX9_isPlayable_16 rfl (by omega) (fun c16 => ?_) (fun c16 => ?_)
    · skip
      refine jj_iconst F dX9_isPlayable_39 ?_
      exact jj_zretr B dX9_isPlayable_40 ⟨Nat.le_of_ble_eq_true rfl, Nat.le_of_ble_eq_true rfl⟩ (by omega) (by unfold sPlay; first | rw [if_pos (by omega)] | (rw [if_neg (by omega)]; first | rw [if_pos (by omega)] | rw [if_neg (by omega)]))
    · skip
      refine jj_aload0 F dX9_isPlayable_19 ?_
      refine m9_get F hR fd_X9_108 (by decide) rfl dX9_isPlayable_20 ?_
      refine jj_aload0 F dX9_isPlayable_23 ?_
      refine m9_get F hR fd_X9_13 (by decide) rfl dX9_isPlayable_24 ?_
      refine jj_iload1 F dX9_isPlayable_27 ?_
      refine m9_ald F hR (n := 30) rfl (by omega) (by decide) dX9_isPlayable_28 (fun r_28 => ?_)
      refine jj_isub F dX9_isPlayable_29 ?_
      refine jj_bipush F (by decide) dX9_isPlayable_30 ?_
      refine jj_icmp_ge F (tgt := 39) dX9_isPlayable_32 rfl (by omega) (fun c32 => ?_) (fun c32 => ?_)
      · skip
        refine jj_iconst F dX9_isPlayable_39 ?_
        exact jj_zretr B dX9_isPlayable_40 ⟨Nat.le_of_ble_eq_true rfl, Nat.le_of_ble_eq_true rfl⟩ (by omega) (by unfold sPlay; first | rw [if_pos (by omega)] | (rw [if_neg (by omega)]; first | rw [if_pos (by omega)] | rw [if_neg (by omega)]))
      · skip
        refine jj_iconst F dX9_isPlayable_35 ?_
        refine jj_goto F (tgt := 40) dX9_isPlayable_36 rfl ?_
        exact jj_zretr B dX9_isPlayable_40 ⟨Nat.le_of_ble_eq_true rfl, Nat.le_of_ble_eq_true rfl⟩ (by omega) (by unfold sPlay; first | rw [if_pos (by omega)] | (rw [if_neg (by omega)]; first | rw [if_pos (by omega)] | rw [if_neg (by omega)]))
abbrev rm_X9_length : Room := { frames := 0, cells := 0, slots := 0, locals := 0 }
set_option maxRecDepth 100000 in
set_option maxHeartbeats 4000000 in
theorem k9_length {l : Launch} {D : va_G} {ac : Nat → ClassId} (hl : l.stackTraces = false) {o : Nat} {a : Nat → Nat} {s : Sg} {t : Int} {G : jj_G} (hR : RM (ac 0) o a s G) (ht : 0 ≤ t ∧ t < 30) (hs : 0 ≤ s 7 t ∧ s 7 t ≤ 20) : jj_C l D ac yX9_length (.code yX9_length cX9_length 4 (some .int)) rm_X9_length [.ref o, .int (jI t)] G (jj_ri (sLen s t) G) (jj_nx) := by
  refine jj_ofx (own := RX9) (lv0 := [some (.ref o), some (.int (jI t)), none, none]) hl (by decide +kernel) rfl rfl (Nat.le_of_ble_eq_true rfl) rfl ?_
  intro X B hN hl0 hdg hac hin
  subst hl0; subst hdg; subst hac
  have F := B.F

  refine jj_iconst F dX9_length_0 ?_
  refine jj_istore2 F dX9_length_1 (hN _ (by decide)) rfl ?_
  refine jj_bipush F (by decide) dX9_length_2 ?_
  refine jj_iload1 F dX9_length_4 ?_
  refine jj_imul F dX9_length_5 ?_
  refine jj_istore3 F dX9_length_6 (hN _ (by decide)) rfl ?_
  have loop : ∀ (n j : Nat), n + j = (s 7 t).toNat → jj_J X G 0 0 7 [some (.ref o), some (.int (jI t)), some (.int (jI (sLenTo s t j))), some (.int (jI (20 * t + j)))] [] := by
    intro n
    induction n with
    | zero =>
      intro j hj
      have e1 : (j : Int) = s 7 t := by omega
      refine jj_iload3 F dX9_length_7 ?_
      refine jj_bipush F (by decide) dX9_length_8 ?_
      refine jj_iload1 F dX9_length_10 ?_
      refine jj_imul F dX9_length_11 ?_
      refine jj_aload0 F dX9_length_12 ?_
      refine m9_get F hR fd_X9_25 (by decide) rfl dX9_length_13 ?_
      refine jj_iload1 F dX9_length_16 ?_
      refine m9_ald F hR (n := 30) rfl (by omega) (by decide) dX9_length_17 (fun r_17 => ?_)
      refine jj_iadd F dX9_length_18 ?_
      refine jj_icmp_ge F (tgt := 44) dX9_length_19 rfl (by omega) (fun c19 => ?_) (fun c19 => by exfalso; omega)
      refine jj_iload2 F dX9_length_44 ?_
      exact jj_iretr B dX9_length_45 ⟨Nat.le_of_ble_eq_true rfl, Nat.le_of_ble_eq_true rfl⟩ (by unfold sLen; rw [show (s 7 t).toNat = j by omega])
    | succ n ih =>
      intro j hj
      have e1 : (j : Int) < s 7 t := by omega
      refine jj_iload3 F dX9_length_7 ?_
      refine jj_bipush F (by decide) dX9_length_8 ?_
      refine jj_iload1 F dX9_length_10 ?_
      refine jj_imul F dX9_length_11 ?_
      refine jj_aload0 F dX9_length_12 ?_
      refine m9_get F hR fd_X9_25 (by decide) rfl dX9_length_13 ?_
      refine jj_iload1 F dX9_length_16 ?_
      refine m9_ald F hR (n := 30) rfl (by omega) (by decide) dX9_length_17 (fun r_17 => ?_)
      refine jj_iadd F dX9_length_18 ?_
      refine jj_icmp_ge F (tgt := 44) dX9_length_19 rfl (by omega) (fun c19 => by exfalso; omega) (fun c19 => ?_)
      refine jj_iload2 F dX9_length_22 ?_
      refine jj_aload0 F dX9_length_23 ?_
      refine m9_get F hR fd_X9_34 (by decide) rfl dX9_length_24 ?_
      refine jj_iload3 F dX9_length_27 ?_
      refine m9_ald F hR (n := 600) rfl (by omega) (by decide) dX9_length_28 (fun r_28 => ?_)
      refine jj_aload0 F dX9_length_29 ?_
      refine m9_get F hR fd_X9_31 (by decide) rfl dX9_length_30 ?_
      refine jj_iload3 F dX9_length_33 ?_
      refine m9_ald F hR (n := 600) rfl (by omega) (by decide) dX9_length_34 (fun r_34 => ?_)
      refine jj_isub F dX9_length_35 ?_
      refine jj_iadd F dX9_length_36 ?_
      refine jj_istore2 F dX9_length_37 (hN _ (by decide)) rfl ?_
      refine jj_iinc3 F dX9_length_38 (hN _ (by decide)) rfl ?_
      refine jj_goto F (tgt := 7) dX9_length_41 rfl ?_
      have ih1 := ih (j + 1) (by omega)
      have e2 : (20 * t + ((j + 1 : Nat) : Int)) = 20 * t + (j : Int) + 1 := by omega
      rw [e2] at ih1
      exact ih1
  have l0 := loop (s 7 t).toNat 0 (by omega)
  rw [show (20 * t + ((0 : Nat) : Int)) = 20 * t by omega] at l0
  exact l0
