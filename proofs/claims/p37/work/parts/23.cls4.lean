def oSide (ad : Ad) (d : Int) : Option Nat := if d = -1 then none else some (ad 20 d)
theorem oSide_no {ad : Ad} {d : Int} (h : oSide ad d = none) : d = -1 := by
  unfold oSide at h; split at h
  · assumption
  · cases h
theorem oSide_at {ad : Ad} {d : Int} (h : ¬ d = -1) : oSide ad d = some (ad 20 d) := if_neg h
theorem Rep.side {ac : Nat → ClassId} {ad : Ad} {s e : Sg} {G : jj_G} (hR : Rep ad (cC ac ad s e) G) {x y : Int} (hx : 0 ≤ x ∧ x < s 13 0) (hy : 0 ≤ y ∧ y < s 13 0) (h : ad 20 x = ad 20 y) : x = y :=
  (hR.2 20 x 20 y (by rw [show cC ac ad s e 20 x = some _ from if_pos hx]; exact fun h => by cases h) (by rw [show cC ac ad s e 20 y = some _ from if_pos hy]; exact fun h => by cases h) h).2
theorem Rep.stamp {ac : Nat → ClassId} {ad : Ad} {s e : Sg} {G : jj_G} (hR : Rep ad (cC ac ad s e) G) {x y : Int} (hx : sMk s x) (hy : sMk s y) (h : ad 23 x = ad 23 y) : x = y :=
  (hR.2 23 x 23 y (by rw [show cC ac ad s e 23 x = some _ from if_pos hx]; exact fun h => by cases h) (by rw [show cC ac ad s e 23 y = some _ from if_pos hy]; exact fun h => by cases h) h).2
def sNeeds (s : Sg) (k : Int) : Int := if sNeed k = -1 ∨ ¬ s 16 (sNeed k) = -1 then 1 else 0
def sLeast (s : Sg) (q p : Int) (n : Nat) : Int := if sJoinTo s q p n = -1 then 0 else sNoise s (sJoinTo s q p n) p
theorem sOneTo_up {s : Sg} {q : Int} {n : Nat} (h : sOneTo s q n = 0) : ∀ m, n ≤ m → sOneTo s q m = 0 := by
  intro m hm
  induction m with
  | zero => rw [show n = 0 by omega] at h; exact h
  | succ m ih =>
    by_cases e : n = m + 1
    · rw [← e]; exact h
    · have h0 := ih (by omega)
      unfold sOneTo; rw [h0]; split
      · rw [if_pos rfl]
      · rfl

abbrev rm_X8_requireArtist : Room := { frames := 6, cells := 1, slots := 6, locals := 90 }
set_option maxRecDepth 100000 in
set_option maxHeartbeats 400000 in
theorem k8_requireArtist {l : Launch} {D : va_G} {ac : Nat → ClassId} (hl : l.stackTraces = false) {q : Int}  {G : jj_G} (hv : jR q) : jj_C l D ac yX8_requireArtist (.code yX8_requireArtist cX8_requireArtist 1 none) rm_X8_requireArtist [.int (jI q)] G (jj_pv (fun G' => (0 ≤ q ∧ q ≤ 5) ∧ G' = G)) (fun E => E = eB ∧ ¬ (0 ≤ q ∧ q ≤ 5)) := by
  refine jj_ofx (own := RX8) (lv0 := [some (.int (jI q))]) hl (by decide +kernel) rfl rfl (Nat.le_of_ble_eq_true rfl) rfl ?_
  intro X B hN hl0 hdg hac hin
  subst hl0; subst hdg; subst hac
  have F := B.F

  refine jj_iload0 F dX8_requireArtist_0 ?_
  refine jj_if_lt F (tgt := 10) dX8_requireArtist_1 rfl (by omega) (fun c1 => ?_) (fun c1 => ?_)
  · skip
    exact jj_throwSW B th_1 sr_X8_372 rfl ⟨rfl, by omega⟩ ⟨Nat.le_of_ble_eq_true rfl, Nat.le_of_ble_eq_true rfl, Nat.le_of_ble_eq_true rfl, Nat.le_of_ble_eq_true rfl⟩ dX8_requireArtist_10 dX8_requireArtist_13 dX8_requireArtist_14 dX8_requireArtist_17 dX8_requireArtist_20
  · skip
    refine jj_iload0 F dX8_requireArtist_4 ?_
    refine jj_bipush F (by decide) dX8_requireArtist_5 ?_
    refine jj_icmp_lt F (tgt := 21) dX8_requireArtist_7 rfl (by omega) (fun c7 => ?_) (fun c7 => ?_)
    · skip
      exact jj_vret B dX8_requireArtist_21 ⟨Nat.le_of_ble_eq_true rfl, Nat.le_of_ble_eq_true rfl⟩ (⟨rfl, by omega, rfl⟩)
    · skip
      exact jj_throwSW B th_1 sr_X8_372 rfl ⟨rfl, by omega⟩ ⟨Nat.le_of_ble_eq_true rfl, Nat.le_of_ble_eq_true rfl, Nat.le_of_ble_eq_true rfl, Nat.le_of_ble_eq_true rfl⟩ dX8_requireArtist_10 dX8_requireArtist_13 dX8_requireArtist_14 dX8_requireArtist_17 dX8_requireArtist_20
abbrev rm_X8_requireVault : Room := { frames := 6, cells := 1, slots := 6, locals := 90 }
set_option maxRecDepth 100000 in
set_option maxHeartbeats 400000 in
theorem k8_requireVault {l : Launch} {D : va_G} {ac : Nat → ClassId} (hl : l.stackTraces = false) {q : Int}  {G : jj_G} (hv : jR q) : jj_C l D ac yX8_requireVault (.code yX8_requireVault cX8_requireVault 1 none) rm_X8_requireVault [.int (jI q)] G (jj_pv (fun G' => (0 ≤ q ∧ q ≤ 3) ∧ G' = G)) (fun E => E = eB ∧ ¬ (0 ≤ q ∧ q ≤ 3)) := by
  refine jj_ofx (own := RX8) (lv0 := [some (.int (jI q))]) hl (by decide +kernel) rfl rfl (Nat.le_of_ble_eq_true rfl) rfl ?_
  intro X B hN hl0 hdg hac hin
  subst hl0; subst hdg; subst hac
  have F := B.F

  refine jj_iload0 F dX8_requireVault_0 ?_
  refine jj_if_lt F (tgt := 9) dX8_requireVault_1 rfl (by omega) (fun c1 => ?_) (fun c1 => ?_)
  · skip
    exact jj_throwSW B th_1 sr_X8_374 rfl ⟨rfl, by omega⟩ ⟨Nat.le_of_ble_eq_true rfl, Nat.le_of_ble_eq_true rfl, Nat.le_of_ble_eq_true rfl, Nat.le_of_ble_eq_true rfl⟩ dX8_requireVault_9 dX8_requireVault_12 dX8_requireVault_13 dX8_requireVault_16 dX8_requireVault_19
  · skip
    refine jj_iload0 F dX8_requireVault_4 ?_
    refine jj_iconst F dX8_requireVault_5 ?_
    refine jj_icmp_lt F (tgt := 20) dX8_requireVault_6 rfl (by omega) (fun c6 => ?_) (fun c6 => ?_)
    · skip
      exact jj_vret B dX8_requireVault_20 ⟨Nat.le_of_ble_eq_true rfl, Nat.le_of_ble_eq_true rfl⟩ (⟨rfl, by omega, rfl⟩)
    · skip
      exact jj_throwSW B th_1 sr_X8_374 rfl ⟨rfl, by omega⟩ ⟨Nat.le_of_ble_eq_true rfl, Nat.le_of_ble_eq_true rfl, Nat.le_of_ble_eq_true rfl, Nat.le_of_ble_eq_true rfl⟩ dX8_requireVault_9 dX8_requireVault_12 dX8_requireVault_13 dX8_requireVault_16 dX8_requireVault_19
abbrev rm_X8_requirePart : Room := { frames := 6, cells := 1, slots := 6, locals := 90 }
set_option maxRecDepth 100000 in
set_option maxHeartbeats 400000 in
theorem k8_requirePart {l : Launch} {D : va_G} {ac : Nat → ClassId} (hl : l.stackTraces = false) {q : Int}  {G : jj_G} (hv : jR q) : jj_C l D ac yX8_requirePart (.code yX8_requirePart cX8_requirePart 1 none) rm_X8_requirePart [.int (jI q)] G (jj_pv (fun G' => (0 ≤ q ∧ q ≤ 7) ∧ G' = G)) (fun E => E = eB ∧ ¬ (0 ≤ q ∧ q ≤ 7)) := by
  refine jj_ofx (own := RX8) (lv0 := [some (.int (jI q))]) hl (by decide +kernel) rfl rfl (Nat.le_of_ble_eq_true rfl) rfl ?_
  intro X B hN hl0 hdg hac hin
  subst hl0; subst hdg; subst hac
  have F := B.F

  refine jj_iload0 F dX8_requirePart_0 ?_
  refine jj_if_lt F (tgt := 10) dX8_requirePart_1 rfl (by omega) (fun c1 => ?_) (fun c1 => ?_)
  · skip
    exact jj_throwSW B th_1 sr_X8_376 rfl ⟨rfl, by omega⟩ ⟨Nat.le_of_ble_eq_true rfl, Nat.le_of_ble_eq_true rfl, Nat.le_of_ble_eq_true rfl, Nat.le_of_ble_eq_true rfl⟩ dX8_requirePart_10 dX8_requirePart_13 dX8_requirePart_14 dX8_requirePart_17 dX8_requirePart_20
  · skip
    refine jj_iload0 F dX8_requirePart_4 ?_
    refine jj_bipush F (by decide) dX8_requirePart_5 ?_
    refine jj_icmp_lt F (tgt := 21) dX8_requirePart_7 rfl (by omega) (fun c7 => ?_) (fun c7 => ?_)
    · skip
      exact jj_vret B dX8_requirePart_21 ⟨Nat.le_of_ble_eq_true rfl, Nat.le_of_ble_eq_true rfl⟩ (⟨rfl, by omega, rfl⟩)
    · skip
      exact jj_throwSW B th_1 sr_X8_376 rfl ⟨rfl, by omega⟩ ⟨Nat.le_of_ble_eq_true rfl, Nat.le_of_ble_eq_true rfl, Nat.le_of_ble_eq_true rfl, Nat.le_of_ble_eq_true rfl⟩ dX8_requirePart_10 dX8_requirePart_13 dX8_requirePart_14 dX8_requirePart_17 dX8_requirePart_20
abbrev rm_X8_requireDiscCount : Room := { frames := 6, cells := 1, slots := 6, locals := 90 }
set_option maxRecDepth 100000 in
set_option maxHeartbeats 400000 in
theorem k8_requireDiscCount {l : Launch} {D : va_G} {ac : Nat → ClassId} (hl : l.stackTraces = false) {q : Int}  {G : jj_G} (hv : jR q) : jj_C l D ac yX8_requireDiscCount (.code yX8_requireDiscCount cX8_requireDiscCount 1 none) rm_X8_requireDiscCount [.int (jI q)] G (jj_pv (fun G' => (1 ≤ q ∧ q ≤ 500) ∧ G' = G)) (fun E => E = eA ∧ ¬ (1 ≤ q ∧ q ≤ 500)) := by
  refine jj_ofx (own := RX8) (lv0 := [some (.int (jI q))]) hl (by decide +kernel) rfl rfl (Nat.le_of_ble_eq_true rfl) rfl ?_
  intro X B hN hl0 hdg hac hin
  subst hl0; subst hdg; subst hac
  have F := B.F

  refine jj_iload0 F dX8_requireDiscCount_0 ?_
  refine jj_iconst F dX8_requireDiscCount_1 ?_
  refine jj_icmp_lt F (tgt := 12) dX8_requireDiscCount_2 rfl (by omega) (fun c2 => ?_) (fun c2 => ?_)
  · skip
    exact jj_throwSW B th_2 sr_X8_378 rfl ⟨rfl, by omega⟩ ⟨Nat.le_of_ble_eq_true rfl, Nat.le_of_ble_eq_true rfl, Nat.le_of_ble_eq_true rfl, Nat.le_of_ble_eq_true rfl⟩ dX8_requireDiscCount_12 dX8_requireDiscCount_15 dX8_requireDiscCount_16 dX8_requireDiscCount_19 dX8_requireDiscCount_22
  · skip
    refine jj_iload0 F dX8_requireDiscCount_5 ?_
    refine jj_sipush F (by decide) dX8_requireDiscCount_6 ?_
    refine jj_icmp_le F (tgt := 23) dX8_requireDiscCount_9 rfl (by omega) (fun c9 => ?_) (fun c9 => ?_)
    · skip
      exact jj_vret B dX8_requireDiscCount_23 ⟨Nat.le_of_ble_eq_true rfl, Nat.le_of_ble_eq_true rfl⟩ (⟨rfl, by omega, rfl⟩)
    · skip
      exact jj_throwSW B th_2 sr_X8_378 rfl ⟨rfl, by omega⟩ ⟨Nat.le_of_ble_eq_true rfl, Nat.le_of_ble_eq_true rfl, Nat.le_of_ble_eq_true rfl, Nat.le_of_ble_eq_true rfl⟩ dX8_requireDiscCount_12 dX8_requireDiscCount_15 dX8_requireDiscCount_16 dX8_requireDiscCount_19 dX8_requireDiscCount_22
abbrev rm_X8_has : Room := { frames := 0, cells := 0, slots := 0, locals := 0 }
set_option maxRecDepth 100000 in
set_option maxHeartbeats 400000 in
theorem k8_has {l : Launch} {D : va_G} {ac : Nat → ClassId} (hl : l.stackTraces = false) {q k : Int}  {G : jj_G}  : jj_C l D ac yX8_has (.code yX8_has cX8_has 2 (some .boolean)) rm_X8_has [.int (jI q), .int (jI k)] G (jj_ri (sHas q k) G) (jj_nx) := by
  refine jj_ofx (own := RX8) (lv0 := [some (.int (jI q)), some (.int (jI k))]) hl (by decide +kernel) rfl rfl (Nat.le_of_ble_eq_true rfl) rfl ?_
  intro X B hN hl0 hdg hac hin
  subst hl0; subst hdg; subst hac
  have F := B.F

  refine jj_iload0 F dX8_has_0 ?_
  refine jj_iload1 F dX8_has_1 ?_
  refine jj_ishr F dX8_has_2 ?_
  refine jj_iconst F dX8_has_3 ?_
  refine jj_iand F dX8_has_4 ?_
  refine jj_iconst F dX8_has_5 ?_
  refine jj_icmpx_ne F (tgt := 13) dX8_has_6 rfl (fun c6 => ?_) (fun c6 => ?_)
  · skip
    refine jj_iconst F dX8_has_13 ?_
    exact jj_zretr B dX8_has_14 ⟨Nat.le_of_ble_eq_true rfl, Nat.le_of_ble_eq_true rfl⟩ (by omega) (by unfold sHas; first | rw [if_pos c6] | rw [if_neg c6])
  · skip
    refine jj_iconst F dX8_has_9 ?_
    refine jj_goto F (tgt := 14) dX8_has_10 rfl ?_
    exact jj_zretr B dX8_has_14 ⟨Nat.le_of_ble_eq_true rfl, Nat.le_of_ble_eq_true rfl⟩ (by omega) (by unfold sHas; first | rw [if_pos c6] | rw [if_neg c6])
abbrev rm_X8_placeOf : Room := { frames := 6, cells := 1, slots := 6, locals := 90 }
set_option maxRecDepth 100000 in
set_option maxHeartbeats 400000 in
theorem k8_placeOf {l : Launch} {D : va_G} {ac : Nat → ClassId} (hl : l.stackTraces = false) {m n : Int}  {G : jj_G} (hm : jR m) (hn : jR n) : jj_C l D ac yX8_placeOf (.code yX8_placeOf cX8_placeOf 2 (some .int)) rm_X8_placeOf [.int (jI m), .int (jI n)] G (jj_pi (fun r G' => r = 4 * m + n ∧ ((0 ≤ m ∧ m ≤ 2) ∧ (0 ≤ n ∧ n ≤ 3)) ∧ G' = G)) (fun E => E = eB ∧ ¬ ((0 ≤ m ∧ m ≤ 2) ∧ (0 ≤ n ∧ n ≤ 3))) := by
  refine jj_ofx (own := RX8) (lv0 := [some (.int (jI m)), some (.int (jI n))]) hl (by decide +kernel) rfl rfl (Nat.le_of_ble_eq_true rfl) rfl ?_
  intro X B hN hl0 hdg hac hin
  subst hl0; subst hdg; subst hac
  have F := B.F

  refine jj_iload0 F dX8_placeOf_0 ?_
  refine jj_if_lt F (tgt := 18) dX8_placeOf_1 rfl (by omega) (fun c1 => ?_) (fun c1 => ?_)
  · skip
    exact jj_throwSW B th_1 sr_X8_422 rfl ⟨rfl, by omega⟩ ⟨Nat.le_of_ble_eq_true rfl, Nat.le_of_ble_eq_true rfl, Nat.le_of_ble_eq_true rfl, Nat.le_of_ble_eq_true rfl⟩ dX8_placeOf_18 dX8_placeOf_21 dX8_placeOf_22 dX8_placeOf_25 dX8_placeOf_28
  · skip
    refine jj_iload0 F dX8_placeOf_4 ?_
    refine jj_iconst F dX8_placeOf_5 ?_
    refine jj_icmp_ge F (tgt := 18) dX8_placeOf_6 rfl (by omega) (fun c6 => ?_) (fun c6 => ?_)
    · skip
      exact jj_throwSW B th_1 sr_X8_422 rfl ⟨rfl, by omega⟩ ⟨Nat.le_of_ble_eq_true rfl, Nat.le_of_ble_eq_true rfl, Nat.le_of_ble_eq_true rfl, Nat.le_of_ble_eq_true rfl⟩ dX8_placeOf_18 dX8_placeOf_21 dX8_placeOf_22 dX8_placeOf_25 dX8_placeOf_28
    · skip
      refine jj_iload1 F dX8_placeOf_9 ?_
      refine jj_if_lt F (tgt := 18) dX8_placeOf_10 rfl (by omega) (fun c10 => ?_) (fun c10 => ?_)
      · skip
        exact jj_throwSW B th_1 sr_X8_422 rfl ⟨rfl, by omega⟩ ⟨Nat.le_of_ble_eq_true rfl, Nat.le_of_ble_eq_true rfl, Nat.le_of_ble_eq_true rfl, Nat.le_of_ble_eq_true rfl⟩ dX8_placeOf_18 dX8_placeOf_21 dX8_placeOf_22 dX8_placeOf_25 dX8_placeOf_28
      · skip
        refine jj_iload1 F dX8_placeOf_13 ?_
        refine jj_iconst F dX8_placeOf_14 ?_
        refine jj_icmp_lt F (tgt := 29) dX8_placeOf_15 rfl (by omega) (fun c15 => ?_) (fun c15 => ?_)
        · skip
          refine jj_iload0 F dX8_placeOf_29 ?_
          refine jj_iconst F dX8_placeOf_30 ?_
          refine jj_imul F dX8_placeOf_31 ?_
          refine jj_iload1 F dX8_placeOf_32 ?_
          refine jj_iadd F dX8_placeOf_33 ?_
          exact jj_iret B dX8_placeOf_34 ⟨Nat.le_of_ble_eq_true rfl, Nat.le_of_ble_eq_true rfl⟩ (⟨_, rfl, by omega, by omega, rfl⟩)
        · skip
          exact jj_throwSW B th_1 sr_X8_422 rfl ⟨rfl, by omega⟩ ⟨Nat.le_of_ble_eq_true rfl, Nat.le_of_ble_eq_true rfl, Nat.le_of_ble_eq_true rfl, Nat.le_of_ble_eq_true rfl⟩ dX8_placeOf_18 dX8_placeOf_21 dX8_placeOf_22 dX8_placeOf_25 dX8_placeOf_28
abbrev rm_X8_tapeAt : Room := { frames := 6, cells := 1, slots := 6, locals := 90 }
set_option maxRecDepth 100000 in
set_option maxHeartbeats 400000 in
theorem k8_tapeAt {l : Launch} {D : va_G} {ac : Nat → ClassId} (hl : l.stackTraces = false) {ad : Ad} {s e : Sg} {t : Int}  {G : jj_G} (hH : Has ad (cC ac ad s e) G) (hv : jR t) (hb : s 1 0 ≤ 30) : jj_C l D ac yX8_tapeAt (.code yX8_tapeAt cX8_tapeAt 3 (some (.object "MatrixHouse$Tape"))) rm_X8_tapeAt [.ref (ad 0 0), .int (jI t)] G (jj_pq (fun r G' => r = some (ad 16 t) ∧ (0 ≤ t ∧ t ≤ s 1 0 - 1) ∧ G' = G)) (fun E => E = eB ∧ ¬ (0 ≤ t ∧ t ≤ s 1 0 - 1)) := by
  refine jj_ofx (own := RX8) (lv0 := [some (.ref (ad 0 0)), some (.int (jI t)), none]) hl (by decide +kernel) rfl rfl (Nat.le_of_ble_eq_true rfl) rfl ?_
  intro X B hN hl0 hdg hac hin
  subst hl0; subst hdg; subst hac
  have F := B.F

  refine jj_iload1 F dX8_tapeAt_0 ?_
  refine jj_if_lt F (tgt := 13) dX8_tapeAt_1 rfl (by omega) (fun c1 => ?_) (fun c1 => ?_)
  · skip
    refine jj_null F dX8_tapeAt_13 ?_
    refine jj_goto F (tgt := 23) dX8_tapeAt_14 rfl ?_
    refine jj_nstore2 F dX8_tapeAt_23 (hN _ (by decide)) rfl ?_
    refine jj_nload2 F dX8_tapeAt_24 ?_
    refine jj_ifnonnull F (r := none) (tgt := 39) dX8_tapeAt_25 rfl (fun _ h => by cases h) (fun _ => ?_)
    exact jj_throwSW B th_1 sr_X8_382 rfl ⟨rfl, by omega⟩ ⟨Nat.le_of_ble_eq_true rfl, Nat.le_of_ble_eq_true rfl, Nat.le_of_ble_eq_true rfl, Nat.le_of_ble_eq_true rfl⟩ dX8_tapeAt_28 dX8_tapeAt_31 dX8_tapeAt_32 dX8_tapeAt_35 dX8_tapeAt_38
  · skip
    refine jj_iload1 F dX8_tapeAt_4 ?_
    refine jj_aload0 F dX8_tapeAt_5 ?_
    refine jj_get F (hH.at (k := 0) (i := 0) cc_0) cs_8 (by decide) fd_X8_11 rfl dX8_tapeAt_6 ?_
    refine jj_alenQ F (fun _ => rfl) (hH.at (k := 1) (i := 0) cc_1) dX8_tapeAt_9 ?_
    refine jj_icmp_lt F (tgt := 17) dX8_tapeAt_10 rfl (by omega) (fun c10 => ?_) (fun c10 => ?_)
    · skip
      refine jj_aload0 F dX8_tapeAt_17 ?_
      refine jj_get F (hH.at (k := 0) (i := 0) cc_0) cs_8 (by decide) fd_X8_11 rfl dX8_tapeAt_18 ?_
      refine jj_iload1 F dX8_tapeAt_21 ?_
      refine jj_ald F (fun _ => rfl) (hH.at (k := 1) (i := 0) cc_1) (by omega) (by decide) dX8_tapeAt_22 ?_
      by_cases hq22 : t < s 1 0
      · skip
        refine jj_qv (rRow_at (show 0 ≤ t ∧ t < s 1 0 by omega)) ?_
        refine jj_astore2 F dX8_tapeAt_23 (hN _ (by decide)) rfl ?_
        refine jj_aload2 F dX8_tapeAt_24 ?_
        refine jj_ifnonnull F (r := some (ad 16 t)) (tgt := 39) dX8_tapeAt_25 rfl (fun _ _ => ?_) (fun h => by cases h)
        refine jj_aload2 F dX8_tapeAt_39 ?_
        exact jj_aret B (r := some (ad 16 t)) rfl dX8_tapeAt_40 ⟨Nat.le_of_ble_eq_true rfl, Nat.le_of_ble_eq_true rfl⟩ (⟨_, rfl, rfl, by omega, rfl⟩)
      · skip
        refine jj_qn (rRow_no (show ¬ (0 ≤ t ∧ t < s 1 0) by omega)) ?_
        refine jj_nstore2 F dX8_tapeAt_23 (hN _ (by decide)) rfl ?_
        refine jj_nload2 F dX8_tapeAt_24 ?_
        refine jj_ifnonnull F (r := none) (tgt := 39) dX8_tapeAt_25 rfl (fun _ h => by cases h) (fun _ => ?_)
        exact jj_throwSW B th_1 sr_X8_382 rfl ⟨rfl, by omega⟩ ⟨Nat.le_of_ble_eq_true rfl, Nat.le_of_ble_eq_true rfl, Nat.le_of_ble_eq_true rfl, Nat.le_of_ble_eq_true rfl⟩ dX8_tapeAt_28 dX8_tapeAt_31 dX8_tapeAt_32 dX8_tapeAt_35 dX8_tapeAt_38
    · skip
      refine jj_null F dX8_tapeAt_13 ?_
      refine jj_goto F (tgt := 23) dX8_tapeAt_14 rfl ?_
      refine jj_nstore2 F dX8_tapeAt_23 (hN _ (by decide)) rfl ?_
      refine jj_nload2 F dX8_tapeAt_24 ?_
      refine jj_ifnonnull F (r := none) (tgt := 39) dX8_tapeAt_25 rfl (fun _ h => by cases h) (fun _ => ?_)
      exact jj_throwSW B th_1 sr_X8_382 rfl ⟨rfl, by omega⟩ ⟨Nat.le_of_ble_eq_true rfl, Nat.le_of_ble_eq_true rfl, Nat.le_of_ble_eq_true rfl, Nat.le_of_ble_eq_true rfl⟩ dX8_tapeAt_28 dX8_tapeAt_31 dX8_tapeAt_32 dX8_tapeAt_35 dX8_tapeAt_38
abbrev rn_X8_tapeAt : Room := { frames := 6, cells := 0, slots := 0, locals := 90 }
set_option maxRecDepth 100000 in
set_option maxHeartbeats 400000 in
theorem k8_tapeAt_in {l : Launch} {D : va_G} {ac : Nat → ClassId} (hl : l.stackTraces = false) {ad : Ad} {s e : Sg} {t : Int}  {G : jj_G} (hH : Has ad (cC ac ad s e) G) (hb : s 1 0 ≤ 30) (hv : 0 ≤ t ∧ t < s 1 0) : jj_C l D ac yX8_tapeAt (.code yX8_tapeAt cX8_tapeAt 3 (some (.object "MatrixHouse$Tape"))) rn_X8_tapeAt [.ref (ad 0 0), .int (jI t)] G (jj_pq (fun r G' => r = some (ad 16 t) ∧ G' = G)) (jj_nx) := by
  refine jj_ofx (own := RX8) (lv0 := [some (.ref (ad 0 0)), some (.int (jI t)), none]) hl (by decide +kernel) rfl rfl (Nat.le_of_ble_eq_true rfl) rfl ?_
  intro X B hN hl0 hdg hac hin
  subst hl0; subst hdg; subst hac
  have F := B.F

  refine jj_iload1 F dX8_tapeAt_0 ?_
  refine jj_if_lt F (tgt := 13) dX8_tapeAt_1 rfl (by omega) (fun c1 => by exfalso; omega) (fun c1 => ?_)
  refine jj_iload1 F dX8_tapeAt_4 ?_
  refine jj_aload0 F dX8_tapeAt_5 ?_
  refine jj_get F (hH.at (k := 0) (i := 0) cc_0) cs_8 (by decide) fd_X8_11 rfl dX8_tapeAt_6 ?_
  refine jj_alenQ F (fun _ => rfl) (hH.at (k := 1) (i := 0) cc_1) dX8_tapeAt_9 ?_
  refine jj_icmp_lt F (tgt := 17) dX8_tapeAt_10 rfl (by omega) (fun c10 => ?_) (fun c10 => by exfalso; omega)
  refine jj_aload0 F dX8_tapeAt_17 ?_
  refine jj_get F (hH.at (k := 0) (i := 0) cc_0) cs_8 (by decide) fd_X8_11 rfl dX8_tapeAt_18 ?_
  refine jj_iload1 F dX8_tapeAt_21 ?_
  refine jj_ald F (fun _ => rfl) (hH.at (k := 1) (i := 0) cc_1) (by omega) (by decide) dX8_tapeAt_22 ?_
  refine jj_qv (rRow_at (show 0 ≤ t ∧ t < s 1 0 by omega)) ?_
  refine jj_astore2 F dX8_tapeAt_23 (hN _ (by decide)) rfl ?_
  refine jj_aload2 F dX8_tapeAt_24 ?_
  refine jj_ifnonnull F (r := some (ad 16 t)) (tgt := 39) dX8_tapeAt_25 rfl (fun _ _ => ?_) (fun h => by cases h)
  refine jj_aload2 F dX8_tapeAt_39 ?_
  exact jj_aret B (r := some (ad 16 t)) rfl dX8_tapeAt_40 ⟨Nat.le_of_ble_eq_true rfl, Nat.le_of_ble_eq_true rfl⟩ (⟨_, rfl, rfl, rfl⟩)
abbrev rm_X8_sideAt : Room := { frames := 6, cells := 1, slots := 6, locals := 90 }
set_option maxRecDepth 100000 in
set_option maxHeartbeats 400000 in
theorem k8_sideAt {l : Launch} {D : va_G} {ac : Nat → ClassId} (hl : l.stackTraces = false) {ad : Ad} {s e : Sg} {d : Int}  {G : jj_G} (hH : Has ad (cC ac ad s e) G) (hv : jR d) (hb : s 13 0 ≤ 10) : jj_C l D ac yX8_sideAt (.code yX8_sideAt cX8_sideAt 3 (some (.object "MatrixHouse$Side"))) rm_X8_sideAt [.ref (ad 0 0), .int (jI d)] G (jj_pq (fun r G' => r = some (ad 20 d) ∧ (0 ≤ d ∧ d ≤ s 13 0 - 1) ∧ G' = G)) (fun E => E = eB ∧ ¬ (0 ≤ d ∧ d ≤ s 13 0 - 1)) := by
  refine jj_ofx (own := RX8) (lv0 := [some (.ref (ad 0 0)), some (.int (jI d)), none]) hl (by decide +kernel) rfl rfl (Nat.le_of_ble_eq_true rfl) rfl ?_
  intro X B hN hl0 hdg hac hin
  subst hl0; subst hdg; subst hac
  have F := B.F

  refine jj_iload1 F dX8_sideAt_0 ?_
  refine jj_if_lt F (tgt := 13) dX8_sideAt_1 rfl (by omega) (fun c1 => ?_) (fun c1 => ?_)
  · skip
    refine jj_null F dX8_sideAt_13 ?_
    refine jj_goto F (tgt := 23) dX8_sideAt_14 rfl ?_
    refine jj_nstore2 F dX8_sideAt_23 (hN _ (by decide)) rfl ?_
    refine jj_nload2 F dX8_sideAt_24 ?_
    refine jj_ifnonnull F (r := none) (tgt := 39) dX8_sideAt_25 rfl (fun _ h => by cases h) (fun _ => ?_)
    exact jj_throwSW B th_1 sr_X8_384 rfl ⟨rfl, by omega⟩ ⟨Nat.le_of_ble_eq_true rfl, Nat.le_of_ble_eq_true rfl, Nat.le_of_ble_eq_true rfl, Nat.le_of_ble_eq_true rfl⟩ dX8_sideAt_28 dX8_sideAt_31 dX8_sideAt_32 dX8_sideAt_35 dX8_sideAt_38
  · skip
    refine jj_iload1 F dX8_sideAt_4 ?_
    refine jj_aload0 F dX8_sideAt_5 ?_
    refine jj_get F (hH.at (k := 0) (i := 0) cc_0) cs_8 (by decide) fd_X8_24 rfl dX8_sideAt_6 ?_
    refine jj_alenQ F (fun _ => rfl) (hH.at (k := 2) (i := 0) cc_2) dX8_sideAt_9 ?_
    refine jj_icmp_lt F (tgt := 17) dX8_sideAt_10 rfl (by omega) (fun c10 => ?_) (fun c10 => ?_)
    · skip
      refine jj_aload0 F dX8_sideAt_17 ?_
      refine jj_get F (hH.at (k := 0) (i := 0) cc_0) cs_8 (by decide) fd_X8_24 rfl dX8_sideAt_18 ?_
      refine jj_iload1 F dX8_sideAt_21 ?_
      refine jj_ald F (fun _ => rfl) (hH.at (k := 2) (i := 0) cc_2) (by omega) (by decide) dX8_sideAt_22 ?_
      by_cases hq22 : d < s 13 0
      · skip
        refine jj_qv (rRow_at (show 0 ≤ d ∧ d < s 13 0 by omega)) ?_
        refine jj_astore2 F dX8_sideAt_23 (hN _ (by decide)) rfl ?_
        refine jj_aload2 F dX8_sideAt_24 ?_
        refine jj_ifnonnull F (r := some (ad 20 d)) (tgt := 39) dX8_sideAt_25 rfl (fun _ _ => ?_) (fun h => by cases h)
        refine jj_aload2 F dX8_sideAt_39 ?_
        exact jj_aret B (r := some (ad 20 d)) rfl dX8_sideAt_40 ⟨Nat.le_of_ble_eq_true rfl, Nat.le_of_ble_eq_true rfl⟩ (⟨_, rfl, rfl, by omega, rfl⟩)
      · skip
        refine jj_qn (rRow_no (show ¬ (0 ≤ d ∧ d < s 13 0) by omega)) ?_
        refine jj_nstore2 F dX8_sideAt_23 (hN _ (by decide)) rfl ?_
        refine jj_nload2 F dX8_sideAt_24 ?_
        refine jj_ifnonnull F (r := none) (tgt := 39) dX8_sideAt_25 rfl (fun _ h => by cases h) (fun _ => ?_)
        exact jj_throwSW B th_1 sr_X8_384 rfl ⟨rfl, by omega⟩ ⟨Nat.le_of_ble_eq_true rfl, Nat.le_of_ble_eq_true rfl, Nat.le_of_ble_eq_true rfl, Nat.le_of_ble_eq_true rfl⟩ dX8_sideAt_28 dX8_sideAt_31 dX8_sideAt_32 dX8_sideAt_35 dX8_sideAt_38
    · skip
      refine jj_null F dX8_sideAt_13 ?_
      refine jj_goto F (tgt := 23) dX8_sideAt_14 rfl ?_
      refine jj_nstore2 F dX8_sideAt_23 (hN _ (by decide)) rfl ?_
      refine jj_nload2 F dX8_sideAt_24 ?_
      refine jj_ifnonnull F (r := none) (tgt := 39) dX8_sideAt_25 rfl (fun _ h => by cases h) (fun _ => ?_)
      exact jj_throwSW B th_1 sr_X8_384 rfl ⟨rfl, by omega⟩ ⟨Nat.le_of_ble_eq_true rfl, Nat.le_of_ble_eq_true rfl, Nat.le_of_ble_eq_true rfl, Nat.le_of_ble_eq_true rfl⟩ dX8_sideAt_28 dX8_sideAt_31 dX8_sideAt_32 dX8_sideAt_35 dX8_sideAt_38
abbrev rn_X8_sideAt : Room := { frames := 6, cells := 0, slots := 0, locals := 90 }
set_option maxRecDepth 100000 in
set_option maxHeartbeats 400000 in
theorem k8_sideAt_in {l : Launch} {D : va_G} {ac : Nat → ClassId} (hl : l.stackTraces = false) {ad : Ad} {s e : Sg} {d : Int}  {G : jj_G} (hH : Has ad (cC ac ad s e) G) (hb : s 13 0 ≤ 10) (hv : 0 ≤ d ∧ d < s 13 0) : jj_C l D ac yX8_sideAt (.code yX8_sideAt cX8_sideAt 3 (some (.object "MatrixHouse$Side"))) rn_X8_sideAt [.ref (ad 0 0), .int (jI d)] G (jj_pq (fun r G' => r = some (ad 20 d) ∧ G' = G)) (jj_nx) := by
  refine jj_ofx (own := RX8) (lv0 := [some (.ref (ad 0 0)), some (.int (jI d)), none]) hl (by decide +kernel) rfl rfl (Nat.le_of_ble_eq_true rfl) rfl ?_
  intro X B hN hl0 hdg hac hin
  subst hl0; subst hdg; subst hac
  have F := B.F

  refine jj_iload1 F dX8_sideAt_0 ?_
  refine jj_if_lt F (tgt := 13) dX8_sideAt_1 rfl (by omega) (fun c1 => by exfalso; omega) (fun c1 => ?_)
  refine jj_iload1 F dX8_sideAt_4 ?_
  refine jj_aload0 F dX8_sideAt_5 ?_
  refine jj_get F (hH.at (k := 0) (i := 0) cc_0) cs_8 (by decide) fd_X8_24 rfl dX8_sideAt_6 ?_
  refine jj_alenQ F (fun _ => rfl) (hH.at (k := 2) (i := 0) cc_2) dX8_sideAt_9 ?_
  refine jj_icmp_lt F (tgt := 17) dX8_sideAt_10 rfl (by omega) (fun c10 => ?_) (fun c10 => by exfalso; omega)
  refine jj_aload0 F dX8_sideAt_17 ?_
  refine jj_get F (hH.at (k := 0) (i := 0) cc_0) cs_8 (by decide) fd_X8_24 rfl dX8_sideAt_18 ?_
  refine jj_iload1 F dX8_sideAt_21 ?_
  refine jj_ald F (fun _ => rfl) (hH.at (k := 2) (i := 0) cc_2) (by omega) (by decide) dX8_sideAt_22 ?_
  refine jj_qv (rRow_at (show 0 ≤ d ∧ d < s 13 0 by omega)) ?_
  refine jj_astore2 F dX8_sideAt_23 (hN _ (by decide)) rfl ?_
  refine jj_aload2 F dX8_sideAt_24 ?_
  refine jj_ifnonnull F (r := some (ad 20 d)) (tgt := 39) dX8_sideAt_25 rfl (fun _ _ => ?_) (fun h => by cases h)
  refine jj_aload2 F dX8_sideAt_39 ?_
  exact jj_aret B (r := some (ad 20 d)) rfl dX8_sideAt_40 ⟨Nat.le_of_ble_eq_true rfl, Nat.le_of_ble_eq_true rfl⟩ (⟨_, rfl, rfl, rfl⟩)
abbrev rm_X8_discAt : Room := { frames := 6, cells := 1, slots := 6, locals := 90 }
set_option maxRecDepth 100000 in
set_option maxHeartbeats 400000 in
theorem k8_discAt {l : Launch} {D : va_G} {ac : Nat → ClassId} (hl : l.stackTraces = false) {ad : Ad} {s e : Sg} {d : Int}  {G : jj_G} (hH : Has ad (cC ac ad s e) G) (hv : jR d) (hb : s 22 0 ≤ 20) : jj_C l D ac yX8_discAt (.code yX8_discAt cX8_discAt 3 (some (.object "MatrixHouse$Disc"))) rm_X8_discAt [.ref (ad 0 0), .int (jI d)] G (jj_pq (fun r G' => r = some (ad 24 d) ∧ (0 ≤ d ∧ d ≤ s 22 0 - 1) ∧ G' = G)) (fun E => E = eB ∧ ¬ (0 ≤ d ∧ d ≤ s 22 0 - 1)) := by
  refine jj_ofx (own := RX8) (lv0 := [some (.ref (ad 0 0)), some (.int (jI d)), none]) hl (by decide +kernel) rfl rfl (Nat.le_of_ble_eq_true rfl) rfl ?_
  intro X B hN hl0 hdg hac hin
  subst hl0; subst hdg; subst hac
  have F := B.F

  refine jj_iload1 F dX8_discAt_0 ?_
  refine jj_if_lt F (tgt := 13) dX8_discAt_1 rfl (by omega) (fun c1 => ?_) (fun c1 => ?_)
  · skip
    refine jj_null F dX8_discAt_13 ?_
    refine jj_goto F (tgt := 23) dX8_discAt_14 rfl ?_
    refine jj_nstore2 F dX8_discAt_23 (hN _ (by decide)) rfl ?_
    refine jj_nload2 F dX8_discAt_24 ?_
    refine jj_ifnonnull F (r := none) (tgt := 39) dX8_discAt_25 rfl (fun _ h => by cases h) (fun _ => ?_)
    exact jj_throwSW B th_1 sr_X8_386 rfl ⟨rfl, by omega⟩ ⟨Nat.le_of_ble_eq_true rfl, Nat.le_of_ble_eq_true rfl, Nat.le_of_ble_eq_true rfl, Nat.le_of_ble_eq_true rfl⟩ dX8_discAt_28 dX8_discAt_31 dX8_discAt_32 dX8_discAt_35 dX8_discAt_38
  · skip
    refine jj_iload1 F dX8_discAt_4 ?_
    refine jj_aload0 F dX8_discAt_5 ?_
    refine jj_get F (hH.at (k := 0) (i := 0) cc_0) cs_8 (by decide) fd_X8_30 rfl dX8_discAt_6 ?_
    refine jj_alenQ F (fun _ => rfl) (hH.at (k := 3) (i := 0) cc_3) dX8_discAt_9 ?_
    refine jj_icmp_lt F (tgt := 17) dX8_discAt_10 rfl (by omega) (fun c10 => ?_) (fun c10 => ?_)
    · skip
      refine jj_aload0 F dX8_discAt_17 ?_
      refine jj_get F (hH.at (k := 0) (i := 0) cc_0) cs_8 (by decide) fd_X8_30 rfl dX8_discAt_18 ?_
      refine jj_iload1 F dX8_discAt_21 ?_
      refine jj_ald F (fun _ => rfl) (hH.at (k := 3) (i := 0) cc_3) (by omega) (by decide) dX8_discAt_22 ?_
      by_cases hq22 : d < s 22 0
      · skip
        refine jj_qv (rRow_at (show 0 ≤ d ∧ d < s 22 0 by omega)) ?_
        refine jj_astore2 F dX8_discAt_23 (hN _ (by decide)) rfl ?_
        refine jj_aload2 F dX8_discAt_24 ?_
        refine jj_ifnonnull F (r := some (ad 24 d)) (tgt := 39) dX8_discAt_25 rfl (fun _ _ => ?_) (fun h => by cases h)
        refine jj_aload2 F dX8_discAt_39 ?_
        exact jj_aret B (r := some (ad 24 d)) rfl dX8_discAt_40 ⟨Nat.le_of_ble_eq_true rfl, Nat.le_of_ble_eq_true rfl⟩ (⟨_, rfl, rfl, by omega, rfl⟩)
      · skip
        refine jj_qn (rRow_no (show ¬ (0 ≤ d ∧ d < s 22 0) by omega)) ?_
        refine jj_nstore2 F dX8_discAt_23 (hN _ (by decide)) rfl ?_
        refine jj_nload2 F dX8_discAt_24 ?_
        refine jj_ifnonnull F (r := none) (tgt := 39) dX8_discAt_25 rfl (fun _ h => by cases h) (fun _ => ?_)
        exact jj_throwSW B th_1 sr_X8_386 rfl ⟨rfl, by omega⟩ ⟨Nat.le_of_ble_eq_true rfl, Nat.le_of_ble_eq_true rfl, Nat.le_of_ble_eq_true rfl, Nat.le_of_ble_eq_true rfl⟩ dX8_discAt_28 dX8_discAt_31 dX8_discAt_32 dX8_discAt_35 dX8_discAt_38
    · skip
      refine jj_null F dX8_discAt_13 ?_
      refine jj_goto F (tgt := 23) dX8_discAt_14 rfl ?_
      refine jj_nstore2 F dX8_discAt_23 (hN _ (by decide)) rfl ?_
      refine jj_nload2 F dX8_discAt_24 ?_
      refine jj_ifnonnull F (r := none) (tgt := 39) dX8_discAt_25 rfl (fun _ h => by cases h) (fun _ => ?_)
      exact jj_throwSW B th_1 sr_X8_386 rfl ⟨rfl, by omega⟩ ⟨Nat.le_of_ble_eq_true rfl, Nat.le_of_ble_eq_true rfl, Nat.le_of_ble_eq_true rfl, Nat.le_of_ble_eq_true rfl⟩ dX8_discAt_28 dX8_discAt_31 dX8_discAt_32 dX8_discAt_35 dX8_discAt_38
abbrev rn_X8_discAt : Room := { frames := 6, cells := 0, slots := 0, locals := 90 }
set_option maxRecDepth 100000 in
set_option maxHeartbeats 400000 in
theorem k8_discAt_in {l : Launch} {D : va_G} {ac : Nat → ClassId} (hl : l.stackTraces = false) {ad : Ad} {s e : Sg} {d : Int}  {G : jj_G} (hH : Has ad (cC ac ad s e) G) (hb : s 22 0 ≤ 20) (hv : 0 ≤ d ∧ d < s 22 0) : jj_C l D ac yX8_discAt (.code yX8_discAt cX8_discAt 3 (some (.object "MatrixHouse$Disc"))) rn_X8_discAt [.ref (ad 0 0), .int (jI d)] G (jj_pq (fun r G' => r = some (ad 24 d) ∧ G' = G)) (jj_nx) := by
  refine jj_ofx (own := RX8) (lv0 := [some (.ref (ad 0 0)), some (.int (jI d)), none]) hl (by decide +kernel) rfl rfl (Nat.le_of_ble_eq_true rfl) rfl ?_
  intro X B hN hl0 hdg hac hin
  subst hl0; subst hdg; subst hac
  have F := B.F

  refine jj_iload1 F dX8_discAt_0 ?_
  refine jj_if_lt F (tgt := 13) dX8_discAt_1 rfl (by omega) (fun c1 => by exfalso; omega) (fun c1 => ?_)
  refine jj_iload1 F dX8_discAt_4 ?_
  refine jj_aload0 F dX8_discAt_5 ?_
  refine jj_get F (hH.at (k := 0) (i := 0) cc_0) cs_8 (by decide) fd_X8_30 rfl dX8_discAt_6 ?_
  refine jj_alenQ F (fun _ => rfl) (hH.at (k := 3) (i := 0) cc_3) dX8_discAt_9 ?_
  refine jj_icmp_lt F (tgt := 17) dX8_discAt_10 rfl (by omega) (fun c10 => ?_) (fun c10 => by exfalso; omega)
  refine jj_aload0 F dX8_discAt_17 ?_
  refine jj_get F (hH.at (k := 0) (i := 0) cc_0) cs_8 (by decide) fd_X8_30 rfl dX8_discAt_18 ?_
  refine jj_iload1 F dX8_discAt_21 ?_
  refine jj_ald F (fun _ => rfl) (hH.at (k := 3) (i := 0) cc_3) (by omega) (by decide) dX8_discAt_22 ?_
  refine jj_qv (rRow_at (show 0 ≤ d ∧ d < s 22 0 by omega)) ?_
  refine jj_astore2 F dX8_discAt_23 (hN _ (by decide)) rfl ?_
  refine jj_aload2 F dX8_discAt_24 ?_
  refine jj_ifnonnull F (r := some (ad 24 d)) (tgt := 39) dX8_discAt_25 rfl (fun _ _ => ?_) (fun h => by cases h)
  refine jj_aload2 F dX8_discAt_39 ?_
  exact jj_aret B (r := some (ad 24 d)) rfl dX8_discAt_40 ⟨Nat.le_of_ble_eq_true rfl, Nat.le_of_ble_eq_true rfl⟩ (⟨_, rfl, rfl, rfl⟩)
abbrev rm_X8_nextTape : Room := { frames := 6, cells := 1, slots := 6, locals := 90 }
set_option maxRecDepth 100000 in
set_option maxHeartbeats 400000 in
theorem k8_nextTape {l : Launch} {D : va_G} {ac : Nat → ClassId} (hl : l.stackTraces = false) {ad : Ad} {s e : Sg}  {G : jj_G} (hH : Has ad (cC ac ad s e) G) (hb : 0 ≤ s 1 0 ∧ s 1 0 ≤ 30) : jj_C l D ac yX8_nextTape (.code yX8_nextTape cX8_nextTape 1 (some .int)) rm_X8_nextTape [.ref (ad 0 0)] G (jj_pi (fun r G' => r = s 1 0 ∧ s 1 0 < 30 ∧ G' = G)) (fun E => E = eS ∧ s 1 0 = 30) := by
  refine jj_ofx (own := RX8) (lv0 := [some (.ref (ad 0 0))]) hl (by decide +kernel) rfl rfl (Nat.le_of_ble_eq_true rfl) rfl ?_
  intro X B hN hl0 hdg hac hin
  subst hl0; subst hdg; subst hac
  have F := B.F

  refine jj_aload0 F dX8_nextTape_0 ?_
  refine jj_get F (hH.at (k := 0) (i := 0) cc_0) cs_8 (by decide) fd_X8_69 rfl dX8_nextTape_1 ?_
  refine jj_if_lt F (tgt := 19) dX8_nextTape_4 rfl (by omega) (fun c4 => by exfalso; omega) (fun c4 => ?_)
  refine jj_aload0 F dX8_nextTape_7 ?_
  refine jj_get F (hH.at (k := 0) (i := 0) cc_0) cs_8 (by decide) fd_X8_69 rfl dX8_nextTape_8 ?_
  refine jj_aload0 F dX8_nextTape_11 ?_
  refine jj_get F (hH.at (k := 0) (i := 0) cc_0) cs_8 (by decide) fd_X8_11 rfl dX8_nextTape_12 ?_
  refine jj_alenQ F (fun _ => rfl) (hH.at (k := 1) (i := 0) cc_1) dX8_nextTape_15 ?_
  refine jj_icmp_lt F (tgt := 30) dX8_nextTape_16 rfl (by omega) (fun c16 => ?_) (fun c16 => ?_)
  · skip
    refine jj_aload0 F dX8_nextTape_30 ?_
    refine jj_get F (hH.at (k := 0) (i := 0) cc_0) cs_8 (by decide) fd_X8_69 rfl dX8_nextTape_31 ?_
    exact jj_iret B dX8_nextTape_34 ⟨Nat.le_of_ble_eq_true rfl, Nat.le_of_ble_eq_true rfl⟩ (⟨_, rfl, rfl, by omega, rfl⟩)
  · skip
    exact jj_throwSW B th_3 sr_X8_388 rfl ⟨rfl, by omega⟩ ⟨Nat.le_of_ble_eq_true rfl, Nat.le_of_ble_eq_true rfl, Nat.le_of_ble_eq_true rfl, Nat.le_of_ble_eq_true rfl⟩ dX8_nextTape_19 dX8_nextTape_22 dX8_nextTape_23 dX8_nextTape_26 dX8_nextTape_29
abbrev rm_X8_requirePlayable : Room := { frames := 6, cells := 1, slots := 6, locals := 90 }
set_option maxRecDepth 100000 in
set_option maxHeartbeats 400000 in
theorem k8_requirePlayable {l : Launch} {D : va_G} {ac : Nat → ClassId} (hl : l.stackTraces = false) {ad : Ad} {s e : Sg} {t : Int}  {G : jj_G} (hH : Has ad (cC ac ad s e) G) (hI : sI1 s) (ht : 0 ≤ t ∧ t < s 1 0)  : jj_C l D ac yX8_requirePlayable (.code yX8_requirePlayable cX8_requirePlayable 2 none) rm_X8_requirePlayable [.ref (ad 0 0), .ref (ad 16 t)] G (jj_pv (fun G' => ¬ sPlay s t = 0 ∧ G' = G)) (fun E => E = eS ∧ sPlay s t = 0) := by
  refine jj_ofx (own := RX8) (lv0 := [some (.ref (ad 0 0)), some (.ref (ad 16 t))]) hl (by decide +kernel) rfl rfl (Nat.le_of_ble_eq_true rfl) rfl ?_
  intro X B hN hl0 hdg hac hin
  subst hl0; subst hdg; subst hac
  have F := B.F

  refine jj_aload1 F dX8_requirePlayable_0 ?_
  refine jj_aload0 F dX8_requirePlayable_1 ?_
  refine jj_get F (hH.at (k := 0) (i := 0) cc_0) cs_8 (by decide) fd_X8_108 rfl dX8_requirePlayable_2 ?_
  refine jj_callVr B (k := 0) (n := 0) (k7_isPlayable F.tr hH hI ht hI.1) lk_X8_117 (hH.at (k := 16) (i := t) (if_pos (by omega))) cs_7 rfl rfl ⟨Nat.le_of_ble_eq_true rfl, Nat.le_of_ble_eq_true rfl, Nat.le_of_ble_eq_true rfl, Nat.le_of_ble_eq_true rfl, Nat.le_of_ble_eq_true rfl⟩ ⟨Nat.le_of_ble_eq_true rfl, Nat.le_of_ble_eq_true rfl, Nat.le_of_ble_eq_true rfl, Nat.le_of_ble_eq_true rfl⟩ jj_tx0 dX8_requirePlayable_5 ?_
  refine jj_eqi (b := sPlay s t) rfl ?_
  refine jj_if_ne F (tgt := 22) dX8_requirePlayable_8 rfl (by have := sPlay_01 s t; omega) (fun c8 => ?_) (fun c8 => ?_)
  · skip
    exact jj_vret B dX8_requirePlayable_22 ⟨Nat.le_of_ble_eq_true rfl, Nat.le_of_ble_eq_true rfl⟩ (⟨rfl, by omega, rfl⟩)
  · skip
    exact jj_throwSW B th_3 sr_X8_380 rfl ⟨rfl, by omega⟩ ⟨Nat.le_of_ble_eq_true rfl, Nat.le_of_ble_eq_true rfl, Nat.le_of_ble_eq_true rfl, Nat.le_of_ble_eq_true rfl⟩ dX8_requirePlayable_11 dX8_requirePlayable_14 dX8_requirePlayable_15 dX8_requirePlayable_18 dX8_requirePlayable_21
abbrev rm_X8_hasWhatItNeeds : Room := { frames := 1, cells := 0, slots := 0, locals := 21 }
set_option maxRecDepth 100000 in
set_option maxHeartbeats 400000 in
theorem k8_hasWhatItNeeds {l : Launch} {D : va_G} {ac : Nat → ClassId} (hl : l.stackTraces = false) {ad : Ad} {s e : Sg} {d p : Int}  {G : jj_G} (hH : Has ad (cC ac ad s e) G) (hd : 0 ≤ d ∧ d < s 13 0) (hp : 0 ≤ p ∧ p < 12)  : jj_C l D ac yX8_hasWhatItNeeds (.code yX8_hasWhatItNeeds cX8_hasWhatItNeeds 4 (some .boolean)) rm_X8_hasWhatItNeeds [.ref (ad 20 d), .int (jI p)] G (jj_ri (sNeeds s (12 * d + p)) G) (jj_nx) := by
  refine jj_ofx (own := RX8) (lv0 := [some (.ref (ad 20 d)), some (.int (jI p)), none, none]) hl (by decide +kernel) rfl rfl (Nat.le_of_ble_eq_true rfl) rfl ?_
  intro X B hN hl0 hdg hac hin
  subst hl0; subst hdg; subst hac
  have F := B.F

  refine jj_iload1 F dX8_hasWhatItNeeds_0 ?_
  refine jj_if_ne F (tgt := 6) dX8_hasWhatItNeeds_1 rfl (by omega) (fun c1 => ?_) (fun c1 => ?_)
  · skip
    refine jj_iload1 F dX8_hasWhatItNeeds_6 ?_
    refine jj_iconst F dX8_hasWhatItNeeds_7 ?_
    refine jj_irem F (by omega) dX8_hasWhatItNeeds_8 ?_
    refine jj_if_ne F (tgt := 16) dX8_hasWhatItNeeds_9 rfl (by omega) (fun c9 => ?_) (fun c9 => ?_)
    · skip
      refine jj_iconst F dX8_hasWhatItNeeds_16 ?_
      refine jj_istore2 F dX8_hasWhatItNeeds_17 (hN _ (by decide)) rfl ?_
      refine jj_iload2 F dX8_hasWhatItNeeds_18 ?_
      refine jj_if_eq F (tgt := 28) dX8_hasWhatItNeeds_19 rfl (by omega) (fun c19 => ?_) (fun c19 => by exfalso; omega)
      refine jj_iload1 F dX8_hasWhatItNeeds_28 ?_
      refine jj_iconst F dX8_hasWhatItNeeds_29 ?_
      refine jj_isub F dX8_hasWhatItNeeds_30 ?_
      refine jj_istore3 F dX8_hasWhatItNeeds_31 (hN _ (by decide)) rfl ?_
      refine jj_aload0 F dX8_hasWhatItNeeds_32 ?_
      refine jj_iload3 F dX8_hasWhatItNeeds_33 ?_
      refine jj_callVq B (k := 0) (n := 0) (k4_stamperAt F.tr hH hd (p := (p - 1)) (by omega)) lk_X8_200 (hH.at (k := 20) (i := d) (if_pos (by omega))) cs_4 rfl rfl ⟨Nat.le_of_ble_eq_true rfl, Nat.le_of_ble_eq_true rfl, Nat.le_of_ble_eq_true rfl, Nat.le_of_ble_eq_true rfl, Nat.le_of_ble_eq_true rfl⟩ ⟨Nat.le_of_ble_eq_true rfl, Nat.le_of_ble_eq_true rfl, Nat.le_of_ble_eq_true rfl, Nat.le_of_ble_eq_true rfl⟩ jj_tx0 dX8_hasWhatItNeeds_34 (fun r G h => ?_)
      obtain ⟨rfl, rfl⟩ := h
      by_cases hq34 : s 16 (12 * d + (p - 1)) = -1
      · skip
        refine jj_qn (mRow_no (fun h => h.2 hq34)) ?_
        refine jj_ifnull F (r := none) (tgt := 44) dX8_hasWhatItNeeds_37 rfl (fun _ => ?_) (fun _ h => by cases h)
        refine jj_iconst F dX8_hasWhatItNeeds_44 ?_
        exact jj_zretr B dX8_hasWhatItNeeds_45 ⟨Nat.le_of_ble_eq_true rfl, Nat.le_of_ble_eq_true rfl⟩ (by omega) (by have hn : sNeed (12 * d + p) = 12 * d + (p - 1) := (by unfold sNeed; rw [if_neg (by omega)]; first | (rw [if_pos (by omega)]; omega) | (rw [if_neg (by omega)]; omega)); unfold sNeeds; rw [hn]; first | rw [if_pos (Or.inr hq34)] | rw [if_neg (fun h => h.elim (by omega) (fun h => h hq34))])
      · skip
        refine jj_qv (mRow_at ⟨by omega, hq34⟩) ?_
        refine jj_ifnull F (r := some (ad 23 (12 * d + (p - 1)))) (tgt := 44) dX8_hasWhatItNeeds_37 rfl (fun h => by cases h) (fun _ _ => ?_)
        refine jj_iconst F dX8_hasWhatItNeeds_40 ?_
        refine jj_goto F (tgt := 45) dX8_hasWhatItNeeds_41 rfl ?_
        exact jj_zretr B dX8_hasWhatItNeeds_45 ⟨Nat.le_of_ble_eq_true rfl, Nat.le_of_ble_eq_true rfl⟩ (by omega) (by have hn : sNeed (12 * d + p) = 12 * d + (p - 1) := (by unfold sNeed; rw [if_neg (by omega)]; first | (rw [if_pos (by omega)]; omega) | (rw [if_neg (by omega)]; omega)); unfold sNeeds; rw [hn]; first | rw [if_pos (Or.inr hq34)] | rw [if_neg (fun h => h.elim (by omega) (fun h => h hq34))])
    · skip
      refine jj_iconst F dX8_hasWhatItNeeds_12 ?_
      refine jj_goto F (tgt := 17) dX8_hasWhatItNeeds_13 rfl ?_
      refine jj_istore2 F dX8_hasWhatItNeeds_17 (hN _ (by decide)) rfl ?_
      refine jj_iload2 F dX8_hasWhatItNeeds_18 ?_
      refine jj_if_eq F (tgt := 28) dX8_hasWhatItNeeds_19 rfl (by omega) (fun c19 => by exfalso; omega) (fun c19 => ?_)
      refine jj_iload1 F dX8_hasWhatItNeeds_22 ?_
      refine jj_iconst F dX8_hasWhatItNeeds_23 ?_
      refine jj_isub F dX8_hasWhatItNeeds_24 ?_
      refine jj_goto F (tgt := 31) dX8_hasWhatItNeeds_25 rfl ?_
      refine jj_istore3 F dX8_hasWhatItNeeds_31 (hN _ (by decide)) rfl ?_
      refine jj_aload0 F dX8_hasWhatItNeeds_32 ?_
      refine jj_iload3 F dX8_hasWhatItNeeds_33 ?_
      refine jj_callVq B (k := 0) (n := 0) (k4_stamperAt F.tr hH hd (p := (p - 4)) (by omega)) lk_X8_200 (hH.at (k := 20) (i := d) (if_pos (by omega))) cs_4 rfl rfl ⟨Nat.le_of_ble_eq_true rfl, Nat.le_of_ble_eq_true rfl, Nat.le_of_ble_eq_true rfl, Nat.le_of_ble_eq_true rfl, Nat.le_of_ble_eq_true rfl⟩ ⟨Nat.le_of_ble_eq_true rfl, Nat.le_of_ble_eq_true rfl, Nat.le_of_ble_eq_true rfl, Nat.le_of_ble_eq_true rfl⟩ jj_tx0 dX8_hasWhatItNeeds_34 (fun r G h => ?_)
      obtain ⟨rfl, rfl⟩ := h
      by_cases hq34 : s 16 (12 * d + (p - 4)) = -1
      · skip
        refine jj_qn (mRow_no (fun h => h.2 hq34)) ?_
        refine jj_ifnull F (r := none) (tgt := 44) dX8_hasWhatItNeeds_37 rfl (fun _ => ?_) (fun _ h => by cases h)
        refine jj_iconst F dX8_hasWhatItNeeds_44 ?_
        exact jj_zretr B dX8_hasWhatItNeeds_45 ⟨Nat.le_of_ble_eq_true rfl, Nat.le_of_ble_eq_true rfl⟩ (by omega) (by have hn : sNeed (12 * d + p) = 12 * d + (p - 4) := (by unfold sNeed; rw [if_neg (by omega)]; first | (rw [if_pos (by omega)]; omega) | (rw [if_neg (by omega)]; omega)); unfold sNeeds; rw [hn]; first | rw [if_pos (Or.inr hq34)] | rw [if_neg (fun h => h.elim (by omega) (fun h => h hq34))])
      · skip
        refine jj_qv (mRow_at ⟨by omega, hq34⟩) ?_
        refine jj_ifnull F (r := some (ad 23 (12 * d + (p - 4)))) (tgt := 44) dX8_hasWhatItNeeds_37 rfl (fun h => by cases h) (fun _ _ => ?_)
        refine jj_iconst F dX8_hasWhatItNeeds_40 ?_
        refine jj_goto F (tgt := 45) dX8_hasWhatItNeeds_41 rfl ?_
        exact jj_zretr B dX8_hasWhatItNeeds_45 ⟨Nat.le_of_ble_eq_true rfl, Nat.le_of_ble_eq_true rfl⟩ (by omega) (by have hn : sNeed (12 * d + p) = 12 * d + (p - 4) := (by unfold sNeed; rw [if_neg (by omega)]; first | (rw [if_pos (by omega)]; omega) | (rw [if_neg (by omega)]; omega)); unfold sNeeds; rw [hn]; first | rw [if_pos (Or.inr hq34)] | rw [if_neg (fun h => h.elim (by omega) (fun h => h hq34))])
  · skip
    refine jj_iconst F dX8_hasWhatItNeeds_4 ?_
    exact jj_zretr B dX8_hasWhatItNeeds_5 ⟨Nat.le_of_ble_eq_true rfl, Nat.le_of_ble_eq_true rfl⟩ (by omega) (by have hn : sNeed (12 * d + p) = -1 := if_pos (by omega); unfold sNeeds; rw [hn]; exact (if_pos (Or.inl rfl)).symm)
abbrev rm_X8_requireJoinable : Room := { frames := 7, cells := 1, slots := 6, locals := 112 }
set_option maxRecDepth 100000 in
set_option maxHeartbeats 400000 in
theorem k8_requireJoinable {l : Launch} {D : va_G} {ac : Nat → ClassId} (hl : l.stackTraces = false) {ad : Ad} {s e : Sg} {q c : Int}  {G : jj_G} (hR : Rep ad (cC ac ad s e) G) (hq : jR q) (hI5 : sI5 s c) (h13 : 0 ≤ s 13 0 ∧ s 13 0 ≤ 10)  : jj_C l D ac yX8_requireJoinable (.code yX8_requireJoinable cX8_requireJoinable 6 none) rm_X8_requireJoinable [.ref (ad 0 0), .int (jI q)] G (jj_pv (fun G' => ¬ sAre s q = 0 ∧ ¬ sOne s q = 0 ∧ G' = G)) (fun E => (E = eA ∧ sAre s q = 0) ∨ (E = eS ∧ ¬ sAre s q = 0 ∧ sOne s q = 0)) := by
  refine jj_ofx (own := RX8) (lv0 := [some (.ref (ad 0 0)), some (.int (jI q)), none, none, none, none]) hl (by decide +kernel) rfl rfl (Nat.le_of_ble_eq_true rfl) rfl ?_
  intro X B hN hl0 hdg hac hin
  subst hl0; subst hdg; subst hac
  have F := B.F

  have hH := hR.1
  have i22 := hI5.1
  have h23 := hI5.2.2.2.1
  refine jj_iconst F dX8_requireJoinable_0 ?_
  refine jj_aload0 F dX8_requireJoinable_1 ?_
  refine jj_get F (hH.at (k := 0) (i := 0) cc_0) cs_8 (by decide) fd_X8_286 rfl dX8_requireJoinable_2 ?_
  refine jj_ishl F dX8_requireJoinable_5 ?_
  refine jj_topi (jI_of _) ?_
  refine jj_iconst F dX8_requireJoinable_6 ?_
  refine jj_isub F dX8_requireJoinable_7 ?_
  refine jj_istore2 F dX8_requireJoinable_8 (hN _ (by decide)) rfl ?_
  refine jj_iload1 F dX8_requireJoinable_9 ?_
  refine jj_if_eq F (tgt := 21) dX8_requireJoinable_10 rfl (by omega) (fun c10 => ?_) (fun c10 => ?_)
  · skip
    exact jj_throwSW B th_2 sr_X8_424 rfl (Or.inl ⟨rfl, by unfold sAre; exact if_neg (fun h => h.1 c10)⟩) ⟨Nat.le_of_ble_eq_true rfl, Nat.le_of_ble_eq_true rfl, Nat.le_of_ble_eq_true rfl, Nat.le_of_ble_eq_true rfl⟩ dX8_requireJoinable_21 dX8_requireJoinable_24 dX8_requireJoinable_25 dX8_requireJoinable_28 dX8_requireJoinable_31
  · skip
    refine jj_iload1 F dX8_requireJoinable_13 ?_
    refine jj_iload2 F dX8_requireJoinable_14 ?_
    refine jj_iconst F dX8_requireJoinable_15 ?_
    refine jj_ixor F dX8_requireJoinable_16 ?_
    refine jj_iand F dX8_requireJoinable_17 ?_
    refine jj_ifx_eq F (tgt := 32) dX8_requireJoinable_18 rfl (fun c18 => ?_) (fun c18 => ?_)
    · skip
      refine jj_null F dX8_requireJoinable_32 ?_
      refine jj_nstore3 F dX8_requireJoinable_33 (hN _ (by decide)) rfl ?_
      refine jj_iconst F dX8_requireJoinable_34 ?_
      refine jj_istore4 F dX8_requireJoinable_35 (hN _ (by decide)) rfl ?_
      have hA : ¬ sAre s q = 0 := by unfold sAre; rw [if_pos ⟨c10, c18⟩]; decide
      have hS : ∀ j : Nat, (j : Int) ≤ s 22 0 → -1 ≤ sSideTo s q j ∧ sSideTo s q j < s 13 0 := by
        intro j
        induction j with
        | zero => intro _; unfold sSideTo; omega
        | succ j ih =>
          intro hj
          have g1 := ih (by omega)
          have g2 := h23 j (by omega) (by omega)
          unfold sSideTo
          split <;> omega
      have hno : ∀ j : Nat, j < 20 → ¬ (j : Int) < s 22 0 → ¬ sHas q j = 1 := fun j h1 h2 h3 => h2 (sAre_mem hA i22 (by omega) h3)
      have loop : ∀ (n j : Nat) (x5 : Option Value), n + j = 20 → sOneTo s q (min j (s 22 0).toNat) = 1 → jj_J X G 0 0 37 [some (.ref (ad 0 0)), some (.int (jI q)), some (.int (jI ((jI 1 <<< (jI (s 22 0) &&& 31)).toInt - 1))), some (va_rf (oSide ad (sSideTo s q (min j (s 22 0).toNat)))), some (.int (jI j)), x5] [] := by
        intro n
        induction n with
        | zero =>
          intro j x5 hj h0
          refine jj_iload4 F dX8_requireJoinable_37 ?_
          refine jj_aload0 F dX8_requireJoinable_39 ?_
          refine jj_get F (hH.at (k := 0) (i := 0) cc_0) cs_8 (by decide) fd_X8_30 rfl dX8_requireJoinable_40 ?_
          refine jj_alenQ F (fun _ => rfl) (hH.at (k := 3) (i := 0) cc_3) dX8_requireJoinable_43 ?_
          refine jj_icmp_ge F (tgt := 97) dX8_requireJoinable_44 rfl (by omega) (fun c44 => ?_) (fun c44 => by exfalso; omega)
          exact jj_vret B dX8_requireJoinable_97 ⟨Nat.le_of_ble_eq_true rfl, Nat.le_of_ble_eq_true rfl⟩ (⟨rfl, hA, by unfold sOne; rw [show min j (s 22 0).toNat = (s 22 0).toNat by omega] at h0; omega, rfl⟩)
        | succ n ih =>
          intro j x5 hj h0
          refine jj_iload4 F dX8_requireJoinable_37 ?_
          refine jj_aload0 F dX8_requireJoinable_39 ?_
          refine jj_get F (hH.at (k := 0) (i := 0) cc_0) cs_8 (by decide) fd_X8_30 rfl dX8_requireJoinable_40 ?_
          refine jj_alenQ F (fun _ => rfl) (hH.at (k := 3) (i := 0) cc_3) dX8_requireJoinable_43 ?_
          refine jj_icmp_ge F (tgt := 97) dX8_requireJoinable_44 rfl (by omega) (fun c44 => by exfalso; omega) (fun c44 => ?_)
          refine jj_iload1 F dX8_requireJoinable_47 ?_
          refine jj_iload4 F dX8_requireJoinable_48 ?_
          refine jj_callSr B (k := 0) (n := 0) (k8_has F.tr (q := q) (k := (j : Int))) lk_X8_148 rfl ⟨Nat.le_of_ble_eq_true rfl, Nat.le_of_ble_eq_true rfl, Nat.le_of_ble_eq_true rfl, Nat.le_of_ble_eq_true rfl, Nat.le_of_ble_eq_true rfl⟩ ⟨Nat.le_of_ble_eq_true rfl, Nat.le_of_ble_eq_true rfl, Nat.le_of_ble_eq_true rfl, Nat.le_of_ble_eq_true rfl⟩ jj_tx0 dX8_requireJoinable_50 ?_
          refine jj_if_eq F (tgt := 91) dX8_requireJoinable_53 rfl (by unfold sHas; split <;> omega) (fun c53 => ?_) (fun c53 => ?_)
          · skip
            have hm1 : ¬ sHas q j = 1 := by omega
            refine jj_iinc4 F dX8_requireJoinable_91 (hN _ (by decide)) jj_ncv_q ?_
            refine jj_goto F (tgt := 37) dX8_requireJoinable_94 rfl ?_
            have ih1 := fun x => ih (j + 1) x (by omega)
            have hmn : (j : Int) < s 22 0 ∨ ¬ (j : Int) < s 22 0 := by omega
            rcases hmn with hmn | hmn
            · rw [show min (j + 1) (s 22 0).toNat = j + 1 by omega] at ih1
              rw [show min j (s 22 0).toNat = j by omega] at h0 ⊢
              simp only [sOneTo, sSideTo] at ih1
              rw [if_neg hm1, if_neg hm1] at ih1
              exact ih1 _ h0
            · rw [show min (j + 1) (s 22 0).toNat = min j (s 22 0).toNat by omega] at ih1
              exact ih1 _ h0
          · skip
            have hm1 : sHas q j = 1 := by revert c53; unfold sHas; split <;> intro h <;> first | rfl | (exfalso; omega)
            have hm : (j : Int) < s 22 0 := sAre_mem hA i22 (by omega) hm1
            have hb := h23 j (by omega) hm
            have h3 := hS j (by omega)
            rw [show min j (s 22 0).toNat = j by omega] at h0 ⊢
            refine jj_aload0 F dX8_requireJoinable_56 ?_
            refine jj_iload4 F dX8_requireJoinable_57 ?_
            refine jj_callVq B (k := 0) (n := 0) (k8_discAt_in F.tr hH (by omega) ⟨by omega, hm⟩) lk_X8_297 (hH.at (k := 0) (i := 0) cc_0) cs_8 rfl rfl ⟨Nat.le_of_ble_eq_true rfl, Nat.le_of_ble_eq_true rfl, Nat.le_of_ble_eq_true rfl, Nat.le_of_ble_eq_true rfl, Nat.le_of_ble_eq_true rfl⟩ ⟨Nat.le_of_ble_eq_true rfl, Nat.le_of_ble_eq_true rfl, Nat.le_of_ble_eq_true rfl, Nat.le_of_ble_eq_true rfl⟩ jj_tx0 dX8_requireJoinable_59 (fun r G h => ?_)
            obtain ⟨rfl, rfl⟩ := h
            refine jj_get F (hH.at (k := 24) (i := (j : Int)) (if_pos (by omega))) cs_0 (by decide) fd_X8_426 rfl dX8_requireJoinable_62 ?_
            refine jj_astore5 F dX8_requireJoinable_65 (hN _ (by decide)) rfl ?_
            refine jj_qload3 F dX8_requireJoinable_67 ?_
            refine jj_ifnull F (tgt := 88) dX8_requireJoinable_68 rfl (fun c68 => ?_) (fun a68 c68 => ?_)
            · skip
              refine jj_aload5 F dX8_requireJoinable_88 ?_
              refine jj_astore3 F dX8_requireJoinable_90 (hN _ (by decide)) rfl ?_
              refine jj_iinc4 F dX8_requireJoinable_91 (hN _ (by decide)) rfl ?_
              refine jj_goto F (tgt := 37) dX8_requireJoinable_94 rfl ?_
              have ih1 := fun x => ih (j + 1) x (by omega)
              rw [show min (j + 1) (s 22 0).toNat = j + 1 by omega] at ih1
              simp only [sOneTo, sSideTo] at ih1
              rw [if_pos hm1, if_pos hm1, if_neg (by omega), oSide_at (by omega)] at ih1
              rw [if_pos (Or.inl (oSide_no c68))] at ih1
              exact ih1 _ rfl
            · skip
              refine jj_qload3 F dX8_requireJoinable_71 ?_
              refine jj_aload5 F dX8_requireJoinable_72 ?_
              refine jj_acmp_eq F (r1 := oSide ad (sSideTo s q j)) (r2 := some (ad 20 (s 23 ((j : Int)) / 12))) (tgt := 88) dX8_requireJoinable_74 rfl (fun c74 => ?_) (fun c74 => ?_)
              · skip
                refine jj_aload5 F dX8_requireJoinable_88 ?_
                refine jj_astore3 F dX8_requireJoinable_90 (hN _ (by decide)) rfl ?_
                refine jj_iinc4 F dX8_requireJoinable_91 (hN _ (by decide)) rfl ?_
                refine jj_goto F (tgt := 37) dX8_requireJoinable_94 rfl ?_
                have ih1 := fun x => ih (j + 1) x (by omega)
                rw [show min (j + 1) (s 22 0).toNat = j + 1 by omega] at ih1
                simp only [sOneTo, sSideTo] at ih1
                rw [if_pos hm1, if_pos hm1, if_neg (by omega), oSide_at (by omega)] at ih1
                rw [if_pos (Or.inr (by
                  have hx : ¬ sSideTo s q j = -1 := fun h => by rw [h] at c68; cases c68
                  rw [oSide_at hx] at c74
                  exact hR.side (by omega) (by omega) (Option.some.inj c74)))] at ih1
                exact ih1 _ rfl
              · skip
                exact jj_throwSW B th_3 sr_X8_430 rfl (Or.inr ⟨rfl, hA, sOneTo_up (n := j + 1) (by unfold sOneTo; rw [if_pos hm1, if_neg (by omega), if_neg (fun h => h.elim (fun h => by rw [h] at c68; cases c68) (fun h => c74 (by rw [h]; exact oSide_at (by omega))))]) _ (by omega)⟩) ⟨Nat.le_of_ble_eq_true rfl, Nat.le_of_ble_eq_true rfl, Nat.le_of_ble_eq_true rfl, Nat.le_of_ble_eq_true rfl⟩ dX8_requireJoinable_77 dX8_requireJoinable_80 dX8_requireJoinable_81 dX8_requireJoinable_84 dX8_requireJoinable_87
      exact loop 20 0 none (by omega) (by rw [show min 0 (s 22 0).toNat = 0 by omega]; rfl)
    · skip
      exact jj_throwSW B th_2 sr_X8_424 rfl (Or.inl ⟨rfl, by unfold sAre; exact if_neg (fun h => c18 h.2)⟩) ⟨Nat.le_of_ble_eq_true rfl, Nat.le_of_ble_eq_true rfl, Nat.le_of_ble_eq_true rfl, Nat.le_of_ble_eq_true rfl⟩ dX8_requireJoinable_21 dX8_requireJoinable_24 dX8_requireJoinable_25 dX8_requireJoinable_28 dX8_requireJoinable_31
