/-! ===== a fresh reference ===== -/
def ri_v (a : Nat → Nat) (m k : Nat) : Value := if rm_len k = 0 then .int (jI 0) else if k < m then .ref (a k) else .null
def ri_fs (a : Nat → Nat) (m : Nat) : List Value := (List.range 38).map (ri_v a m)
def RI (cI : ClassId) (o : Nat) (a : Nat → Nat) (m : Nat) (G : jj_G) : Prop :=
  G o = some (jj_o 9 (ri_fs a m)) ∧ (∀ k, k < m → rm_len k ≠ 0 → G (a k) = some (jj_ai cI (rm_len k) (fun _ => 0))) ∧ (∀ k k', k < m → k' < m → rm_len k ≠ 0 → rm_len k' ≠ 0 → a k = a k' → k = k') ∧ (∀ k, k < m → rm_len k ≠ 0 → a k ≠ o)
theorem ri_fs_v {a : Nat → Nat} {m : Nat} : ∀ k, k < 38 → (ri_fs a m)[k]? = some (ri_v a m k) := by
  intro k hk
  simp only [ri_fs, List.getElem?_map, List.getElem?_range hk, Option.map_some]
theorem RI.skip {cI : ClassId} {o : Nat} {a : Nat → Nat} {m m' : Nat} {G : jj_G} (h : RI cI o a m G) (hm : m ≤ m') (hz : ∀ k, k < m' → m ≤ k → rm_len k = 0) : RI cI o a m' G := by
  obtain ⟨h1, h2, h3, h4⟩ := h
  have key : ∀ k, k < m' → rm_len k ≠ 0 → k < m := fun k hk hn => Nat.lt_of_not_le (fun hle => hn (hz k hk hle))
  refine ⟨?_, fun k hk hn => h2 k (key k hk hn) hn, fun k k' hk hk' hn hn' => h3 k k' (key k hk hn) (key k' hk' hn') hn hn', fun k hk hn => h4 k (key k hk hn) hn⟩
  rw [h1]
  congr 2
  unfold ri_fs
  apply List.map_congr_left
  intro k _
  unfold ri_v
  by_cases hl : rm_len k = 0
  · rw [if_pos hl, if_pos hl]
  · rw [if_neg hl, if_neg hl]
    by_cases hk : k < m
    · rw [if_pos hk, if_pos (by omega)]
    · rw [if_neg hk, if_neg (fun h => hk (key k h hl))]
theorem RI.step {cI : ClassId} {o q : Nat} {a : Nat → Nat} {m n : Nat} {G : jj_G} (h : RI cI o a m G) (hq : G q = none) (hm : m < 38) (hn : rm_len m = n) (h0 : n ≠ 0) : RI cI o (fun k => if k = m then q else a k) (m + 1) (jj_u (jj_u G q (jj_ai cI n (fun _ => 0))) o (jj_o 9 ((ri_fs a m).set m (.ref q)))) := by
  subst hn
  obtain ⟨h1, h2, h3, h4⟩ := h
  have hqo : q ≠ o := fun e => by rw [e, h1] at hq; cases hq
  have hqa : ∀ k, k < m → rm_len k ≠ 0 → a k ≠ q := fun k hk hl e => by rw [← e, h2 k hk hl] at hq; cases hq
  refine ⟨?_, fun k hk hl => ?_, fun k k' hk hk' hl hl' => ?_, fun k hk hl => ?_⟩
  · rw [jj_us]
    congr 2
    apply List.ext_getElem?
    intro k
    by_cases hk : k < 38
    · rw [ri_fs_v k hk]
      by_cases hkm : k = m
      · subst hkm
        rw [List.getElem?_set_self (by simp [ri_fs, hk])]
        unfold ri_v
        rw [if_neg h0, if_pos (by omega)]
        simp only [if_true]
      · rw [List.getElem?_set_ne (Ne.symm hkm), ri_fs_v k hk]
        unfold ri_v
        by_cases hl : rm_len k = 0
        · rw [if_pos hl, if_pos hl]
        · rw [if_neg hl, if_neg hl]
          simp only [if_neg hkm]
          by_cases hlt : k < m
          · rw [if_pos hlt, if_pos (by omega)]
          · rw [if_neg hlt, if_neg (by omega)]
    · rw [List.getElem?_eq_none (by simp [ri_fs]; omega), List.getElem?_eq_none (by simp [ri_fs]; omega)]
  · by_cases hkm : k = m
    · subst hkm
      simp only [if_true]
      rw [jj_un hqo, jj_us]
    · simp only [if_neg hkm]
      rw [jj_un (h4 k (by omega) hl), jj_un (hqa k (by omega) hl), h2 k (by omega) hl]
  · by_cases e1 : k = m
    · by_cases e2 : k' = m
      · intro _; rw [e1, e2]
      · simp only [if_pos e1, if_neg e2]
        intro e; exact absurd e.symm (hqa k' (by omega) hl')
    · by_cases e2 : k' = m
      · simp only [if_neg e1, if_pos e2]
        intro e; exact absurd e (hqa k (by omega) hl)
      · simp only [if_neg e1, if_neg e2]
        exact h3 k k' (by omega) (by omega) hl hl'
  · by_cases e1 : k = m
    · simp only [if_pos e1]; exact hqo
    · simp only [if_neg e1]; exact h4 k (by omega) hl
theorem RI.done {cI : ClassId} {o : Nat} {a : Nat → Nat} {G : jj_G} (h : RI cI o a 37 G) : RM cI o a (fun _ _ => 0) G := by
  obtain ⟨h1, h2, h3, h4⟩ := h
  have key : ∀ k, rm_len k ≠ 0 → k < 37 := by
    intro k hk
    apply Classical.byContradiction
    intro hn
    apply hk
    have hall : ∀ k, 37 ≤ k → rm_len k = 0 := by
      intro k hk
      unfold rm_len
      split <;> omega
    exact hall k (by omega)
  refine ⟨?_, fun k hk => h2 k (key k hk) hk, fun k k' hk hk' => h3 k k' (key k hk) (key k' hk') hk hk', fun k hk => h4 k (key k hk) hk, fun _ _ => by show -2147483648 ≤ (0 : Int) ∧ (0 : Int) ≤ 2147483647; omega⟩
  rw [h1]
  congr 2
/-- a fresh house -/
def sNewTo : Nat → Sg
  | 0 => fun _ _ => 0
  | n + 1 => sU (sU (sU (sNewTo n) 16 n (-1)) 20 n (-1)) 21 n (-1)
def sNew : Sg := sNewTo 120
theorem m9_fin {X : jj_X} {cc : ByteArray} {rm : Room} {G : jj_G} {kc kn pc nx : Nat} {lv : List (Option Value)} {st : List Value} {o q : Nat} {a : Nat → Nat} (F : jj_F X RX9 cc rm) {index m n : Nat} (hR : RI (jj_ac X 0) o a m G) (hq : G q = none) (hm : m < 38) (hn : rm_len m = n) (h0 : n ≠ 0) (hw : jj_fld RX9 index TX9 m) (hin : jj_isInit X) (hdec : (TX9 m).1 = RX9) (hfin : (TX9 m).2.2.2 = true) (hna : ∀ q : Nat, narrow (tyX9 m) (.ref q) = .ref q) (hfi : ∀ q : Nat, fits (tyX9 m) (.ref q) = true) (d : jj_D cc pc (.putfield index) 3 nx) (kk : ∀ a' G', RI (jj_ac X 0) o a' (m + 1) G' → jj_J X G' kc kn nx lv st) : jj_J X (jj_u G q (jj_ai (jj_ac X 0) n (fun _ => 0))) kc kn pc lv (.ref q :: .ref o :: st) := by
  have hqo : o ≠ q := fun e => by rw [← e, hR.1] at hq; cases hq
  refine jj_putF F (fs := ri_fs a m) (by rw [jj_un hqo]; exact hR.1) cs_9 hm hw hin hdec hfin (hna q) (hfi q) (by simp [ri_fs]; omega) d (kk _ _ (hR.step hq hm hn h0))

abbrev rm_X9_init : Room := { frames := 1, cells := 29, slots := 3836, locals := 12 }
set_option maxRecDepth 100000 in
set_option maxHeartbeats 4000000 in
theorem k9_init {l : Launch} {D : va_G} {ac : Nat → ClassId} (hl : l.stackTraces = false) {o : Nat} {a : Nat → Nat} {G : jj_G} (hR : RI (ac 0) o a 0 G) : jj_C l D ac yX9_init (.code yX9_init cX9_init 2 none) rm_X9_init [.ref o] G (jj_pv (fun G' => ∃ a', RM (ac 0) o a' sNew G')) (jj_nx) := by
  refine jj_ofx (own := RX9) (lv0 := [some (.ref o), none]) hl (by decide +kernel) rfl rfl (Nat.le_of_ble_eq_true rfl) rfl ?_
  intro X B hN hl0 hdg hac hin
  subst hl0; subst hdg; subst hac
  have F := B.F

  have hi := hin rfl
  refine jj_aload0 F dX9_init_0 ?_
  refine jj_objInit F ml_X9_1 oi_i oi_c ⟨Nat.le_of_ble_eq_true rfl, Nat.le_of_ble_eq_true rfl⟩ dX9_init_1 ?_
  refine jj_aload0 F dX9_init_4 ?_
  refine jj_bipush F (by decide) dX9_init_5 ?_
  refine jj_newI F (N := 30) (k := 1) (n := 30) aw_int (by decide) ⟨Nat.le_of_ble_eq_true rfl, Nat.le_of_ble_eq_true rfl, Nat.le_of_ble_eq_true rfl, Nat.le_of_ble_eq_true rfl⟩ dX9_init_7 (fun q hq => ?_)
  have hR := hR.skip (m' := 2) (by decide) (by decide)
  refine m9_fin F hR hq (by decide) rfl (by decide) fd_X9_7 hi rfl rfl (fun _ => rfl) (fun _ => rfl) dX9_init_9 (fun a G hR => ?_)
  refine jj_aload0 F dX9_init_12 ?_
  refine jj_bipush F (by decide) dX9_init_13 ?_
  refine jj_newI F (N := 30) (k := 2) (n := 60) aw_int (by decide) ⟨Nat.le_of_ble_eq_true rfl, Nat.le_of_ble_eq_true rfl, Nat.le_of_ble_eq_true rfl, Nat.le_of_ble_eq_true rfl⟩ dX9_init_15 (fun q hq => ?_)
  refine m9_fin F hR hq (by decide) rfl (by decide) fd_X9_13 hi rfl rfl (fun _ => rfl) (fun _ => rfl) dX9_init_17 (fun a G hR => ?_)
  refine jj_aload0 F dX9_init_20 ?_
  refine jj_bipush F (by decide) dX9_init_21 ?_
  refine jj_newI F (N := 30) (k := 3) (n := 90) aw_int (by decide) ⟨Nat.le_of_ble_eq_true rfl, Nat.le_of_ble_eq_true rfl, Nat.le_of_ble_eq_true rfl, Nat.le_of_ble_eq_true rfl⟩ dX9_init_23 (fun q hq => ?_)
  refine m9_fin F hR hq (by decide) rfl (by decide) fd_X9_16 hi rfl rfl (fun _ => rfl) (fun _ => rfl) dX9_init_25 (fun a G hR => ?_)
  refine jj_aload0 F dX9_init_28 ?_
  refine jj_bipush F (by decide) dX9_init_29 ?_
  refine jj_newI F (N := 30) (k := 4) (n := 120) aw_int (by decide) ⟨Nat.le_of_ble_eq_true rfl, Nat.le_of_ble_eq_true rfl, Nat.le_of_ble_eq_true rfl, Nat.le_of_ble_eq_true rfl⟩ dX9_init_31 (fun q hq => ?_)
  refine m9_fin F hR hq (by decide) rfl (by decide) fd_X9_19 hi rfl rfl (fun _ => rfl) (fun _ => rfl) dX9_init_33 (fun a G hR => ?_)
  refine jj_aload0 F dX9_init_36 ?_
  refine jj_bipush F (by decide) dX9_init_37 ?_
  refine jj_newI F (N := 30) (k := 5) (n := 150) aw_int (by decide) ⟨Nat.le_of_ble_eq_true rfl, Nat.le_of_ble_eq_true rfl, Nat.le_of_ble_eq_true rfl, Nat.le_of_ble_eq_true rfl⟩ dX9_init_39 (fun q hq => ?_)
  refine m9_fin F hR hq (by decide) rfl (by decide) fd_X9_22 hi rfl rfl (fun _ => rfl) (fun _ => rfl) dX9_init_41 (fun a G hR => ?_)
  refine jj_aload0 F dX9_init_44 ?_
  refine jj_bipush F (by decide) dX9_init_45 ?_
  refine jj_newI F (N := 30) (k := 6) (n := 180) aw_int (by decide) ⟨Nat.le_of_ble_eq_true rfl, Nat.le_of_ble_eq_true rfl, Nat.le_of_ble_eq_true rfl, Nat.le_of_ble_eq_true rfl⟩ dX9_init_47 (fun q hq => ?_)
  refine m9_fin F hR hq (by decide) rfl (by decide) fd_X9_25 hi rfl rfl (fun _ => rfl) (fun _ => rfl) dX9_init_49 (fun a G hR => ?_)
  refine jj_aload0 F dX9_init_52 ?_
  refine jj_sipush F (by decide) dX9_init_53 ?_
  refine jj_newI F (N := 600) (k := 7) (n := 780) aw_int (by decide) ⟨Nat.le_of_ble_eq_true rfl, Nat.le_of_ble_eq_true rfl, Nat.le_of_ble_eq_true rfl, Nat.le_of_ble_eq_true rfl⟩ dX9_init_56 (fun q hq => ?_)
  refine m9_fin F hR hq (by decide) rfl (by decide) fd_X9_28 hi rfl rfl (fun _ => rfl) (fun _ => rfl) dX9_init_58 (fun a G hR => ?_)
  refine jj_aload0 F dX9_init_61 ?_
  refine jj_sipush F (by decide) dX9_init_62 ?_
  refine jj_newI F (N := 600) (k := 8) (n := 1380) aw_int (by decide) ⟨Nat.le_of_ble_eq_true rfl, Nat.le_of_ble_eq_true rfl, Nat.le_of_ble_eq_true rfl, Nat.le_of_ble_eq_true rfl⟩ dX9_init_65 (fun q hq => ?_)
  refine m9_fin F hR hq (by decide) rfl (by decide) fd_X9_31 hi rfl rfl (fun _ => rfl) (fun _ => rfl) dX9_init_67 (fun a G hR => ?_)
  refine jj_aload0 F dX9_init_70 ?_
  refine jj_sipush F (by decide) dX9_init_71 ?_
  refine jj_newI F (N := 600) (k := 9) (n := 1980) aw_int (by decide) ⟨Nat.le_of_ble_eq_true rfl, Nat.le_of_ble_eq_true rfl, Nat.le_of_ble_eq_true rfl, Nat.le_of_ble_eq_true rfl⟩ dX9_init_74 (fun q hq => ?_)
  refine m9_fin F hR hq (by decide) rfl (by decide) fd_X9_34 hi rfl rfl (fun _ => rfl) (fun _ => rfl) dX9_init_76 (fun a G hR => ?_)
  refine jj_aload0 F dX9_init_79 ?_
  refine jj_bipush F (by decide) dX9_init_80 ?_
  refine jj_newI F (N := 6) (k := 10) (n := 1986) aw_int (by decide) ⟨Nat.le_of_ble_eq_true rfl, Nat.le_of_ble_eq_true rfl, Nat.le_of_ble_eq_true rfl, Nat.le_of_ble_eq_true rfl⟩ dX9_init_82 (fun q hq => ?_)
  have hR := hR.skip (m' := 12) (by decide) (by decide)
  refine m9_fin F hR hq (by decide) rfl (by decide) fd_X9_37 hi rfl rfl (fun _ => rfl) (fun _ => rfl) dX9_init_84 (fun a G hR => ?_)
  refine jj_aload0 F dX9_init_87 ?_
  refine jj_bipush F (by decide) dX9_init_88 ?_
  refine jj_newI F (N := 60) (k := 11) (n := 2046) aw_int (by decide) ⟨Nat.le_of_ble_eq_true rfl, Nat.le_of_ble_eq_true rfl, Nat.le_of_ble_eq_true rfl, Nat.le_of_ble_eq_true rfl⟩ dX9_init_90 (fun q hq => ?_)
  have hR := hR.skip (m' := 14) (by decide) (by decide)
  refine m9_fin F hR hq (by decide) rfl (by decide) fd_X9_40 hi rfl rfl (fun _ => rfl) (fun _ => rfl) dX9_init_92 (fun a G hR => ?_)
  refine jj_aload0 F dX9_init_95 ?_
  refine jj_bipush F (by decide) dX9_init_96 ?_
  refine jj_newI F (N := 10) (k := 12) (n := 2056) aw_int (by decide) ⟨Nat.le_of_ble_eq_true rfl, Nat.le_of_ble_eq_true rfl, Nat.le_of_ble_eq_true rfl, Nat.le_of_ble_eq_true rfl⟩ dX9_init_98 (fun q hq => ?_)
  refine m9_fin F hR hq (by decide) rfl (by decide) fd_X9_43 hi rfl rfl (fun _ => rfl) (fun _ => rfl) dX9_init_100 (fun a G hR => ?_)
  refine jj_aload0 F dX9_init_103 ?_
  refine jj_bipush F (by decide) dX9_init_104 ?_
  refine jj_newI F (N := 120) (k := 13) (n := 2176) aw_int (by decide) ⟨Nat.le_of_ble_eq_true rfl, Nat.le_of_ble_eq_true rfl, Nat.le_of_ble_eq_true rfl, Nat.le_of_ble_eq_true rfl⟩ dX9_init_106 (fun q hq => ?_)
  refine m9_fin F hR hq (by decide) rfl (by decide) fd_X9_46 hi rfl rfl (fun _ => rfl) (fun _ => rfl) dX9_init_108 (fun a G hR => ?_)
  refine jj_aload0 F dX9_init_111 ?_
  refine jj_bipush F (by decide) dX9_init_112 ?_
  refine jj_newI F (N := 120) (k := 14) (n := 2296) aw_int (by decide) ⟨Nat.le_of_ble_eq_true rfl, Nat.le_of_ble_eq_true rfl, Nat.le_of_ble_eq_true rfl, Nat.le_of_ble_eq_true rfl⟩ dX9_init_114 (fun q hq => ?_)
  refine m9_fin F hR hq (by decide) rfl (by decide) fd_X9_49 hi rfl rfl (fun _ => rfl) (fun _ => rfl) dX9_init_116 (fun a G hR => ?_)
  refine jj_aload0 F dX9_init_119 ?_
  refine jj_bipush F (by decide) dX9_init_120 ?_
  refine jj_newI F (N := 120) (k := 15) (n := 2416) aw_int (by decide) ⟨Nat.le_of_ble_eq_true rfl, Nat.le_of_ble_eq_true rfl, Nat.le_of_ble_eq_true rfl, Nat.le_of_ble_eq_true rfl⟩ dX9_init_122 (fun q hq => ?_)
  refine m9_fin F hR hq (by decide) rfl (by decide) fd_X9_52 hi rfl rfl (fun _ => rfl) (fun _ => rfl) dX9_init_124 (fun a G hR => ?_)
  refine jj_aload0 F dX9_init_127 ?_
  refine jj_bipush F (by decide) dX9_init_128 ?_
  refine jj_newI F (N := 120) (k := 16) (n := 2536) aw_int (by decide) ⟨Nat.le_of_ble_eq_true rfl, Nat.le_of_ble_eq_true rfl, Nat.le_of_ble_eq_true rfl, Nat.le_of_ble_eq_true rfl⟩ dX9_init_130 (fun q hq => ?_)
  refine m9_fin F hR hq (by decide) rfl (by decide) fd_X9_55 hi rfl rfl (fun _ => rfl) (fun _ => rfl) dX9_init_132 (fun a G hR => ?_)
  refine jj_aload0 F dX9_init_135 ?_
  refine jj_bipush F (by decide) dX9_init_136 ?_
  refine jj_newI F (N := 120) (k := 17) (n := 2656) aw_int (by decide) ⟨Nat.le_of_ble_eq_true rfl, Nat.le_of_ble_eq_true rfl, Nat.le_of_ble_eq_true rfl, Nat.le_of_ble_eq_true rfl⟩ dX9_init_138 (fun q hq => ?_)
  refine m9_fin F hR hq (by decide) rfl (by decide) fd_X9_58 hi rfl rfl (fun _ => rfl) (fun _ => rfl) dX9_init_140 (fun a G hR => ?_)
  refine jj_aload0 F dX9_init_143 ?_
  refine jj_bipush F (by decide) dX9_init_144 ?_
  refine jj_newI F (N := 120) (k := 18) (n := 2776) aw_int (by decide) ⟨Nat.le_of_ble_eq_true rfl, Nat.le_of_ble_eq_true rfl, Nat.le_of_ble_eq_true rfl, Nat.le_of_ble_eq_true rfl⟩ dX9_init_146 (fun q hq => ?_)
  refine m9_fin F hR hq (by decide) rfl (by decide) fd_X9_61 hi rfl rfl (fun _ => rfl) (fun _ => rfl) dX9_init_148 (fun a G hR => ?_)
  refine jj_aload0 F dX9_init_151 ?_
  refine jj_bipush F (by decide) dX9_init_152 ?_
  refine jj_newI F (N := 20) (k := 19) (n := 2796) aw_int (by decide) ⟨Nat.le_of_ble_eq_true rfl, Nat.le_of_ble_eq_true rfl, Nat.le_of_ble_eq_true rfl, Nat.le_of_ble_eq_true rfl⟩ dX9_init_154 (fun q hq => ?_)
  have hR := hR.skip (m' := 23) (by decide) (by decide)
  refine m9_fin F hR hq (by decide) rfl (by decide) fd_X9_64 hi rfl rfl (fun _ => rfl) (fun _ => rfl) dX9_init_156 (fun a G hR => ?_)
  refine jj_aload0 F dX9_init_159 ?_
  refine jj_bipush F (by decide) dX9_init_160 ?_
  refine jj_newI F (N := 20) (k := 20) (n := 2816) aw_int (by decide) ⟨Nat.le_of_ble_eq_true rfl, Nat.le_of_ble_eq_true rfl, Nat.le_of_ble_eq_true rfl, Nat.le_of_ble_eq_true rfl⟩ dX9_init_162 (fun q hq => ?_)
  refine m9_fin F hR hq (by decide) rfl (by decide) fd_X9_67 hi rfl rfl (fun _ => rfl) (fun _ => rfl) dX9_init_164 (fun a G hR => ?_)
  refine jj_aload0 F dX9_init_167 ?_
  refine jj_sipush F (by decide) dX9_init_168 ?_
  refine jj_newI F (N := 160) (k := 21) (n := 2976) aw_int (by decide) ⟨Nat.le_of_ble_eq_true rfl, Nat.le_of_ble_eq_true rfl, Nat.le_of_ble_eq_true rfl, Nat.le_of_ble_eq_true rfl⟩ dX9_init_171 (fun q hq => ?_)
  refine m9_fin F hR hq (by decide) rfl (by decide) fd_X9_70 hi rfl rfl (fun _ => rfl) (fun _ => rfl) dX9_init_173 (fun a G hR => ?_)
  refine jj_aload0 F dX9_init_176 ?_
  refine jj_bipush F (by decide) dX9_init_177 ?_
  refine jj_newI F (N := 8) (k := 22) (n := 2984) aw_int (by decide) ⟨Nat.le_of_ble_eq_true rfl, Nat.le_of_ble_eq_true rfl, Nat.le_of_ble_eq_true rfl, Nat.le_of_ble_eq_true rfl⟩ dX9_init_179 (fun q hq => ?_)
  have hR := hR.skip (m' := 27) (by decide) (by decide)
  refine m9_fin F hR hq (by decide) rfl (by decide) fd_X9_73 hi rfl rfl (fun _ => rfl) (fun _ => rfl) dX9_init_181 (fun a G hR => ?_)
  refine jj_aload0 F dX9_init_184 ?_
  refine jj_bipush F (by decide) dX9_init_185 ?_
  refine jj_newI F (N := 20) (k := 23) (n := 3004) aw_int (by decide) ⟨Nat.le_of_ble_eq_true rfl, Nat.le_of_ble_eq_true rfl, Nat.le_of_ble_eq_true rfl, Nat.le_of_ble_eq_true rfl⟩ dX9_init_187 (fun q hq => ?_)
  have hR := hR.skip (m' := 29) (by decide) (by decide)
  refine m9_fin F hR hq (by decide) rfl (by decide) fd_X9_76 hi rfl rfl (fun _ => rfl) (fun _ => rfl) dX9_init_189 (fun a G hR => ?_)
  refine jj_aload0 F dX9_init_192 ?_
  refine jj_bipush F (by decide) dX9_init_193 ?_
  refine jj_newI F (N := 20) (k := 24) (n := 3024) aw_int (by decide) ⟨Nat.le_of_ble_eq_true rfl, Nat.le_of_ble_eq_true rfl, Nat.le_of_ble_eq_true rfl, Nat.le_of_ble_eq_true rfl⟩ dX9_init_195 (fun q hq => ?_)
  refine m9_fin F hR hq (by decide) rfl (by decide) fd_X9_79 hi rfl rfl (fun _ => rfl) (fun _ => rfl) dX9_init_197 (fun a G hR => ?_)
  refine jj_aload0 F dX9_init_200 ?_
  refine jj_bipush F (by decide) dX9_init_201 ?_
  refine jj_newI F (N := 100) (k := 25) (n := 3124) aw_int (by decide) ⟨Nat.le_of_ble_eq_true rfl, Nat.le_of_ble_eq_true rfl, Nat.le_of_ble_eq_true rfl, Nat.le_of_ble_eq_true rfl⟩ dX9_init_203 (fun q hq => ?_)
  have hR := hR.skip (m' := 32) (by decide) (by decide)
  refine m9_fin F hR hq (by decide) rfl (by decide) fd_X9_82 hi rfl rfl (fun _ => rfl) (fun _ => rfl) dX9_init_205 (fun a G hR => ?_)
  refine jj_aload0 F dX9_init_208 ?_
  refine jj_bipush F (by decide) dX9_init_209 ?_
  refine jj_newI F (N := 100) (k := 26) (n := 3224) aw_int (by decide) ⟨Nat.le_of_ble_eq_true rfl, Nat.le_of_ble_eq_true rfl, Nat.le_of_ble_eq_true rfl, Nat.le_of_ble_eq_true rfl⟩ dX9_init_211 (fun q hq => ?_)
  refine m9_fin F hR hq (by decide) rfl (by decide) fd_X9_85 hi rfl rfl (fun _ => rfl) (fun _ => rfl) dX9_init_213 (fun a G hR => ?_)
  refine jj_aload0 F dX9_init_216 ?_
  refine jj_sipush F (by decide) dX9_init_217 ?_
  refine jj_newI F (N := 600) (k := 27) (n := 3824) aw_int (by decide) ⟨Nat.le_of_ble_eq_true rfl, Nat.le_of_ble_eq_true rfl, Nat.le_of_ble_eq_true rfl, Nat.le_of_ble_eq_true rfl⟩ dX9_init_220 (fun q hq => ?_)
  refine m9_fin F hR hq (by decide) rfl (by decide) fd_X9_88 hi rfl rfl (fun _ => rfl) (fun _ => rfl) dX9_init_222 (fun a G hR => ?_)
  refine jj_aload0 F dX9_init_225 ?_
  refine jj_bipush F (by decide) dX9_init_226 ?_
  refine jj_newI F (N := 6) (k := 28) (n := 3830) aw_int (by decide) ⟨Nat.le_of_ble_eq_true rfl, Nat.le_of_ble_eq_true rfl, Nat.le_of_ble_eq_true rfl, Nat.le_of_ble_eq_true rfl⟩ dX9_init_228 (fun q hq => ?_)
  refine m9_fin F hR hq (by decide) rfl (by decide) fd_X9_91 hi rfl rfl (fun _ => rfl) (fun _ => rfl) dX9_init_230 (fun a G hR => ?_)
  refine jj_aload0 F dX9_init_233 ?_
  refine jj_bipush F (by decide) dX9_init_234 ?_
  refine jj_newI F (N := 6) (k := 29) (n := 3836) aw_int (by decide) ⟨Nat.le_of_ble_eq_true rfl, Nat.le_of_ble_eq_true rfl, Nat.le_of_ble_eq_true rfl, Nat.le_of_ble_eq_true rfl⟩ dX9_init_236 (fun q hq => ?_)
  refine m9_fin F hR hq (by decide) rfl (by decide) fd_X9_94 hi rfl rfl (fun _ => rfl) (fun _ => rfl) dX9_init_238 (fun a G hR => ?_)
  refine jj_iconst F dX9_init_241 ?_
  refine jj_istore1 F dX9_init_242 (hN _ (by decide)) rfl ?_
  have hR := hR.done
  have loop : ∀ (n j : Nat) (G : jj_G), n + j = 120 → RM (jj_ac X 0) o a (sNewTo j) G → jj_J X G 29 3836 243 [some (.ref o), some (.int (jI j))] [] := by
    intro n
    induction n with
    | zero =>
      intro j G hj hR
      refine jj_iload1 F dX9_init_243 ?_
      refine jj_bipush F (by decide) dX9_init_244 ?_
      refine jj_icmp_ge F (tgt := 276) dX9_init_246 rfl (by omega) (fun c246 => ?_) (fun c246 => by exfalso; omega)
      exact jj_vret B dX9_init_276 ⟨Nat.le_of_ble_eq_true rfl, Nat.le_of_ble_eq_true rfl⟩ (⟨rfl, _, by unfold sNew; rw [show (120 : Nat) = j by omega]; exact hR⟩)
    | succ n ih =>
      intro j G hj hR
      refine jj_iload1 F dX9_init_243 ?_
      refine jj_bipush F (by decide) dX9_init_244 ?_
      refine jj_icmp_ge F (tgt := 276) dX9_init_246 rfl (by omega) (fun c246 => by exfalso; omega) (fun c246 => ?_)
      refine jj_aload0 F dX9_init_249 ?_
      refine m9_get F hR fd_X9_46 (by decide) rfl dX9_init_250 ?_
      refine jj_iload1 F dX9_init_253 ?_
      refine jj_iconst F dX9_init_254 ?_
      refine m9_ast F hR (n := 120) rfl (by omega) (by decide) (by omega) dX9_init_255 (fun G hR => ?_)
      refine jj_aload0 F dX9_init_256 ?_
      refine m9_get F hR fd_X9_58 (by decide) rfl dX9_init_257 ?_
      refine jj_iload1 F dX9_init_260 ?_
      refine jj_iconst F dX9_init_261 ?_
      refine m9_ast F hR (n := 120) rfl (by omega) (by decide) (by omega) dX9_init_262 (fun G hR => ?_)
      refine jj_aload0 F dX9_init_263 ?_
      refine m9_get F hR fd_X9_61 (by decide) rfl dX9_init_264 ?_
      refine jj_iload1 F dX9_init_267 ?_
      refine jj_iconst F dX9_init_268 ?_
      refine m9_ast F hR (n := 120) rfl (by omega) (by decide) (by omega) dX9_init_269 (fun G hR => ?_)
      refine jj_iinc1 F dX9_init_270 (hN _ (by decide)) rfl ?_
      refine jj_goto F (tgt := 243) dX9_init_273 rfl ?_
      have ih1 := ih (j + 1) G (by omega) hR
      rw [show (((j + 1 : Nat)) : Int) = (j : Int) + 1 from rfl] at ih1
      exact ih1
  exact loop 120 0 G (by omega) hR
