/-! ===== isTaped ===== -/
theorem pG.off {s : Sg} {g : Int → Int} (h : pG s g) {t b : Int} (ht : s 1 0 ≤ t) : pG s (ju g t b) := by
  intro u h1 h2
  rw [ju_n (by omega)]
  exact h u h1 h2
theorem sub_zero {a b : Int32} (h : ∀ i, i < 32 → bt a i = true → bt b i = true) : a &&& (b ^^^ jI (-1)) = 0 := by
  apply b_ext
  intro i hi
  have e1 : bt (jI (-1)) i = true := by rw [show jI (-1) = -1 by decide]; exact b_m1 i hi
  rw [b_and, b_xor, e1, b_0]
  cases ha : bt a i with
  | false => rfl
  | true => rw [h i hi ha]; rfl
abbrev rm_isTaped : Room := { frames := 11, cells := 600, slots := 4000, locals := 240 }
set_option maxRecDepth 100000 in
set_option maxHeartbeats 4000000 in
theorem kl_taped {l : Launch} {D : va_G} {ac : Nat → ClassId} (hl : l.stackTraces = false) {A : Nat → Nat} {s e : Sg} {m g r : Int → Int} {h x : Int} {G : jj_G} (hP : WP ac A s e m g r G) {c n : Int} (hL : LI s e m g r c n) (hc : c + 3 < 512) (hn : 0 ≤ n ∧ n < 150) (hh : 0 ≤ h ∧ h ≤ 8) (hx : 0 ≤ x ∧ x ≤ 2147483647) : jj_C l D ac yL_isTaped (.code yL_isTaped cL_isTaped 18 (some .boolean)) rm_isTaped [.ref (A 0), .ref (A 1), .ref (A 2), .int (jI h), .int (jI x)] G (OP ac A c n) jj_nx := by
  refine jj_ofx (own := RL) (lv0 := [some (.ref (A 0)), some (.ref (A 1)), some (.ref (A 2)), some (.int (jI h)), some (.int (jI x)), none, none, none, none, none, none, none, none, none, none, none, none, none]) hl (by decide +kernel) rfl rfl (Nat.le_of_ble_eq_true rfl) rfl ?_
  intro X B hN hl0 hdg hac hin
  subst hl0; subst hdg; subst hac
  have F := B.F
  have hI := hL.I
  have hj := hL.J
  obtain ⟨hM0, hM1, hM2, hM3, hM4, hM5⟩ := id hL.M
  have b0 := hI.1.1
  have b1 := hI.1.2.1
  have b11 := hI.2.1.1
  refine jj_iload4 F dL_isTaped_0 ?_
  refine jj_iconst F dL_isTaped_2 ?_
  refine jj_irem F (by omega) dL_isTaped_3 ?_
  refine jj_istore5 F dL_isTaped_4 (hN _ (by decide)) rfl ?_
  refine jj_iload4 F dL_isTaped_6 ?_
  refine jj_iconst F dL_isTaped_8 ?_
  refine jj_idiv F (by omega) dL_isTaped_9 ?_
  refine jj_istore6 F dL_isTaped_10 (hN _ (by decide)) rfl ?_
  refine jj_iload3 F dL_isTaped_12 ?_
  refine jj_iconst F dL_isTaped_13 ?_
  by_cases hc1 : h < 2 ∨ s 1 0 = 0
  · skip
    by_cases hc2 : h < 2
    · skip
      refine jj_icmp_lt F (tgt := 23) dL_isTaped_14 rfl (by omega) (fun c14 => ?_) (fun c14 => by exfalso; omega)
      refine jj_aload0 F dL_isTaped_23 ?_
      refine jj_iconst F dL_isTaped_24 ?_
      refine jj_iload6 F dL_isTaped_25 ?_
      refine jj_bipush F (by decide) dL_isTaped_27 ?_
      refine jj_idiv F (by omega) dL_isTaped_29 ?_
      refine jj_bipush F (by decide) dL_isTaped_30 ?_
      refine jj_irem F (by omega) dL_isTaped_32 ?_
      refine jj_iconst F dL_isTaped_33 ?_
      refine jj_iload6 F dL_isTaped_34 ?_
      refine jj_bipush F (by decide) dL_isTaped_36 ?_
      refine jj_irem F (by omega) dL_isTaped_38 ?_
      refine jj_iadd F dL_isTaped_39 ?_
      refine jj_iload5 F dL_isTaped_40 ?_
      refine jj_iconst F dL_isTaped_42 ?_
      refine jj_iconst F dL_isTaped_43 ?_
      by_cases h30 : s 1 0 = 30
      · skip
        refine la_no F (ka_session F.tr hP hI (by omega) (by omega) (by omega)) 3 (-1763000000) (by unfold t_session; rw [if_neg (by omega), if_neg (by omega), if_pos (by omega)]) (by decide) (fun h => by rw [h]; rfl) (k := 12) (n0 := 130) ⟨Nat.le_of_ble_eq_true rfl, Nat.le_of_ble_eq_true rfl, Nat.le_of_ble_eq_true rfl, Nat.le_of_ble_eq_true rfl, Nat.le_of_ble_eq_true rfl, Nat.le_of_ble_eq_true rfl, Nat.le_of_ble_eq_true rfl⟩ dL_isTaped_44 (fun G hP => ?_)
        refine jj_istore7 F dL_isTaped_47 (hN _ (by decide)) rfl ?_
        refine jj_iload7 F dL_isTaped_49 ?_
        refine jj_aload1 F dL_isTaped_51 ?_
        refine jj_iconst F dL_isTaped_52 ?_
        refine jm_ald F hP (by omega) dL_isTaped_53 ?_
        refine jj_bipush F (by decide) dL_isTaped_54 ?_
        refine jj_icmp_ne F (tgt := 64) dL_isTaped_56 rfl (by omega) (fun c56 => by exfalso; omega) (fun c56 => ?_)
        refine jj_ldc F (v := -1763000000) cn_L_128 (by decide) dL_isTaped_59 ?_
        refine jj_goto F (tgt := 67) dL_isTaped_61 rfl ?_
        refine jj_icmp_ne F (tgt := 74) dL_isTaped_67 rfl (by omega) (fun c67 => by exfalso; omega) (fun c67 => ?_)
        refine jj_iconst F dL_isTaped_70 ?_
        refine jj_goto F (tgt := 75) dL_isTaped_71 rfl ?_
        refine jj_istore8 F dL_isTaped_75 (hN _ (by decide)) rfl ?_
        refine jj_aload2 F dL_isTaped_77 ?_
        refine jj_aload1 F dL_isTaped_78 ?_
        refine jj_iconst F dL_isTaped_79 ?_
        refine jm_ald F hP (by omega) dL_isTaped_80 ?_
        refine jj_iload7 F dL_isTaped_81 ?_
        refine jj_if_lt F (tgt := 91) dL_isTaped_83 rfl (by omega) (fun c83 => ?_) (fun c83 => by exfalso; omega)
        refine jj_iconst F dL_isTaped_91 ?_
        refine jg_ast F hP (by omega) dL_isTaped_92 (fun G hP => ?_)
        have hL2 := (hL.mono (by omega)).gs (hL.G.off (t := m 1) (b := 0) (by omega))
        refine jj_aload1 F dL_isTaped_93 ?_
        refine jj_iconst F dL_isTaped_94 ?_
        refine jj_dup2 F rfl rfl dL_isTaped_95 ?_
        refine jm_ald F hP (by omega) dL_isTaped_96 ?_
        refine jj_iload7 F dL_isTaped_97 ?_
        refine jj_if_lt F (tgt := 106) dL_isTaped_99 rfl (by omega) (fun c99 => ?_) (fun c99 => by exfalso; omega)
        refine jj_iconst F dL_isTaped_106 ?_
        refine jj_iadd F dL_isTaped_107 ?_
        refine jm_ast F hP (by omega) dL_isTaped_108 (fun G hP => ?_)
        rw [ju_same] at hP
        refine jj_iload8 F dL_isTaped_109 ?_
        refine jj_if_eq F (tgt := 169) dL_isTaped_111 rfl (by omega) (fun c111 => by exfalso; omega) (fun c111 => ?_)
        refine jj_iload7 F dL_isTaped_114 ?_
        refine jj_if_lt F (tgt := 165) dL_isTaped_116 rfl (by omega) (fun c116 => ?_) (fun c116 => by exfalso; omega)
        refine jj_iconst F dL_isTaped_165 ?_
        refine jj_goto F (tgt := 170) dL_isTaped_166 rfl ?_
        exact jj_zret B dL_isTaped_170 ⟨Nat.le_of_ble_eq_true rfl, Nat.le_of_ble_eq_true rfl⟩ (Or.inr rfl) ⟨1, rfl, rfl, _, _, _, _, _, c, by omega, hL2, hP⟩
      · skip
        have ht : t_session s (x / 4 / 70 % 6) (1 + x / 4 % 70) (x % 4) = 0 := (by unfold t_session; rw [if_neg (by omega), if_neg (by omega), if_neg (by omega)])
        obtain ⟨hL2, e1, fr, fk, fh, fl⟩ := LI_session (hL.mono (by omega)) (by omega) ht
        obtain ⟨s2, hs⟩ : ∃ s2, s2 = n_session s (x / 4 / 70 % 6) (1 + x / 4 % 70) (x % 4) := ⟨_, rfl⟩
        rw [← hs] at hL2 e1 fk fh fl
        refine la_ok F (ka_session F.tr hP hI (by omega) (by omega) (by omega)) ht (k := 12) (n0 := 130) ⟨Nat.le_of_ble_eq_true rfl, Nat.le_of_ble_eq_true rfl, Nat.le_of_ble_eq_true rfl, Nat.le_of_ble_eq_true rfl, Nat.le_of_ble_eq_true rfl, Nat.le_of_ble_eq_true rfl, Nat.le_of_ble_eq_true rfl⟩ dL_isTaped_44 (fun G hP => ?_)
        rw [← hs] at hP
        rw [fr]
        have hI := hL2.I
        refine jj_istore7 F dL_isTaped_47 (hN _ (by decide)) rfl ?_
        refine jj_iload7 F dL_isTaped_49 ?_
        refine jj_aload1 F dL_isTaped_51 ?_
        refine jj_iconst F dL_isTaped_52 ?_
        refine jm_ald F hP (by omega) dL_isTaped_53 ?_
        refine jj_bipush F (by decide) dL_isTaped_54 ?_
        refine jj_icmp_ne F (tgt := 64) dL_isTaped_56 rfl (by omega) (fun c56 => ?_) (fun c56 => by exfalso; omega)
        refine jj_aload1 F dL_isTaped_64 ?_
        refine jj_iconst F dL_isTaped_65 ?_
        refine jm_ald F hP (by omega) dL_isTaped_66 ?_
        refine jj_icmp_ne F (tgt := 74) dL_isTaped_67 rfl (by omega) (fun c67 => by exfalso; omega) (fun c67 => ?_)
        refine jj_iconst F dL_isTaped_70 ?_
        refine jj_goto F (tgt := 75) dL_isTaped_71 rfl ?_
        refine jj_istore8 F dL_isTaped_75 (hN _ (by decide)) rfl ?_
        refine jj_aload2 F dL_isTaped_77 ?_
        refine jj_aload1 F dL_isTaped_78 ?_
        refine jj_iconst F dL_isTaped_79 ?_
        refine jm_ald F hP (by omega) dL_isTaped_80 ?_
        refine jj_iload7 F dL_isTaped_81 ?_
        refine jj_if_lt F (tgt := 91) dL_isTaped_83 rfl (by omega) (fun c83 => by exfalso; omega) (fun c83 => ?_)
        refine jj_bipush F (by decide) dL_isTaped_86 ?_
        refine jj_goto F (tgt := 92) dL_isTaped_88 rfl ?_
        refine jg_ast F hP (by omega) dL_isTaped_92 (fun G hP => ?_)
        rw [hM1] at hP
        refine jj_aload1 F dL_isTaped_93 ?_
        refine jj_iconst F dL_isTaped_94 ?_
        refine jj_dup2 F rfl rfl dL_isTaped_95 ?_
        refine jm_ald F hP (by omega) dL_isTaped_96 ?_
        refine jj_iload7 F dL_isTaped_97 ?_
        refine jj_if_lt F (tgt := 106) dL_isTaped_99 rfl (by omega) (fun c99 => by exfalso; omega) (fun c99 => ?_)
        refine jj_iconst F dL_isTaped_102 ?_
        refine jj_goto F (tgt := 107) dL_isTaped_103 rfl ?_
        refine jj_iadd F dL_isTaped_107 ?_
        refine jm_ast F hP (by omega) dL_isTaped_108 (fun G hP => ?_)
        refine jj_iload8 F dL_isTaped_109 ?_
        refine jj_if_eq F (tgt := 169) dL_isTaped_111 rfl (by omega) (fun c111 => by exfalso; omega) (fun c111 => ?_)
        refine jj_iload7 F dL_isTaped_114 ?_
        refine jj_if_lt F (tgt := 165) dL_isTaped_116 rfl (by omega) (fun c116 => by exfalso; omega) (fun c116 => ?_)
        refine jj_aload0 F dL_isTaped_119 ?_
        refine jj_iload7 F dL_isTaped_120 ?_
        refine lq_tk F hP hI (by omega) (k := 15) (n0 := 148) ⟨Nat.le_of_ble_eq_true rfl, Nat.le_of_ble_eq_true rfl, Nat.le_of_ble_eq_true rfl, Nat.le_of_ble_eq_true rfl, Nat.le_of_ble_eq_true rfl, Nat.le_of_ble_eq_true rfl, Nat.le_of_ble_eq_true rfl⟩ dL_isTaped_122 (fun G hP => ?_)
        rw [fk]
        refine jj_iconst F dL_isTaped_125 ?_
        refine jj_iload7 F dL_isTaped_126 ?_
        refine jj_ishl F dL_isTaped_128 ?_
        refine jj_topi (jI_of _) ?_
        refine jj_eqi (show _ = sBit (s 1 0) from rfl) ?_
        refine jj_icmpx_ne F (tgt := 169) dL_isTaped_129 rfl (fun c129 => by exact absurd rfl c129) (fun c129 => ?_)
        refine jj_aload0 F dL_isTaped_132 ?_
        refine jj_iload7 F dL_isTaped_133 ?_
        refine jj_iconst F dL_isTaped_135 ?_
        refine lq_he F hP hI (by omega) (by omega) (k := 18) (n0 := 166) ⟨Nat.le_of_ble_eq_true rfl, Nat.le_of_ble_eq_true rfl, Nat.le_of_ble_eq_true rfl, Nat.le_of_ble_eq_true rfl, Nat.le_of_ble_eq_true rfl, Nat.le_of_ble_eq_true rfl, Nat.le_of_ble_eq_true rfl⟩ dL_isTaped_136 (fun G hP => ?_)
        rw [fh]
        refine jj_sipush F (by decide) dL_isTaped_139 ?_
        refine jj_iload7 F dL_isTaped_142 ?_
        refine jj_imul F dL_isTaped_144 ?_
        refine jj_icmp_ne F (tgt := 169) dL_isTaped_145 rfl (by omega) (fun c145 => by exfalso; omega) (fun c145 => ?_)
        refine jj_aload0 F dL_isTaped_148 ?_
        refine jj_iload7 F dL_isTaped_149 ?_
        refine jj_iconst F dL_isTaped_151 ?_
        refine lq_t2 F hP hI (by omega) (k := 21) (n0 := 184) ⟨Nat.le_of_ble_eq_true rfl, Nat.le_of_ble_eq_true rfl, Nat.le_of_ble_eq_true rfl, Nat.le_of_ble_eq_true rfl, Nat.le_of_ble_eq_true rfl, Nat.le_of_ble_eq_true rfl, Nat.le_of_ble_eq_true rfl⟩ dL_isTaped_152 (fun G hP => ?_)
        rw [fl]
        refine jj_iconst F dL_isTaped_155 ?_
        refine jj_iload6 F dL_isTaped_156 ?_
        refine jj_bipush F (by decide) dL_isTaped_158 ?_
        refine jj_irem F (by omega) dL_isTaped_160 ?_
        refine jj_iadd F dL_isTaped_161 ?_
        refine jj_icmp_ne F (tgt := 169) dL_isTaped_162 rfl (by omega) (fun c162 => by exfalso; omega) (fun c162 => ?_)
        refine jj_iconst F dL_isTaped_165 ?_
        refine jj_goto F (tgt := 170) dL_isTaped_166 rfl ?_
        exact jj_zret B dL_isTaped_170 ⟨Nat.le_of_ble_eq_true rfl, Nat.le_of_ble_eq_true rfl⟩ (Or.inr rfl) ⟨1, rfl, rfl, _, _, _, _, _, c + 1, by omega, hL2, hP⟩
    · skip
      refine jj_icmp_lt F (tgt := 23) dL_isTaped_14 rfl (by omega) (fun c14 => by exfalso; omega) (fun c14 => ?_)
      refine jj_aload1 F dL_isTaped_17 ?_
      refine jj_iconst F dL_isTaped_18 ?_
      refine jm_ald F hP (by omega) dL_isTaped_19 ?_
      refine jj_if_ne F (tgt := 171) dL_isTaped_20 rfl (by omega) (fun c20 => by exfalso; omega) (fun c20 => ?_)
      refine jj_aload0 F dL_isTaped_23 ?_
      refine jj_iconst F dL_isTaped_24 ?_
      refine jj_iload6 F dL_isTaped_25 ?_
      refine jj_bipush F (by decide) dL_isTaped_27 ?_
      refine jj_idiv F (by omega) dL_isTaped_29 ?_
      refine jj_bipush F (by decide) dL_isTaped_30 ?_
      refine jj_irem F (by omega) dL_isTaped_32 ?_
      refine jj_iconst F dL_isTaped_33 ?_
      refine jj_iload6 F dL_isTaped_34 ?_
      refine jj_bipush F (by decide) dL_isTaped_36 ?_
      refine jj_irem F (by omega) dL_isTaped_38 ?_
      refine jj_iadd F dL_isTaped_39 ?_
      refine jj_iload5 F dL_isTaped_40 ?_
      refine jj_iconst F dL_isTaped_42 ?_
      refine jj_iconst F dL_isTaped_43 ?_
      by_cases h30 : s 1 0 = 30
      · skip
        refine la_no F (ka_session F.tr hP hI (by omega) (by omega) (by omega)) 3 (-1763000000) (by unfold t_session; rw [if_neg (by omega), if_neg (by omega), if_pos (by omega)]) (by decide) (fun h => by rw [h]; rfl) (k := 12) (n0 := 130) ⟨Nat.le_of_ble_eq_true rfl, Nat.le_of_ble_eq_true rfl, Nat.le_of_ble_eq_true rfl, Nat.le_of_ble_eq_true rfl, Nat.le_of_ble_eq_true rfl, Nat.le_of_ble_eq_true rfl, Nat.le_of_ble_eq_true rfl⟩ dL_isTaped_44 (fun G hP => ?_)
        refine jj_istore7 F dL_isTaped_47 (hN _ (by decide)) rfl ?_
        refine jj_iload7 F dL_isTaped_49 ?_
        refine jj_aload1 F dL_isTaped_51 ?_
        refine jj_iconst F dL_isTaped_52 ?_
        refine jm_ald F hP (by omega) dL_isTaped_53 ?_
        refine jj_bipush F (by decide) dL_isTaped_54 ?_
        refine jj_icmp_ne F (tgt := 64) dL_isTaped_56 rfl (by omega) (fun c56 => by exfalso; omega) (fun c56 => ?_)
        refine jj_ldc F (v := -1763000000) cn_L_128 (by decide) dL_isTaped_59 ?_
        refine jj_goto F (tgt := 67) dL_isTaped_61 rfl ?_
        refine jj_icmp_ne F (tgt := 74) dL_isTaped_67 rfl (by omega) (fun c67 => by exfalso; omega) (fun c67 => ?_)
        refine jj_iconst F dL_isTaped_70 ?_
        refine jj_goto F (tgt := 75) dL_isTaped_71 rfl ?_
        refine jj_istore8 F dL_isTaped_75 (hN _ (by decide)) rfl ?_
        refine jj_aload2 F dL_isTaped_77 ?_
        refine jj_aload1 F dL_isTaped_78 ?_
        refine jj_iconst F dL_isTaped_79 ?_
        refine jm_ald F hP (by omega) dL_isTaped_80 ?_
        refine jj_iload7 F dL_isTaped_81 ?_
        refine jj_if_lt F (tgt := 91) dL_isTaped_83 rfl (by omega) (fun c83 => ?_) (fun c83 => by exfalso; omega)
        refine jj_iconst F dL_isTaped_91 ?_
        refine jg_ast F hP (by omega) dL_isTaped_92 (fun G hP => ?_)
        have hL2 := (hL.mono (by omega)).gs (hL.G.off (t := m 1) (b := 0) (by omega))
        refine jj_aload1 F dL_isTaped_93 ?_
        refine jj_iconst F dL_isTaped_94 ?_
        refine jj_dup2 F rfl rfl dL_isTaped_95 ?_
        refine jm_ald F hP (by omega) dL_isTaped_96 ?_
        refine jj_iload7 F dL_isTaped_97 ?_
        refine jj_if_lt F (tgt := 106) dL_isTaped_99 rfl (by omega) (fun c99 => ?_) (fun c99 => by exfalso; omega)
        refine jj_iconst F dL_isTaped_106 ?_
        refine jj_iadd F dL_isTaped_107 ?_
        refine jm_ast F hP (by omega) dL_isTaped_108 (fun G hP => ?_)
        rw [ju_same] at hP
        refine jj_iload8 F dL_isTaped_109 ?_
        refine jj_if_eq F (tgt := 169) dL_isTaped_111 rfl (by omega) (fun c111 => by exfalso; omega) (fun c111 => ?_)
        refine jj_iload7 F dL_isTaped_114 ?_
        refine jj_if_lt F (tgt := 165) dL_isTaped_116 rfl (by omega) (fun c116 => ?_) (fun c116 => by exfalso; omega)
        refine jj_iconst F dL_isTaped_165 ?_
        refine jj_goto F (tgt := 170) dL_isTaped_166 rfl ?_
        exact jj_zret B dL_isTaped_170 ⟨Nat.le_of_ble_eq_true rfl, Nat.le_of_ble_eq_true rfl⟩ (Or.inr rfl) ⟨1, rfl, rfl, _, _, _, _, _, c, by omega, hL2, hP⟩
      · skip
        have ht : t_session s (x / 4 / 70 % 6) (1 + x / 4 % 70) (x % 4) = 0 := (by unfold t_session; rw [if_neg (by omega), if_neg (by omega), if_neg (by omega)])
        obtain ⟨hL2, e1, fr, fk, fh, fl⟩ := LI_session (hL.mono (by omega)) (by omega) ht
        obtain ⟨s2, hs⟩ : ∃ s2, s2 = n_session s (x / 4 / 70 % 6) (1 + x / 4 % 70) (x % 4) := ⟨_, rfl⟩
        rw [← hs] at hL2 e1 fk fh fl
        refine la_ok F (ka_session F.tr hP hI (by omega) (by omega) (by omega)) ht (k := 12) (n0 := 130) ⟨Nat.le_of_ble_eq_true rfl, Nat.le_of_ble_eq_true rfl, Nat.le_of_ble_eq_true rfl, Nat.le_of_ble_eq_true rfl, Nat.le_of_ble_eq_true rfl, Nat.le_of_ble_eq_true rfl, Nat.le_of_ble_eq_true rfl⟩ dL_isTaped_44 (fun G hP => ?_)
        rw [← hs] at hP
        rw [fr]
        have hI := hL2.I
        refine jj_istore7 F dL_isTaped_47 (hN _ (by decide)) rfl ?_
        refine jj_iload7 F dL_isTaped_49 ?_
        refine jj_aload1 F dL_isTaped_51 ?_
        refine jj_iconst F dL_isTaped_52 ?_
        refine jm_ald F hP (by omega) dL_isTaped_53 ?_
        refine jj_bipush F (by decide) dL_isTaped_54 ?_
        refine jj_icmp_ne F (tgt := 64) dL_isTaped_56 rfl (by omega) (fun c56 => ?_) (fun c56 => by exfalso; omega)
        refine jj_aload1 F dL_isTaped_64 ?_
        refine jj_iconst F dL_isTaped_65 ?_
        refine jm_ald F hP (by omega) dL_isTaped_66 ?_
        refine jj_icmp_ne F (tgt := 74) dL_isTaped_67 rfl (by omega) (fun c67 => by exfalso; omega) (fun c67 => ?_)
        refine jj_iconst F dL_isTaped_70 ?_
        refine jj_goto F (tgt := 75) dL_isTaped_71 rfl ?_
        refine jj_istore8 F dL_isTaped_75 (hN _ (by decide)) rfl ?_
        refine jj_aload2 F dL_isTaped_77 ?_
        refine jj_aload1 F dL_isTaped_78 ?_
        refine jj_iconst F dL_isTaped_79 ?_
        refine jm_ald F hP (by omega) dL_isTaped_80 ?_
        refine jj_iload7 F dL_isTaped_81 ?_
        refine jj_if_lt F (tgt := 91) dL_isTaped_83 rfl (by omega) (fun c83 => by exfalso; omega) (fun c83 => ?_)
        refine jj_bipush F (by decide) dL_isTaped_86 ?_
        refine jj_goto F (tgt := 92) dL_isTaped_88 rfl ?_
        refine jg_ast F hP (by omega) dL_isTaped_92 (fun G hP => ?_)
        rw [hM1] at hP
        refine jj_aload1 F dL_isTaped_93 ?_
        refine jj_iconst F dL_isTaped_94 ?_
        refine jj_dup2 F rfl rfl dL_isTaped_95 ?_
        refine jm_ald F hP (by omega) dL_isTaped_96 ?_
        refine jj_iload7 F dL_isTaped_97 ?_
        refine jj_if_lt F (tgt := 106) dL_isTaped_99 rfl (by omega) (fun c99 => by exfalso; omega) (fun c99 => ?_)
        refine jj_iconst F dL_isTaped_102 ?_
        refine jj_goto F (tgt := 107) dL_isTaped_103 rfl ?_
        refine jj_iadd F dL_isTaped_107 ?_
        refine jm_ast F hP (by omega) dL_isTaped_108 (fun G hP => ?_)
        refine jj_iload8 F dL_isTaped_109 ?_
        refine jj_if_eq F (tgt := 169) dL_isTaped_111 rfl (by omega) (fun c111 => by exfalso; omega) (fun c111 => ?_)
        refine jj_iload7 F dL_isTaped_114 ?_
        refine jj_if_lt F (tgt := 165) dL_isTaped_116 rfl (by omega) (fun c116 => by exfalso; omega) (fun c116 => ?_)
        refine jj_aload0 F dL_isTaped_119 ?_
        refine jj_iload7 F dL_isTaped_120 ?_
        refine lq_tk F hP hI (by omega) (k := 15) (n0 := 148) ⟨Nat.le_of_ble_eq_true rfl, Nat.le_of_ble_eq_true rfl, Nat.le_of_ble_eq_true rfl, Nat.le_of_ble_eq_true rfl, Nat.le_of_ble_eq_true rfl, Nat.le_of_ble_eq_true rfl, Nat.le_of_ble_eq_true rfl⟩ dL_isTaped_122 (fun G hP => ?_)
        rw [fk]
        refine jj_iconst F dL_isTaped_125 ?_
        refine jj_iload7 F dL_isTaped_126 ?_
        refine jj_ishl F dL_isTaped_128 ?_
        refine jj_topi (jI_of _) ?_
        refine jj_eqi (show _ = sBit (s 1 0) from rfl) ?_
        refine jj_icmpx_ne F (tgt := 169) dL_isTaped_129 rfl (fun c129 => by exact absurd rfl c129) (fun c129 => ?_)
        refine jj_aload0 F dL_isTaped_132 ?_
        refine jj_iload7 F dL_isTaped_133 ?_
        refine jj_iconst F dL_isTaped_135 ?_
        refine lq_he F hP hI (by omega) (by omega) (k := 18) (n0 := 166) ⟨Nat.le_of_ble_eq_true rfl, Nat.le_of_ble_eq_true rfl, Nat.le_of_ble_eq_true rfl, Nat.le_of_ble_eq_true rfl, Nat.le_of_ble_eq_true rfl, Nat.le_of_ble_eq_true rfl, Nat.le_of_ble_eq_true rfl⟩ dL_isTaped_136 (fun G hP => ?_)
        rw [fh]
        refine jj_sipush F (by decide) dL_isTaped_139 ?_
        refine jj_iload7 F dL_isTaped_142 ?_
        refine jj_imul F dL_isTaped_144 ?_
        refine jj_icmp_ne F (tgt := 169) dL_isTaped_145 rfl (by omega) (fun c145 => by exfalso; omega) (fun c145 => ?_)
        refine jj_aload0 F dL_isTaped_148 ?_
        refine jj_iload7 F dL_isTaped_149 ?_
        refine jj_iconst F dL_isTaped_151 ?_
        refine lq_t2 F hP hI (by omega) (k := 21) (n0 := 184) ⟨Nat.le_of_ble_eq_true rfl, Nat.le_of_ble_eq_true rfl, Nat.le_of_ble_eq_true rfl, Nat.le_of_ble_eq_true rfl, Nat.le_of_ble_eq_true rfl, Nat.le_of_ble_eq_true rfl, Nat.le_of_ble_eq_true rfl⟩ dL_isTaped_152 (fun G hP => ?_)
        rw [fl]
        refine jj_iconst F dL_isTaped_155 ?_
        refine jj_iload6 F dL_isTaped_156 ?_
        refine jj_bipush F (by decide) dL_isTaped_158 ?_
        refine jj_irem F (by omega) dL_isTaped_160 ?_
        refine jj_iadd F dL_isTaped_161 ?_
        refine jj_icmp_ne F (tgt := 169) dL_isTaped_162 rfl (by omega) (fun c162 => by exfalso; omega) (fun c162 => ?_)
        refine jj_iconst F dL_isTaped_165 ?_
        refine jj_goto F (tgt := 170) dL_isTaped_166 rfl ?_
        exact jj_zret B dL_isTaped_170 ⟨Nat.le_of_ble_eq_true rfl, Nat.le_of_ble_eq_true rfl⟩ (Or.inr rfl) ⟨1, rfl, rfl, _, _, _, _, _, c + 1, by omega, hL2, hP⟩
  · skip
    refine jj_icmp_lt F (tgt := 23) dL_isTaped_14 rfl (by omega) (fun c14 => by exfalso; omega) (fun c14 => ?_)
    refine jj_aload1 F dL_isTaped_17 ?_
    refine jj_iconst F dL_isTaped_18 ?_
    refine jm_ald F hP (by omega) dL_isTaped_19 ?_
    refine jj_if_ne F (tgt := 171) dL_isTaped_20 rfl (by omega) (fun c20 => ?_) (fun c20 => by exfalso; omega)
    refine jj_iload6 F dL_isTaped_171 ?_
    refine jj_aload1 F dL_isTaped_173 ?_
    refine jj_iconst F dL_isTaped_174 ?_
    refine jm_ald F hP (by omega) dL_isTaped_175 ?_
    refine jj_irem F (by omega) dL_isTaped_176 ?_
    refine jj_namei (fun tt htt => ?_)
    have hd : 0 ≤ tt ∧ tt < s 1 0 := by rw [htt, hM1]; exact ⟨Int.emod_nonneg _ (by omega), Int.emod_lt_of_pos _ (by omega)⟩
    clear htt
    have gt := hI.1.tape (t := tt) hd
    have gl := sLen_in hI.1 (t := tt) hd
    have gp := sPlay_01 s tt
    refine jj_istore7 F dL_isTaped_177 (hN _ (by decide)) rfl ?_
    refine jj_iload6 F dL_isTaped_179 ?_
    refine jj_bipush F (by decide) dL_isTaped_181 ?_
    refine jj_idiv F (by omega) dL_isTaped_183 ?_
    refine jj_istore8 F dL_isTaped_184 (hN _ (by decide)) rfl ?_
    refine jj_iload3 F dL_isTaped_186 ?_
    refine jj_iconst F dL_isTaped_187 ?_
    refine jj_icmp_ge F (tgt := 600) dL_isTaped_188 rfl (by omega) (fun c188 => ?_) (fun c188 => ?_)
    · skip
      refine jj_aload0 F dL_isTaped_600 ?_
      refine jj_iload7 F dL_isTaped_601 ?_
      refine jj_iconst F dL_isTaped_603 ?_
      refine lq_t0 F hP hI (by omega) (k := 3) (n0 := 18) ⟨Nat.le_of_ble_eq_true rfl, Nat.le_of_ble_eq_true rfl, Nat.le_of_ble_eq_true rfl, Nat.le_of_ble_eq_true rfl, Nat.le_of_ble_eq_true rfl, Nat.le_of_ble_eq_true rfl, Nat.le_of_ble_eq_true rfl⟩ dL_isTaped_604 (fun G hP => ?_)
      refine jj_istore9 F dL_isTaped_607 (hN _ (by decide)) rfl ?_
      refine jj_iload3 F dL_isTaped_609 ?_
      refine jj_iconst F dL_isTaped_610 ?_
      refine jj_icmp_ne F (tgt := 671) dL_isTaped_611 rfl (by omega) (fun c611 => ?_) (fun c611 => ?_)
      · skip
        refine jj_iload3 F dL_isTaped_671 ?_
        refine jj_bipush F (by decide) dL_isTaped_672 ?_
        refine jj_icmp_ne F (tgt := 742) dL_isTaped_674 rfl (by omega) (fun c674 => ?_) (fun c674 => ?_)
        · skip
          refine jj_iload3 F dL_isTaped_742 ?_
          refine jj_bipush F (by decide) dL_isTaped_743 ?_
          refine jj_icmp_ne F (tgt := 844) dL_isTaped_745 rfl (by omega) (fun c745 => ?_) (fun c745 => ?_)
          · skip
            refine jj_aload0 F dL_isTaped_844 ?_
            refine jj_bipush F (by decide) dL_isTaped_845 ?_
            refine jj_iload7 F dL_isTaped_847 ?_
            refine jj_iconst F dL_isTaped_849 ?_
            refine jj_iconst F dL_isTaped_850 ?_
            refine jj_iconst F dL_isTaped_851 ?_
            refine jj_iconst F dL_isTaped_852 ?_
            by_cases had : sPlay s tt = 0 ∨ s 11 0 = 6
            · skip
              refine la_no F (ka_add F.tr hP hI (by omega)) 2 (-1763000000) (by unfold t_add; rw [if_neg (by omega), if_pos had]) (by decide) (fun h => by rw [h]; rfl) (k := 15) (n0 := 148) ⟨Nat.le_of_ble_eq_true rfl, Nat.le_of_ble_eq_true rfl, Nat.le_of_ble_eq_true rfl, Nat.le_of_ble_eq_true rfl, Nat.le_of_ble_eq_true rfl, Nat.le_of_ble_eq_true rfl, Nat.le_of_ble_eq_true rfl⟩ dL_isTaped_853 (fun G hP => ?_)
              refine jj_istore10 F dL_isTaped_856 (hN _ (by decide)) rfl ?_
              refine jj_iload10 F dL_isTaped_858 ?_
              refine jj_ldc F (v := -1763000000) cn_L_128 (by decide) dL_isTaped_860 ?_
              refine jj_icmp_eq F (tgt := 889) dL_isTaped_862 rfl (by omega) (fun c862 => ?_) (fun c862 => by exfalso; omega)
              refine jj_iconst F dL_isTaped_889 ?_
              refine jj_goto F (tgt := 894) dL_isTaped_890 rfl ?_
              exact jj_zret B dL_isTaped_894 ⟨Nat.le_of_ble_eq_true rfl, Nat.le_of_ble_eq_true rfl⟩ (Or.inr rfl) ⟨1, rfl, rfl, _, _, _, _, _, c, by omega, (hL.mono (by omega)), hP⟩
            · skip
              have ht : t_add s tt = 0 := (by unfold t_add; rw [if_neg (by omega), if_neg had])
              obtain ⟨hL2, f0, f1, f2, f3, fr⟩ := LI_add (hL.mono (by omega)) (by omega) ht
              obtain ⟨s2, hs⟩ : ∃ s2, s2 = n_add s tt := ⟨_, rfl⟩
              rw [← hs] at hL2 f0 f1 f2 f3
              have f1b : s2 1 0 = s 1 0 := by rw [f1]
              have fp : sPlay s2 tt = sPlay s tt := by unfold sPlay; rw [f0, f2, f3]
              refine la_ok F (ka_add F.tr hP hI (by omega)) ht (k := 15) (n0 := 148) ⟨Nat.le_of_ble_eq_true rfl, Nat.le_of_ble_eq_true rfl, Nat.le_of_ble_eq_true rfl, Nat.le_of_ble_eq_true rfl, Nat.le_of_ble_eq_true rfl, Nat.le_of_ble_eq_true rfl, Nat.le_of_ble_eq_true rfl⟩ dL_isTaped_853 (fun G hP => ?_)
              rw [← hs] at hP
              rw [fr]
              have hI := hL2.I
              refine jj_istore10 F dL_isTaped_856 (hN _ (by decide)) rfl ?_
              refine jj_iload10 F dL_isTaped_858 ?_
              refine jj_ldc F (v := -1763000000) cn_L_128 (by decide) dL_isTaped_860 ?_
              refine jj_icmp_eq F (tgt := 889) dL_isTaped_862 rfl (by omega) (fun c862 => by exfalso; omega) (fun c862 => ?_)
              refine jj_iload10 F dL_isTaped_865 ?_
              refine jj_iconst F dL_isTaped_867 ?_
              refine jj_icmp_lt F (tgt := 893) dL_isTaped_868 rfl (by omega) (fun c868 => by exfalso; omega) (fun c868 => ?_)
              refine jj_iload10 F dL_isTaped_871 ?_
              refine jj_bipush F (by decide) dL_isTaped_873 ?_
              refine jj_icmp_gt F (tgt := 893) dL_isTaped_875 rfl (by omega) (fun c875 => by exfalso; omega) (fun c875 => ?_)
              refine jj_aload0 F dL_isTaped_878 ?_
              refine jj_iload7 F dL_isTaped_879 ?_
              refine jj_iconst F dL_isTaped_881 ?_
              refine lq_t1 F hP hI (by omega) (k := 18) (n0 := 166) ⟨Nat.le_of_ble_eq_true rfl, Nat.le_of_ble_eq_true rfl, Nat.le_of_ble_eq_true rfl, Nat.le_of_ble_eq_true rfl, Nat.le_of_ble_eq_true rfl, Nat.le_of_ble_eq_true rfl, Nat.le_of_ble_eq_true rfl⟩ dL_isTaped_882 (fun G hP => ?_)
              rw [fp]
              refine jj_iconst F dL_isTaped_885 ?_
              refine jj_icmp_ne F (tgt := 893) dL_isTaped_886 rfl (by omega) (fun c886 => by exfalso; omega) (fun c886 => ?_)
              refine jj_iconst F dL_isTaped_889 ?_
              refine jj_goto F (tgt := 894) dL_isTaped_890 rfl ?_
              exact jj_zret B dL_isTaped_894 ⟨Nat.le_of_ble_eq_true rfl, Nat.le_of_ble_eq_true rfl⟩ (Or.inr rfl) ⟨1, rfl, rfl, _, _, _, _, _, c + 1, by omega, hL2, hP⟩
          · skip
            refine jj_iload8 F dL_isTaped_748 ?_
            refine jj_iconst F dL_isTaped_750 ?_
            refine jj_irem F (by omega) dL_isTaped_751 ?_
            refine jj_if_ne F (tgt := 844) dL_isTaped_752 rfl (by omega) (fun c752 => ?_) (fun c752 => ?_)
            · skip
              refine jj_aload0 F dL_isTaped_844 ?_
              refine jj_bipush F (by decide) dL_isTaped_845 ?_
              refine jj_iload7 F dL_isTaped_847 ?_
              refine jj_iconst F dL_isTaped_849 ?_
              refine jj_iconst F dL_isTaped_850 ?_
              refine jj_iconst F dL_isTaped_851 ?_
              refine jj_iconst F dL_isTaped_852 ?_
              by_cases had : sPlay s tt = 0 ∨ s 11 0 = 6
              · skip
                refine la_no F (ka_add F.tr hP hI (by omega)) 2 (-1763000000) (by unfold t_add; rw [if_neg (by omega), if_pos had]) (by decide) (fun h => by rw [h]; rfl) (k := 15) (n0 := 148) ⟨Nat.le_of_ble_eq_true rfl, Nat.le_of_ble_eq_true rfl, Nat.le_of_ble_eq_true rfl, Nat.le_of_ble_eq_true rfl, Nat.le_of_ble_eq_true rfl, Nat.le_of_ble_eq_true rfl, Nat.le_of_ble_eq_true rfl⟩ dL_isTaped_853 (fun G hP => ?_)
                refine jj_istore10 F dL_isTaped_856 (hN _ (by decide)) rfl ?_
                refine jj_iload10 F dL_isTaped_858 ?_
                refine jj_ldc F (v := -1763000000) cn_L_128 (by decide) dL_isTaped_860 ?_
                refine jj_icmp_eq F (tgt := 889) dL_isTaped_862 rfl (by omega) (fun c862 => ?_) (fun c862 => by exfalso; omega)
                refine jj_iconst F dL_isTaped_889 ?_
                refine jj_goto F (tgt := 894) dL_isTaped_890 rfl ?_
                exact jj_zret B dL_isTaped_894 ⟨Nat.le_of_ble_eq_true rfl, Nat.le_of_ble_eq_true rfl⟩ (Or.inr rfl) ⟨1, rfl, rfl, _, _, _, _, _, c, by omega, (hL.mono (by omega)), hP⟩
              · skip
                have ht : t_add s tt = 0 := (by unfold t_add; rw [if_neg (by omega), if_neg had])
                obtain ⟨hL2, f0, f1, f2, f3, fr⟩ := LI_add (hL.mono (by omega)) (by omega) ht
                obtain ⟨s2, hs⟩ : ∃ s2, s2 = n_add s tt := ⟨_, rfl⟩
                rw [← hs] at hL2 f0 f1 f2 f3
                have f1b : s2 1 0 = s 1 0 := by rw [f1]
                have fp : sPlay s2 tt = sPlay s tt := by unfold sPlay; rw [f0, f2, f3]
                refine la_ok F (ka_add F.tr hP hI (by omega)) ht (k := 15) (n0 := 148) ⟨Nat.le_of_ble_eq_true rfl, Nat.le_of_ble_eq_true rfl, Nat.le_of_ble_eq_true rfl, Nat.le_of_ble_eq_true rfl, Nat.le_of_ble_eq_true rfl, Nat.le_of_ble_eq_true rfl, Nat.le_of_ble_eq_true rfl⟩ dL_isTaped_853 (fun G hP => ?_)
                rw [← hs] at hP
                rw [fr]
                have hI := hL2.I
                refine jj_istore10 F dL_isTaped_856 (hN _ (by decide)) rfl ?_
                refine jj_iload10 F dL_isTaped_858 ?_
                refine jj_ldc F (v := -1763000000) cn_L_128 (by decide) dL_isTaped_860 ?_
                refine jj_icmp_eq F (tgt := 889) dL_isTaped_862 rfl (by omega) (fun c862 => by exfalso; omega) (fun c862 => ?_)
                refine jj_iload10 F dL_isTaped_865 ?_
                refine jj_iconst F dL_isTaped_867 ?_
                refine jj_icmp_lt F (tgt := 893) dL_isTaped_868 rfl (by omega) (fun c868 => by exfalso; omega) (fun c868 => ?_)
                refine jj_iload10 F dL_isTaped_871 ?_
                refine jj_bipush F (by decide) dL_isTaped_873 ?_
                refine jj_icmp_gt F (tgt := 893) dL_isTaped_875 rfl (by omega) (fun c875 => by exfalso; omega) (fun c875 => ?_)
                refine jj_aload0 F dL_isTaped_878 ?_
                refine jj_iload7 F dL_isTaped_879 ?_
                refine jj_iconst F dL_isTaped_881 ?_
                refine lq_t1 F hP hI (by omega) (k := 18) (n0 := 166) ⟨Nat.le_of_ble_eq_true rfl, Nat.le_of_ble_eq_true rfl, Nat.le_of_ble_eq_true rfl, Nat.le_of_ble_eq_true rfl, Nat.le_of_ble_eq_true rfl, Nat.le_of_ble_eq_true rfl, Nat.le_of_ble_eq_true rfl⟩ dL_isTaped_882 (fun G hP => ?_)
                rw [fp]
                refine jj_iconst F dL_isTaped_885 ?_
                refine jj_icmp_ne F (tgt := 893) dL_isTaped_886 rfl (by omega) (fun c886 => by exfalso; omega) (fun c886 => ?_)
                refine jj_iconst F dL_isTaped_889 ?_
                refine jj_goto F (tgt := 894) dL_isTaped_890 rfl ?_
                exact jj_zret B dL_isTaped_894 ⟨Nat.le_of_ble_eq_true rfl, Nat.le_of_ble_eq_true rfl⟩ (Or.inr rfl) ⟨1, rfl, rfl, _, _, _, _, _, c + 1, by omega, hL2, hP⟩
            · skip
              refine jj_iconst F dL_isTaped_755 ?_
              refine jj_istore10 F dL_isTaped_756 (hN _ (by decide)) rfl ?_
              refine jj_iconst F dL_isTaped_758 ?_
              refine jj_istore11 F dL_isTaped_759 (hN _ (by decide)) rfl ?_
              have ht : t_vault (x % 4) = 0 := (by unfold t_vault; rw [if_pos (by omega)])
              obtain ⟨hL2, fr, fz⟩ := LI_fire (hL.mono (by omega)) (by omega) ht
              obtain ⟨hL3, -, -⟩ := LI_fire hL2 (by omega) ht
              obtain ⟨s2, hs⟩ : ∃ s2, s2 = n_fire s (x % 4) := ⟨_, rfl⟩
              rw [← hs] at hL2 hL3 fz
              have hNf := sFireN_in (s := s) (v := x % 4) (s 1 0).toNat
              have lp : ∀ (n : Nat) (j : Nat) (kc kn : Nat) (G : jj_G), WP (jj_ac X) A s e m g r G → n + j = (s 1 0).toNat → kc + 6 * n ≤ 300 → kn + 36 * n ≤ 2000 → jj_J X G kc kn 761 [some (.ref (A 0)), some (.ref (A 1)), some (.ref (A 2)), some (.int (jI h)), some (.int (jI x)), some (.int (jI (x % 4))), some (.int (jI (x / 4))), some (.int (jI tt)), some (.int (jI (x / 4 / 30))), some (.int (jI (s 2 tt))), some (.int (jI (sFireN s (x % 4) j))), some (.int (jI (j : Int))), none, none, none, none, none, none] [] := by
                intro n
                induction n with
                | zero =>
                  intro j kc kn G hP hj h1 h2
                  have ej : j = (s 1 0).toNat := by omega
                  subst ej
                  refine jj_wide (k := 300) (n := 2000) ⟨by omega, by omega⟩ ?_
                  refine jj_iload11 F dL_isTaped_761 ?_
                  refine jj_aload1 F dL_isTaped_763 ?_
                  refine jj_iconst F dL_isTaped_764 ?_
                  refine jm_ald F hP (by omega) dL_isTaped_765 ?_
                  refine jj_icmp_ge F (tgt := 808) dL_isTaped_766 rfl (by omega) (fun c766 => ?_) (fun c766 => by exfalso; omega)
                  refine jj_aload0 F dL_isTaped_808 ?_
                  refine jj_iconst F dL_isTaped_809 ?_
                  refine jj_iload5 F dL_isTaped_810 ?_
                  refine jj_iconst F dL_isTaped_812 ?_
                  refine jj_iconst F dL_isTaped_813 ?_
                  refine jj_iconst F dL_isTaped_814 ?_
                  refine jj_iconst F dL_isTaped_815 ?_
                  refine la_ok F (ka_fire F.tr hP hI (by omega)) ht (k := 312) (n0 := 2130) ⟨Nat.le_of_ble_eq_true rfl, Nat.le_of_ble_eq_true rfl, Nat.le_of_ble_eq_true rfl, Nat.le_of_ble_eq_true rfl, Nat.le_of_ble_eq_true rfl, Nat.le_of_ble_eq_true rfl, Nat.le_of_ble_eq_true rfl⟩ dL_isTaped_816 (fun G hP => ?_)
                  rw [← hs] at hP
                  rw [fr]
                  have hI := hL2.I
                  refine jj_iload10 F dL_isTaped_819 ?_
                  refine jj_icmp_ne F (tgt := 842) dL_isTaped_821 rfl (by omega) (fun c821 => by exfalso; omega) (fun c821 => ?_)
                  refine jj_aload0 F dL_isTaped_824 ?_
                  refine jj_iconst F dL_isTaped_825 ?_
                  refine jj_iload5 F dL_isTaped_826 ?_
                  refine jj_iconst F dL_isTaped_828 ?_
                  refine jj_iconst F dL_isTaped_829 ?_
                  refine jj_iconst F dL_isTaped_830 ?_
                  refine jj_iconst F dL_isTaped_831 ?_
                  refine la_ok F (ka_fire F.tr hP hI (by omega)) ht (k := 324) (n0 := 2260) ⟨Nat.le_of_ble_eq_true rfl, Nat.le_of_ble_eq_true rfl, Nat.le_of_ble_eq_true rfl, Nat.le_of_ble_eq_true rfl, Nat.le_of_ble_eq_true rfl, Nat.le_of_ble_eq_true rfl, Nat.le_of_ble_eq_true rfl⟩ dL_isTaped_832 (fun G hP => ?_)
                  rw [fz]
                  refine jj_if_ne F (tgt := 842) dL_isTaped_835 rfl (by omega) (fun c835 => by exfalso; omega) (fun c835 => ?_)
                  refine jj_iconst F dL_isTaped_838 ?_
                  refine jj_goto F (tgt := 843) dL_isTaped_839 rfl ?_
                  exact jj_zret B dL_isTaped_843 ⟨Nat.le_of_ble_eq_true rfl, Nat.le_of_ble_eq_true rfl⟩ (Or.inr rfl) ⟨1, rfl, rfl, _, _, _, _, _, c + 1 + 1, by omega, hL3, hP⟩
                | succ n ih =>
                  intro j kc kn G hP hj h1 h2
                  have gj := hI.1.tape (t := (j : Int)) (by omega)
                  have sj := sFireN_in (s := s) (v := x % 4) j
                  by_cases h5 : s 5 j = x % 4
                  · skip
                    by_cases h3 : s 2 j = 3
                    · skip
                      refine jj_iload11 F dL_isTaped_761 ?_
                      refine jj_aload1 F dL_isTaped_763 ?_
                      refine jj_iconst F dL_isTaped_764 ?_
                      refine jm_ald F hP (by omega) dL_isTaped_765 ?_
                      refine jj_icmp_ge F (tgt := 808) dL_isTaped_766 rfl (by omega) (fun c766 => by exfalso; omega) (fun c766 => ?_)
                      refine jj_iload10 F dL_isTaped_769 ?_
                      refine jj_aload0 F dL_isTaped_771 ?_
                      refine jj_iload11 F dL_isTaped_772 ?_
                      refine jj_iconst F dL_isTaped_774 ?_
                      refine lq_t4 F hP hI (by omega) (k := kc + 3) (n0 := kn + 18) ⟨Nat.le_of_ble_eq_true rfl, Nat.le_of_ble_eq_true rfl, (Nat.le_refl _), (Nat.le_refl _), (show kc + 3 ≤ 600 by omega), (show kn + 18 ≤ 4000 by omega), Nat.le_of_ble_eq_true rfl⟩ dL_isTaped_775 (fun G hP => ?_)
                      refine jj_iload5 F dL_isTaped_778 ?_
                      refine jj_icmp_ne F (tgt := 798) dL_isTaped_780 rfl (by omega) (fun c780 => by exfalso; omega) (fun c780 => ?_)
                      refine jj_aload0 F dL_isTaped_783 ?_
                      refine jj_iload11 F dL_isTaped_784 ?_
                      refine jj_iconst F dL_isTaped_786 ?_
                      refine lq_t0 F hP hI (by omega) (k := kc + 6) (n0 := kn + 36) ⟨Nat.le_of_ble_eq_true rfl, Nat.le_of_ble_eq_true rfl, (Nat.le_refl _), (Nat.le_refl _), (show kc + 6 ≤ 600 by omega), (show kn + 36 ≤ 4000 by omega), Nat.le_of_ble_eq_true rfl⟩ dL_isTaped_787 (fun G hP => ?_)
                      refine jj_iconst F dL_isTaped_790 ?_
                      refine jj_icmp_eq F (tgt := 798) dL_isTaped_791 rfl (by omega) (fun c791 => ?_) (fun c791 => by exfalso; omega)
                      refine jj_iconst F dL_isTaped_798 ?_
                      refine jj_iadd F dL_isTaped_799 ?_
                      refine jj_istore10 F dL_isTaped_800 (hN _ (by decide)) rfl ?_
                      refine jj_iinc11 F dL_isTaped_802 (hN _ (by decide)) rfl ?_
                      refine jj_goto F (tgt := 761) dL_isTaped_805 rfl ?_
                      have ih1 := fun kc kn => ih (j + 1) kc kn G hP (by omega)
                      rw [show (((j + 1 : Nat)) : Int) = (j : Int) + 1 from rfl, show sFireN s (x % 4) (j + 1) = sFireN s (x % 4) j + (if s 5 j = x % 4 ∧ ¬ s 2 j = 3 then 1 else 0) from rfl, if_neg (fun hq => hq.2 h3)] at ih1
                      exact ih1 (kc + 6) (kn + 36) (by omega) (by omega)
                    · skip
                      refine jj_iload11 F dL_isTaped_761 ?_
                      refine jj_aload1 F dL_isTaped_763 ?_
                      refine jj_iconst F dL_isTaped_764 ?_
                      refine jm_ald F hP (by omega) dL_isTaped_765 ?_
                      refine jj_icmp_ge F (tgt := 808) dL_isTaped_766 rfl (by omega) (fun c766 => by exfalso; omega) (fun c766 => ?_)
                      refine jj_iload10 F dL_isTaped_769 ?_
                      refine jj_aload0 F dL_isTaped_771 ?_
                      refine jj_iload11 F dL_isTaped_772 ?_
                      refine jj_iconst F dL_isTaped_774 ?_
                      refine lq_t4 F hP hI (by omega) (k := kc + 3) (n0 := kn + 18) ⟨Nat.le_of_ble_eq_true rfl, Nat.le_of_ble_eq_true rfl, (Nat.le_refl _), (Nat.le_refl _), (show kc + 3 ≤ 600 by omega), (show kn + 18 ≤ 4000 by omega), Nat.le_of_ble_eq_true rfl⟩ dL_isTaped_775 (fun G hP => ?_)
                      refine jj_iload5 F dL_isTaped_778 ?_
                      refine jj_icmp_ne F (tgt := 798) dL_isTaped_780 rfl (by omega) (fun c780 => by exfalso; omega) (fun c780 => ?_)
                      refine jj_aload0 F dL_isTaped_783 ?_
                      refine jj_iload11 F dL_isTaped_784 ?_
                      refine jj_iconst F dL_isTaped_786 ?_
                      refine lq_t0 F hP hI (by omega) (k := kc + 6) (n0 := kn + 36) ⟨Nat.le_of_ble_eq_true rfl, Nat.le_of_ble_eq_true rfl, (Nat.le_refl _), (Nat.le_refl _), (show kc + 6 ≤ 600 by omega), (show kn + 36 ≤ 4000 by omega), Nat.le_of_ble_eq_true rfl⟩ dL_isTaped_787 (fun G hP => ?_)
                      refine jj_iconst F dL_isTaped_790 ?_
                      refine jj_icmp_eq F (tgt := 798) dL_isTaped_791 rfl (by omega) (fun c791 => by exfalso; omega) (fun c791 => ?_)
                      refine jj_iconst F dL_isTaped_794 ?_
                      refine jj_goto F (tgt := 799) dL_isTaped_795 rfl ?_
                      refine jj_iadd F dL_isTaped_799 ?_
                      refine jj_istore10 F dL_isTaped_800 (hN _ (by decide)) rfl ?_
                      refine jj_iinc11 F dL_isTaped_802 (hN _ (by decide)) rfl ?_
                      refine jj_goto F (tgt := 761) dL_isTaped_805 rfl ?_
                      have ih1 := fun kc kn => ih (j + 1) kc kn G hP (by omega)
                      rw [show (((j + 1 : Nat)) : Int) = (j : Int) + 1 from rfl, show sFireN s (x % 4) (j + 1) = sFireN s (x % 4) j + (if s 5 j = x % 4 ∧ ¬ s 2 j = 3 then 1 else 0) from rfl, if_pos ⟨h5, h3⟩] at ih1
                      exact ih1 (kc + 6) (kn + 36) (by omega) (by omega)
                  · skip
                    refine jj_iload11 F dL_isTaped_761 ?_
                    refine jj_aload1 F dL_isTaped_763 ?_
                    refine jj_iconst F dL_isTaped_764 ?_
                    refine jm_ald F hP (by omega) dL_isTaped_765 ?_
                    refine jj_icmp_ge F (tgt := 808) dL_isTaped_766 rfl (by omega) (fun c766 => by exfalso; omega) (fun c766 => ?_)
                    refine jj_iload10 F dL_isTaped_769 ?_
                    refine jj_aload0 F dL_isTaped_771 ?_
                    refine jj_iload11 F dL_isTaped_772 ?_
                    refine jj_iconst F dL_isTaped_774 ?_
                    refine lq_t4 F hP hI (by omega) (k := kc + 3) (n0 := kn + 18) ⟨Nat.le_of_ble_eq_true rfl, Nat.le_of_ble_eq_true rfl, (Nat.le_refl _), (Nat.le_refl _), (show kc + 3 ≤ 600 by omega), (show kn + 18 ≤ 4000 by omega), Nat.le_of_ble_eq_true rfl⟩ dL_isTaped_775 (fun G hP => ?_)
                    refine jj_iload5 F dL_isTaped_778 ?_
                    refine jj_icmp_ne F (tgt := 798) dL_isTaped_780 rfl (by omega) (fun c780 => ?_) (fun c780 => by exfalso; omega)
                    refine jj_iconst F dL_isTaped_798 ?_
                    refine jj_iadd F dL_isTaped_799 ?_
                    refine jj_istore10 F dL_isTaped_800 (hN _ (by decide)) rfl ?_
                    refine jj_iinc11 F dL_isTaped_802 (hN _ (by decide)) rfl ?_
                    refine jj_goto F (tgt := 761) dL_isTaped_805 rfl ?_
                    have ih1 := fun kc kn => ih (j + 1) kc kn G hP (by omega)
                    rw [show (((j + 1 : Nat)) : Int) = (j : Int) + 1 from rfl, show sFireN s (x % 4) (j + 1) = sFireN s (x % 4) j + (if s 5 j = x % 4 ∧ ¬ s 2 j = 3 then 1 else 0) from rfl, if_neg (fun hq => h5 hq.1)] at ih1
                    exact ih1 (kc + 3) (kn + 18) (by omega) (by omega)
              exact lp (s 1 0).toNat 0 _ _ G hP (by omega) (by omega) (by omega)
        · skip
          refine jj_aload0 F dL_isTaped_677 ?_
          refine jj_iconst F dL_isTaped_678 ?_
          refine jj_iload7 F dL_isTaped_679 ?_
          refine jj_iconst F dL_isTaped_681 ?_
          refine jj_iconst F dL_isTaped_682 ?_
          refine jj_iconst F dL_isTaped_683 ?_
          refine jj_iconst F dL_isTaped_684 ?_
          by_cases h21 : s 2 tt = 1
          · skip
            have ht : t_tape s tt 1 = 0 := (by unfold t_tape; rw [if_neg (by omega), if_pos (by omega)])
            have fr : r_bake s tt = s 0 0 + 30 := if_pos ht
            obtain ⟨hL2, f2, f3, f1, f0⟩ := LI_bake (hL.mono (by omega)) (by omega) ht
            obtain ⟨s2, hs⟩ : ∃ s2, s2 = n_bake s tt := ⟨_, rfl⟩
            rw [← hs] at hL2 f2 f3 f1 f0
            have f1b : s2 1 0 = s 1 0 := by rw [f1]
            have f0b : s2 0 0 = s 0 0 := by rw [f0]
            have fp : sPlay s2 tt = 1 := by unfold sPlay; rw [if_neg (by omega), if_pos (by omega)]
            refine la_ok F (ka_bake F.tr hP hI (by omega)) ht (k := 15) (n0 := 148) ⟨Nat.le_of_ble_eq_true rfl, Nat.le_of_ble_eq_true rfl, Nat.le_of_ble_eq_true rfl, Nat.le_of_ble_eq_true rfl, Nat.le_of_ble_eq_true rfl, Nat.le_of_ble_eq_true rfl, Nat.le_of_ble_eq_true rfl⟩ dL_isTaped_685 (fun G hP => ?_)
            rw [← hs] at hP
            rw [fr]
            have hI := hL2.I
            refine jj_iload9 F dL_isTaped_688 ?_
            refine jj_iconst F dL_isTaped_690 ?_
            refine jj_icmp_ne F (tgt := 703) dL_isTaped_691 rfl (by omega) (fun c691 => by exfalso; omega) (fun c691 => ?_)
            refine jj_aload1 F dL_isTaped_694 ?_
            refine jj_iconst F dL_isTaped_695 ?_
            refine jm_ald F hP (by omega) dL_isTaped_696 ?_
            refine jj_bipush F (by decide) dL_isTaped_697 ?_
            refine jj_iadd F dL_isTaped_699 ?_
            refine jj_goto F (tgt := 705) dL_isTaped_700 rfl ?_
            refine jj_icmp_ne F (tgt := 740) dL_isTaped_705 rfl (by omega) (fun c705 => by exfalso; omega) (fun c705 => ?_)
            refine jj_iload9 F dL_isTaped_708 ?_
            refine jj_iconst F dL_isTaped_710 ?_
            refine jj_icmp_ne F (tgt := 736) dL_isTaped_711 rfl (by omega) (fun c711 => by exfalso; omega) (fun c711 => ?_)
            refine jj_aload0 F dL_isTaped_714 ?_
            refine jj_iload7 F dL_isTaped_715 ?_
            refine jj_iconst F dL_isTaped_717 ?_
            refine lq_t0 F hP hI (by omega) (k := 18) (n0 := 166) ⟨Nat.le_of_ble_eq_true rfl, Nat.le_of_ble_eq_true rfl, Nat.le_of_ble_eq_true rfl, Nat.le_of_ble_eq_true rfl, Nat.le_of_ble_eq_true rfl, Nat.le_of_ble_eq_true rfl, Nat.le_of_ble_eq_true rfl⟩ dL_isTaped_718 (fun G hP => ?_)
            rw [f2]
            refine jj_iconst F dL_isTaped_721 ?_
            refine jj_icmp_ne F (tgt := 740) dL_isTaped_722 rfl (by omega) (fun c722 => by exfalso; omega) (fun c722 => ?_)
            refine jj_aload0 F dL_isTaped_725 ?_
            refine jj_iload7 F dL_isTaped_726 ?_
            refine jj_iconst F dL_isTaped_728 ?_
            refine lq_t1 F hP hI (by omega) (k := 21) (n0 := 184) ⟨Nat.le_of_ble_eq_true rfl, Nat.le_of_ble_eq_true rfl, Nat.le_of_ble_eq_true rfl, Nat.le_of_ble_eq_true rfl, Nat.le_of_ble_eq_true rfl, Nat.le_of_ble_eq_true rfl, Nat.le_of_ble_eq_true rfl⟩ dL_isTaped_729 (fun G hP => ?_)
            rw [fp]
            refine jj_iconst F dL_isTaped_732 ?_
            refine jj_icmp_ne F (tgt := 740) dL_isTaped_733 rfl (by omega) (fun c733 => by exfalso; omega) (fun c733 => ?_)
            refine jj_iconst F dL_isTaped_736 ?_
            refine jj_goto F (tgt := 741) dL_isTaped_737 rfl ?_
            exact jj_zret B dL_isTaped_741 ⟨Nat.le_of_ble_eq_true rfl, Nat.le_of_ble_eq_true rfl⟩ (Or.inr rfl) ⟨1, rfl, rfl, _, _, _, _, _, c + 1, by omega, hL2, hP⟩
          · skip
            refine la_no F (ka_bake F.tr hP hI (by omega)) 2 (-1763000000) (by unfold t_tape; rw [if_neg (by omega), if_neg (by omega)]) (by decide) (fun h => by rw [h]; rfl) (k := 15) (n0 := 148) ⟨Nat.le_of_ble_eq_true rfl, Nat.le_of_ble_eq_true rfl, Nat.le_of_ble_eq_true rfl, Nat.le_of_ble_eq_true rfl, Nat.le_of_ble_eq_true rfl, Nat.le_of_ble_eq_true rfl, Nat.le_of_ble_eq_true rfl⟩ dL_isTaped_685 (fun G hP => ?_)
            refine jj_iload9 F dL_isTaped_688 ?_
            refine jj_iconst F dL_isTaped_690 ?_
            refine jj_icmp_ne F (tgt := 703) dL_isTaped_691 rfl (by omega) (fun c691 => ?_) (fun c691 => by exfalso; omega)
            refine jj_ldc F (v := -1763000000) cn_L_128 (by decide) dL_isTaped_703 ?_
            refine jj_icmp_ne F (tgt := 740) dL_isTaped_705 rfl (by omega) (fun c705 => by exfalso; omega) (fun c705 => ?_)
            refine jj_iload9 F dL_isTaped_708 ?_
            refine jj_iconst F dL_isTaped_710 ?_
            refine jj_icmp_ne F (tgt := 736) dL_isTaped_711 rfl (by omega) (fun c711 => ?_) (fun c711 => by exfalso; omega)
            refine jj_iconst F dL_isTaped_736 ?_
            refine jj_goto F (tgt := 741) dL_isTaped_737 rfl ?_
            exact jj_zret B dL_isTaped_741 ⟨Nat.le_of_ble_eq_true rfl, Nat.le_of_ble_eq_true rfl⟩ (Or.inr rfl) ⟨1, rfl, rfl, _, _, _, _, _, c, by omega, (hL.mono (by omega)), hP⟩
      · skip
        refine jj_aload0 F dL_isTaped_614 ?_
        refine jj_iconst F dL_isTaped_615 ?_
        refine jj_iload7 F dL_isTaped_616 ?_
        refine jj_iconst F dL_isTaped_618 ?_
        refine jj_iconst F dL_isTaped_619 ?_
        refine jj_iconst F dL_isTaped_620 ?_
        refine jj_iconst F dL_isTaped_621 ?_
        by_cases h20 : s 2 tt = 0
        · skip
          have ht : t_tape s tt 0 = 0 := (by unfold t_tape; rw [if_neg (by omega), if_pos (by omega)])
          obtain ⟨hL2, f2, f1⟩ := LI_shed (hL.mono (by omega)) (by omega) ht
          obtain ⟨s2, hs⟩ : ∃ s2, s2 = n_shed s tt := ⟨_, rfl⟩
          rw [← hs] at hL2 f2 f1
          have f1b : s2 1 0 = s 1 0 := by rw [f1]
          have fp : sPlay s2 tt = 0 := by unfold sPlay; rw [if_neg (by omega), if_neg (by omega)]
          refine la_ok F (ka_shed F.tr hP hI (by omega)) ht (k := 15) (n0 := 148) ⟨Nat.le_of_ble_eq_true rfl, Nat.le_of_ble_eq_true rfl, Nat.le_of_ble_eq_true rfl, Nat.le_of_ble_eq_true rfl, Nat.le_of_ble_eq_true rfl, Nat.le_of_ble_eq_true rfl, Nat.le_of_ble_eq_true rfl⟩ dL_isTaped_622 (fun G hP => ?_)
          rw [← hs] at hP
          have hI := hL2.I
          refine jj_iload9 F dL_isTaped_625 ?_
          refine jj_if_ne F (tgt := 634) dL_isTaped_627 rfl (by omega) (fun c627 => by exfalso; omega) (fun c627 => ?_)
          refine jj_iconst F dL_isTaped_630 ?_
          refine jj_goto F (tgt := 636) dL_isTaped_631 rfl ?_
          refine jj_icmp_ne F (tgt := 669) dL_isTaped_636 rfl (by omega) (fun c636 => by exfalso; omega) (fun c636 => ?_)
          refine jj_iload9 F dL_isTaped_639 ?_
          refine jj_if_gt F (tgt := 665) dL_isTaped_641 rfl (by omega) (fun c641 => by exfalso; omega) (fun c641 => ?_)
          refine jj_aload0 F dL_isTaped_644 ?_
          refine jj_iload7 F dL_isTaped_645 ?_
          refine jj_iconst F dL_isTaped_647 ?_
          refine lq_t0 F hP hI (by omega) (k := 18) (n0 := 166) ⟨Nat.le_of_ble_eq_true rfl, Nat.le_of_ble_eq_true rfl, Nat.le_of_ble_eq_true rfl, Nat.le_of_ble_eq_true rfl, Nat.le_of_ble_eq_true rfl, Nat.le_of_ble_eq_true rfl, Nat.le_of_ble_eq_true rfl⟩ dL_isTaped_648 (fun G hP => ?_)
          rw [f2]
          refine jj_iconst F dL_isTaped_651 ?_
          refine jj_icmp_ne F (tgt := 669) dL_isTaped_652 rfl (by omega) (fun c652 => by exfalso; omega) (fun c652 => ?_)
          refine jj_aload0 F dL_isTaped_655 ?_
          refine jj_iload7 F dL_isTaped_656 ?_
          refine jj_iconst F dL_isTaped_658 ?_
          refine lq_t1 F hP hI (by omega) (k := 21) (n0 := 184) ⟨Nat.le_of_ble_eq_true rfl, Nat.le_of_ble_eq_true rfl, Nat.le_of_ble_eq_true rfl, Nat.le_of_ble_eq_true rfl, Nat.le_of_ble_eq_true rfl, Nat.le_of_ble_eq_true rfl, Nat.le_of_ble_eq_true rfl⟩ dL_isTaped_659 (fun G hP => ?_)
          rw [fp]
          refine jj_if_ne F (tgt := 669) dL_isTaped_662 rfl (by omega) (fun c662 => by exfalso; omega) (fun c662 => ?_)
          refine jj_iconst F dL_isTaped_665 ?_
          refine jj_goto F (tgt := 670) dL_isTaped_666 rfl ?_
          exact jj_zret B dL_isTaped_670 ⟨Nat.le_of_ble_eq_true rfl, Nat.le_of_ble_eq_true rfl⟩ (Or.inr rfl) ⟨1, rfl, rfl, _, _, _, _, _, c + 1, by omega, hL2, hP⟩
        · skip
          refine la_no F (ka_shed F.tr hP hI (by omega)) 2 (-1763000000) (by unfold t_tape; rw [if_neg (by omega), if_neg (by omega)]) (by decide) (fun h => by rw [h]; rfl) (k := 15) (n0 := 148) ⟨Nat.le_of_ble_eq_true rfl, Nat.le_of_ble_eq_true rfl, Nat.le_of_ble_eq_true rfl, Nat.le_of_ble_eq_true rfl, Nat.le_of_ble_eq_true rfl, Nat.le_of_ble_eq_true rfl, Nat.le_of_ble_eq_true rfl⟩ dL_isTaped_622 (fun G hP => ?_)
          refine jj_iload9 F dL_isTaped_625 ?_
          refine jj_if_ne F (tgt := 634) dL_isTaped_627 rfl (by omega) (fun c627 => ?_) (fun c627 => by exfalso; omega)
          refine jj_ldc F (v := -1763000000) cn_L_128 (by decide) dL_isTaped_634 ?_
          refine jj_icmp_ne F (tgt := 669) dL_isTaped_636 rfl (by omega) (fun c636 => by exfalso; omega) (fun c636 => ?_)
          refine jj_iload9 F dL_isTaped_639 ?_
          refine jj_if_gt F (tgt := 665) dL_isTaped_641 rfl (by omega) (fun c641 => ?_) (fun c641 => by exfalso; omega)
          refine jj_iconst F dL_isTaped_665 ?_
          refine jj_goto F (tgt := 670) dL_isTaped_666 rfl ?_
          exact jj_zret B dL_isTaped_670 ⟨Nat.le_of_ble_eq_true rfl, Nat.le_of_ble_eq_true rfl⟩ (Or.inr rfl) ⟨1, rfl, rfl, _, _, _, _, _, c, by omega, (hL.mono (by omega)), hP⟩
    · skip
      refine jj_aload0 F dL_isTaped_191 ?_
      refine jj_iload7 F dL_isTaped_192 ?_
      refine jj_iconst F dL_isTaped_194 ?_
      refine lq_t2 F hP hI (by omega) (k := 3) (n0 := 18) ⟨Nat.le_of_ble_eq_true rfl, Nat.le_of_ble_eq_true rfl, Nat.le_of_ble_eq_true rfl, Nat.le_of_ble_eq_true rfl, Nat.le_of_ble_eq_true rfl, Nat.le_of_ble_eq_true rfl, Nat.le_of_ble_eq_true rfl⟩ dL_isTaped_195 (fun G hP => ?_)
      refine jj_istore9 F dL_isTaped_198 (hN _ (by decide)) rfl ?_
      refine jj_iload8 F dL_isTaped_200 ?_
      refine jj_iload9 F dL_isTaped_202 ?_
      refine jj_irem F (by omega) dL_isTaped_204 ?_
      refine jj_namei (fun ff hff => ?_)
      have hf : 0 ≤ ff ∧ ff < sLen s tt := by rw [hff]; exact ⟨Int.emod_nonneg _ (by omega), Int.emod_lt_of_pos _ (by omega)⟩
      clear hff
      refine jj_istore10 F dL_isTaped_205 (hN _ (by decide)) rfl ?_
      refine jj_iload10 F dL_isTaped_207 ?_
      refine jj_iconst F dL_isTaped_209 ?_
      refine jj_iadd F dL_isTaped_210 ?_
      refine jj_iload8 F dL_isTaped_211 ?_
      refine jj_bipush F (by decide) dL_isTaped_213 ?_
      refine jj_idiv F (by omega) dL_isTaped_215 ?_
      refine jj_iload9 F dL_isTaped_216 ?_
      refine jj_iload10 F dL_isTaped_218 ?_
      refine jj_isub F dL_isTaped_220 ?_
      refine jj_irem F (by omega) dL_isTaped_221 ?_
      refine jj_namei (fun rr hrr => ?_)
      have hr : 0 ≤ rr ∧ rr < sLen s tt - ff := by rw [hrr]; exact ⟨Int.emod_nonneg _ (by omega), Int.emod_lt_of_pos _ (by omega)⟩
      clear hrr
      refine jj_iadd F dL_isTaped_222 ?_
      refine jj_namei (fun uu huu => ?_)
      have hu : ff < uu ∧ uu ≤ sLen s tt := by omega
      clear huu
      refine jj_istore11 F dL_isTaped_223 (hN _ (by decide)) rfl ?_
      refine jj_iload8 F dL_isTaped_225 ?_
      refine jj_iconst F dL_isTaped_227 ?_
      refine jj_irem F (by omega) dL_isTaped_228 ?_
      refine jj_meetb 244 (fun vv : Int => vv = -1 ∨ (0 ≤ vv ∧ vv < s 1 0)) (fun vv hvv => ?_) (fun J244 => ?_)
      · skip
        have hvv : vv = -1 ∨ (0 ≤ vv ∧ vv < s 1 0) := hvv
        have sp := sSpansTo_in s tt ff uu (s 7 tt).toNat
        rw [show sSpansTo s tt ff uu (s 7 tt).toNat = sSpans s tt ff uu from rfl] at sp
        refine jj_istore12 F dL_isTaped_244 (hN _ (by decide)) rfl ?_
        by_cases hv : vv < 0
        · skip
          by_cases hpt : sPlay s tt = 1
          · skip
            by_cases hsp : s 1 0 < 30 ∧ sSpans s tt ff uu + (if vv = -1 then 0 else s 7 vv) ≤ 20
            · skip
              have ht : t_splice s tt ff uu vv (x % 4) = 0 := (by unfold t_splice; rw [if_neg (fun hz => hz ⟨by omega, by omega, by omega⟩), if_neg (by omega), if_pos ⟨by omega, by omega, hsp.1, hsp.2⟩])
              obtain ⟨s2, hs, hL2, e1, fr, f2, f5, f4t, f4v, fl, fh1, fh2, ftk, flt, flv⟩ := LI_splice (hL.mono (by omega)) (by omega) ht
              rw [if_pos (by omega)] at fl
              have I2 := hL2.I.1
              have t2 := I2.tape (t := s 1 0) (by omega)
              have t3 := I2.tape (t := tt) (by omega)
              refine jj_aload0 F dL_isTaped_246 ?_
              refine jj_iload7 F dL_isTaped_247 ?_
              refine jj_iconst F dL_isTaped_249 ?_
              refine lq_t1 F hP hI (by omega) (k := 6) (n0 := 36) ⟨Nat.le_of_ble_eq_true rfl, Nat.le_of_ble_eq_true rfl, Nat.le_of_ble_eq_true rfl, Nat.le_of_ble_eq_true rfl, Nat.le_of_ble_eq_true rfl, Nat.le_of_ble_eq_true rfl, Nat.le_of_ble_eq_true rfl⟩ dL_isTaped_250 (fun G hP => ?_)
              refine jj_iconst F dL_isTaped_253 ?_
              refine jj_icmp_ne F (tgt := 277) dL_isTaped_254 rfl (by omega) (fun c254 => by exfalso; omega) (fun c254 => ?_)
              refine jj_iload12 F dL_isTaped_257 ?_
              refine jj_if_lt F (tgt := 273) dL_isTaped_259 rfl (by omega) (fun c259 => ?_) (fun c259 => by exfalso; omega)
              refine jj_iconst F dL_isTaped_273 ?_
              refine jj_goto F (tgt := 278) dL_isTaped_274 rfl ?_
              refine jj_istore13 F dL_isTaped_278 (hN _ (by decide)) rfl ?_
              refine jj_aload0 F dL_isTaped_280 ?_
              refine jj_iconst F dL_isTaped_281 ?_
              refine jj_iload7 F dL_isTaped_282 ?_
              refine jj_iload10 F dL_isTaped_284 ?_
              refine jj_iload11 F dL_isTaped_286 ?_
              refine jj_iload12 F dL_isTaped_288 ?_
              refine jj_iload5 F dL_isTaped_290 ?_
              refine la_ok F (ka_splice F.tr hP hI (by omega) (by omega) (by omega) (by omega) (by omega)) ht (k := 18) (n0 := 166) ⟨Nat.le_of_ble_eq_true rfl, Nat.le_of_ble_eq_true rfl, Nat.le_of_ble_eq_true rfl, Nat.le_of_ble_eq_true rfl, Nat.le_of_ble_eq_true rfl, Nat.le_of_ble_eq_true rfl, Nat.le_of_ble_eq_true rfl⟩ dL_isTaped_292 (fun G hP => ?_)
              rw [← hs] at hP
              rw [fr]
              have hI := hL2.I
              refine jj_istore14 F dL_isTaped_295 (hN _ (by decide)) rfl ?_
              refine jj_iload14 F dL_isTaped_297 ?_
              refine jj_if_ge F (tgt := 357) dL_isTaped_299 rfl (by omega) (fun c299 => ?_) (fun c299 => by exfalso; omega)
              refine jj_iload12 F dL_isTaped_357 ?_
              refine jj_if_ge F (tgt := 366) dL_isTaped_359 rfl (by omega) (fun c359 => by exfalso; omega) (fun c359 => ?_)
              refine jj_iconst F dL_isTaped_362 ?_
              refine jj_goto F (tgt := 373) dL_isTaped_363 rfl ?_
              refine jj_istore15 F dL_isTaped_373 (hN _ (by decide)) rfl ?_
              refine jj_iload8 F dL_isTaped_375 ?_
              refine jj_bipush F (by decide) dL_isTaped_377 ?_
              refine jj_idiv F (by omega) dL_isTaped_379 ?_
              refine jj_iload11 F dL_isTaped_380 ?_
              refine jj_iload10 F dL_isTaped_382 ?_
              refine jj_isub F dL_isTaped_384 ?_
              refine jj_irem F (by omega) dL_isTaped_385 ?_
              refine jj_namei (fun ss hss => ?_)
              have hs2 : 0 ≤ ss ∧ ss < uu - ff := by rw [hss]; exact ⟨Int.emod_nonneg _ (by omega), Int.emod_lt_of_pos _ (by omega)⟩
              clear hss
              have z1 := fh1 ss (by omega) (by omega)
              have r1 := sHeard_ge I2 (t := tt) (x := ff + ss) (by omega) (by omega)
              refine jj_istore16 F dL_isTaped_386 (hN _ (by decide)) rfl ?_
              refine jj_iload13 F dL_isTaped_388 ?_
              refine jj_if_eq F (tgt := 576) dL_isTaped_390 rfl (by omega) (fun c390 => by exfalso; omega) (fun c390 => ?_)
              refine jj_iload14 F dL_isTaped_393 ?_
              refine jj_aload1 F dL_isTaped_395 ?_
              refine jj_iconst F dL_isTaped_396 ?_
              refine jm_ald F hP (by omega) dL_isTaped_397 ?_
              refine jj_icmp_ne F (tgt := 576) dL_isTaped_398 rfl (by omega) (fun c398 => by exfalso; omega) (fun c398 => ?_)
              refine jj_aload0 F dL_isTaped_401 ?_
              refine jj_iload14 F dL_isTaped_402 ?_
              refine jj_iconst F dL_isTaped_404 ?_
              refine lq_t2 F hP hI (by omega) (k := 21) (n0 := 184) ⟨Nat.le_of_ble_eq_true rfl, Nat.le_of_ble_eq_true rfl, Nat.le_of_ble_eq_true rfl, Nat.le_of_ble_eq_true rfl, Nat.le_of_ble_eq_true rfl, Nat.le_of_ble_eq_true rfl, Nat.le_of_ble_eq_true rfl⟩ dL_isTaped_405 (fun G hP => ?_)
              rw [fl]
              refine jj_iload11 F dL_isTaped_408 ?_
              refine jj_iload10 F dL_isTaped_410 ?_
              refine jj_isub F dL_isTaped_412 ?_
              refine jj_iload15 F dL_isTaped_413 ?_
              refine jj_iadd F dL_isTaped_415 ?_
              refine jj_icmp_ne F (tgt := 576) dL_isTaped_416 rfl (by omega) (fun c416 => by exfalso; omega) (fun c416 => ?_)
              refine jj_aload0 F dL_isTaped_419 ?_
              refine jj_iload14 F dL_isTaped_420 ?_
              refine jj_iload16 F dL_isTaped_422 ?_
              refine lq_he F hP hI (by omega) (by omega) (k := 24) (n0 := 202) ⟨Nat.le_of_ble_eq_true rfl, Nat.le_of_ble_eq_true rfl, Nat.le_of_ble_eq_true rfl, Nat.le_of_ble_eq_true rfl, Nat.le_of_ble_eq_true rfl, Nat.le_of_ble_eq_true rfl, Nat.le_of_ble_eq_true rfl⟩ dL_isTaped_424 (fun G hP => ?_)
              refine jj_aload0 F dL_isTaped_427 ?_
              refine jj_iload7 F dL_isTaped_428 ?_
              refine jj_iload10 F dL_isTaped_430 ?_
              refine jj_iload16 F dL_isTaped_432 ?_
              refine jj_iadd F dL_isTaped_434 ?_
              refine lq_he F hP hI (by omega) (by omega) (k := 27) (n0 := 220) ⟨Nat.le_of_ble_eq_true rfl, Nat.le_of_ble_eq_true rfl, Nat.le_of_ble_eq_true rfl, Nat.le_of_ble_eq_true rfl, Nat.le_of_ble_eq_true rfl, Nat.le_of_ble_eq_true rfl, Nat.le_of_ble_eq_true rfl⟩ dL_isTaped_435 (fun G hP => ?_)
              refine jj_icmp_ne F (tgt := 576) dL_isTaped_438 rfl (by omega) (fun c438 => by exfalso; omega) (fun c438 => ?_)
              refine jj_iload15 F dL_isTaped_441 ?_
              refine jj_if_eq F (tgt := 477) dL_isTaped_443 rfl (by omega) (fun c443 => ?_) (fun c443 => by exfalso; omega)
              refine jj_aload0 F dL_isTaped_477 ?_
              refine jj_iload14 F dL_isTaped_478 ?_
              refine jj_iconst F dL_isTaped_480 ?_
              refine lq_t0 F hP hI (by omega) (k := 30) (n0 := 238) ⟨Nat.le_of_ble_eq_true rfl, Nat.le_of_ble_eq_true rfl, Nat.le_of_ble_eq_true rfl, Nat.le_of_ble_eq_true rfl, Nat.le_of_ble_eq_true rfl, Nat.le_of_ble_eq_true rfl, Nat.le_of_ble_eq_true rfl⟩ dL_isTaped_481 (fun G hP => ?_)
              rw [f2]
              refine jj_if_ne F (tgt := 576) dL_isTaped_484 rfl (by omega) (fun c484 => by exfalso; omega) (fun c484 => ?_)
              refine jj_aload0 F dL_isTaped_487 ?_
              refine jj_iload14 F dL_isTaped_488 ?_
              refine jj_iconst F dL_isTaped_490 ?_
              refine lq_t4 F hP hI (by omega) (k := 33) (n0 := 256) ⟨Nat.le_of_ble_eq_true rfl, Nat.le_of_ble_eq_true rfl, Nat.le_of_ble_eq_true rfl, Nat.le_of_ble_eq_true rfl, Nat.le_of_ble_eq_true rfl, Nat.le_of_ble_eq_true rfl, Nat.le_of_ble_eq_true rfl⟩ dL_isTaped_491 (fun G hP => ?_)
              rw [f5]
              refine jj_iload5 F dL_isTaped_494 ?_
              refine jj_icmp_ne F (tgt := 576) dL_isTaped_496 rfl (by omega) (fun c496 => by exfalso; omega) (fun c496 => ?_)
              refine jj_aload0 F dL_isTaped_499 ?_
              refine jj_iload14 F dL_isTaped_500 ?_
              refine jj_iconst F dL_isTaped_502 ?_
              refine lq_t3 F hP hI (by omega) (k := 36) (n0 := 274) ⟨Nat.le_of_ble_eq_true rfl, Nat.le_of_ble_eq_true rfl, Nat.le_of_ble_eq_true rfl, Nat.le_of_ble_eq_true rfl, Nat.le_of_ble_eq_true rfl, Nat.le_of_ble_eq_true rfl, Nat.le_of_ble_eq_true rfl⟩ dL_isTaped_503 (fun G hP => ?_)
              refine jj_aload0 F dL_isTaped_506 ?_
              refine jj_iload7 F dL_isTaped_507 ?_
              refine jj_iconst F dL_isTaped_509 ?_
              refine lq_t3 F hP hI (by omega) (k := 39) (n0 := 292) ⟨Nat.le_of_ble_eq_true rfl, Nat.le_of_ble_eq_true rfl, Nat.le_of_ble_eq_true rfl, Nat.le_of_ble_eq_true rfl, Nat.le_of_ble_eq_true rfl, Nat.le_of_ble_eq_true rfl, Nat.le_of_ble_eq_true rfl⟩ dL_isTaped_510 (fun G hP => ?_)
              refine jj_icmp_le F (tgt := 576) dL_isTaped_513 rfl (by omega) (fun c513 => by exfalso; omega) (fun c513 => ?_)
              refine jj_iload12 F dL_isTaped_516 ?_
              refine jj_if_lt F (tgt := 538) dL_isTaped_518 rfl (by omega) (fun c518 => ?_) (fun c518 => by exfalso; omega)
              refine jj_aload0 F dL_isTaped_538 ?_
              refine jj_iload14 F dL_isTaped_539 ?_
              refine lq_tk F hP hI (by omega) (k := 42) (n0 := 310) ⟨Nat.le_of_ble_eq_true rfl, Nat.le_of_ble_eq_true rfl, Nat.le_of_ble_eq_true rfl, Nat.le_of_ble_eq_true rfl, Nat.le_of_ble_eq_true rfl, Nat.le_of_ble_eq_true rfl, Nat.le_of_ble_eq_true rfl⟩ dL_isTaped_541 (fun G hP => ?_)
              refine jj_aload0 F dL_isTaped_544 ?_
              refine jj_iload7 F dL_isTaped_545 ?_
              refine lq_tk F hP hI (by omega) (k := 45) (n0 := 328) ⟨Nat.le_of_ble_eq_true rfl, Nat.le_of_ble_eq_true rfl, Nat.le_of_ble_eq_true rfl, Nat.le_of_ble_eq_true rfl, Nat.le_of_ble_eq_true rfl, Nat.le_of_ble_eq_true rfl, Nat.le_of_ble_eq_true rfl⟩ dL_isTaped_547 (fun G hP => ?_)
              refine jj_iload12 F dL_isTaped_550 ?_
              refine jj_if_ge F (tgt := 559) dL_isTaped_552 rfl (by omega) (fun c552 => by exfalso; omega) (fun c552 => ?_)
              refine jj_iconst F dL_isTaped_555 ?_
              refine jj_goto F (tgt := 565) dL_isTaped_556 rfl ?_
              have hz0 : jI (sTakes s2 (s 1 0)) &&& ((jI (sTakes s2 tt) ||| jI 0) ^^^ jI (-1)) = 0 := sub_zero (fun i hi hb => by
                rw [b_or, Bool.or_eq_true]
                exact Or.inl ((ftk i hi hb).elim id (fun h => absurd (show vv = -1 by omega) h.1)))
              refine jj_ior F dL_isTaped_565 ?_
              refine jj_iconst F dL_isTaped_566 ?_
              refine jj_ixor F dL_isTaped_567 ?_
              refine jj_iand F dL_isTaped_568 ?_
              refine jj_ifx_ne F (tgt := 576) dL_isTaped_569 rfl (fun c569 => by exact absurd hz0 c569) (fun c569 => ?_)
              refine jj_iconst F dL_isTaped_572 ?_
              refine jj_goto F (tgt := 577) dL_isTaped_573 rfl ?_
              refine jj_istore17 F dL_isTaped_577 (hN _ (by decide)) rfl ?_
              refine jj_aload2 F dL_isTaped_579 ?_
              refine jj_iload14 F dL_isTaped_580 ?_
              refine jj_aload0 F dL_isTaped_582 ?_
              refine jj_iload14 F dL_isTaped_583 ?_
              refine jj_iconst F dL_isTaped_585 ?_
              refine lq_t3 F hP hI (by omega) (k := 48) (n0 := 346) ⟨Nat.le_of_ble_eq_true rfl, Nat.le_of_ble_eq_true rfl, Nat.le_of_ble_eq_true rfl, Nat.le_of_ble_eq_true rfl, Nat.le_of_ble_eq_true rfl, Nat.le_of_ble_eq_true rfl, Nat.le_of_ble_eq_true rfl⟩ dL_isTaped_586 (fun G hP => ?_)
              refine jg_ast F hP (by omega) dL_isTaped_589 (fun G hP => ?_)
              skip
              refine jj_aload1 F dL_isTaped_590 ?_
              refine jj_iconst F dL_isTaped_591 ?_
              refine jj_dup2 F rfl rfl dL_isTaped_592 ?_
              refine jm_ald F hP (by omega) dL_isTaped_593 ?_
              refine jj_iconst F dL_isTaped_594 ?_
              refine jj_iadd F dL_isTaped_595 ?_
              refine jm_ast F hP (by omega) dL_isTaped_596 (fun G hP => ?_)
              refine jj_iload17 F dL_isTaped_597 ?_
              exact jj_zret B dL_isTaped_599 ⟨Nat.le_of_ble_eq_true rfl, Nat.le_of_ble_eq_true rfl⟩ (Or.inr rfl) ⟨1, rfl, rfl, _, _, _, _, _, c + 1, by omega, hL2, hP⟩
            · skip
              refine jj_aload0 F dL_isTaped_246 ?_
              refine jj_iload7 F dL_isTaped_247 ?_
              refine jj_iconst F dL_isTaped_249 ?_
              refine lq_t1 F hP hI (by omega) (k := 6) (n0 := 36) ⟨Nat.le_of_ble_eq_true rfl, Nat.le_of_ble_eq_true rfl, Nat.le_of_ble_eq_true rfl, Nat.le_of_ble_eq_true rfl, Nat.le_of_ble_eq_true rfl, Nat.le_of_ble_eq_true rfl, Nat.le_of_ble_eq_true rfl⟩ dL_isTaped_250 (fun G hP => ?_)
              refine jj_iconst F dL_isTaped_253 ?_
              refine jj_icmp_ne F (tgt := 277) dL_isTaped_254 rfl (by omega) (fun c254 => by exfalso; omega) (fun c254 => ?_)
              refine jj_iload12 F dL_isTaped_257 ?_
              refine jj_if_lt F (tgt := 273) dL_isTaped_259 rfl (by omega) (fun c259 => ?_) (fun c259 => by exfalso; omega)
              refine jj_iconst F dL_isTaped_273 ?_
              refine jj_goto F (tgt := 278) dL_isTaped_274 rfl ?_
              refine jj_istore13 F dL_isTaped_278 (hN _ (by decide)) rfl ?_
              refine jj_aload0 F dL_isTaped_280 ?_
              refine jj_iconst F dL_isTaped_281 ?_
              refine jj_iload7 F dL_isTaped_282 ?_
              refine jj_iload10 F dL_isTaped_284 ?_
              refine jj_iload11 F dL_isTaped_286 ?_
              refine jj_iload12 F dL_isTaped_288 ?_
              refine jj_iload5 F dL_isTaped_290 ?_
              refine la_no F (ka_splice F.tr hP hI (by omega) (by omega) (by omega) (by omega) (by omega)) 3 (-1763000000) (by unfold t_splice; rw [if_neg (fun hz => hz ⟨by omega, by omega, by omega⟩), if_neg (by omega), if_neg (fun hz => by obtain ⟨w1, w2, w3, w4⟩ := hz; first | omega | exact hsp ⟨w3, w4⟩)]) (by decide) (fun h => by rw [h]; rfl) (k := 18) (n0 := 166) ⟨Nat.le_of_ble_eq_true rfl, Nat.le_of_ble_eq_true rfl, Nat.le_of_ble_eq_true rfl, Nat.le_of_ble_eq_true rfl, Nat.le_of_ble_eq_true rfl, Nat.le_of_ble_eq_true rfl, Nat.le_of_ble_eq_true rfl⟩ dL_isTaped_292 (fun G hP => ?_)
              refine jj_istore14 F dL_isTaped_295 (hN _ (by decide)) rfl ?_
              refine jj_iload14 F dL_isTaped_297 ?_
              refine jj_if_ge F (tgt := 357) dL_isTaped_299 rfl (by omega) (fun c299 => by exfalso; omega) (fun c299 => ?_)
              refine jj_iload14 F dL_isTaped_302 ?_
              refine jj_ldc F (v := -1763000000) cn_L_128 (by decide) dL_isTaped_304 ?_
              refine jj_icmp_ne F (tgt := 355) dL_isTaped_306 rfl (by omega) (fun c306 => by exfalso; omega) (fun c306 => ?_)
              refine jj_iload13 F dL_isTaped_309 ?_
              refine jj_if_eq F (tgt := 351) dL_isTaped_311 rfl (by omega) (fun c311 => by exfalso; omega) (fun c311 => ?_)
              refine jj_aload1 F dL_isTaped_314 ?_
              refine jj_iconst F dL_isTaped_315 ?_
              refine jm_ald F hP (by omega) dL_isTaped_316 ?_
              refine jj_bipush F (by decide) dL_isTaped_317 ?_
              refine jj_icmp_eq F (tgt := 351) dL_isTaped_319 rfl (by omega) (fun c319 => ?_) (fun c319 => ?_)
              · skip
                refine jj_iconst F dL_isTaped_351 ?_
                refine jj_goto F (tgt := 356) dL_isTaped_352 rfl ?_
                exact jj_zret B dL_isTaped_356 ⟨Nat.le_of_ble_eq_true rfl, Nat.le_of_ble_eq_true rfl⟩ (Or.inr rfl) ⟨1, rfl, rfl, _, _, _, _, _, c, by omega, (hL.mono (by omega)), hP⟩
              · skip
                have hs20 : ¬ (sSpans s tt ff uu + (if vv = -1 then 0 else s 7 vv) ≤ 20) := fun h4 => hsp ⟨by omega, h4⟩
                rw [if_pos (by omega)] at hs20
                refine jj_aload0 F dL_isTaped_322 ?_
                refine jj_iload7 F dL_isTaped_323 ?_
                refine jj_iconst F dL_isTaped_325 ?_
                refine lq_t5 F hP hI (by omega) (k := 21) (n0 := 184) ⟨Nat.le_of_ble_eq_true rfl, Nat.le_of_ble_eq_true rfl, Nat.le_of_ble_eq_true rfl, Nat.le_of_ble_eq_true rfl, Nat.le_of_ble_eq_true rfl, Nat.le_of_ble_eq_true rfl, Nat.le_of_ble_eq_true rfl⟩ dL_isTaped_326 (fun G hP => ?_)
                refine jj_iload12 F dL_isTaped_329 ?_
                refine jj_if_ge F (tgt := 338) dL_isTaped_331 rfl (by omega) (fun c331 => by exfalso; omega) (fun c331 => ?_)
                refine jj_iconst F dL_isTaped_334 ?_
                refine jj_goto F (tgt := 345) dL_isTaped_335 rfl ?_
                refine jj_iadd F dL_isTaped_345 ?_
                refine jj_bipush F (by decide) dL_isTaped_346 ?_
                refine jj_icmp_le F (tgt := 355) dL_isTaped_348 rfl (by omega) (fun c348 => by exfalso; omega) (fun c348 => ?_)
                refine jj_iconst F dL_isTaped_351 ?_
                refine jj_goto F (tgt := 356) dL_isTaped_352 rfl ?_
                exact jj_zret B dL_isTaped_356 ⟨Nat.le_of_ble_eq_true rfl, Nat.le_of_ble_eq_true rfl⟩ (Or.inr rfl) ⟨1, rfl, rfl, _, _, _, _, _, c, by omega, (hL.mono (by omega)), hP⟩
          · skip
            refine jj_aload0 F dL_isTaped_246 ?_
            refine jj_iload7 F dL_isTaped_247 ?_
            refine jj_iconst F dL_isTaped_249 ?_
            refine lq_t1 F hP hI (by omega) (k := 6) (n0 := 36) ⟨Nat.le_of_ble_eq_true rfl, Nat.le_of_ble_eq_true rfl, Nat.le_of_ble_eq_true rfl, Nat.le_of_ble_eq_true rfl, Nat.le_of_ble_eq_true rfl, Nat.le_of_ble_eq_true rfl, Nat.le_of_ble_eq_true rfl⟩ dL_isTaped_250 (fun G hP => ?_)
            refine jj_iconst F dL_isTaped_253 ?_
            refine jj_icmp_ne F (tgt := 277) dL_isTaped_254 rfl (by omega) (fun c254 => ?_) (fun c254 => by exfalso; omega)
            refine jj_iconst F dL_isTaped_277 ?_
            refine jj_istore13 F dL_isTaped_278 (hN _ (by decide)) rfl ?_
            refine jj_aload0 F dL_isTaped_280 ?_
            refine jj_iconst F dL_isTaped_281 ?_
            refine jj_iload7 F dL_isTaped_282 ?_
            refine jj_iload10 F dL_isTaped_284 ?_
            refine jj_iload11 F dL_isTaped_286 ?_
            refine jj_iload12 F dL_isTaped_288 ?_
            refine jj_iload5 F dL_isTaped_290 ?_
            refine la_no F (ka_splice F.tr hP hI (by omega) (by omega) (by omega) (by omega) (by omega)) 3 (-1763000000) (by unfold t_splice; rw [if_neg (fun hz => hz ⟨by omega, by omega, by omega⟩), if_neg (by omega), if_neg (fun hz => by obtain ⟨w1, w2, w3, w4⟩ := hz; first | omega | exact hsp ⟨w3, w4⟩)]) (by decide) (fun h => by rw [h]; rfl) (k := 18) (n0 := 166) ⟨Nat.le_of_ble_eq_true rfl, Nat.le_of_ble_eq_true rfl, Nat.le_of_ble_eq_true rfl, Nat.le_of_ble_eq_true rfl, Nat.le_of_ble_eq_true rfl, Nat.le_of_ble_eq_true rfl, Nat.le_of_ble_eq_true rfl⟩ dL_isTaped_292 (fun G hP => ?_)
            refine jj_istore14 F dL_isTaped_295 (hN _ (by decide)) rfl ?_
            refine jj_iload14 F dL_isTaped_297 ?_
            refine jj_if_ge F (tgt := 357) dL_isTaped_299 rfl (by omega) (fun c299 => by exfalso; omega) (fun c299 => ?_)
            refine jj_iload14 F dL_isTaped_302 ?_
            refine jj_ldc F (v := -1763000000) cn_L_128 (by decide) dL_isTaped_304 ?_
            refine jj_icmp_ne F (tgt := 355) dL_isTaped_306 rfl (by omega) (fun c306 => by exfalso; omega) (fun c306 => ?_)
            refine jj_iload13 F dL_isTaped_309 ?_
            refine jj_if_eq F (tgt := 351) dL_isTaped_311 rfl (by omega) (fun c311 => ?_) (fun c311 => by exfalso; omega)
            refine jj_iconst F dL_isTaped_351 ?_
            refine jj_goto F (tgt := 356) dL_isTaped_352 rfl ?_
            exact jj_zret B dL_isTaped_356 ⟨Nat.le_of_ble_eq_true rfl, Nat.le_of_ble_eq_true rfl⟩ (Or.inr rfl) ⟨1, rfl, rfl, _, _, _, _, _, c, by omega, (hL.mono (by omega)), hP⟩
        · skip
          have gp2 := sPlay_01 s vv
          have gv7 := hI.1.tape (t := vv) (by omega)
          by_cases hpt : sPlay s tt = 1
          · skip
            by_cases hpv : sPlay s vv = 1
            · skip
              by_cases hsp : s 1 0 < 30 ∧ sSpans s tt ff uu + (if vv = -1 then 0 else s 7 vv) ≤ 20
              · skip
                have ht : t_splice s tt ff uu vv (x % 4) = 0 := (by unfold t_splice; rw [if_neg (fun hz => hz ⟨by omega, by omega, by omega⟩), if_neg (by omega), if_pos ⟨by omega, by omega, hsp.1, hsp.2⟩])
                obtain ⟨s2, hs, hL2, e1, fr, f2, f5, f4t, f4v, fl, fh1, fh2, ftk, flt, flv⟩ := LI_splice (hL.mono (by omega)) (by omega) ht
                rw [if_neg (by omega)] at fl
                have I2 := hL2.I.1
                have t2 := I2.tape (t := s 1 0) (by omega)
                have t3 := I2.tape (t := tt) (by omega)
                have flv := flv (by omega)
                have f4v := f4v (by omega)
                have t4 := I2.tape (t := vv) (by omega)
                have gv := sLen_in hI.1 (t := vv) (by omega)
                refine jj_aload0 F dL_isTaped_246 ?_
                refine jj_iload7 F dL_isTaped_247 ?_
                refine jj_iconst F dL_isTaped_249 ?_
                refine lq_t1 F hP hI (by omega) (k := 6) (n0 := 36) ⟨Nat.le_of_ble_eq_true rfl, Nat.le_of_ble_eq_true rfl, Nat.le_of_ble_eq_true rfl, Nat.le_of_ble_eq_true rfl, Nat.le_of_ble_eq_true rfl, Nat.le_of_ble_eq_true rfl, Nat.le_of_ble_eq_true rfl⟩ dL_isTaped_250 (fun G hP => ?_)
                refine jj_iconst F dL_isTaped_253 ?_
                refine jj_icmp_ne F (tgt := 277) dL_isTaped_254 rfl (by omega) (fun c254 => by exfalso; omega) (fun c254 => ?_)
                refine jj_iload12 F dL_isTaped_257 ?_
                refine jj_if_lt F (tgt := 273) dL_isTaped_259 rfl (by omega) (fun c259 => by exfalso; omega) (fun c259 => ?_)
                refine jj_aload0 F dL_isTaped_262 ?_
                refine jj_iload12 F dL_isTaped_263 ?_
                refine jj_iconst F dL_isTaped_265 ?_
                refine lq_t1 F hP hI (by omega) (k := 9) (n0 := 54) ⟨Nat.le_of_ble_eq_true rfl, Nat.le_of_ble_eq_true rfl, Nat.le_of_ble_eq_true rfl, Nat.le_of_ble_eq_true rfl, Nat.le_of_ble_eq_true rfl, Nat.le_of_ble_eq_true rfl, Nat.le_of_ble_eq_true rfl⟩ dL_isTaped_266 (fun G hP => ?_)
                refine jj_iconst F dL_isTaped_269 ?_
                refine jj_icmp_ne F (tgt := 277) dL_isTaped_270 rfl (by omega) (fun c270 => by exfalso; omega) (fun c270 => ?_)
                refine jj_iconst F dL_isTaped_273 ?_
                refine jj_goto F (tgt := 278) dL_isTaped_274 rfl ?_
                refine jj_istore13 F dL_isTaped_278 (hN _ (by decide)) rfl ?_
                refine jj_aload0 F dL_isTaped_280 ?_
                refine jj_iconst F dL_isTaped_281 ?_
                refine jj_iload7 F dL_isTaped_282 ?_
                refine jj_iload10 F dL_isTaped_284 ?_
                refine jj_iload11 F dL_isTaped_286 ?_
                refine jj_iload12 F dL_isTaped_288 ?_
                refine jj_iload5 F dL_isTaped_290 ?_
                refine la_ok F (ka_splice F.tr hP hI (by omega) (by omega) (by omega) (by omega) (by omega)) ht (k := 21) (n0 := 184) ⟨Nat.le_of_ble_eq_true rfl, Nat.le_of_ble_eq_true rfl, Nat.le_of_ble_eq_true rfl, Nat.le_of_ble_eq_true rfl, Nat.le_of_ble_eq_true rfl, Nat.le_of_ble_eq_true rfl, Nat.le_of_ble_eq_true rfl⟩ dL_isTaped_292 (fun G hP => ?_)
                rw [← hs] at hP
                rw [fr]
                have hI := hL2.I
                refine jj_istore14 F dL_isTaped_295 (hN _ (by decide)) rfl ?_
                refine jj_iload14 F dL_isTaped_297 ?_
                refine jj_if_ge F (tgt := 357) dL_isTaped_299 rfl (by omega) (fun c299 => ?_) (fun c299 => by exfalso; omega)
                refine jj_iload12 F dL_isTaped_357 ?_
                refine jj_if_ge F (tgt := 366) dL_isTaped_359 rfl (by omega) (fun c359 => ?_) (fun c359 => by exfalso; omega)
                refine jj_aload0 F dL_isTaped_366 ?_
                refine jj_iload12 F dL_isTaped_367 ?_
                refine jj_iconst F dL_isTaped_369 ?_
                refine lq_t2 F hP hI (by omega) (k := 24) (n0 := 202) ⟨Nat.le_of_ble_eq_true rfl, Nat.le_of_ble_eq_true rfl, Nat.le_of_ble_eq_true rfl, Nat.le_of_ble_eq_true rfl, Nat.le_of_ble_eq_true rfl, Nat.le_of_ble_eq_true rfl, Nat.le_of_ble_eq_true rfl⟩ dL_isTaped_370 (fun G hP => ?_)
                refine jj_istore15 F dL_isTaped_373 (hN _ (by decide)) rfl ?_
                refine jj_iload8 F dL_isTaped_375 ?_
                refine jj_bipush F (by decide) dL_isTaped_377 ?_
                refine jj_idiv F (by omega) dL_isTaped_379 ?_
                refine jj_iload11 F dL_isTaped_380 ?_
                refine jj_iload10 F dL_isTaped_382 ?_
                refine jj_isub F dL_isTaped_384 ?_
                refine jj_irem F (by omega) dL_isTaped_385 ?_
                refine jj_namei (fun ss hss => ?_)
                have hs2 : 0 ≤ ss ∧ ss < uu - ff := by rw [hss]; exact ⟨Int.emod_nonneg _ (by omega), Int.emod_lt_of_pos _ (by omega)⟩
                clear hss
                have z1 := fh1 ss (by omega) (by omega)
                have r1 := sHeard_ge I2 (t := tt) (x := ff + ss) (by omega) (by omega)
                obtain ⟨qq, hqq⟩ : ∃ qq, qq = ss % sLen s2 vv := ⟨_, rfl⟩
                have hq2 : 0 ≤ qq ∧ qq < sLen s2 vv := by rw [hqq]; exact ⟨Int.emod_nonneg _ (by omega), Int.emod_lt_of_pos _ (by omega)⟩
                have z2 := fh2 (by omega) qq (by omega) (by omega)
                have r2 := sHeard_ge I2 (t := vv) (x := qq) (by omega) (by omega)
                refine jj_istore16 F dL_isTaped_386 (hN _ (by decide)) rfl ?_
                refine jj_iload13 F dL_isTaped_388 ?_
                refine jj_if_eq F (tgt := 576) dL_isTaped_390 rfl (by omega) (fun c390 => by exfalso; omega) (fun c390 => ?_)
                refine jj_iload14 F dL_isTaped_393 ?_
                refine jj_aload1 F dL_isTaped_395 ?_
                refine jj_iconst F dL_isTaped_396 ?_
                refine jm_ald F hP (by omega) dL_isTaped_397 ?_
                refine jj_icmp_ne F (tgt := 576) dL_isTaped_398 rfl (by omega) (fun c398 => by exfalso; omega) (fun c398 => ?_)
                refine jj_aload0 F dL_isTaped_401 ?_
                refine jj_iload14 F dL_isTaped_402 ?_
                refine jj_iconst F dL_isTaped_404 ?_
                refine lq_t2 F hP hI (by omega) (k := 27) (n0 := 220) ⟨Nat.le_of_ble_eq_true rfl, Nat.le_of_ble_eq_true rfl, Nat.le_of_ble_eq_true rfl, Nat.le_of_ble_eq_true rfl, Nat.le_of_ble_eq_true rfl, Nat.le_of_ble_eq_true rfl, Nat.le_of_ble_eq_true rfl⟩ dL_isTaped_405 (fun G hP => ?_)
                rw [fl]
                refine jj_iload11 F dL_isTaped_408 ?_
                refine jj_iload10 F dL_isTaped_410 ?_
                refine jj_isub F dL_isTaped_412 ?_
                refine jj_iload15 F dL_isTaped_413 ?_
                refine jj_iadd F dL_isTaped_415 ?_
                refine jj_icmp_ne F (tgt := 576) dL_isTaped_416 rfl (by omega) (fun c416 => by exfalso; omega) (fun c416 => ?_)
                refine jj_aload0 F dL_isTaped_419 ?_
                refine jj_iload14 F dL_isTaped_420 ?_
                refine jj_iload16 F dL_isTaped_422 ?_
                refine lq_he F hP hI (by omega) (by omega) (k := 30) (n0 := 238) ⟨Nat.le_of_ble_eq_true rfl, Nat.le_of_ble_eq_true rfl, Nat.le_of_ble_eq_true rfl, Nat.le_of_ble_eq_true rfl, Nat.le_of_ble_eq_true rfl, Nat.le_of_ble_eq_true rfl, Nat.le_of_ble_eq_true rfl⟩ dL_isTaped_424 (fun G hP => ?_)
                refine jj_aload0 F dL_isTaped_427 ?_
                refine jj_iload7 F dL_isTaped_428 ?_
                refine jj_iload10 F dL_isTaped_430 ?_
                refine jj_iload16 F dL_isTaped_432 ?_
                refine jj_iadd F dL_isTaped_434 ?_
                refine lq_he F hP hI (by omega) (by omega) (k := 33) (n0 := 256) ⟨Nat.le_of_ble_eq_true rfl, Nat.le_of_ble_eq_true rfl, Nat.le_of_ble_eq_true rfl, Nat.le_of_ble_eq_true rfl, Nat.le_of_ble_eq_true rfl, Nat.le_of_ble_eq_true rfl, Nat.le_of_ble_eq_true rfl⟩ dL_isTaped_435 (fun G hP => ?_)
                refine jj_icmp_ne F (tgt := 576) dL_isTaped_438 rfl (by omega) (fun c438 => by exfalso; omega) (fun c438 => ?_)
                refine jj_iload15 F dL_isTaped_441 ?_
                refine jj_if_eq F (tgt := 477) dL_isTaped_443 rfl (by omega) (fun c443 => by exfalso; omega) (fun c443 => ?_)
                refine jj_aload0 F dL_isTaped_446 ?_
                refine jj_iload14 F dL_isTaped_447 ?_
                refine jj_iload11 F dL_isTaped_449 ?_
                refine jj_iload10 F dL_isTaped_451 ?_
                refine jj_isub F dL_isTaped_453 ?_
                refine jj_iload16 F dL_isTaped_454 ?_
                refine jj_iload15 F dL_isTaped_456 ?_
                refine jj_irem F (by omega) dL_isTaped_458 ?_
                rw [← hqq]
                refine jj_iadd F dL_isTaped_459 ?_
                refine lq_he F hP hI (by omega) (by omega) (k := 36) (n0 := 274) ⟨Nat.le_of_ble_eq_true rfl, Nat.le_of_ble_eq_true rfl, Nat.le_of_ble_eq_true rfl, Nat.le_of_ble_eq_true rfl, Nat.le_of_ble_eq_true rfl, Nat.le_of_ble_eq_true rfl, Nat.le_of_ble_eq_true rfl⟩ dL_isTaped_460 (fun G hP => ?_)
                refine jj_aload0 F dL_isTaped_463 ?_
                refine jj_iload12 F dL_isTaped_464 ?_
                refine jj_iload16 F dL_isTaped_466 ?_
                refine jj_iload15 F dL_isTaped_468 ?_
                refine jj_irem F (by omega) dL_isTaped_470 ?_
                rw [← hqq]
                refine lq_he F hP hI (by omega) (by omega) (k := 39) (n0 := 292) ⟨Nat.le_of_ble_eq_true rfl, Nat.le_of_ble_eq_true rfl, Nat.le_of_ble_eq_true rfl, Nat.le_of_ble_eq_true rfl, Nat.le_of_ble_eq_true rfl, Nat.le_of_ble_eq_true rfl, Nat.le_of_ble_eq_true rfl⟩ dL_isTaped_471 (fun G hP => ?_)
                refine jj_icmp_ne F (tgt := 576) dL_isTaped_474 rfl (by omega) (fun c474 => by exfalso; omega) (fun c474 => ?_)
                refine jj_aload0 F dL_isTaped_477 ?_
                refine jj_iload14 F dL_isTaped_478 ?_
                refine jj_iconst F dL_isTaped_480 ?_
                refine lq_t0 F hP hI (by omega) (k := 42) (n0 := 310) ⟨Nat.le_of_ble_eq_true rfl, Nat.le_of_ble_eq_true rfl, Nat.le_of_ble_eq_true rfl, Nat.le_of_ble_eq_true rfl, Nat.le_of_ble_eq_true rfl, Nat.le_of_ble_eq_true rfl, Nat.le_of_ble_eq_true rfl⟩ dL_isTaped_481 (fun G hP => ?_)
                rw [f2]
                refine jj_if_ne F (tgt := 576) dL_isTaped_484 rfl (by omega) (fun c484 => by exfalso; omega) (fun c484 => ?_)
                refine jj_aload0 F dL_isTaped_487 ?_
                refine jj_iload14 F dL_isTaped_488 ?_
                refine jj_iconst F dL_isTaped_490 ?_
                refine lq_t4 F hP hI (by omega) (k := 45) (n0 := 328) ⟨Nat.le_of_ble_eq_true rfl, Nat.le_of_ble_eq_true rfl, Nat.le_of_ble_eq_true rfl, Nat.le_of_ble_eq_true rfl, Nat.le_of_ble_eq_true rfl, Nat.le_of_ble_eq_true rfl, Nat.le_of_ble_eq_true rfl⟩ dL_isTaped_491 (fun G hP => ?_)
                rw [f5]
                refine jj_iload5 F dL_isTaped_494 ?_
                refine jj_icmp_ne F (tgt := 576) dL_isTaped_496 rfl (by omega) (fun c496 => by exfalso; omega) (fun c496 => ?_)
                refine jj_aload0 F dL_isTaped_499 ?_
                refine jj_iload14 F dL_isTaped_500 ?_
                refine jj_iconst F dL_isTaped_502 ?_
                refine lq_t3 F hP hI (by omega) (k := 48) (n0 := 346) ⟨Nat.le_of_ble_eq_true rfl, Nat.le_of_ble_eq_true rfl, Nat.le_of_ble_eq_true rfl, Nat.le_of_ble_eq_true rfl, Nat.le_of_ble_eq_true rfl, Nat.le_of_ble_eq_true rfl, Nat.le_of_ble_eq_true rfl⟩ dL_isTaped_503 (fun G hP => ?_)
                refine jj_aload0 F dL_isTaped_506 ?_
                refine jj_iload7 F dL_isTaped_507 ?_
                refine jj_iconst F dL_isTaped_509 ?_
                refine lq_t3 F hP hI (by omega) (k := 51) (n0 := 364) ⟨Nat.le_of_ble_eq_true rfl, Nat.le_of_ble_eq_true rfl, Nat.le_of_ble_eq_true rfl, Nat.le_of_ble_eq_true rfl, Nat.le_of_ble_eq_true rfl, Nat.le_of_ble_eq_true rfl, Nat.le_of_ble_eq_true rfl⟩ dL_isTaped_510 (fun G hP => ?_)
                refine jj_icmp_le F (tgt := 576) dL_isTaped_513 rfl (by omega) (fun c513 => by exfalso; omega) (fun c513 => ?_)
                refine jj_iload12 F dL_isTaped_516 ?_
                refine jj_if_lt F (tgt := 538) dL_isTaped_518 rfl (by omega) (fun c518 => by exfalso; omega) (fun c518 => ?_)
                refine jj_aload0 F dL_isTaped_521 ?_
                refine jj_iload14 F dL_isTaped_522 ?_
                refine jj_iconst F dL_isTaped_524 ?_
                refine lq_t3 F hP hI (by omega) (k := 54) (n0 := 382) ⟨Nat.le_of_ble_eq_true rfl, Nat.le_of_ble_eq_true rfl, Nat.le_of_ble_eq_true rfl, Nat.le_of_ble_eq_true rfl, Nat.le_of_ble_eq_true rfl, Nat.le_of_ble_eq_true rfl, Nat.le_of_ble_eq_true rfl⟩ dL_isTaped_525 (fun G hP => ?_)
                refine jj_aload0 F dL_isTaped_528 ?_
                refine jj_iload12 F dL_isTaped_529 ?_
                refine jj_iconst F dL_isTaped_531 ?_
                refine lq_t3 F hP hI (by omega) (k := 57) (n0 := 400) ⟨Nat.le_of_ble_eq_true rfl, Nat.le_of_ble_eq_true rfl, Nat.le_of_ble_eq_true rfl, Nat.le_of_ble_eq_true rfl, Nat.le_of_ble_eq_true rfl, Nat.le_of_ble_eq_true rfl, Nat.le_of_ble_eq_true rfl⟩ dL_isTaped_532 (fun G hP => ?_)
                refine jj_icmp_le F (tgt := 576) dL_isTaped_535 rfl (by omega) (fun c535 => by exfalso; omega) (fun c535 => ?_)
                refine jj_aload0 F dL_isTaped_538 ?_
                refine jj_iload14 F dL_isTaped_539 ?_
                refine lq_tk F hP hI (by omega) (k := 60) (n0 := 418) ⟨Nat.le_of_ble_eq_true rfl, Nat.le_of_ble_eq_true rfl, Nat.le_of_ble_eq_true rfl, Nat.le_of_ble_eq_true rfl, Nat.le_of_ble_eq_true rfl, Nat.le_of_ble_eq_true rfl, Nat.le_of_ble_eq_true rfl⟩ dL_isTaped_541 (fun G hP => ?_)
                refine jj_aload0 F dL_isTaped_544 ?_
                refine jj_iload7 F dL_isTaped_545 ?_
                refine lq_tk F hP hI (by omega) (k := 63) (n0 := 436) ⟨Nat.le_of_ble_eq_true rfl, Nat.le_of_ble_eq_true rfl, Nat.le_of_ble_eq_true rfl, Nat.le_of_ble_eq_true rfl, Nat.le_of_ble_eq_true rfl, Nat.le_of_ble_eq_true rfl, Nat.le_of_ble_eq_true rfl⟩ dL_isTaped_547 (fun G hP => ?_)
                refine jj_iload12 F dL_isTaped_550 ?_
                refine jj_if_ge F (tgt := 559) dL_isTaped_552 rfl (by omega) (fun c552 => ?_) (fun c552 => by exfalso; omega)
                refine jj_aload0 F dL_isTaped_559 ?_
                refine jj_iload12 F dL_isTaped_560 ?_
                refine lq_tk F hP hI (by omega) (k := 66) (n0 := 454) ⟨Nat.le_of_ble_eq_true rfl, Nat.le_of_ble_eq_true rfl, Nat.le_of_ble_eq_true rfl, Nat.le_of_ble_eq_true rfl, Nat.le_of_ble_eq_true rfl, Nat.le_of_ble_eq_true rfl, Nat.le_of_ble_eq_true rfl⟩ dL_isTaped_562 (fun G hP => ?_)
                have hz0 : jI (sTakes s2 (s 1 0)) &&& ((jI (sTakes s2 tt) ||| jI (sTakes s2 vv)) ^^^ jI (-1)) = 0 := sub_zero (fun i hi hb => by
                  rw [b_or, Bool.or_eq_true]
                  exact (ftk i hi hb).imp id (fun h => h.2))
                refine jj_ior F dL_isTaped_565 ?_
                refine jj_iconst F dL_isTaped_566 ?_
                refine jj_ixor F dL_isTaped_567 ?_
                refine jj_iand F dL_isTaped_568 ?_
                refine jj_ifx_ne F (tgt := 576) dL_isTaped_569 rfl (fun c569 => by exact absurd hz0 c569) (fun c569 => ?_)
                refine jj_iconst F dL_isTaped_572 ?_
                refine jj_goto F (tgt := 577) dL_isTaped_573 rfl ?_
                refine jj_istore17 F dL_isTaped_577 (hN _ (by decide)) rfl ?_
                refine jj_aload2 F dL_isTaped_579 ?_
                refine jj_iload14 F dL_isTaped_580 ?_
                refine jj_aload0 F dL_isTaped_582 ?_
                refine jj_iload14 F dL_isTaped_583 ?_
                refine jj_iconst F dL_isTaped_585 ?_
                refine lq_t3 F hP hI (by omega) (k := 69) (n0 := 472) ⟨Nat.le_of_ble_eq_true rfl, Nat.le_of_ble_eq_true rfl, Nat.le_of_ble_eq_true rfl, Nat.le_of_ble_eq_true rfl, Nat.le_of_ble_eq_true rfl, Nat.le_of_ble_eq_true rfl, Nat.le_of_ble_eq_true rfl⟩ dL_isTaped_586 (fun G hP => ?_)
                refine jg_ast F hP (by omega) dL_isTaped_589 (fun G hP => ?_)
                skip
                refine jj_aload1 F dL_isTaped_590 ?_
                refine jj_iconst F dL_isTaped_591 ?_
                refine jj_dup2 F rfl rfl dL_isTaped_592 ?_
                refine jm_ald F hP (by omega) dL_isTaped_593 ?_
                refine jj_iconst F dL_isTaped_594 ?_
                refine jj_iadd F dL_isTaped_595 ?_
                refine jm_ast F hP (by omega) dL_isTaped_596 (fun G hP => ?_)
                refine jj_iload17 F dL_isTaped_597 ?_
                exact jj_zret B dL_isTaped_599 ⟨Nat.le_of_ble_eq_true rfl, Nat.le_of_ble_eq_true rfl⟩ (Or.inr rfl) ⟨1, rfl, rfl, _, _, _, _, _, c + 1, by omega, hL2, hP⟩
              · skip
                refine jj_aload0 F dL_isTaped_246 ?_
                refine jj_iload7 F dL_isTaped_247 ?_
                refine jj_iconst F dL_isTaped_249 ?_
                refine lq_t1 F hP hI (by omega) (k := 6) (n0 := 36) ⟨Nat.le_of_ble_eq_true rfl, Nat.le_of_ble_eq_true rfl, Nat.le_of_ble_eq_true rfl, Nat.le_of_ble_eq_true rfl, Nat.le_of_ble_eq_true rfl, Nat.le_of_ble_eq_true rfl, Nat.le_of_ble_eq_true rfl⟩ dL_isTaped_250 (fun G hP => ?_)
                refine jj_iconst F dL_isTaped_253 ?_
                refine jj_icmp_ne F (tgt := 277) dL_isTaped_254 rfl (by omega) (fun c254 => by exfalso; omega) (fun c254 => ?_)
                refine jj_iload12 F dL_isTaped_257 ?_
                refine jj_if_lt F (tgt := 273) dL_isTaped_259 rfl (by omega) (fun c259 => by exfalso; omega) (fun c259 => ?_)
                refine jj_aload0 F dL_isTaped_262 ?_
                refine jj_iload12 F dL_isTaped_263 ?_
                refine jj_iconst F dL_isTaped_265 ?_
                refine lq_t1 F hP hI (by omega) (k := 9) (n0 := 54) ⟨Nat.le_of_ble_eq_true rfl, Nat.le_of_ble_eq_true rfl, Nat.le_of_ble_eq_true rfl, Nat.le_of_ble_eq_true rfl, Nat.le_of_ble_eq_true rfl, Nat.le_of_ble_eq_true rfl, Nat.le_of_ble_eq_true rfl⟩ dL_isTaped_266 (fun G hP => ?_)
                refine jj_iconst F dL_isTaped_269 ?_
                refine jj_icmp_ne F (tgt := 277) dL_isTaped_270 rfl (by omega) (fun c270 => by exfalso; omega) (fun c270 => ?_)
                refine jj_iconst F dL_isTaped_273 ?_
                refine jj_goto F (tgt := 278) dL_isTaped_274 rfl ?_
                refine jj_istore13 F dL_isTaped_278 (hN _ (by decide)) rfl ?_
                refine jj_aload0 F dL_isTaped_280 ?_
                refine jj_iconst F dL_isTaped_281 ?_
                refine jj_iload7 F dL_isTaped_282 ?_
                refine jj_iload10 F dL_isTaped_284 ?_
                refine jj_iload11 F dL_isTaped_286 ?_
                refine jj_iload12 F dL_isTaped_288 ?_
                refine jj_iload5 F dL_isTaped_290 ?_
                refine la_no F (ka_splice F.tr hP hI (by omega) (by omega) (by omega) (by omega) (by omega)) 3 (-1763000000) (by unfold t_splice; rw [if_neg (fun hz => hz ⟨by omega, by omega, by omega⟩), if_neg (by omega), if_neg (fun hz => by obtain ⟨w1, w2, w3, w4⟩ := hz; first | omega | exact hsp ⟨w3, w4⟩)]) (by decide) (fun h => by rw [h]; rfl) (k := 21) (n0 := 184) ⟨Nat.le_of_ble_eq_true rfl, Nat.le_of_ble_eq_true rfl, Nat.le_of_ble_eq_true rfl, Nat.le_of_ble_eq_true rfl, Nat.le_of_ble_eq_true rfl, Nat.le_of_ble_eq_true rfl, Nat.le_of_ble_eq_true rfl⟩ dL_isTaped_292 (fun G hP => ?_)
                refine jj_istore14 F dL_isTaped_295 (hN _ (by decide)) rfl ?_
                refine jj_iload14 F dL_isTaped_297 ?_
                refine jj_if_ge F (tgt := 357) dL_isTaped_299 rfl (by omega) (fun c299 => by exfalso; omega) (fun c299 => ?_)
                refine jj_iload14 F dL_isTaped_302 ?_
                refine jj_ldc F (v := -1763000000) cn_L_128 (by decide) dL_isTaped_304 ?_
                refine jj_icmp_ne F (tgt := 355) dL_isTaped_306 rfl (by omega) (fun c306 => by exfalso; omega) (fun c306 => ?_)
                refine jj_iload13 F dL_isTaped_309 ?_
                refine jj_if_eq F (tgt := 351) dL_isTaped_311 rfl (by omega) (fun c311 => by exfalso; omega) (fun c311 => ?_)
                refine jj_aload1 F dL_isTaped_314 ?_
                refine jj_iconst F dL_isTaped_315 ?_
                refine jm_ald F hP (by omega) dL_isTaped_316 ?_
                refine jj_bipush F (by decide) dL_isTaped_317 ?_
                refine jj_icmp_eq F (tgt := 351) dL_isTaped_319 rfl (by omega) (fun c319 => ?_) (fun c319 => ?_)
                · skip
                  refine jj_iconst F dL_isTaped_351 ?_
                  refine jj_goto F (tgt := 356) dL_isTaped_352 rfl ?_
                  exact jj_zret B dL_isTaped_356 ⟨Nat.le_of_ble_eq_true rfl, Nat.le_of_ble_eq_true rfl⟩ (Or.inr rfl) ⟨1, rfl, rfl, _, _, _, _, _, c, by omega, (hL.mono (by omega)), hP⟩
                · skip
                  have hs20 : ¬ (sSpans s tt ff uu + (if vv = -1 then 0 else s 7 vv) ≤ 20) := fun h4 => hsp ⟨by omega, h4⟩
                  rw [if_neg (by omega)] at hs20
                  refine jj_aload0 F dL_isTaped_322 ?_
                  refine jj_iload7 F dL_isTaped_323 ?_
                  refine jj_iconst F dL_isTaped_325 ?_
                  refine lq_t5 F hP hI (by omega) (k := 24) (n0 := 202) ⟨Nat.le_of_ble_eq_true rfl, Nat.le_of_ble_eq_true rfl, Nat.le_of_ble_eq_true rfl, Nat.le_of_ble_eq_true rfl, Nat.le_of_ble_eq_true rfl, Nat.le_of_ble_eq_true rfl, Nat.le_of_ble_eq_true rfl⟩ dL_isTaped_326 (fun G hP => ?_)
                  refine jj_iload12 F dL_isTaped_329 ?_
                  refine jj_if_ge F (tgt := 338) dL_isTaped_331 rfl (by omega) (fun c331 => ?_) (fun c331 => by exfalso; omega)
                  refine jj_aload0 F dL_isTaped_338 ?_
                  refine jj_iload12 F dL_isTaped_339 ?_
                  refine jj_iconst F dL_isTaped_341 ?_
                  refine lq_t5 F hP hI (by omega) (k := 27) (n0 := 220) ⟨Nat.le_of_ble_eq_true rfl, Nat.le_of_ble_eq_true rfl, Nat.le_of_ble_eq_true rfl, Nat.le_of_ble_eq_true rfl, Nat.le_of_ble_eq_true rfl, Nat.le_of_ble_eq_true rfl, Nat.le_of_ble_eq_true rfl⟩ dL_isTaped_342 (fun G hP => ?_)
                  refine jj_iadd F dL_isTaped_345 ?_
                  refine jj_bipush F (by decide) dL_isTaped_346 ?_
                  refine jj_icmp_le F (tgt := 355) dL_isTaped_348 rfl (by omega) (fun c348 => by exfalso; omega) (fun c348 => ?_)
                  refine jj_iconst F dL_isTaped_351 ?_
                  refine jj_goto F (tgt := 356) dL_isTaped_352 rfl ?_
                  exact jj_zret B dL_isTaped_356 ⟨Nat.le_of_ble_eq_true rfl, Nat.le_of_ble_eq_true rfl⟩ (Or.inr rfl) ⟨1, rfl, rfl, _, _, _, _, _, c, by omega, (hL.mono (by omega)), hP⟩
            · skip
              refine jj_aload0 F dL_isTaped_246 ?_
              refine jj_iload7 F dL_isTaped_247 ?_
              refine jj_iconst F dL_isTaped_249 ?_
              refine lq_t1 F hP hI (by omega) (k := 6) (n0 := 36) ⟨Nat.le_of_ble_eq_true rfl, Nat.le_of_ble_eq_true rfl, Nat.le_of_ble_eq_true rfl, Nat.le_of_ble_eq_true rfl, Nat.le_of_ble_eq_true rfl, Nat.le_of_ble_eq_true rfl, Nat.le_of_ble_eq_true rfl⟩ dL_isTaped_250 (fun G hP => ?_)
              refine jj_iconst F dL_isTaped_253 ?_
              refine jj_icmp_ne F (tgt := 277) dL_isTaped_254 rfl (by omega) (fun c254 => by exfalso; omega) (fun c254 => ?_)
              refine jj_iload12 F dL_isTaped_257 ?_
              refine jj_if_lt F (tgt := 273) dL_isTaped_259 rfl (by omega) (fun c259 => by exfalso; omega) (fun c259 => ?_)
              refine jj_aload0 F dL_isTaped_262 ?_
              refine jj_iload12 F dL_isTaped_263 ?_
              refine jj_iconst F dL_isTaped_265 ?_
              refine lq_t1 F hP hI (by omega) (k := 9) (n0 := 54) ⟨Nat.le_of_ble_eq_true rfl, Nat.le_of_ble_eq_true rfl, Nat.le_of_ble_eq_true rfl, Nat.le_of_ble_eq_true rfl, Nat.le_of_ble_eq_true rfl, Nat.le_of_ble_eq_true rfl, Nat.le_of_ble_eq_true rfl⟩ dL_isTaped_266 (fun G hP => ?_)
              refine jj_iconst F dL_isTaped_269 ?_
              refine jj_icmp_ne F (tgt := 277) dL_isTaped_270 rfl (by omega) (fun c270 => ?_) (fun c270 => by exfalso; omega)
              refine jj_iconst F dL_isTaped_277 ?_
              refine jj_istore13 F dL_isTaped_278 (hN _ (by decide)) rfl ?_
              refine jj_aload0 F dL_isTaped_280 ?_
              refine jj_iconst F dL_isTaped_281 ?_
              refine jj_iload7 F dL_isTaped_282 ?_
              refine jj_iload10 F dL_isTaped_284 ?_
              refine jj_iload11 F dL_isTaped_286 ?_
              refine jj_iload12 F dL_isTaped_288 ?_
              refine jj_iload5 F dL_isTaped_290 ?_
              refine la_no F (ka_splice F.tr hP hI (by omega) (by omega) (by omega) (by omega) (by omega)) 3 (-1763000000) (by unfold t_splice; rw [if_neg (fun hz => hz ⟨by omega, by omega, by omega⟩), if_neg (by omega), if_neg (fun hz => by obtain ⟨w1, w2, w3, w4⟩ := hz; first | omega | exact hsp ⟨w3, w4⟩)]) (by decide) (fun h => by rw [h]; rfl) (k := 21) (n0 := 184) ⟨Nat.le_of_ble_eq_true rfl, Nat.le_of_ble_eq_true rfl, Nat.le_of_ble_eq_true rfl, Nat.le_of_ble_eq_true rfl, Nat.le_of_ble_eq_true rfl, Nat.le_of_ble_eq_true rfl, Nat.le_of_ble_eq_true rfl⟩ dL_isTaped_292 (fun G hP => ?_)
              refine jj_istore14 F dL_isTaped_295 (hN _ (by decide)) rfl ?_
              refine jj_iload14 F dL_isTaped_297 ?_
              refine jj_if_ge F (tgt := 357) dL_isTaped_299 rfl (by omega) (fun c299 => by exfalso; omega) (fun c299 => ?_)
              refine jj_iload14 F dL_isTaped_302 ?_
              refine jj_ldc F (v := -1763000000) cn_L_128 (by decide) dL_isTaped_304 ?_
              refine jj_icmp_ne F (tgt := 355) dL_isTaped_306 rfl (by omega) (fun c306 => by exfalso; omega) (fun c306 => ?_)
              refine jj_iload13 F dL_isTaped_309 ?_
              refine jj_if_eq F (tgt := 351) dL_isTaped_311 rfl (by omega) (fun c311 => ?_) (fun c311 => by exfalso; omega)
              refine jj_iconst F dL_isTaped_351 ?_
              refine jj_goto F (tgt := 356) dL_isTaped_352 rfl ?_
              exact jj_zret B dL_isTaped_356 ⟨Nat.le_of_ble_eq_true rfl, Nat.le_of_ble_eq_true rfl⟩ (Or.inr rfl) ⟨1, rfl, rfl, _, _, _, _, _, c, by omega, (hL.mono (by omega)), hP⟩
          · skip
            refine jj_aload0 F dL_isTaped_246 ?_
            refine jj_iload7 F dL_isTaped_247 ?_
            refine jj_iconst F dL_isTaped_249 ?_
            refine lq_t1 F hP hI (by omega) (k := 6) (n0 := 36) ⟨Nat.le_of_ble_eq_true rfl, Nat.le_of_ble_eq_true rfl, Nat.le_of_ble_eq_true rfl, Nat.le_of_ble_eq_true rfl, Nat.le_of_ble_eq_true rfl, Nat.le_of_ble_eq_true rfl, Nat.le_of_ble_eq_true rfl⟩ dL_isTaped_250 (fun G hP => ?_)
            refine jj_iconst F dL_isTaped_253 ?_
            refine jj_icmp_ne F (tgt := 277) dL_isTaped_254 rfl (by omega) (fun c254 => ?_) (fun c254 => by exfalso; omega)
            refine jj_iconst F dL_isTaped_277 ?_
            refine jj_istore13 F dL_isTaped_278 (hN _ (by decide)) rfl ?_
            refine jj_aload0 F dL_isTaped_280 ?_
            refine jj_iconst F dL_isTaped_281 ?_
            refine jj_iload7 F dL_isTaped_282 ?_
            refine jj_iload10 F dL_isTaped_284 ?_
            refine jj_iload11 F dL_isTaped_286 ?_
            refine jj_iload12 F dL_isTaped_288 ?_
            refine jj_iload5 F dL_isTaped_290 ?_
            refine la_no F (ka_splice F.tr hP hI (by omega) (by omega) (by omega) (by omega) (by omega)) 3 (-1763000000) (by unfold t_splice; rw [if_neg (fun hz => hz ⟨by omega, by omega, by omega⟩), if_neg (by omega), if_neg (fun hz => by obtain ⟨w1, w2, w3, w4⟩ := hz; first | omega | exact hsp ⟨w3, w4⟩)]) (by decide) (fun h => by rw [h]; rfl) (k := 18) (n0 := 166) ⟨Nat.le_of_ble_eq_true rfl, Nat.le_of_ble_eq_true rfl, Nat.le_of_ble_eq_true rfl, Nat.le_of_ble_eq_true rfl, Nat.le_of_ble_eq_true rfl, Nat.le_of_ble_eq_true rfl, Nat.le_of_ble_eq_true rfl⟩ dL_isTaped_292 (fun G hP => ?_)
            refine jj_istore14 F dL_isTaped_295 (hN _ (by decide)) rfl ?_
            refine jj_iload14 F dL_isTaped_297 ?_
            refine jj_if_ge F (tgt := 357) dL_isTaped_299 rfl (by omega) (fun c299 => by exfalso; omega) (fun c299 => ?_)
            refine jj_iload14 F dL_isTaped_302 ?_
            refine jj_ldc F (v := -1763000000) cn_L_128 (by decide) dL_isTaped_304 ?_
            refine jj_icmp_ne F (tgt := 355) dL_isTaped_306 rfl (by omega) (fun c306 => by exfalso; omega) (fun c306 => ?_)
            refine jj_iload13 F dL_isTaped_309 ?_
            refine jj_if_eq F (tgt := 351) dL_isTaped_311 rfl (by omega) (fun c311 => ?_) (fun c311 => by exfalso; omega)
            refine jj_iconst F dL_isTaped_351 ?_
            refine jj_goto F (tgt := 356) dL_isTaped_352 rfl ?_
            exact jj_zret B dL_isTaped_356 ⟨Nat.le_of_ble_eq_true rfl, Nat.le_of_ble_eq_true rfl⟩ (Or.inr rfl) ⟨1, rfl, rfl, _, _, _, _, _, c, by omega, (hL.mono (by omega)), hP⟩
      · skip
        refine jj_if_ne F (tgt := 236) dL_isTaped_229 rfl (by omega) (fun c229 => ?_) (fun c229 => ?_)
        · skip
          refine jj_iload8 F dL_isTaped_236 ?_
          refine jj_iconst F dL_isTaped_238 ?_
          refine jj_idiv F (by omega) dL_isTaped_239 ?_
          refine jj_aload1 F dL_isTaped_240 ?_
          refine jj_iconst F dL_isTaped_241 ?_
          refine jm_ald F hP (by omega) dL_isTaped_242 ?_
          refine jj_irem F (by omega) dL_isTaped_243 ?_
          exact J244 _ (by first | exact Or.inl rfl | (refine Or.inr ?_; rw [hM1]; exact ⟨Int.emod_nonneg _ (by omega), Int.emod_lt_of_pos _ (by omega)⟩))
        · skip
          refine jj_iconst F dL_isTaped_232 ?_
          refine jj_goto F (tgt := 244) dL_isTaped_233 rfl ?_
          exact J244 _ (by first | exact Or.inl rfl | (refine Or.inr ?_; rw [hM1]; exact ⟨Int.emod_nonneg _ (by omega), Int.emod_lt_of_pos _ (by omega)⟩))
