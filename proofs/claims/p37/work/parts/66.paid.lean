/-! ===== isPaid ===== -/
abbrev rm_isPaid : Room := { frames := 11, cells := 600, slots := 4000, locals := 240 }
set_option maxRecDepth 100000 in
set_option maxHeartbeats 4000000 in
theorem kl_paid {l : Launch} {D : va_G} {ac : Nat → ClassId} (hl : l.stackTraces = false) {A : Nat → Nat} {s e : Sg} {m g r : Int → Int} {h x : Int} {G : jj_G} (hP : WP ac A s e m g r G) {c n : Int} (hL : LI s e m g r c n) (hc : c + 3 < 512) (hn : 0 ≤ n ∧ n < 150) (hh : 0 ≤ h ∧ h ≤ 2) (hx : 0 ≤ x ∧ x ≤ 2147483647) : jj_C l D ac yL_isPaid (.code yL_isPaid cL_isPaid 8 (some .boolean)) rm_isPaid [.ref (A 0), .ref (A 1), .int (jI h), .int (jI x)] G (OP ac A c n) jj_nx := by
  refine jj_ofx (own := RL) (lv0 := [some (.ref (A 0)), some (.ref (A 1)), some (.int (jI h)), some (.int (jI x)), none, none, none, none]) hl (by decide +kernel) rfl rfl (Nat.le_of_ble_eq_true rfl) rfl ?_
  intro X B hN hl0 hdg hac hin
  subst hl0; subst hdg; subst hac
  have F := B.F
  have hI := hL.I
  have b0 := hI.1.1
  have hj := hL.J
  obtain ⟨hM0, hM1, hM2, hM3, hM4, hM5⟩ := id hL.M
  have hD := hL.D
  have A0 := acc_eq hL.I hL.E hL.J (by omega) (q := x % 6) (by omega)
  refine jj_iload3 F dL_isPaid_0 ?_
  refine jj_bipush F (by decide) dL_isPaid_1 ?_
  refine jj_irem F (by omega) dL_isPaid_3 ?_
  refine jj_istore4 F dL_isPaid_4 (hN _ (by decide)) rfl ?_
  refine jj_iload3 F dL_isPaid_6 ?_
  refine jj_bipush F (by decide) dL_isPaid_7 ?_
  refine jj_idiv F (by omega) dL_isPaid_9 ?_
  refine jj_istore5 F dL_isPaid_10 (hN _ (by decide)) rfl ?_
  refine jj_aload0 F dL_isPaid_12 ?_
  refine jj_iload4 F dL_isPaid_13 ?_
  refine lq_ac F hP hI (by omega) (k := 3) (n0 := 18) ⟨Nat.le_of_ble_eq_true rfl, Nat.le_of_ble_eq_true rfl, Nat.le_of_ble_eq_true rfl, Nat.le_of_ble_eq_true rfl, Nat.le_of_ble_eq_true rfl, Nat.le_of_ble_eq_true rfl, Nat.le_of_ble_eq_true rfl⟩ dL_isPaid_15 (fun G hP => ?_)
  refine jj_istore6 F dL_isPaid_18 (hN _ (by decide)) rfl ?_
  refine jj_iload2 F dL_isPaid_20 ?_
  rcases (show h = 0 ∨ h = 1 ∨ h = 2 by omega) with rfl | rfl | rfl
  · skip
    have ht : t_pass s (1 + x / 6 % 40) = 0 := (by unfold t_pass; rw [if_neg (by omega), if_neg (by omega)])
    obtain ⟨hL2, f36, fr⟩ := LI_pass hL (by omega) hn.1 (x := 1 + x / 6 % 40) (by omega) ht
    obtain ⟨m2, hm2⟩ : ∃ m2, m2 = ju m 0 (m 0 + (1 + x / 6 % 40)) := ⟨_, rfl⟩
    have hm0 : m2 0 = m 0 + (1 + x / 6 % 40) := by rw [hm2]; exact ju_s
    refine jj_if_ne F (tgt := 76) dL_isPaid_21 rfl (by omega) (fun c21 => by exfalso; omega) (fun c21 => ?_)
    refine jj_iconst F dL_isPaid_24 ?_
    refine jj_iload5 F dL_isPaid_25 ?_
    refine jj_bipush F (by decide) dL_isPaid_27 ?_
    refine jj_irem F (by omega) dL_isPaid_29 ?_
    refine jj_iadd F dL_isPaid_30 ?_
    refine jj_istore7 F dL_isPaid_31 (hN _ (by decide)) rfl ?_
    refine jj_aload1 F dL_isPaid_33 ?_
    refine jj_iconst F dL_isPaid_34 ?_
    refine jj_dup2 F rfl rfl dL_isPaid_35 ?_
    refine jm_ald F hP (by omega) dL_isPaid_36 ?_
    refine jj_iload7 F dL_isPaid_37 ?_
    refine jj_iadd F dL_isPaid_39 ?_
    refine jm_ast F hP (by omega) dL_isPaid_40 (fun G hP => ?_)
    rw [← hm2] at hP hL2
    refine jj_aload0 F dL_isPaid_41 ?_
    refine jj_bipush F (by decide) dL_isPaid_42 ?_
    refine jj_iload7 F dL_isPaid_44 ?_
    refine jj_iconst F dL_isPaid_46 ?_
    refine jj_iconst F dL_isPaid_47 ?_
    refine jj_iconst F dL_isPaid_48 ?_
    refine jj_iconst F dL_isPaid_49 ?_
    refine la_ok F (ka_pass F.tr hP hI (by omega)) ht (k := 15) (n0 := 148) ⟨Nat.le_of_ble_eq_true rfl, Nat.le_of_ble_eq_true rfl, Nat.le_of_ble_eq_true rfl, Nat.le_of_ble_eq_true rfl, Nat.le_of_ble_eq_true rfl, Nat.le_of_ble_eq_true rfl, Nat.le_of_ble_eq_true rfl⟩ dL_isPaid_50 (fun G hP => ?_)
    rw [fr]
    have hI := hL2.I
    refine jj_aload1 F dL_isPaid_53 ?_
    refine jj_iconst F dL_isPaid_54 ?_
    refine jm_ald F hP (by omega) dL_isPaid_55 ?_
    refine jj_icmp_ne F (tgt := 74) dL_isPaid_56 rfl (by omega) (fun c56 => by exfalso; omega) (fun c56 => ?_)
    refine jj_aload0 F dL_isPaid_59 ?_
    refine jj_iload4 F dL_isPaid_60 ?_
    refine lq_ac F hP hI (by omega) (k := 18) (n0 := 166) ⟨Nat.le_of_ble_eq_true rfl, Nat.le_of_ble_eq_true rfl, Nat.le_of_ble_eq_true rfl, Nat.le_of_ble_eq_true rfl, Nat.le_of_ble_eq_true rfl, Nat.le_of_ble_eq_true rfl, Nat.le_of_ble_eq_true rfl⟩ dL_isPaid_62 (fun G hP => ?_)
    rw [f36]
    refine jj_iload6 F dL_isPaid_65 ?_
    refine jj_icmp_ne F (tgt := 74) dL_isPaid_67 rfl (by omega) (fun c67 => by exfalso; omega) (fun c67 => ?_)
    refine jj_iconst F dL_isPaid_70 ?_
    refine jj_goto F (tgt := 75) dL_isPaid_71 rfl ?_
    exact jj_zret B dL_isPaid_75 ⟨Nat.le_of_ble_eq_true rfl, Nat.le_of_ble_eq_true rfl⟩ (Or.inr rfl) ⟨1, rfl, rfl, _, _, _, _, _, c + 1, by omega, hL2, hP⟩
  · skip
    refine jj_if_ne F (tgt := 76) dL_isPaid_21 rfl (by omega) (fun c21 => ?_) (fun c21 => by exfalso; omega)
    refine jj_iload2 F dL_isPaid_76 ?_
    refine jj_iconst F dL_isPaid_77 ?_
    refine jj_icmp_ne F (tgt := 151) dL_isPaid_78 rfl (by omega) (fun c78 => by exfalso; omega) (fun c78 => ?_)
    refine jj_iload5 F dL_isPaid_81 ?_
    refine jj_iconst F dL_isPaid_83 ?_
    refine jj_irem F (by omega) dL_isPaid_84 ?_
    refine jj_meetb 100 (fun b : Int => 0 ≤ b ∧ b ≤ 2999) (fun b hb => ?_) (fun J100 => ?_)
    · skip
      have ht : t_contract (x % 6) (x / 6 / 7 % 10000) b = 0 := (by unfold t_contract; rw [if_neg (by omega), if_pos (by omega)])
      obtain ⟨hL2, f36, fr⟩ := LI_contract hL (by omega) (by omega) (y := b) (by omega) ht
      refine jj_istore7 F dL_isPaid_100 (hN _ (by decide)) rfl ?_
      refine jj_aload0 F dL_isPaid_102 ?_
      refine jj_bipush F (by decide) dL_isPaid_103 ?_
      refine jj_iload4 F dL_isPaid_105 ?_
      refine jj_iload5 F dL_isPaid_107 ?_
      refine jj_bipush F (by decide) dL_isPaid_109 ?_
      refine jj_idiv F (by omega) dL_isPaid_111 ?_
      refine jj_sipush F (by decide) dL_isPaid_112 ?_
      refine jj_irem F (by omega) dL_isPaid_115 ?_
      refine jj_iload7 F dL_isPaid_116 ?_
      refine jj_iconst F dL_isPaid_118 ?_
      refine jj_iconst F dL_isPaid_119 ?_
      refine la_ok F (ka_contract F.tr hP hI (by omega) (by omega) (by omega)) ht (k := 15) (n0 := 148) ⟨Nat.le_of_ble_eq_true rfl, Nat.le_of_ble_eq_true rfl, Nat.le_of_ble_eq_true rfl, Nat.le_of_ble_eq_true rfl, Nat.le_of_ble_eq_true rfl, Nat.le_of_ble_eq_true rfl, Nat.le_of_ble_eq_true rfl⟩ dL_isPaid_120 (fun G hP => ?_)
      rw [fr]
      have hI := hL2.I
      refine jj_iload6 F dL_isPaid_123 ?_
      refine jj_iload7 F dL_isPaid_125 ?_
      refine jj_isub F dL_isPaid_127 ?_
      refine jj_icmp_ne F (tgt := 149) dL_isPaid_128 rfl (by omega) (fun c128 => by exfalso; omega) (fun c128 => ?_)
      refine jj_aload0 F dL_isPaid_131 ?_
      refine jj_iload4 F dL_isPaid_132 ?_
      refine lq_ac F hP hI (by omega) (k := 18) (n0 := 166) ⟨Nat.le_of_ble_eq_true rfl, Nat.le_of_ble_eq_true rfl, Nat.le_of_ble_eq_true rfl, Nat.le_of_ble_eq_true rfl, Nat.le_of_ble_eq_true rfl, Nat.le_of_ble_eq_true rfl, Nat.le_of_ble_eq_true rfl⟩ dL_isPaid_134 (fun G hP => ?_)
      rw [f36]
      refine jj_iload6 F dL_isPaid_137 ?_
      refine jj_iload7 F dL_isPaid_139 ?_
      refine jj_isub F dL_isPaid_141 ?_
      refine jj_icmp_ne F (tgt := 149) dL_isPaid_142 rfl (by omega) (fun c142 => by exfalso; omega) (fun c142 => ?_)
      refine jj_iconst F dL_isPaid_145 ?_
      refine jj_goto F (tgt := 150) dL_isPaid_146 rfl ?_
      exact jj_zret B dL_isPaid_150 ⟨Nat.le_of_ble_eq_true rfl, Nat.le_of_ble_eq_true rfl⟩ (Or.inr rfl) ⟨1, rfl, rfl, _, _, _, _, _, c + 1, by omega, hL2, hP⟩
    · skip
      refine jj_if_le F (tgt := 92) dL_isPaid_85 rfl (by omega) (fun c85 => ?_) (fun c85 => ?_)
      · skip
        refine jj_iload5 F dL_isPaid_92 ?_
        refine jj_iconst F dL_isPaid_94 ?_
        refine jj_idiv F (by omega) dL_isPaid_95 ?_
        refine jj_sipush F (by decide) dL_isPaid_96 ?_
        refine jj_irem F (by omega) dL_isPaid_99 ?_
        exact J100 _ (by omega)
      · skip
        refine jj_iconst F dL_isPaid_88 ?_
        refine jj_goto F (tgt := 100) dL_isPaid_89 rfl ?_
        exact J100 _ (by omega)
  · skip
    have ht : t_artist (x % 6) = 0 := (by unfold t_artist; rw [if_pos (by omega)])
    obtain ⟨⟨hL2, -⟩, f36, fr⟩ := LI_payOut hL (by omega) (by omega) ht
    have hz : n_payOut s (x % 6) 36 (x % 6) ≤ 0 := by rw [f36]; split <;> omega
    obtain ⟨⟨-, hL3⟩, -, fr3⟩ := LI_payOut hL2 (by omega) (by omega) ht
    replace hL3 := hL3 hz
    rw [if_neg (by omega)] at fr3
    by_cases hv : 0 < s 36 (x % 6)
    · skip
      rw [if_pos hv] at fr f36
      refine jj_if_ne F (tgt := 76) dL_isPaid_21 rfl (by omega) (fun c21 => ?_) (fun c21 => by exfalso; omega)
      refine jj_iload2 F dL_isPaid_76 ?_
      refine jj_iconst F dL_isPaid_77 ?_
      refine jj_icmp_ne F (tgt := 151) dL_isPaid_78 rfl (by omega) (fun c78 => ?_) (fun c78 => by exfalso; omega)
      refine jj_aload0 F dL_isPaid_151 ?_
      refine jj_bipush F (by decide) dL_isPaid_152 ?_
      refine jj_iload4 F dL_isPaid_154 ?_
      refine jj_iconst F dL_isPaid_156 ?_
      refine jj_iconst F dL_isPaid_157 ?_
      refine jj_iconst F dL_isPaid_158 ?_
      refine jj_iconst F dL_isPaid_159 ?_
      refine la_ok F (ka_payOut F.tr hP hI (by omega) hj) ht (k := 15) (n0 := 148) ⟨Nat.le_of_ble_eq_true rfl, Nat.le_of_ble_eq_true rfl, Nat.le_of_ble_eq_true rfl, Nat.le_of_ble_eq_true rfl, Nat.le_of_ble_eq_true rfl, Nat.le_of_ble_eq_true rfl, Nat.le_of_ble_eq_true rfl⟩ dL_isPaid_160 (fun G hP => ?_)
      rw [fr]
      have hI := hL2.I
      have hj := hL2.J
      refine jj_iload6 F dL_isPaid_163 ?_
      refine jj_if_le F (tgt := 173) dL_isPaid_165 rfl (by omega) (fun c165 => by exfalso; omega) (fun c165 => ?_)
      refine jj_iload6 F dL_isPaid_168 ?_
      refine jj_goto F (tgt := 174) dL_isPaid_170 rfl ?_
      refine jj_icmp_ne F (tgt := 216) dL_isPaid_174 rfl (by omega) (fun c174 => by exfalso; omega) (fun c174 => ?_)
      refine jj_aload0 F dL_isPaid_177 ?_
      refine jj_iload4 F dL_isPaid_178 ?_
      refine lq_ac F hP hI (by omega) (k := 18) (n0 := 166) ⟨Nat.le_of_ble_eq_true rfl, Nat.le_of_ble_eq_true rfl, Nat.le_of_ble_eq_true rfl, Nat.le_of_ble_eq_true rfl, Nat.le_of_ble_eq_true rfl, Nat.le_of_ble_eq_true rfl, Nat.le_of_ble_eq_true rfl⟩ dL_isPaid_180 (fun G hP => ?_)
      rw [f36]
      refine jj_iload6 F dL_isPaid_183 ?_
      refine jj_if_le F (tgt := 192) dL_isPaid_185 rfl (by omega) (fun c185 => by exfalso; omega) (fun c185 => ?_)
      refine jj_iconst F dL_isPaid_188 ?_
      refine jj_goto F (tgt := 194) dL_isPaid_189 rfl ?_
      refine jj_icmp_ne F (tgt := 216) dL_isPaid_194 rfl (by omega) (fun c194 => by exfalso; omega) (fun c194 => ?_)
      refine jj_aload0 F dL_isPaid_197 ?_
      refine jj_bipush F (by decide) dL_isPaid_198 ?_
      refine jj_iload4 F dL_isPaid_200 ?_
      refine jj_iconst F dL_isPaid_202 ?_
      refine jj_iconst F dL_isPaid_203 ?_
      refine jj_iconst F dL_isPaid_204 ?_
      refine jj_iconst F dL_isPaid_205 ?_
      refine la_ok F (ka_payOut F.tr hP hI (by omega) hj) ht (k := 30) (n0 := 296) ⟨Nat.le_of_ble_eq_true rfl, Nat.le_of_ble_eq_true rfl, Nat.le_of_ble_eq_true rfl, Nat.le_of_ble_eq_true rfl, Nat.le_of_ble_eq_true rfl, Nat.le_of_ble_eq_true rfl, Nat.le_of_ble_eq_true rfl⟩ dL_isPaid_206 (fun G hP => ?_)
      rw [fr3]
      refine jj_if_ne F (tgt := 216) dL_isPaid_209 rfl (by omega) (fun c209 => by exfalso; omega) (fun c209 => ?_)
      refine jj_iconst F dL_isPaid_212 ?_
      refine jj_goto F (tgt := 217) dL_isPaid_213 rfl ?_
      exact jj_zret B dL_isPaid_217 ⟨Nat.le_of_ble_eq_true rfl, Nat.le_of_ble_eq_true rfl⟩ (Or.inr rfl) ⟨1, rfl, rfl, _, _, _, _, _, c + 1 + 1, by omega, hL3, hP⟩
    · skip
      rw [if_neg hv] at fr f36
      refine jj_if_ne F (tgt := 76) dL_isPaid_21 rfl (by omega) (fun c21 => ?_) (fun c21 => by exfalso; omega)
      refine jj_iload2 F dL_isPaid_76 ?_
      refine jj_iconst F dL_isPaid_77 ?_
      refine jj_icmp_ne F (tgt := 151) dL_isPaid_78 rfl (by omega) (fun c78 => ?_) (fun c78 => by exfalso; omega)
      refine jj_aload0 F dL_isPaid_151 ?_
      refine jj_bipush F (by decide) dL_isPaid_152 ?_
      refine jj_iload4 F dL_isPaid_154 ?_
      refine jj_iconst F dL_isPaid_156 ?_
      refine jj_iconst F dL_isPaid_157 ?_
      refine jj_iconst F dL_isPaid_158 ?_
      refine jj_iconst F dL_isPaid_159 ?_
      refine la_ok F (ka_payOut F.tr hP hI (by omega) hj) ht (k := 15) (n0 := 148) ⟨Nat.le_of_ble_eq_true rfl, Nat.le_of_ble_eq_true rfl, Nat.le_of_ble_eq_true rfl, Nat.le_of_ble_eq_true rfl, Nat.le_of_ble_eq_true rfl, Nat.le_of_ble_eq_true rfl, Nat.le_of_ble_eq_true rfl⟩ dL_isPaid_160 (fun G hP => ?_)
      rw [fr]
      have hI := hL2.I
      have hj := hL2.J
      refine jj_iload6 F dL_isPaid_163 ?_
      refine jj_if_le F (tgt := 173) dL_isPaid_165 rfl (by omega) (fun c165 => ?_) (fun c165 => by exfalso; omega)
      refine jj_iconst F dL_isPaid_173 ?_
      refine jj_icmp_ne F (tgt := 216) dL_isPaid_174 rfl (by omega) (fun c174 => by exfalso; omega) (fun c174 => ?_)
      refine jj_aload0 F dL_isPaid_177 ?_
      refine jj_iload4 F dL_isPaid_178 ?_
      refine lq_ac F hP hI (by omega) (k := 18) (n0 := 166) ⟨Nat.le_of_ble_eq_true rfl, Nat.le_of_ble_eq_true rfl, Nat.le_of_ble_eq_true rfl, Nat.le_of_ble_eq_true rfl, Nat.le_of_ble_eq_true rfl, Nat.le_of_ble_eq_true rfl, Nat.le_of_ble_eq_true rfl⟩ dL_isPaid_180 (fun G hP => ?_)
      rw [f36]
      refine jj_iload6 F dL_isPaid_183 ?_
      refine jj_if_le F (tgt := 192) dL_isPaid_185 rfl (by omega) (fun c185 => ?_) (fun c185 => by exfalso; omega)
      refine jj_iload6 F dL_isPaid_192 ?_
      refine jj_icmp_ne F (tgt := 216) dL_isPaid_194 rfl (by omega) (fun c194 => by exfalso; omega) (fun c194 => ?_)
      refine jj_aload0 F dL_isPaid_197 ?_
      refine jj_bipush F (by decide) dL_isPaid_198 ?_
      refine jj_iload4 F dL_isPaid_200 ?_
      refine jj_iconst F dL_isPaid_202 ?_
      refine jj_iconst F dL_isPaid_203 ?_
      refine jj_iconst F dL_isPaid_204 ?_
      refine jj_iconst F dL_isPaid_205 ?_
      refine la_ok F (ka_payOut F.tr hP hI (by omega) hj) ht (k := 30) (n0 := 296) ⟨Nat.le_of_ble_eq_true rfl, Nat.le_of_ble_eq_true rfl, Nat.le_of_ble_eq_true rfl, Nat.le_of_ble_eq_true rfl, Nat.le_of_ble_eq_true rfl, Nat.le_of_ble_eq_true rfl, Nat.le_of_ble_eq_true rfl⟩ dL_isPaid_206 (fun G hP => ?_)
      rw [fr3]
      refine jj_if_ne F (tgt := 216) dL_isPaid_209 rfl (by omega) (fun c209 => by exfalso; omega) (fun c209 => ?_)
      refine jj_iconst F dL_isPaid_212 ?_
      refine jj_goto F (tgt := 217) dL_isPaid_213 rfl ?_
      exact jj_zret B dL_isPaid_217 ⟨Nat.le_of_ble_eq_true rfl, Nat.le_of_ble_eq_true rfl⟩ (Or.inr rfl) ⟨1, rfl, rfl, _, _, _, _, _, c + 1 + 1, by omega, hL3, hP⟩
