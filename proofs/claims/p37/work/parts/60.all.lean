/-! ===== all: a number out of all that can be asked ===== -/
def qT (s : Sg) : Nat → Int
  | 0 => 0
  | k + 1 => 31 * qT s k + jW (r_tapeIs s ((k : Int) / 6) ((k : Int) % 6))
def qS (s : Sg) (b : Int) : Nat → Int
  | 0 => b
  | k + 1 => 31 * qS s b k + jW (r_stamperIs s ((k : Int) / 5) 0 0 ((k : Int) % 5)) + 7 * jW (sSec s ((k : Int) / 5) ((k : Int) % 5))
def qD (s : Sg) (b : Int) : Nat → Int
  | 0 => b
  | k + 1 => 31 * qD s b k + jW (sNoise s (k : Int) ((k : Int) % 8)) + 7 * jW (sGrade (sNoises s (k : Int) 8))
def qA (s : Sg) (b : Int) : Nat → Int
  | 0 => b
  | k + 1 => 31 * qA s b k + jW (s 36 (k : Int)) + 7 * jW (if s 26 0 = 0 then -1 else s 27 ((k : Int) + 2))
def qAll (s : Sg) : Int := qA s (qD s (qS s (qT s (6 * s 1 0).toNat) (5 * s 13 0).toNat) (s 22 0).toNat) 6
abbrev rm_all : Room := { frames := 10, cells := 1100, slots := 6500, locals := 200 }
set_option maxRecDepth 100000 in
set_option maxHeartbeats 4000000 in
theorem kl_all {l : Launch} {D : va_G} {ac : Nat → ClassId} (hl : l.stackTraces = false) {A : Nat → Nat} {s e : Sg} {m g r : Int → Int} {G : jj_G} (hP : WP ac A s e m g r G) {c : Int} (hI : hInv s e c) (hM : m 1 = s 1 0 ∧ m 2 = s 13 0 ∧ m 3 = s 22 0) : jj_C l D ac yL_all (.code yL_all cL_all 5 (some .long)) rm_all [.ref (A 0), .ref (A 1)] G (fun v G' => v = some (.long (jL (qAll s))) ∧ WP ac A s e m g r G') jj_nx := by
  refine jj_ofx (own := RL) (lv0 := [some (.ref (A 0)), some (.ref (A 1)), none, none, none]) hl (by decide +kernel) rfl rfl (Nat.le_of_ble_eq_true rfl) rfl ?_
  intro X B hN hl0 hdg hac hin
  subst hl0; subst hdg; subst hac
  have F := B.F
  have b1 := hI.1.2.1
  have b2 := hI.2.2.1.1
  have b3 := hI.2.2.2.2.1.1
  obtain ⟨N0, hN0⟩ : ∃ N0 : Nat, N0 = (6 * s 1 0).toNat := ⟨_, rfl⟩
  obtain ⟨N1, hN1⟩ : ∃ N1 : Nat, N1 = (5 * s 13 0).toNat := ⟨_, rfl⟩
  obtain ⟨N2, hN2⟩ : ∃ N2 : Nat, N2 = (s 22 0).toNat := ⟨_, rfl⟩
  have ph3 : ∀ (n j : Nat) (kc kn : Nat) (G : jj_G), WP (jj_ac X) A s e m g r G → n + j = 6 → kc + 6 * n ≤ 996 → kn + 36 * n ≤ 5976 → jj_J X G kc kn 154 [some (.ref (A 0)), some (.ref (A 1)), some (.long (jL (qA s (qD s (qS s (qT s N0) N1) N2) j))), none, some (.int (jI (j : Int)))] [] := by
    intro n
    induction n with
    | zero =>
      intro j kc kn G hP hj h1 h2
      have e1 : j = 6 := by omega
      refine jj_iload4 F dL_all_154 ?_
      refine jj_bipush F (by decide) dL_all_156 ?_
      refine jj_icmp_ge F (tgt := 195) dL_all_158 rfl (by omega) (fun c158 => ?_) (fun c158 => by exfalso; omega)
      refine jj_lload2 F dL_all_195 ?_
      subst e1
      refine jj_lret B dL_all_196 ⟨(show kc ≤ 1100 by omega), (show kn ≤ 6500 by omega)⟩ ⟨?_, hP⟩
      unfold qAll
      rw [← hN0, ← hN1, ← hN2]
    | succ n ih =>
      intro j kc kn G hP hj h1 h2
      refine jj_iload4 F dL_all_154 ?_
      refine jj_bipush F (by decide) dL_all_156 ?_
      refine jj_icmp_ge F (tgt := 195) dL_all_158 rfl (by omega) (fun c158 => by exfalso; omega) (fun c158 => ?_)
      refine jj_ldc2 F (v := 31) cn_L_137 (by decide) dL_all_161 ?_
      refine jj_lload2 F dL_all_164 ?_
      refine jj_lmul F dL_all_165 ?_
      refine jj_aload0 F dL_all_166 ?_
      refine jj_iload4 F dL_all_167 ?_
      refine lq_ac F hP hI (by omega) (k := kc + 3) (n0 := kn + 18) ⟨Nat.le_of_ble_eq_true rfl, Nat.le_of_ble_eq_true rfl, (Nat.le_refl _), (Nat.le_refl _), (show kc + 3 ≤ 1100 by omega), (show kn + 18 ≤ 6500 by omega), Nat.le_of_ble_eq_true rfl⟩ dL_all_169 (fun G hP => ?_)
      refine jj_jw ?_
      refine jj_i2l F (jI_rng _) dL_all_172 ?_
      refine jj_ladd F dL_all_173 ?_
      refine jj_ldc2 F (v := 7) cn_L_139 (by decide) dL_all_174 ?_
      refine jj_aload0 F dL_all_177 ?_
      refine jj_iload4 F dL_all_178 ?_
      refine jj_iconst F dL_all_180 ?_
      refine jj_iadd F dL_all_181 ?_
      refine lq_fi F hP hI (by omega) (k := kc + 6) (n0 := kn + 36) ⟨Nat.le_of_ble_eq_true rfl, Nat.le_of_ble_eq_true rfl, (Nat.le_refl _), (Nat.le_refl _), (show kc + 6 ≤ 1100 by omega), (show kn + 36 ≤ 6500 by omega), Nat.le_of_ble_eq_true rfl⟩ dL_all_182 (fun G hP => ?_)
      refine jj_jw ?_
      refine jj_i2l F (jI_rng _) dL_all_185 ?_
      refine jj_lmul F dL_all_186 ?_
      refine jj_ladd F dL_all_187 ?_
      refine jj_lstore2 F dL_all_188 (hN _ (by decide)) rfl ?_
      refine jj_iinc4 F dL_all_189 (hN _ (by decide)) rfl ?_
      refine jj_goto F (tgt := 154) dL_all_192 rfl ?_
      have ih1 := ih (j + 1) (kc + 6) (kn + 36) G hP (by omega) (by omega) (by omega)
      rw [show (((j + 1 : Nat)) : Int) = (j : Int) + 1 from rfl] at ih1
      exact ih1
  have ph2 : ∀ (n j : Nat) (kc kn : Nat) (G : jj_G), WP (jj_ac X) A s e m g r G → n + j = N2 → kc + 6 * n ≤ 960 → kn + 36 * n ≤ 5760 → jj_J X G kc kn 106 [some (.ref (A 0)), some (.ref (A 1)), some (.long (jL (qD s (qS s (qT s N0) N1) j))), none, some (.int (jI (j : Int)))] [] := by
    intro n
    induction n with
    | zero =>
      intro j kc kn G hP hj h1 h2
      have e1 : j = N2 := by omega
      refine jj_iload4 F dL_all_106 ?_
      refine jj_aload1 F dL_all_108 ?_
      refine jj_iconst F dL_all_109 ?_
      refine jm_ald F hP (by omega) dL_all_110 ?_
      refine jj_icmp_ge F (tgt := 151) dL_all_111 rfl (by omega) (fun c111 => ?_) (fun c111 => by exfalso; omega)
      refine jj_iconst F dL_all_151 ?_
      refine jj_istore4 F dL_all_152 (hN _ (by decide)) rfl ?_
      subst e1
      exact jj_wide ⟨by omega, by omega⟩ (ph3 6 0 960 5760 G hP (by omega) (by omega) (by omega))
    | succ n ih =>
      intro j kc kn G hP hj h1 h2
      refine jj_iload4 F dL_all_106 ?_
      refine jj_aload1 F dL_all_108 ?_
      refine jj_iconst F dL_all_109 ?_
      refine jm_ald F hP (by omega) dL_all_110 ?_
      refine jj_icmp_ge F (tgt := 151) dL_all_111 rfl (by omega) (fun c111 => by exfalso; omega) (fun c111 => ?_)
      refine jj_ldc2 F (v := 31) cn_L_137 (by decide) dL_all_114 ?_
      refine jj_lload2 F dL_all_117 ?_
      refine jj_lmul F dL_all_118 ?_
      refine jj_aload0 F dL_all_119 ?_
      refine jj_iload4 F dL_all_120 ?_
      refine jj_iload4 F dL_all_122 ?_
      refine jj_bipush F (by decide) dL_all_124 ?_
      refine jj_irem F (by omega) dL_all_126 ?_
      refine lq_no F hP hI (by omega) (by omega) (k := kc + 3) (n0 := kn + 18) ⟨Nat.le_of_ble_eq_true rfl, Nat.le_of_ble_eq_true rfl, (Nat.le_refl _), (Nat.le_refl _), (show kc + 3 ≤ 1100 by omega), (show kn + 18 ≤ 6500 by omega), Nat.le_of_ble_eq_true rfl⟩ dL_all_127 (fun G hP => ?_)
      refine jj_jw ?_
      refine jj_i2l F (jI_rng _) dL_all_130 ?_
      refine jj_ladd F dL_all_131 ?_
      refine jj_ldc2 F (v := 7) cn_L_139 (by decide) dL_all_132 ?_
      refine jj_aload0 F dL_all_135 ?_
      refine jj_iload4 F dL_all_136 ?_
      refine lq_gr F hP hI (by omega) (k := kc + 6) (n0 := kn + 36) ⟨Nat.le_of_ble_eq_true rfl, Nat.le_of_ble_eq_true rfl, (Nat.le_refl _), (Nat.le_refl _), (show kc + 6 ≤ 1100 by omega), (show kn + 36 ≤ 6500 by omega), Nat.le_of_ble_eq_true rfl⟩ dL_all_138 (fun G hP => ?_)
      refine jj_jw ?_
      refine jj_i2l F (jI_rng _) dL_all_141 ?_
      refine jj_lmul F dL_all_142 ?_
      refine jj_ladd F dL_all_143 ?_
      refine jj_lstore2 F dL_all_144 (hN _ (by decide)) rfl ?_
      refine jj_iinc4 F dL_all_145 (hN _ (by decide)) rfl ?_
      refine jj_goto F (tgt := 106) dL_all_148 rfl ?_
      have ih1 := ih (j + 1) (kc + 6) (kn + 36) G hP (by omega) (by omega) (by omega)
      rw [show (((j + 1 : Nat)) : Int) = (j : Int) + 1 from rfl] at ih1
      exact ih1
  have ph1 : ∀ (n j : Nat) (kc kn : Nat) (G : jj_G), WP (jj_ac X) A s e m g r G → n + j = N1 → kc + 6 * n ≤ 840 → kn + 36 * n ≤ 5040 → jj_J X G kc kn 47 [some (.ref (A 0)), some (.ref (A 1)), some (.long (jL (qS s (qT s N0) j))), none, some (.int (jI (j : Int)))] [] := by
    intro n
    induction n with
    | zero =>
      intro j kc kn G hP hj h1 h2
      have e1 : j = N1 := by omega
      refine jj_iload4 F dL_all_47 ?_
      refine jj_iconst F dL_all_49 ?_
      refine jj_aload1 F dL_all_50 ?_
      refine jj_iconst F dL_all_51 ?_
      refine jm_ald F hP (by omega) dL_all_52 ?_
      refine jj_imul F dL_all_53 ?_
      refine jj_icmp_ge F (tgt := 103) dL_all_54 rfl (by omega) (fun c54 => ?_) (fun c54 => by exfalso; omega)
      refine jj_iconst F dL_all_103 ?_
      refine jj_istore4 F dL_all_104 (hN _ (by decide)) rfl ?_
      subst e1
      exact jj_wide ⟨by omega, by omega⟩ (ph2 N2 0 840 5040 G hP (by omega) (by omega) (by omega))
    | succ n ih =>
      intro j kc kn G hP hj h1 h2
      refine jj_iload4 F dL_all_47 ?_
      refine jj_iconst F dL_all_49 ?_
      refine jj_aload1 F dL_all_50 ?_
      refine jj_iconst F dL_all_51 ?_
      refine jm_ald F hP (by omega) dL_all_52 ?_
      refine jj_imul F dL_all_53 ?_
      refine jj_icmp_ge F (tgt := 103) dL_all_54 rfl (by omega) (fun c54 => by exfalso; omega) (fun c54 => ?_)
      refine jj_ldc2 F (v := 31) cn_L_137 (by decide) dL_all_57 ?_
      refine jj_lload2 F dL_all_60 ?_
      refine jj_lmul F dL_all_61 ?_
      refine jj_aload0 F dL_all_62 ?_
      refine jj_iload4 F dL_all_63 ?_
      refine jj_iconst F dL_all_65 ?_
      refine jj_idiv F (by omega) dL_all_66 ?_
      refine jj_iconst F dL_all_67 ?_
      refine jj_iconst F dL_all_68 ?_
      refine jj_iload4 F dL_all_69 ?_
      refine jj_iconst F dL_all_71 ?_
      refine jj_irem F (by omega) dL_all_72 ?_
      refine lq_stamperIs F hP hI ⟨by omega, by omega, by omega⟩ (by omega) (k := kc + 3) (n0 := kn + 18) ⟨Nat.le_of_ble_eq_true rfl, Nat.le_of_ble_eq_true rfl, (Nat.le_refl _), (Nat.le_refl _), (show kc + 3 ≤ 1100 by omega), (show kn + 18 ≤ 6500 by omega), Nat.le_of_ble_eq_true rfl⟩ dL_all_73 (fun G hP => ?_)
      refine jj_jw ?_
      refine jj_i2l F (jI_rng _) dL_all_76 ?_
      refine jj_ladd F dL_all_77 ?_
      refine jj_ldc2 F (v := 7) cn_L_139 (by decide) dL_all_78 ?_
      refine jj_aload0 F dL_all_81 ?_
      refine jj_iload4 F dL_all_82 ?_
      refine jj_iconst F dL_all_84 ?_
      refine jj_idiv F (by omega) dL_all_85 ?_
      refine jj_iload4 F dL_all_86 ?_
      refine jj_iconst F dL_all_88 ?_
      refine jj_irem F (by omega) dL_all_89 ?_
      refine lq_se F hP hI (by omega) (by omega) (k := kc + 6) (n0 := kn + 36) ⟨Nat.le_of_ble_eq_true rfl, Nat.le_of_ble_eq_true rfl, (Nat.le_refl _), (Nat.le_refl _), (show kc + 6 ≤ 1100 by omega), (show kn + 36 ≤ 6500 by omega), Nat.le_of_ble_eq_true rfl⟩ dL_all_90 (fun G hP => ?_)
      refine jj_jw ?_
      refine jj_i2l F (jI_rng _) dL_all_93 ?_
      refine jj_lmul F dL_all_94 ?_
      refine jj_ladd F dL_all_95 ?_
      refine jj_lstore2 F dL_all_96 (hN _ (by decide)) rfl ?_
      refine jj_iinc4 F dL_all_97 (hN _ (by decide)) rfl ?_
      refine jj_goto F (tgt := 47) dL_all_100 rfl ?_
      have ih1 := ih (j + 1) (kc + 6) (kn + 36) G hP (by omega) (by omega) (by omega)
      rw [show (((j + 1 : Nat)) : Int) = (j : Int) + 1 from rfl] at ih1
      exact ih1
  have ph0 : ∀ (n j : Nat) (kc kn : Nat) (G : jj_G), WP (jj_ac X) A s e m g r G → n + j = N0 → kc + 3 * n ≤ 540 → kn + 18 * n ≤ 3240 → jj_J X G kc kn 5 [some (.ref (A 0)), some (.ref (A 1)), some (.long (jL (qT s j))), none, some (.int (jI (j : Int)))] [] := by
    intro n
    induction n with
    | zero =>
      intro j kc kn G hP hj h1 h2
      have e1 : j = N0 := by omega
      refine jj_iload4 F dL_all_5 ?_
      refine jj_bipush F (by decide) dL_all_7 ?_
      refine jj_aload1 F dL_all_9 ?_
      refine jj_iconst F dL_all_10 ?_
      refine jm_ald F hP (by omega) dL_all_11 ?_
      refine jj_imul F dL_all_12 ?_
      refine jj_icmp_ge F (tgt := 44) dL_all_13 rfl (by omega) (fun c13 => ?_) (fun c13 => by exfalso; omega)
      refine jj_iconst F dL_all_44 ?_
      refine jj_istore4 F dL_all_45 (hN _ (by decide)) rfl ?_
      subst e1
      exact jj_wide ⟨by omega, by omega⟩ (ph1 N1 0 540 3240 G hP (by omega) (by omega) (by omega))
    | succ n ih =>
      intro j kc kn G hP hj h1 h2
      refine jj_iload4 F dL_all_5 ?_
      refine jj_bipush F (by decide) dL_all_7 ?_
      refine jj_aload1 F dL_all_9 ?_
      refine jj_iconst F dL_all_10 ?_
      refine jm_ald F hP (by omega) dL_all_11 ?_
      refine jj_imul F dL_all_12 ?_
      refine jj_icmp_ge F (tgt := 44) dL_all_13 rfl (by omega) (fun c13 => by exfalso; omega) (fun c13 => ?_)
      refine jj_ldc2 F (v := 31) cn_L_137 (by decide) dL_all_16 ?_
      refine jj_lload2 F dL_all_19 ?_
      refine jj_lmul F dL_all_20 ?_
      refine jj_aload0 F dL_all_21 ?_
      refine jj_iload4 F dL_all_22 ?_
      refine jj_bipush F (by decide) dL_all_24 ?_
      refine jj_idiv F (by omega) dL_all_26 ?_
      refine jj_iload4 F dL_all_27 ?_
      refine jj_bipush F (by decide) dL_all_29 ?_
      refine jj_irem F (by omega) dL_all_31 ?_
      refine lq_tapeIs F hP hI (by omega) (by omega) (k := kc + 3) (n0 := kn + 18) ⟨Nat.le_of_ble_eq_true rfl, Nat.le_of_ble_eq_true rfl, (Nat.le_refl _), (Nat.le_refl _), (show kc + 3 ≤ 1100 by omega), (show kn + 18 ≤ 6500 by omega), Nat.le_of_ble_eq_true rfl⟩ dL_all_32 (fun G hP => ?_)
      refine jj_jw ?_
      refine jj_i2l F (jI_rng _) dL_all_35 ?_
      refine jj_ladd F dL_all_36 ?_
      refine jj_lstore2 F dL_all_37 (hN _ (by decide)) rfl ?_
      refine jj_iinc4 F dL_all_38 (hN _ (by decide)) rfl ?_
      refine jj_goto F (tgt := 5) dL_all_41 rfl ?_
      have ih1 := ih (j + 1) (kc + 3) (kn + 18) G hP (by omega) (by omega) (by omega)
      rw [show (((j + 1 : Nat)) : Int) = (j : Int) + 1 from rfl] at ih1
      exact ih1
  refine jj_lconst F (v := 0) (by decide) dL_all_0 ?_
  refine jj_lstore2 F dL_all_1 (hN _ (by decide)) rfl ?_
  refine jj_iconst F dL_all_2 ?_
  refine jj_istore4 F dL_all_3 (hN _ (by decide)) rfl ?_
  exact ph0 N0 0 0 0 G hP (by omega) (by omega) (by omega)
