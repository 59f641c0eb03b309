/-! ===== isRefused: what throws changes nothing ===== -/
theorem sAre_bad : ∀ n : Nat, n < 21 → ∀ b : Nat, b < 29 → n ≤ b → ¬ (jI (sBit (b : Int)) &&& (jI (sBit (n : Int) - 1) ^^^ jI (-1)) = 0) := by decide +kernel
theorem sAre_out {s : Sg} (h : 0 ≤ s 22 0 ∧ s 22 0 ≤ 20) {b : Int} (hb : s 22 0 ≤ b ∧ b ≤ 28) : sAre s (sBit b) = 0 := by
  unfold sAre
  rw [if_neg]
  rintro ⟨-, h2⟩
  refine sAre_bad (s 22 0).toNat (by omega) b.toNat (by omega) (by omega) ?_
  rw [show ((b.toNat : Nat) : Int) = b by omega, show (((s 22 0).toNat : Nat) : Int) = s 22 0 by omega]
  exact h2
theorem sAre_zero {s : Sg} : sAre s 0 = 0 := by
  unfold sAre
  rw [if_neg (fun h => h.1 rfl)]
/-- the law's row m tells the house -/
def pM (s : Sg) (m : Int → Int) : Prop := m 0 = s 0 0 ∧ m 1 = s 1 0 ∧ m 2 = s 13 0 ∧ m 3 = s 22 0 ∧ m 4 = s 28 0 ∧ m 5 = s 26 0
theorem ll_all {X : jj_X} {cc : ByteArray} {rm : Room} {G : jj_G} {kc kn pc nx k n0 : Nat} {lv : List (Option Value)} {rest : List Value} {A : Nat → Nat} {s e : Sg} {m g r : Int → Int} {c : Int} (F : jj_F X RL cc rm) (hP : WP (jj_ac X) A s e m g r G) (hI : hInv s e c) (hM : m 1 = s 1 0 ∧ m 2 = s 13 0 ∧ m 3 = s 22 0) (hr : 11 ≤ rm.frames ∧ 225 ≤ rm.locals ∧ kc + 1100 ≤ k ∧ kn + 6500 ≤ n0 ∧ k ≤ rm.cells ∧ n0 ≤ rm.slots ∧ (rest.map fun v => v.category).sum ≤ 8) (d0 : jj_D cc pc (.invokestatic 141) 3 nx) (kk : ∀ G', WP (jj_ac X) A s e m g r G' → jj_J X G' k n0 nx lv (.long (jL (qAll s)) :: rest)) : jj_J X G kc kn pc lv (.ref (A 1) :: .ref (A 0) :: rest) := by
  obtain ⟨r1, r2, r3, r4, r5, r6, r7⟩ := hr
  refine jj_run F (jj_runS F (kl_all F.tr hP hI hM) lk_L_141 rfl ⟨by show 10 + 1 ≤ _; omega, by show 8 + (5 + 11) + 200 ≤ _; omega, by show kc + 1100 ≤ _; omega, by show kn + 6500 ≤ _; omega, r7⟩ d0) ⟨r3, r4⟩ d0.1 (fun E hE => hE.elim) ?_
  rintro v1 G1 ⟨rfl, hP⟩
  exact kk G1 hP
abbrev rm_isRefused : Room := { frames := 11, cells := 6400, slots := 53000, locals := 240 }
set_option maxRecDepth 100000 in
set_option maxHeartbeats 4000000 in
theorem kl_ref0 {l : Launch} {D : va_G} {ac : Nat → ClassId} (hl : l.stackTraces = false) {A : Nat → Nat} {s e : Sg} {m g r : Int → Int} {x : Int} {G : jj_G} (hP : WP ac A s e m g r G) {c : Int} (hI : hInv s e c) (hM : pM s m) (hj : ∀ i, jR (s 36 i)) (hx : 0 ≤ x ∧ x ≤ 2147483647) (hp : x % 2 = 0) : jj_C l D ac yL_isRefused (.code yL_isRefused cL_isRefused 16 (some .boolean)) rm_isRefused [.ref (A 0), .ref (A 1), .int (jI x)] G (jj_pi (fun v G' => v = 1 ∧ WP ac A s e m g r G')) jj_nx := by
  refine jj_ofx (own := RL) (lv0 := [some (.ref (A 0)), some (.ref (A 1)), some (.int (jI x)), none, none, none, none, none, none, none, none, none, none, none, none, none]) hl (by decide +kernel) rfl rfl (Nat.le_of_ble_eq_true rfl) rfl ?_
  intro X B hN hl0 hdg hac hin
  subst hl0; subst hdg; subst hac
  have F := B.F
  obtain ⟨hM0, hM1, hM2, hM3, hM4, hM5⟩ := id hM
  have b1 := hI.1.2.1
  have b2 := hI.2.2.1.1
  have b3 := hI.2.2.2.2.1.1
  have b6 := hI.2.2.2.2.2.1.2.2.1
  have b6a := hI.2.2.2.2.2.1.1
  refine jj_iload2 F dL_isRefused_0 ?_
  refine jj_iconst F dL_isRefused_1 ?_
  refine jj_irem F (by omega) dL_isRefused_2 ?_
  refine jj_if_ne F (tgt := 10) dL_isRefused_3 rfl (by omega) (fun c3 => by exfalso; omega) (fun c3 => ?_)
  refine jj_iconst F dL_isRefused_6 ?_
  refine jj_goto F (tgt := 11) dL_isRefused_7 rfl ?_
  refine jj_istore3 F dL_isRefused_11 (hN _ (by decide)) rfl ?_
  refine jj_iload3 F dL_isRefused_12 ?_
  refine jj_if_eq F (tgt := 26) dL_isRefused_13 rfl (by omega) (fun c13 => by exfalso; omega) (fun c13 => ?_)
  refine jj_bipush F (by decide) dL_isRefused_16 ?_
  refine jj_iload2 F dL_isRefused_18 ?_
  refine jj_bipush F (by decide) dL_isRefused_19 ?_
  refine jj_irem F (by omega) dL_isRefused_21 ?_
  refine jj_isub F dL_isRefused_22 ?_
  refine jj_goto F (tgt := 34) dL_isRefused_23 rfl ?_
  refine jj_namei (fun vT hz => ?_)
  have hvT : (vT < -1 ∨ s 1 0 ≤ vT) ∧ jR vT := by omega
  clear hz
  refine jj_istore4 F dL_isRefused_34 (hN _ (by decide)) rfl ?_
  refine jj_iload3 F dL_isRefused_36 ?_
  refine jj_if_eq F (tgt := 49) dL_isRefused_37 rfl (by omega) (fun c37 => by exfalso; omega) (fun c37 => ?_)
  refine jj_iconst F dL_isRefused_40 ?_
  refine jj_iload2 F dL_isRefused_41 ?_
  refine jj_bipush F (by decide) dL_isRefused_42 ?_
  refine jj_irem F (by omega) dL_isRefused_44 ?_
  refine jj_isub F dL_isRefused_45 ?_
  refine jj_goto F (tgt := 57) dL_isRefused_46 rfl ?_
  refine jj_namei (fun vU hz => ?_)
  have hvU : (vU < 0 ∨ s 13 0 ≤ vU) ∧ jR vU := by omega
  clear hz
  refine jj_istore5 F dL_isRefused_57 (hN _ (by decide)) rfl ?_
  refine jj_iload3 F dL_isRefused_59 ?_
  refine jj_if_eq F (tgt := 72) dL_isRefused_60 rfl (by omega) (fun c60 => by exfalso; omega) (fun c60 => ?_)
  refine jj_iconst F dL_isRefused_63 ?_
  refine jj_iload2 F dL_isRefused_64 ?_
  refine jj_bipush F (by decide) dL_isRefused_65 ?_
  refine jj_irem F (by omega) dL_isRefused_67 ?_
  refine jj_isub F dL_isRefused_68 ?_
  refine jj_goto F (tgt := 80) dL_isRefused_69 rfl ?_
  refine jj_namei (fun vV hz => ?_)
  have hvV : (vV < 0 ∨ s 22 0 ≤ vV) ∧ jR vV := by omega
  clear hz
  refine jj_istore6 F dL_isRefused_80 (hN _ (by decide)) rfl ?_
  refine jj_iload3 F dL_isRefused_82 ?_
  refine jj_if_eq F (tgt := 95) dL_isRefused_83 rfl (by omega) (fun c83 => by exfalso; omega) (fun c83 => ?_)
  refine jj_iconst F dL_isRefused_86 ?_
  refine jj_iload2 F dL_isRefused_87 ?_
  refine jj_bipush F (by decide) dL_isRefused_88 ?_
  refine jj_irem F (by omega) dL_isRefused_90 ?_
  refine jj_isub F dL_isRefused_91 ?_
  refine jj_goto F (tgt := 102) dL_isRefused_92 rfl ?_
  refine jj_namei (fun v6 hz => ?_)
  have hv6 : (v6 < 0 ∨ 6 ≤ v6) ∧ jR v6 := by omega
  clear hz
  refine jj_istore7 F dL_isRefused_102 (hN _ (by decide)) rfl ?_
  refine jj_iload3 F dL_isRefused_104 ?_
  refine jj_if_eq F (tgt := 117) dL_isRefused_105 rfl (by omega) (fun c105 => by exfalso; omega) (fun c105 => ?_)
  refine jj_iconst F dL_isRefused_108 ?_
  refine jj_iload2 F dL_isRefused_109 ?_
  refine jj_bipush F (by decide) dL_isRefused_110 ?_
  refine jj_irem F (by omega) dL_isRefused_112 ?_
  refine jj_isub F dL_isRefused_113 ?_
  refine jj_goto F (tgt := 123) dL_isRefused_114 rfl ?_
  refine jj_namei (fun v4 hz => ?_)
  have hv4 : (v4 < 0 ∨ 4 ≤ v4) ∧ jR v4 := by omega
  clear hz
  refine jj_istore8 F dL_isRefused_123 (hN _ (by decide)) rfl ?_
  refine jj_iload3 F dL_isRefused_125 ?_
  refine jj_if_eq F (tgt := 138) dL_isRefused_126 rfl (by omega) (fun c126 => by exfalso; omega) (fun c126 => ?_)
  refine jj_iconst F dL_isRefused_129 ?_
  refine jj_iload2 F dL_isRefused_130 ?_
  refine jj_bipush F (by decide) dL_isRefused_131 ?_
  refine jj_irem F (by omega) dL_isRefused_133 ?_
  refine jj_isub F dL_isRefused_134 ?_
  refine jj_goto F (tgt := 145) dL_isRefused_135 rfl ?_
  refine jj_namei (fun v8 hz => ?_)
  have hv8 : (v8 < 0 ∨ 8 ≤ v8) ∧ jR v8 := by omega
  clear hz
  refine jj_istore9 F dL_isRefused_145 (hN _ (by decide)) rfl ?_
  refine jj_aload0 F dL_isRefused_147 ?_
  refine jj_aload1 F dL_isRefused_148 ?_
  refine ll_all F hP hI ⟨hM1, hM2, hM3⟩ (k := 1100) (n0 := 6500) ⟨Nat.le_of_ble_eq_true rfl, Nat.le_of_ble_eq_true rfl, Nat.le_of_ble_eq_true rfl, Nat.le_of_ble_eq_true rfl, Nat.le_of_ble_eq_true rfl, Nat.le_of_ble_eq_true rfl, Nat.le_of_ble_eq_true rfl⟩ dL_isRefused_149 (fun G hP => ?_)
  refine jj_lstore10 F dL_isRefused_152 (hN _ (by decide)) rfl ?_
  refine jj_aload0 F dL_isRefused_154 ?_
  refine jj_iconst F dL_isRefused_155 ?_
  refine jj_iload7 F dL_isRefused_156 ?_
  refine jj_iconst F dL_isRefused_158 ?_
  refine jj_iconst F dL_isRefused_159 ?_
  refine jj_iconst F dL_isRefused_160 ?_
  refine ln_no F (ka_session F.tr hP hI (by omega) (by omega) (by omega)) 1 (by unfold t_session; rw [if_pos (by omega)]) (by decide) (fun h => by rw [h]; rfl) (k := 1112) (n0 := 6630) ⟨Nat.le_of_ble_eq_true rfl, Nat.le_of_ble_eq_true rfl, Nat.le_of_ble_eq_true rfl, Nat.le_of_ble_eq_true rfl, Nat.le_of_ble_eq_true rfl, Nat.le_of_ble_eq_true rfl, Nat.le_of_ble_eq_true rfl⟩ dL_isRefused_161 (fun G hP => ?_)
  refine jj_if_eq F (tgt := 863) dL_isRefused_164 rfl (by omega) (fun c164 => by exfalso; omega) (fun c164 => ?_)
  refine jj_aload0 F dL_isRefused_167 ?_
  refine jj_iconst F dL_isRefused_168 ?_
  refine jj_iconst F dL_isRefused_169 ?_
  refine jj_iconst F dL_isRefused_170 ?_
  refine jj_iload8 F dL_isRefused_171 ?_
  refine jj_iconst F dL_isRefused_173 ?_
  refine ln_no F (ka_session F.tr hP hI (by omega) (by omega) (by omega)) 1 (by unfold t_session; rw [if_pos (by omega)]) (by decide) (fun h => by rw [h]; rfl) (k := 1124) (n0 := 6760) ⟨Nat.le_of_ble_eq_true rfl, Nat.le_of_ble_eq_true rfl, Nat.le_of_ble_eq_true rfl, Nat.le_of_ble_eq_true rfl, Nat.le_of_ble_eq_true rfl, Nat.le_of_ble_eq_true rfl, Nat.le_of_ble_eq_true rfl⟩ dL_isRefused_174 (fun G hP => ?_)
  refine jj_if_eq F (tgt := 863) dL_isRefused_177 rfl (by omega) (fun c177 => by exfalso; omega) (fun c177 => ?_)
  refine jj_aload0 F dL_isRefused_180 ?_
  refine jj_iconst F dL_isRefused_181 ?_
  refine jj_iload2 F dL_isRefused_182 ?_
  refine jj_bipush F (by decide) dL_isRefused_183 ?_
  refine jj_irem F (by omega) dL_isRefused_185 ?_
  refine jj_iload3 F dL_isRefused_186 ?_
  refine jj_if_eq F (tgt := 199) dL_isRefused_187 rfl (by omega) (fun c187 => by exfalso; omega) (fun c187 => ?_)
  refine jj_iconst F dL_isRefused_190 ?_
  refine jj_iload2 F dL_isRefused_191 ?_
  refine jj_bipush F (by decide) dL_isRefused_192 ?_
  refine jj_irem F (by omega) dL_isRefused_194 ?_
  refine jj_isub F dL_isRefused_195 ?_
  refine jj_goto F (tgt := 202) dL_isRefused_196 rfl ?_
  refine jj_iload2 F dL_isRefused_202 ?_
  refine jj_iconst F dL_isRefused_203 ?_
  refine jj_irem F (by omega) dL_isRefused_204 ?_
  refine jj_iconst F dL_isRefused_205 ?_
  refine ln_off F (ka_session F.tr hP hI (by omega) (by omega) (by omega)) 2 (by unfold t_session; rw [if_neg (by omega), if_pos (by omega)]) (by decide) (fun h => by rw [h]; rfl) (k := 1136) (n0 := 6890) ⟨Nat.le_of_ble_eq_true rfl, Nat.le_of_ble_eq_true rfl, Nat.le_of_ble_eq_true rfl, Nat.le_of_ble_eq_true rfl, Nat.le_of_ble_eq_true rfl, Nat.le_of_ble_eq_true rfl, Nat.le_of_ble_eq_true rfl⟩ dL_isRefused_206 (fun G hP => ?_)
  refine jj_if_eq F (tgt := 863) dL_isRefused_209 rfl (by omega) (fun c209 => by exfalso; omega) (fun c209 => ?_)
  refine jj_aload0 F dL_isRefused_212 ?_
  refine jj_iconst F dL_isRefused_213 ?_
  refine jj_iload4 F dL_isRefused_214 ?_
  refine jj_bipush F (by decide) dL_isRefused_216 ?_
  refine jj_iconst F dL_isRefused_218 ?_
  refine jj_iconst F dL_isRefused_219 ?_
  refine ln_no F (ka_splice F.tr hP hI (by omega) (by omega) (by omega) (by omega) (by omega)) 1 (by unfold t_splice; rw [if_pos (fun hz => by obtain ⟨w1, w2, w3⟩ := hz; omega)]) (by decide) (fun h => by rw [h]; rfl) (k := 1148) (n0 := 7020) ⟨Nat.le_of_ble_eq_true rfl, Nat.le_of_ble_eq_true rfl, Nat.le_of_ble_eq_true rfl, Nat.le_of_ble_eq_true rfl, Nat.le_of_ble_eq_true rfl, Nat.le_of_ble_eq_true rfl, Nat.le_of_ble_eq_true rfl⟩ dL_isRefused_220 (fun G hP => ?_)
  refine jj_if_eq F (tgt := 863) dL_isRefused_223 rfl (by omega) (fun c223 => by exfalso; omega) (fun c223 => ?_)
  refine jj_aload0 F dL_isRefused_226 ?_
  refine jj_iconst F dL_isRefused_227 ?_
  refine jj_iload4 F dL_isRefused_228 ?_
  refine jj_iconst F dL_isRefused_230 ?_
  refine jj_iconst F dL_isRefused_231 ?_
  refine jj_iconst F dL_isRefused_232 ?_
  refine ln_no F (ka_shed F.tr hP hI (by omega)) 1 (by unfold t_tape; rw [if_pos (by omega)]) (by decide) (fun h => by rw [h]; rfl) (k := 1160) (n0 := 7150) ⟨Nat.le_of_ble_eq_true rfl, Nat.le_of_ble_eq_true rfl, Nat.le_of_ble_eq_true rfl, Nat.le_of_ble_eq_true rfl, Nat.le_of_ble_eq_true rfl, Nat.le_of_ble_eq_true rfl, Nat.le_of_ble_eq_true rfl⟩ dL_isRefused_233 (fun G hP => ?_)
  refine jj_if_eq F (tgt := 863) dL_isRefused_236 rfl (by omega) (fun c236 => by exfalso; omega) (fun c236 => ?_)
  refine jj_aload0 F dL_isRefused_239 ?_
  refine jj_iconst F dL_isRefused_240 ?_
  refine jj_iload4 F dL_isRefused_241 ?_
  refine jj_iconst F dL_isRefused_243 ?_
  refine jj_iconst F dL_isRefused_244 ?_
  refine jj_iconst F dL_isRefused_245 ?_
  refine ln_no F (ka_bake F.tr hP hI (by omega)) 1 (by unfold t_tape; rw [if_pos (by omega)]) (by decide) (fun h => by rw [h]; rfl) (k := 1172) (n0 := 7280) ⟨Nat.le_of_ble_eq_true rfl, Nat.le_of_ble_eq_true rfl, Nat.le_of_ble_eq_true rfl, Nat.le_of_ble_eq_true rfl, Nat.le_of_ble_eq_true rfl, Nat.le_of_ble_eq_true rfl, Nat.le_of_ble_eq_true rfl⟩ dL_isRefused_246 (fun G hP => ?_)
  refine jj_if_eq F (tgt := 863) dL_isRefused_249 rfl (by omega) (fun c249 => by exfalso; omega) (fun c249 => ?_)
  refine jj_aload0 F dL_isRefused_252 ?_
  refine jj_iconst F dL_isRefused_253 ?_
  refine jj_iload8 F dL_isRefused_254 ?_
  refine jj_iconst F dL_isRefused_256 ?_
  refine jj_iconst F dL_isRefused_257 ?_
  refine jj_iconst F dL_isRefused_258 ?_
  refine ln_no F (ka_fire F.tr hP hI (by omega)) 1 (by unfold t_vault; rw [if_neg (by omega)]) (by decide) (fun h => by rw [h]; rfl) (k := 1184) (n0 := 7410) ⟨Nat.le_of_ble_eq_true rfl, Nat.le_of_ble_eq_true rfl, Nat.le_of_ble_eq_true rfl, Nat.le_of_ble_eq_true rfl, Nat.le_of_ble_eq_true rfl, Nat.le_of_ble_eq_true rfl, Nat.le_of_ble_eq_true rfl⟩ dL_isRefused_259 (fun G hP => ?_)
  refine jj_if_eq F (tgt := 863) dL_isRefused_262 rfl (by omega) (fun c262 => by exfalso; omega) (fun c262 => ?_)
  refine jj_aload0 F dL_isRefused_265 ?_
  refine jj_iconst F dL_isRefused_266 ?_
  refine jj_iload4 F dL_isRefused_267 ?_
  refine jj_bipush F (by decide) dL_isRefused_269 ?_
  refine jj_iconst F dL_isRefused_271 ?_
  refine jj_iconst F dL_isRefused_272 ?_
  refine ln_no F (ka_tapeIs F.tr hP hI (by omega) (by omega)) 1 (by unfold t_tapeIs; rw [if_pos (by omega)]) (by decide) (fun h => by rw [h]; rfl) (k := 1196) (n0 := 7540) ⟨Nat.le_of_ble_eq_true rfl, Nat.le_of_ble_eq_true rfl, Nat.le_of_ble_eq_true rfl, Nat.le_of_ble_eq_true rfl, Nat.le_of_ble_eq_true rfl, Nat.le_of_ble_eq_true rfl, Nat.le_of_ble_eq_true rfl⟩ dL_isRefused_273 (fun G hP => ?_)
  refine jj_if_eq F (tgt := 863) dL_isRefused_276 rfl (by omega) (fun c276 => by exfalso; omega) (fun c276 => ?_)
  refine jj_aload0 F dL_isRefused_279 ?_
  refine jj_bipush F (by decide) dL_isRefused_280 ?_
  refine jj_iload4 F dL_isRefused_282 ?_
  refine jj_iconst F dL_isRefused_284 ?_
  refine jj_iconst F dL_isRefused_285 ?_
  refine jj_iconst F dL_isRefused_286 ?_
  refine ln_no F (ka_heard F.tr hP hI (by omega) (by omega)) 1 (by unfold t_heard; rw [if_pos (by omega)]) (by decide) (fun h => by rw [h]; rfl) (k := 1208) (n0 := 7670) ⟨Nat.le_of_ble_eq_true rfl, Nat.le_of_ble_eq_true rfl, Nat.le_of_ble_eq_true rfl, Nat.le_of_ble_eq_true rfl, Nat.le_of_ble_eq_true rfl, Nat.le_of_ble_eq_true rfl, Nat.le_of_ble_eq_true rfl⟩ dL_isRefused_287 (fun G hP => ?_)
  refine jj_if_eq F (tgt := 863) dL_isRefused_290 rfl (by omega) (fun c290 => by exfalso; omega) (fun c290 => ?_)
  refine jj_aload0 F dL_isRefused_293 ?_
  refine jj_bipush F (by decide) dL_isRefused_294 ?_
  refine jj_iload4 F dL_isRefused_296 ?_
  refine jj_iconst F dL_isRefused_298 ?_
  refine jj_iconst F dL_isRefused_299 ?_
  refine jj_iconst F dL_isRefused_300 ?_
  refine ln_no F (ka_takes F.tr hP hI (by omega)) 1 (by unfold t_is; rw [if_neg (by omega)]) (by decide) (fun h => by rw [h]; rfl) (k := 1220) (n0 := 7800) ⟨Nat.le_of_ble_eq_true rfl, Nat.le_of_ble_eq_true rfl, Nat.le_of_ble_eq_true rfl, Nat.le_of_ble_eq_true rfl, Nat.le_of_ble_eq_true rfl, Nat.le_of_ble_eq_true rfl, Nat.le_of_ble_eq_true rfl⟩ dL_isRefused_301 (fun G hP => ?_)
  refine jj_if_eq F (tgt := 863) dL_isRefused_304 rfl (by omega) (fun c304 => by exfalso; omega) (fun c304 => ?_)
  refine jj_aload0 F dL_isRefused_307 ?_
  refine jj_bipush F (by decide) dL_isRefused_308 ?_
  refine jj_iload4 F dL_isRefused_310 ?_
  refine jj_iconst F dL_isRefused_312 ?_
  refine jj_iconst F dL_isRefused_313 ?_
  refine jj_iconst F dL_isRefused_314 ?_
  refine ln_no F (ka_takesAnew F.tr hP hI (by omega)) 1 (by unfold t_is; rw [if_neg (by omega)]) (by decide) (fun h => by rw [h]; rfl) (k := 1232) (n0 := 7930) ⟨Nat.le_of_ble_eq_true rfl, Nat.le_of_ble_eq_true rfl, Nat.le_of_ble_eq_true rfl, Nat.le_of_ble_eq_true rfl, Nat.le_of_ble_eq_true rfl, Nat.le_of_ble_eq_true rfl, Nat.le_of_ble_eq_true rfl⟩ dL_isRefused_315 (fun G hP => ?_)
  refine jj_if_eq F (tgt := 863) dL_isRefused_318 rfl (by omega) (fun c318 => by exfalso; omega) (fun c318 => ?_)
  refine jj_aload0 F dL_isRefused_321 ?_
  refine jj_bipush F (by decide) dL_isRefused_322 ?_
  refine jj_iload4 F dL_isRefused_324 ?_
  refine jj_iconst F dL_isRefused_326 ?_
  refine jj_iconst F dL_isRefused_327 ?_
  refine jj_iconst F dL_isRefused_328 ?_
  refine ln_no F (ka_isLost F.tr hP hI (by omega)) 1 (by unfold t_isLost; rw [if_neg (by omega)]) (by decide) (fun h => by rw [h]; rfl) (k := 1244) (n0 := 8060) ⟨Nat.le_of_ble_eq_true rfl, Nat.le_of_ble_eq_true rfl, Nat.le_of_ble_eq_true rfl, Nat.le_of_ble_eq_true rfl, Nat.le_of_ble_eq_true rfl, Nat.le_of_ble_eq_true rfl, Nat.le_of_ble_eq_true rfl⟩ dL_isRefused_329 (fun G hP => ?_)
  refine jj_if_eq F (tgt := 863) dL_isRefused_332 rfl (by omega) (fun c332 => by exfalso; omega) (fun c332 => ?_)
  refine jj_aload0 F dL_isRefused_335 ?_
  refine jj_bipush F (by decide) dL_isRefused_336 ?_
  refine jj_iload4 F dL_isRefused_338 ?_
  refine jj_iconst F dL_isRefused_340 ?_
  refine jj_iconst F dL_isRefused_341 ?_
  refine jj_iconst F dL_isRefused_342 ?_
  refine ln_no F (ka_add F.tr hP hI (by omega)) 1 (by unfold t_add; rw [if_pos (by omega)]) (by decide) (fun h => by rw [h]; rfl) (k := 1256) (n0 := 8190) ⟨Nat.le_of_ble_eq_true rfl, Nat.le_of_ble_eq_true rfl, Nat.le_of_ble_eq_true rfl, Nat.le_of_ble_eq_true rfl, Nat.le_of_ble_eq_true rfl, Nat.le_of_ble_eq_true rfl, Nat.le_of_ble_eq_true rfl⟩ dL_isRefused_343 (fun G hP => ?_)
  refine jj_if_eq F (tgt := 863) dL_isRefused_346 rfl (by omega) (fun c346 => by exfalso; omega) (fun c346 => ?_)
  refine jj_aload0 F dL_isRefused_349 ?_
  refine jj_bipush F (by decide) dL_isRefused_350 ?_
  refine jj_iload3 F dL_isRefused_352 ?_
  refine jj_if_eq F (tgt := 365) dL_isRefused_353 rfl (by omega) (fun c353 => by exfalso; omega) (fun c353 => ?_)
  refine jj_iconst F dL_isRefused_356 ?_
  refine jj_iload2 F dL_isRefused_357 ?_
  refine jj_bipush F (by decide) dL_isRefused_358 ?_
  refine jj_irem F (by omega) dL_isRefused_360 ?_
  refine jj_isub F dL_isRefused_361 ?_
  refine jj_goto F (tgt := 367) dL_isRefused_362 rfl ?_
  refine jj_iconst F dL_isRefused_367 ?_
  refine jj_iconst F dL_isRefused_368 ?_
  refine jj_iconst F dL_isRefused_369 ?_
  refine ln_off F (ka_cut F.tr hP hI (by omega)) 1 (by unfold t_cut; rw [if_pos (by omega)]) (by decide) (fun h => by rw [h]; rfl) (k := 1268) (n0 := 8320) ⟨Nat.le_of_ble_eq_true rfl, Nat.le_of_ble_eq_true rfl, Nat.le_of_ble_eq_true rfl, Nat.le_of_ble_eq_true rfl, Nat.le_of_ble_eq_true rfl, Nat.le_of_ble_eq_true rfl, Nat.le_of_ble_eq_true rfl⟩ dL_isRefused_370 (fun G hP => ?_)
  refine jj_if_eq F (tgt := 863) dL_isRefused_373 rfl (by omega) (fun c373 => by exfalso; omega) (fun c373 => ?_)
  refine jj_aload0 F dL_isRefused_376 ?_
  refine jj_bipush F (by decide) dL_isRefused_377 ?_
  refine jj_iload5 F dL_isRefused_379 ?_
  refine jj_iconst F dL_isRefused_381 ?_
  refine jj_iconst F dL_isRefused_382 ?_
  refine jj_iconst F dL_isRefused_383 ?_
  refine ln_no F (ka_seconds F.tr hP hI (by omega) (by omega)) 1 (by unfold t_seconds; rw [if_neg (by omega)]) (by decide) (fun h => by rw [h]; rfl) (k := 1280) (n0 := 8450) ⟨Nat.le_of_ble_eq_true rfl, Nat.le_of_ble_eq_true rfl, Nat.le_of_ble_eq_true rfl, Nat.le_of_ble_eq_true rfl, Nat.le_of_ble_eq_true rfl, Nat.le_of_ble_eq_true rfl, Nat.le_of_ble_eq_true rfl⟩ dL_isRefused_384 (fun G hP => ?_)
  refine jj_if_eq F (tgt := 863) dL_isRefused_387 rfl (by omega) (fun c387 => by exfalso; omega) (fun c387 => ?_)
  refine jj_aload0 F dL_isRefused_390 ?_
  refine jj_bipush F (by decide) dL_isRefused_391 ?_
  refine jj_iload5 F dL_isRefused_393 ?_
  refine jj_iconst F dL_isRefused_395 ?_
  refine jj_iconst F dL_isRefused_396 ?_
  refine jj_iconst F dL_isRefused_397 ?_
  refine ln_no F (ka_stamper F.tr hP hI (by omega) (by omega) (by omega)) 1 (by unfold t_stamper; rw [if_pos (fun hz => by obtain ⟨w1, w2, w3⟩ := hz; omega)]) (by decide) (fun h => by rw [h]; rfl) (k := 1292) (n0 := 8580) ⟨Nat.le_of_ble_eq_true rfl, Nat.le_of_ble_eq_true rfl, Nat.le_of_ble_eq_true rfl, Nat.le_of_ble_eq_true rfl, Nat.le_of_ble_eq_true rfl, Nat.le_of_ble_eq_true rfl, Nat.le_of_ble_eq_true rfl⟩ dL_isRefused_398 (fun G hP => ?_)
  refine jj_if_eq F (tgt := 863) dL_isRefused_401 rfl (by omega) (fun c401 => by exfalso; omega) (fun c401 => ?_)
  refine jj_aload0 F dL_isRefused_404 ?_
  refine jj_bipush F (by decide) dL_isRefused_405 ?_
  refine jj_iload5 F dL_isRefused_407 ?_
  refine jj_iconst F dL_isRefused_409 ?_
  refine jj_iconst F dL_isRefused_410 ?_
  refine jj_iconst F dL_isRefused_411 ?_
  refine ln_no F (ka_press F.tr hP hI (by omega) (by omega) (by omega) (by omega)) 1 (by unfold t_press; rw [if_pos (fun hz => by obtain ⟨w1, w2, w3⟩ := hz; omega)]) (by decide) (fun h => by rw [h]; rfl) (k := 1304) (n0 := 8710) ⟨Nat.le_of_ble_eq_true rfl, Nat.le_of_ble_eq_true rfl, Nat.le_of_ble_eq_true rfl, Nat.le_of_ble_eq_true rfl, Nat.le_of_ble_eq_true rfl, Nat.le_of_ble_eq_true rfl, Nat.le_of_ble_eq_true rfl⟩ dL_isRefused_412 (fun G hP => ?_)
  refine jj_if_eq F (tgt := 863) dL_isRefused_415 rfl (by omega) (fun c415 => by exfalso; omega) (fun c415 => ?_)
  refine jj_aload0 F dL_isRefused_418 ?_
  refine jj_bipush F (by decide) dL_isRefused_419 ?_
  refine jj_iload5 F dL_isRefused_421 ?_
  refine jj_iconst F dL_isRefused_423 ?_
  refine jj_iconst F dL_isRefused_424 ?_
  refine jj_bipush F (by decide) dL_isRefused_425 ?_
  refine ln_no F (ka_stamperIs F.tr hP hI (by omega) (by omega) (by omega) (by omega)) 1 (by unfold t_stamperIs; rw [if_pos (fun hz => by obtain ⟨w1, w2, w3⟩ := hz; omega)]) (by decide) (fun h => by rw [h]; rfl) (k := 1316) (n0 := 8840) ⟨Nat.le_of_ble_eq_true rfl, Nat.le_of_ble_eq_true rfl, Nat.le_of_ble_eq_true rfl, Nat.le_of_ble_eq_true rfl, Nat.le_of_ble_eq_true rfl, Nat.le_of_ble_eq_true rfl, Nat.le_of_ble_eq_true rfl⟩ dL_isRefused_427 (fun G hP => ?_)
  refine jj_if_eq F (tgt := 863) dL_isRefused_430 rfl (by omega) (fun c430 => by exfalso; omega) (fun c430 => ?_)
  refine jj_aload0 F dL_isRefused_433 ?_
  refine jj_bipush F (by decide) dL_isRefused_434 ?_
  refine jj_iload5 F dL_isRefused_436 ?_
  refine jj_iconst F dL_isRefused_438 ?_
  refine jj_iconst F dL_isRefused_439 ?_
  refine jj_iconst F dL_isRefused_440 ?_
  refine ln_no F (ka_sell F.tr hP hI (by omega) (by omega) (by omega) (by omega)) 1 (by unfold t_sell; rw [if_pos (fun hz => by obtain ⟨w1, w2, w3⟩ := hz; omega)]) (by decide) (fun h => by rw [h]; rfl) (k := 1328) (n0 := 8970) ⟨Nat.le_of_ble_eq_true rfl, Nat.le_of_ble_eq_true rfl, Nat.le_of_ble_eq_true rfl, Nat.le_of_ble_eq_true rfl, Nat.le_of_ble_eq_true rfl, Nat.le_of_ble_eq_true rfl, Nat.le_of_ble_eq_true rfl⟩ dL_isRefused_441 (fun G hP => ?_)
  refine jj_if_eq F (tgt := 863) dL_isRefused_444 rfl (by omega) (fun c444 => by exfalso; omega) (fun c444 => ?_)
  refine jj_aload0 F dL_isRefused_447 ?_
  refine jj_bipush F (by decide) dL_isRefused_448 ?_
  refine jj_iload5 F dL_isRefused_450 ?_
  refine jj_iconst F dL_isRefused_452 ?_
  refine jj_iconst F dL_isRefused_453 ?_
  refine jj_iconst F dL_isRefused_454 ?_
  refine ln_no F (ka_back F.tr hP hI (by omega) (by omega) (by omega) (by omega) hj) 1 (by unfold t_back; rw [if_pos (fun hz => by obtain ⟨w1, w2, w3⟩ := hz; omega)]) (by decide) (fun h => by rw [h]; rfl) (k := 1340) (n0 := 9100) ⟨Nat.le_of_ble_eq_true rfl, Nat.le_of_ble_eq_true rfl, Nat.le_of_ble_eq_true rfl, Nat.le_of_ble_eq_true rfl, Nat.le_of_ble_eq_true rfl, Nat.le_of_ble_eq_true rfl, Nat.le_of_ble_eq_true rfl⟩ dL_isRefused_455 (fun G hP => ?_)
  refine jj_if_eq F (tgt := 863) dL_isRefused_458 rfl (by omega) (fun c458 => by exfalso; omega) (fun c458 => ?_)
  refine jj_aload0 F dL_isRefused_461 ?_
  refine jj_bipush F (by decide) dL_isRefused_462 ?_
  refine jj_iload5 F dL_isRefused_464 ?_
  refine jj_iconst F dL_isRefused_466 ?_
  refine jj_iconst F dL_isRefused_467 ?_
  refine jj_iconst F dL_isRefused_468 ?_
  refine ln_no F (ka_disc F.tr hP hI (by omega) (by omega) (by omega)) 1 (by unfold t_disc; rw [if_pos (fun hz => by obtain ⟨w1, w2, w3⟩ := hz; omega)]) (by decide) (fun h => by rw [h]; rfl) (k := 1352) (n0 := 9230) ⟨Nat.le_of_ble_eq_true rfl, Nat.le_of_ble_eq_true rfl, Nat.le_of_ble_eq_true rfl, Nat.le_of_ble_eq_true rfl, Nat.le_of_ble_eq_true rfl, Nat.le_of_ble_eq_true rfl, Nat.le_of_ble_eq_true rfl⟩ dL_isRefused_469 (fun G hP => ?_)
  refine jj_if_eq F (tgt := 863) dL_isRefused_472 rfl (by omega) (fun c472 => by exfalso; omega) (fun c472 => ?_)
  refine jj_aload0 F dL_isRefused_475 ?_
  refine jj_bipush F (by decide) dL_isRefused_476 ?_
  refine jj_iload6 F dL_isRefused_478 ?_
  refine jj_bipush F (by decide) dL_isRefused_480 ?_
  refine jj_bipush F (by decide) dL_isRefused_482 ?_
  refine jj_iconst F dL_isRefused_484 ?_
  refine ln_no F (ka_play F.tr hP hI (by omega) (by omega) (by omega)) 1 (by unfold t_play; rw [if_pos (by omega)]) (by decide) (fun h => by rw [h]; rfl) (k := 1364) (n0 := 9360) ⟨Nat.le_of_ble_eq_true rfl, Nat.le_of_ble_eq_true rfl, Nat.le_of_ble_eq_true rfl, Nat.le_of_ble_eq_true rfl, Nat.le_of_ble_eq_true rfl, Nat.le_of_ble_eq_true rfl, Nat.le_of_ble_eq_true rfl⟩ dL_isRefused_485 (fun G hP => ?_)
  refine jj_if_eq F (tgt := 863) dL_isRefused_488 rfl (by omega) (fun c488 => by exfalso; omega) (fun c488 => ?_)
  refine jj_aload0 F dL_isRefused_491 ?_
  refine jj_bipush F (by decide) dL_isRefused_492 ?_
  refine jj_iload6 F dL_isRefused_494 ?_
  refine jj_iconst F dL_isRefused_496 ?_
  refine jj_iconst F dL_isRefused_497 ?_
  refine jj_iconst F dL_isRefused_498 ?_
  refine ln_no F (ka_scratch F.tr hP hI (by omega) (by omega)) 1 (by unfold t_scr; rw [if_neg (by omega)]) (by decide) (fun h => by rw [h]; rfl) (k := 1376) (n0 := 9490) ⟨Nat.le_of_ble_eq_true rfl, Nat.le_of_ble_eq_true rfl, Nat.le_of_ble_eq_true rfl, Nat.le_of_ble_eq_true rfl, Nat.le_of_ble_eq_true rfl, Nat.le_of_ble_eq_true rfl, Nat.le_of_ble_eq_true rfl⟩ dL_isRefused_499 (fun G hP => ?_)
  refine jj_if_eq F (tgt := 863) dL_isRefused_502 rfl (by omega) (fun c502 => by exfalso; omega) (fun c502 => ?_)
  refine jj_aload0 F dL_isRefused_505 ?_
  refine jj_bipush F (by decide) dL_isRefused_506 ?_
  refine jj_iload6 F dL_isRefused_508 ?_
  refine jj_iconst F dL_isRefused_510 ?_
  refine jj_iconst F dL_isRefused_511 ?_
  refine jj_iconst F dL_isRefused_512 ?_
  refine ln_no F (ka_noise F.tr hP hI (by omega) (by omega)) 1 (by unfold t_scr; rw [if_neg (by omega)]) (by decide) (fun h => by rw [h]; rfl) (k := 1388) (n0 := 9620) ⟨Nat.le_of_ble_eq_true rfl, Nat.le_of_ble_eq_true rfl, Nat.le_of_ble_eq_true rfl, Nat.le_of_ble_eq_true rfl, Nat.le_of_ble_eq_true rfl, Nat.le_of_ble_eq_true rfl, Nat.le_of_ble_eq_true rfl⟩ dL_isRefused_513 (fun G hP => ?_)
  refine jj_if_eq F (tgt := 863) dL_isRefused_516 rfl (by omega) (fun c516 => by exfalso; omega) (fun c516 => ?_)
  refine jj_aload0 F dL_isRefused_519 ?_
  refine jj_bipush F (by decide) dL_isRefused_520 ?_
  refine jj_iload6 F dL_isRefused_522 ?_
  refine jj_iconst F dL_isRefused_524 ?_
  refine jj_iconst F dL_isRefused_525 ?_
  refine jj_iconst F dL_isRefused_526 ?_
  refine ln_no F (ka_grade F.tr hP hI (by omega)) 1 (by unfold t_grade; rw [if_neg (by omega)]) (by decide) (fun h => by rw [h]; rfl) (k := 1400) (n0 := 9750) ⟨Nat.le_of_ble_eq_true rfl, Nat.le_of_ble_eq_true rfl, Nat.le_of_ble_eq_true rfl, Nat.le_of_ble_eq_true rfl, Nat.le_of_ble_eq_true rfl, Nat.le_of_ble_eq_true rfl, Nat.le_of_ble_eq_true rfl⟩ dL_isRefused_527 (fun G hP => ?_)
  refine jj_if_eq F (tgt := 863) dL_isRefused_530 rfl (by omega) (fun c530 => by exfalso; omega) (fun c530 => ?_)
  refine jj_aload0 F dL_isRefused_533 ?_
  refine jj_bipush F (by decide) dL_isRefused_534 ?_
  refine jj_iconst F dL_isRefused_536 ?_
  refine jj_iload9 F dL_isRefused_537 ?_
  refine jj_iconst F dL_isRefused_539 ?_
  refine jj_iconst F dL_isRefused_540 ?_
  refine ln_no F (ka_join F.tr hP hI (by omega) (by omega)) 1 (by unfold t_join; rw [if_pos (by omega)]) (by decide) (fun h => by rw [h]; rfl) (k := 1412) (n0 := 9880) ⟨Nat.le_of_ble_eq_true rfl, Nat.le_of_ble_eq_true rfl, Nat.le_of_ble_eq_true rfl, Nat.le_of_ble_eq_true rfl, Nat.le_of_ble_eq_true rfl, Nat.le_of_ble_eq_true rfl, Nat.le_of_ble_eq_true rfl⟩ dL_isRefused_541 (fun G hP => ?_)
  refine jj_if_eq F (tgt := 863) dL_isRefused_544 rfl (by omega) (fun c544 => by exfalso; omega) (fun c544 => ?_)
  refine jj_aload0 F dL_isRefused_547 ?_
  refine jj_bipush F (by decide) dL_isRefused_548 ?_
  refine jj_iload3 F dL_isRefused_550 ?_
  refine jj_if_eq F (tgt := 558) dL_isRefused_551 rfl (by omega) (fun c551 => by exfalso; omega) (fun c551 => ?_)
  refine jj_iconst F dL_isRefused_554 ?_
  refine jj_goto F (tgt := 568) dL_isRefused_555 rfl ?_
  refine jj_iload2 F dL_isRefused_568 ?_
  refine jj_bipush F (by decide) dL_isRefused_569 ?_
  refine jj_irem F (by omega) dL_isRefused_571 ?_
  refine jj_iconst F dL_isRefused_572 ?_
  refine jj_iconst F dL_isRefused_573 ?_
  have hare : sAre s 0 = 0 := sAre_zero
  refine ln_off F (ka_join F.tr hP hI (by omega) (by omega)) 2 (by unfold t_join; rw [if_neg (by omega), if_pos hare]) (by decide) (fun h => by rw [h]; rfl) (k := 1424) (n0 := 10010) ⟨Nat.le_of_ble_eq_true rfl, Nat.le_of_ble_eq_true rfl, Nat.le_of_ble_eq_true rfl, Nat.le_of_ble_eq_true rfl, Nat.le_of_ble_eq_true rfl, Nat.le_of_ble_eq_true rfl, Nat.le_of_ble_eq_true rfl⟩ dL_isRefused_574 (fun G hP => ?_)
  refine jj_if_eq F (tgt := 863) dL_isRefused_577 rfl (by omega) (fun c577 => by exfalso; omega) (fun c577 => ?_)
  refine jj_aload0 F dL_isRefused_580 ?_
  refine jj_bipush F (by decide) dL_isRefused_581 ?_
  refine jj_iload3 F dL_isRefused_583 ?_
  refine jj_if_eq F (tgt := 591) dL_isRefused_584 rfl (by omega) (fun c584 => by exfalso; omega) (fun c584 => ?_)
  refine jj_iconst F dL_isRefused_587 ?_
  refine jj_goto F (tgt := 601) dL_isRefused_588 rfl ?_
  refine jj_iconst F dL_isRefused_601 ?_
  refine jj_iconst F dL_isRefused_602 ?_
  refine jj_iconst F dL_isRefused_603 ?_
  have hare : sAre s 0 = 0 := sAre_zero
  refine ln_off F (ka_file F.tr hP hI (by omega)) 1 (by unfold t_file; rw [if_pos hare]) (by decide) (fun h => by rw [h]; rfl) (k := 1436) (n0 := 10140) ⟨Nat.le_of_ble_eq_true rfl, Nat.le_of_ble_eq_true rfl, Nat.le_of_ble_eq_true rfl, Nat.le_of_ble_eq_true rfl, Nat.le_of_ble_eq_true rfl, Nat.le_of_ble_eq_true rfl, Nat.le_of_ble_eq_true rfl⟩ dL_isRefused_604 (fun G hP => ?_)
  refine jj_if_eq F (tgt := 863) dL_isRefused_607 rfl (by omega) (fun c607 => by exfalso; omega) (fun c607 => ?_)
  refine jj_aload0 F dL_isRefused_610 ?_
  refine jj_bipush F (by decide) dL_isRefused_611 ?_
  refine jj_iload9 F dL_isRefused_613 ?_
  refine jj_iconst F dL_isRefused_615 ?_
  refine jj_iconst F dL_isRefused_616 ?_
  refine jj_iconst F dL_isRefused_617 ?_
  refine ln_no F (ka_repair F.tr hP hI (by omega)) 1 (by unfold t_repair; rw [if_pos (by omega)]) (by decide) (fun h => by rw [h]; rfl) (k := 1448) (n0 := 10270) ⟨Nat.le_of_ble_eq_true rfl, Nat.le_of_ble_eq_true rfl, Nat.le_of_ble_eq_true rfl, Nat.le_of_ble_eq_true rfl, Nat.le_of_ble_eq_true rfl, Nat.le_of_ble_eq_true rfl, Nat.le_of_ble_eq_true rfl⟩ dL_isRefused_618 (fun G hP => ?_)
  refine jj_if_eq F (tgt := 863) dL_isRefused_621 rfl (by omega) (fun c621 => by exfalso; omega) (fun c621 => ?_)
  refine jj_aload0 F dL_isRefused_624 ?_
  refine jj_bipush F (by decide) dL_isRefused_625 ?_
  refine jj_iload9 F dL_isRefused_627 ?_
  refine jj_iconst F dL_isRefused_629 ?_
  refine jj_iconst F dL_isRefused_630 ?_
  refine jj_iconst F dL_isRefused_631 ?_
  refine ln_no F (ka_fileIs F.tr hP hI (by omega)) 1 (by unfold t_part; rw [if_neg (by omega)]) (by decide) (fun h => by rw [h]; rfl) (k := 1460) (n0 := 10400) ⟨Nat.le_of_ble_eq_true rfl, Nat.le_of_ble_eq_true rfl, Nat.le_of_ble_eq_true rfl, Nat.le_of_ble_eq_true rfl, Nat.le_of_ble_eq_true rfl, Nat.le_of_ble_eq_true rfl, Nat.le_of_ble_eq_true rfl⟩ dL_isRefused_632 (fun G hP => ?_)
  refine jj_if_eq F (tgt := 863) dL_isRefused_635 rfl (by omega) (fun c635 => by exfalso; omega) (fun c635 => ?_)
  refine jj_aload0 F dL_isRefused_638 ?_
  refine jj_bipush F (by decide) dL_isRefused_639 ?_
  refine jj_iload7 F dL_isRefused_641 ?_
  refine jj_iconst F dL_isRefused_643 ?_
  refine jj_iconst F dL_isRefused_644 ?_
  refine jj_iconst F dL_isRefused_645 ?_
  refine ln_no F (ka_contract F.tr hP hI (by omega) (by omega) (by omega)) 1 (by unfold t_contract; rw [if_pos (by omega)]) (by decide) (fun h => by rw [h]; rfl) (k := 1472) (n0 := 10530) ⟨Nat.le_of_ble_eq_true rfl, Nat.le_of_ble_eq_true rfl, Nat.le_of_ble_eq_true rfl, Nat.le_of_ble_eq_true rfl, Nat.le_of_ble_eq_true rfl, Nat.le_of_ble_eq_true rfl, Nat.le_of_ble_eq_true rfl⟩ dL_isRefused_646 (fun G hP => ?_)
  refine jj_if_eq F (tgt := 863) dL_isRefused_649 rfl (by omega) (fun c649 => by exfalso; omega) (fun c649 => ?_)
  refine jj_aload0 F dL_isRefused_652 ?_
  refine jj_bipush F (by decide) dL_isRefused_653 ?_
  refine jj_iload2 F dL_isRefused_655 ?_
  refine jj_bipush F (by decide) dL_isRefused_656 ?_
  refine jj_irem F (by omega) dL_isRefused_658 ?_
  refine jj_iload3 F dL_isRefused_659 ?_
  refine jj_if_eq F (tgt := 672) dL_isRefused_660 rfl (by omega) (fun c660 => by exfalso; omega) (fun c660 => ?_)
  refine jj_iconst F dL_isRefused_663 ?_
  refine jj_iload2 F dL_isRefused_664 ?_
  refine jj_bipush F (by decide) dL_isRefused_665 ?_
  refine jj_irem F (by omega) dL_isRefused_667 ?_
  refine jj_isub F dL_isRefused_668 ?_
  refine jj_goto F (tgt := 675) dL_isRefused_669 rfl ?_
  refine jj_iconst F dL_isRefused_675 ?_
  refine jj_iconst F dL_isRefused_676 ?_
  refine ln_off F (ka_contract F.tr hP hI (by omega) (by omega) (by omega)) 2 (by unfold t_contract; rw [if_neg (by omega), if_neg (by omega)]) (by decide) (fun h => by rw [h]; rfl) (k := 1484) (n0 := 10660) ⟨Nat.le_of_ble_eq_true rfl, Nat.le_of_ble_eq_true rfl, Nat.le_of_ble_eq_true rfl, Nat.le_of_ble_eq_true rfl, Nat.le_of_ble_eq_true rfl, Nat.le_of_ble_eq_true rfl, Nat.le_of_ble_eq_true rfl⟩ dL_isRefused_677 (fun G hP => ?_)
  refine jj_if_eq F (tgt := 863) dL_isRefused_680 rfl (by omega) (fun c680 => by exfalso; omega) (fun c680 => ?_)
  refine jj_aload0 F dL_isRefused_683 ?_
  refine jj_bipush F (by decide) dL_isRefused_684 ?_
  refine jj_iload2 F dL_isRefused_686 ?_
  refine jj_bipush F (by decide) dL_isRefused_687 ?_
  refine jj_irem F (by omega) dL_isRefused_689 ?_
  refine jj_iconst F dL_isRefused_690 ?_
  refine jj_iload3 F dL_isRefused_691 ?_
  refine jj_if_eq F (tgt := 699) dL_isRefused_692 rfl (by omega) (fun c692 => by exfalso; omega) (fun c692 => ?_)
  refine jj_iconst F dL_isRefused_695 ?_
  refine jj_goto F (tgt := 706) dL_isRefused_696 rfl ?_
  refine jj_iconst F dL_isRefused_706 ?_
  refine ln_off F (ka_contract F.tr hP hI (by omega) (by omega) (by omega)) 2 (by unfold t_contract; rw [if_neg (by omega), if_neg (by omega)]) (by decide) (fun h => by rw [h]; rfl) (k := 1496) (n0 := 10790) ⟨Nat.le_of_ble_eq_true rfl, Nat.le_of_ble_eq_true rfl, Nat.le_of_ble_eq_true rfl, Nat.le_of_ble_eq_true rfl, Nat.le_of_ble_eq_true rfl, Nat.le_of_ble_eq_true rfl, Nat.le_of_ble_eq_true rfl⟩ dL_isRefused_707 (fun G hP => ?_)
  refine jj_if_eq F (tgt := 863) dL_isRefused_710 rfl (by omega) (fun c710 => by exfalso; omega) (fun c710 => ?_)
  refine jj_aload0 F dL_isRefused_713 ?_
  refine jj_bipush F (by decide) dL_isRefused_714 ?_
  refine jj_iload7 F dL_isRefused_716 ?_
  refine jj_iconst F dL_isRefused_718 ?_
  refine jj_iconst F dL_isRefused_719 ?_
  refine jj_iconst F dL_isRefused_720 ?_
  refine ln_no F (ka_account F.tr hP hI (by omega)) 1 (by unfold t_artist; rw [if_neg (by omega)]) (by decide) (fun h => by rw [h]; rfl) (k := 1508) (n0 := 10920) ⟨Nat.le_of_ble_eq_true rfl, Nat.le_of_ble_eq_true rfl, Nat.le_of_ble_eq_true rfl, Nat.le_of_ble_eq_true rfl, Nat.le_of_ble_eq_true rfl, Nat.le_of_ble_eq_true rfl, Nat.le_of_ble_eq_true rfl⟩ dL_isRefused_721 (fun G hP => ?_)
  refine jj_if_eq F (tgt := 863) dL_isRefused_724 rfl (by omega) (fun c724 => by exfalso; omega) (fun c724 => ?_)
  refine jj_aload0 F dL_isRefused_727 ?_
  refine jj_bipush F (by decide) dL_isRefused_728 ?_
  refine jj_iload7 F dL_isRefused_730 ?_
  refine jj_iconst F dL_isRefused_732 ?_
  refine jj_iconst F dL_isRefused_733 ?_
  refine jj_iconst F dL_isRefused_734 ?_
  refine ln_no F (ka_accountAnew F.tr hP hI (by omega)) 1 (by unfold t_artist; rw [if_neg (by omega)]) (by decide) (fun h => by rw [h]; rfl) (k := 1520) (n0 := 11050) ⟨Nat.le_of_ble_eq_true rfl, Nat.le_of_ble_eq_true rfl, Nat.le_of_ble_eq_true rfl, Nat.le_of_ble_eq_true rfl, Nat.le_of_ble_eq_true rfl, Nat.le_of_ble_eq_true rfl, Nat.le_of_ble_eq_true rfl⟩ dL_isRefused_735 (fun G hP => ?_)
  refine jj_if_eq F (tgt := 863) dL_isRefused_738 rfl (by omega) (fun c738 => by exfalso; omega) (fun c738 => ?_)
  refine jj_aload0 F dL_isRefused_741 ?_
  refine jj_bipush F (by decide) dL_isRefused_742 ?_
  refine jj_iload7 F dL_isRefused_744 ?_
  refine jj_iconst F dL_isRefused_746 ?_
  refine jj_iconst F dL_isRefused_747 ?_
  refine jj_iconst F dL_isRefused_748 ?_
  refine ln_no F (ka_payOut F.tr hP hI (by omega) hj) 1 (by unfold t_artist; rw [if_neg (by omega)]) (by decide) (fun h => by rw [h]; rfl) (k := 1532) (n0 := 11180) ⟨Nat.le_of_ble_eq_true rfl, Nat.le_of_ble_eq_true rfl, Nat.le_of_ble_eq_true rfl, Nat.le_of_ble_eq_true rfl, Nat.le_of_ble_eq_true rfl, Nat.le_of_ble_eq_true rfl, Nat.le_of_ble_eq_true rfl⟩ dL_isRefused_749 (fun G hP => ?_)
  refine jj_if_eq F (tgt := 863) dL_isRefused_752 rfl (by omega) (fun c752 => by exfalso; omega) (fun c752 => ?_)
  refine jj_aload0 F dL_isRefused_755 ?_
  refine jj_bipush F (by decide) dL_isRefused_756 ?_
  refine jj_iload3 F dL_isRefused_758 ?_
  refine jj_if_eq F (tgt := 771) dL_isRefused_759 rfl (by omega) (fun c759 => by exfalso; omega) (fun c759 => ?_)
  refine jj_iconst F dL_isRefused_762 ?_
  refine jj_iload2 F dL_isRefused_763 ?_
  refine jj_bipush F (by decide) dL_isRefused_764 ?_
  refine jj_irem F (by omega) dL_isRefused_766 ?_
  refine jj_isub F dL_isRefused_767 ?_
  refine jj_goto F (tgt := 779) dL_isRefused_768 rfl ?_
  refine jj_iconst F dL_isRefused_779 ?_
  refine jj_iconst F dL_isRefused_780 ?_
  refine jj_iconst F dL_isRefused_781 ?_
  refine ln_off F (ka_pass F.tr hP hI (by omega)) 1 (by unfold t_pass; rw [if_pos (by omega)]) (by decide) (fun h => by rw [h]; rfl) (k := 1544) (n0 := 11310) ⟨Nat.le_of_ble_eq_true rfl, Nat.le_of_ble_eq_true rfl, Nat.le_of_ble_eq_true rfl, Nat.le_of_ble_eq_true rfl, Nat.le_of_ble_eq_true rfl, Nat.le_of_ble_eq_true rfl, Nat.le_of_ble_eq_true rfl⟩ dL_isRefused_782 (fun G hP => ?_)
  refine jj_if_eq F (tgt := 863) dL_isRefused_785 rfl (by omega) (fun c785 => by exfalso; omega) (fun c785 => ?_)
  refine jj_aload1 F dL_isRefused_788 ?_
  refine jj_iconst F dL_isRefused_789 ?_
  refine jm_ald F hP (by omega) dL_isRefused_790 ?_
  refine jj_iconst F dL_isRefused_791 ?_
  refine jj_meet 814 (1568) (11570) (WP (jj_ac X) A s e m g r) (fun G hP => ?_) (fun J814 => ?_)
  · skip
    refine jj_aload1 F dL_isRefused_814 ?_
    refine jj_iconst F dL_isRefused_815 ?_
    refine jm_ald F hP (by omega) dL_isRefused_816 ?_
    refine jj_meet 836 (1592) (11830) (WP (jj_ac X) A s e m g r) (fun G hP => ?_) (fun J836 => ?_)
    · skip
      refine jj_aload1 F dL_isRefused_836 ?_
      refine jj_iconst F dL_isRefused_837 ?_
      refine jm_ald F hP (by omega) dL_isRefused_838 ?_
      refine jj_bipush F (by decide) dL_isRefused_839 ?_
      refine jj_meet 859 (1616) (12090) (WP (jj_ac X) A s e m g r) (fun G hP => ?_) (fun J859 => ?_)
      · skip
        refine jj_iconst F dL_isRefused_859 ?_
        refine jj_goto F (tgt := 864) dL_isRefused_860 rfl ?_
        refine jj_istore12 F dL_isRefused_864 (hN _ (by decide)) rfl ?_
        refine jj_iconst F dL_isRefused_866 ?_
        refine jj_istore13 F dL_isRefused_867 (hN _ (by decide)) rfl ?_
        have phC : ∀ (G : jj_G) (x13 x14 x15 : Option Value), WP (jj_ac X) A s e m g r G → jj_J X G 4646 43900 1389 [some (.ref (A 0)), some (.ref (A 1)), some (.int (jI x)), some (.int (jI 1)), some (.int (jI vT)), some (.int (jI vU)), some (.int (jI vV)), some (.int (jI v6)), some (.int (jI v4)), some (.int (jI v8)), some (.long (jL (qAll s))), none, some (.int (jI 1)), x13, x14, x15] [] := by
          intro G x13 x14 x15 hP
          refine jj_iload12 F dL_isRefused_1389 ?_
          refine jj_if_eq F (tgt := 1496) dL_isRefused_1391 rfl (by omega) (fun c1391 => by exfalso; omega) (fun c1391 => ?_)
          refine jj_aload1 F dL_isRefused_1394 ?_
          refine jj_iconst F dL_isRefused_1395 ?_
          refine jm_ald F hP (by omega) dL_isRefused_1396 ?_
          refine jj_meet 1481 (4694) (44420) (WP (jj_ac X) A s e m g r) (fun G hP => ?_) (fun J1481 => ?_)
          · skip
            refine jj_aload0 F dL_isRefused_1481 ?_
            refine jj_aload1 F dL_isRefused_1482 ?_
            refine ll_all F hP hI ⟨hM1, hM2, hM3⟩ (k := 5794) (n0 := 50920) ⟨Nat.le_of_ble_eq_true rfl, Nat.le_of_ble_eq_true rfl, Nat.le_of_ble_eq_true rfl, Nat.le_of_ble_eq_true rfl, Nat.le_of_ble_eq_true rfl, Nat.le_of_ble_eq_true rfl, Nat.le_of_ble_eq_true rfl⟩ dL_isRefused_1483 (fun G hP => ?_)
            refine jj_lload10 F dL_isRefused_1486 ?_
            refine jj_lcmp F dL_isRefused_1488 ?_
            rw [lg_same]
            refine jj_if_ne F (tgt := 1496) dL_isRefused_1489 rfl (by omega) (fun c1489 => by exfalso; omega) (fun c1489 => ?_)
            refine jj_iconst F dL_isRefused_1492 ?_
            refine jj_goto F (tgt := 1497) dL_isRefused_1493 rfl ?_
            exact jj_zret B dL_isRefused_1497 ⟨Nat.le_of_ble_eq_true rfl, Nat.le_of_ble_eq_true rfl⟩ (Or.inr rfl) ⟨1, rfl, rfl, hP⟩
          · skip
            refine jj_if_eq F (tgt := 1481) dL_isRefused_1397 rfl (by omega) (fun c1397 => ?_) (fun c1397 => ?_)
            · skip
              exact jj_wide ⟨Nat.le_of_ble_eq_true rfl, Nat.le_of_ble_eq_true rfl⟩ (J1481 G hP)
            · skip
              refine jj_aload0 F dL_isRefused_1400 ?_
              refine jj_bipush F (by decide) dL_isRefused_1401 ?_
              refine jj_iconst F dL_isRefused_1403 ?_
              refine jj_iload3 F dL_isRefused_1404 ?_
              refine jj_if_eq F (tgt := 1417) dL_isRefused_1405 rfl (by omega) (fun c1405 => by exfalso; omega) (fun c1405 => ?_)
              refine jj_iconst F dL_isRefused_1408 ?_
              refine jj_iload2 F dL_isRefused_1409 ?_
              refine jj_bipush F (by decide) dL_isRefused_1410 ?_
              refine jj_irem F (by omega) dL_isRefused_1412 ?_
              refine jj_isub F dL_isRefused_1413 ?_
              refine jj_goto F (tgt := 1418) dL_isRefused_1414 rfl ?_
              refine jj_iconst F dL_isRefused_1418 ?_
              refine jj_iconst F dL_isRefused_1419 ?_
              refine ln_off F (ka_play F.tr hP hI (by omega) (by omega) (by omega)) 2 (by unfold t_play; rw [if_neg (by omega), if_neg (by omega)]) (by decide) (fun h => by rw [h]; rfl) (k := 4658) (n0 := 44030) ⟨Nat.le_of_ble_eq_true rfl, Nat.le_of_ble_eq_true rfl, Nat.le_of_ble_eq_true rfl, Nat.le_of_ble_eq_true rfl, Nat.le_of_ble_eq_true rfl, Nat.le_of_ble_eq_true rfl, Nat.le_of_ble_eq_true rfl⟩ dL_isRefused_1420 (fun G hP => ?_)
              refine jj_if_eq F (tgt := 1496) dL_isRefused_1423 rfl (by omega) (fun c1423 => by exfalso; omega) (fun c1423 => ?_)
              refine jj_aload0 F dL_isRefused_1426 ?_
              refine jj_bipush F (by decide) dL_isRefused_1427 ?_
              refine jj_iconst F dL_isRefused_1429 ?_
              refine jj_iconst F dL_isRefused_1430 ?_
              refine jj_iload3 F dL_isRefused_1431 ?_
              refine jj_if_eq F (tgt := 1439) dL_isRefused_1432 rfl (by omega) (fun c1432 => by exfalso; omega) (fun c1432 => ?_)
              refine jj_iconst F dL_isRefused_1435 ?_
              refine jj_goto F (tgt := 1446) dL_isRefused_1436 rfl ?_
              refine jj_iconst F dL_isRefused_1446 ?_
              refine ln_off F (ka_play F.tr hP hI (by omega) (by omega) (by omega)) 2 (by unfold t_play; rw [if_neg (by omega), if_neg (by omega)]) (by decide) (fun h => by rw [h]; rfl) (k := 4670) (n0 := 44160) ⟨Nat.le_of_ble_eq_true rfl, Nat.le_of_ble_eq_true rfl, Nat.le_of_ble_eq_true rfl, Nat.le_of_ble_eq_true rfl, Nat.le_of_ble_eq_true rfl, Nat.le_of_ble_eq_true rfl, Nat.le_of_ble_eq_true rfl⟩ dL_isRefused_1447 (fun G hP => ?_)
              refine jj_if_eq F (tgt := 1496) dL_isRefused_1450 rfl (by omega) (fun c1450 => by exfalso; omega) (fun c1450 => ?_)
              refine jj_aload0 F dL_isRefused_1453 ?_
              refine jj_bipush F (by decide) dL_isRefused_1454 ?_
              refine jj_iconst F dL_isRefused_1456 ?_
              refine jj_iload9 F dL_isRefused_1457 ?_
              refine jj_iconst F dL_isRefused_1459 ?_
              refine jj_iconst F dL_isRefused_1460 ?_
              refine ln_no F (ka_scratch F.tr hP hI (by omega) (by omega)) 1 (by unfold t_scr; rw [if_neg (by omega)]) (by decide) (fun h => by rw [h]; rfl) (k := 4682) (n0 := 44290) ⟨Nat.le_of_ble_eq_true rfl, Nat.le_of_ble_eq_true rfl, Nat.le_of_ble_eq_true rfl, Nat.le_of_ble_eq_true rfl, Nat.le_of_ble_eq_true rfl, Nat.le_of_ble_eq_true rfl, Nat.le_of_ble_eq_true rfl⟩ dL_isRefused_1461 (fun G hP => ?_)
              refine jj_if_eq F (tgt := 1496) dL_isRefused_1464 rfl (by omega) (fun c1464 => by exfalso; omega) (fun c1464 => ?_)
              refine jj_aload0 F dL_isRefused_1467 ?_
              refine jj_bipush F (by decide) dL_isRefused_1468 ?_
              refine jj_iconst F dL_isRefused_1470 ?_
              refine jj_iload9 F dL_isRefused_1471 ?_
              refine jj_iconst F dL_isRefused_1473 ?_
              refine jj_iconst F dL_isRefused_1474 ?_
              refine ln_no F (ka_noise F.tr hP hI (by omega) (by omega)) 1 (by unfold t_scr; rw [if_neg (by omega)]) (by decide) (fun h => by rw [h]; rfl) (k := 4694) (n0 := 44420) ⟨Nat.le_of_ble_eq_true rfl, Nat.le_of_ble_eq_true rfl, Nat.le_of_ble_eq_true rfl, Nat.le_of_ble_eq_true rfl, Nat.le_of_ble_eq_true rfl, Nat.le_of_ble_eq_true rfl, Nat.le_of_ble_eq_true rfl⟩ dL_isRefused_1475 (fun G hP => ?_)
              refine jj_if_eq F (tgt := 1496) dL_isRefused_1478 rfl (by omega) (fun c1478 => by exfalso; omega) (fun c1478 => ?_)
              exact jj_wide ⟨Nat.le_of_ble_eq_true rfl, Nat.le_of_ble_eq_true rfl⟩ (J1481 G hP)
        have phB : ∀ (n : Nat) (j : Int) (kc kn : Nat) (G : jj_G) (x14 x15 : Option Value), WP (jj_ac X) A s e m g r G → 0 ≤ j ∧ s 13 0 - j ≤ n ∧ j ≤ 100 → kc + 99 * n ≤ 4646 → kn + 1058 * n ≤ 43900 → jj_J X G kc kn 1149 [some (.ref (A 0)), some (.ref (A 1)), some (.int (jI x)), some (.int (jI 1)), some (.int (jI vT)), some (.int (jI vU)), some (.int (jI vV)), some (.int (jI v6)), some (.int (jI v4)), some (.int (jI v8)), some (.long (jL (qAll s))), none, some (.int (jI 1)), some (.int (jI j)), x14, x15] [] := by
          intro n
          induction n with
          | zero =>
            intro j kc kn G x14 x15 hP hjr h1 h2
            refine jj_iload13 F dL_isRefused_1149 ?_
            refine jj_aload1 F dL_isRefused_1151 ?_
            refine jj_iconst F dL_isRefused_1152 ?_
            refine jm_ald F hP (by omega) dL_isRefused_1153 ?_
            refine jj_icmp_ge F (tgt := 1389) dL_isRefused_1154 rfl (by omega) (fun c1154 => ?_) (fun c1154 => by exfalso; omega)
            exact jj_wide ⟨by omega, by omega⟩ (phC G _ _ _ hP)
          | succ n ih =>
            intro j kc kn G x14 x15 hP hjr h1 h2
            refine jj_iload13 F dL_isRefused_1149 ?_
            refine jj_aload1 F dL_isRefused_1151 ?_
            refine jj_iconst F dL_isRefused_1152 ?_
            refine jm_ald F hP (by omega) dL_isRefused_1153 ?_
            refine jj_icmp_ge F (tgt := 1389) dL_isRefused_1154 rfl (by omega) (fun c1154 => ?_) (fun c1154 => ?_)
            · skip
              exact jj_wide ⟨by omega, by omega⟩ (phC G _ _ _ hP)
            · skip
              refine jj_iload12 F dL_isRefused_1157 ?_
              refine jj_if_eq F (tgt := 1389) dL_isRefused_1159 rfl (by omega) (fun c1159 => by exfalso; omega) (fun c1159 => ?_)
              refine jj_aload0 F dL_isRefused_1162 ?_
              refine jj_bipush F (by decide) dL_isRefused_1163 ?_
              refine jj_iload13 F dL_isRefused_1165 ?_
              refine jj_iload3 F dL_isRefused_1167 ?_
              refine jj_if_eq F (tgt := 1181) dL_isRefused_1168 rfl (by omega) (fun c1168 => by exfalso; omega) (fun c1168 => ?_)
              refine jj_bipush F (by decide) dL_isRefused_1171 ?_
              refine jj_iload2 F dL_isRefused_1173 ?_
              refine jj_bipush F (by decide) dL_isRefused_1174 ?_
              refine jj_irem F (by omega) dL_isRefused_1176 ?_
              refine jj_isub F dL_isRefused_1177 ?_
              refine jj_goto F (tgt := 1183) dL_isRefused_1178 rfl ?_
              refine jj_iconst F dL_isRefused_1183 ?_
              refine jj_iconst F dL_isRefused_1184 ?_
              refine ln_no F (ka_seconds F.tr hP hI (by omega) (by omega)) 1 (by unfold t_seconds; rw [if_neg (by omega)]) (by decide) (fun h => by rw [h]; rfl) (k := kc + 12) (n0 := kn + 130) ⟨Nat.le_of_ble_eq_true rfl, Nat.le_of_ble_eq_true rfl, (Nat.le_refl _), (Nat.le_refl _), (show kc + 12 ≤ 6400 by omega), (show kn + 130 ≤ 53000 by omega), Nat.le_of_ble_eq_true rfl⟩ dL_isRefused_1185 (fun G hP => ?_)
              refine jj_if_eq F (tgt := 1380) dL_isRefused_1188 rfl (by omega) (fun c1188 => by exfalso; omega) (fun c1188 => ?_)
              refine jj_aload0 F dL_isRefused_1191 ?_
              refine jj_bipush F (by decide) dL_isRefused_1192 ?_
              refine jj_iload13 F dL_isRefused_1194 ?_
              refine jj_iload3 F dL_isRefused_1196 ?_
              refine jj_if_eq F (tgt := 1204) dL_isRefused_1197 rfl (by omega) (fun c1197 => by exfalso; omega) (fun c1197 => ?_)
              refine jj_iconst F dL_isRefused_1200 ?_
              refine jj_goto F (tgt := 1210) dL_isRefused_1201 rfl ?_
              refine jj_iconst F dL_isRefused_1210 ?_
              refine jj_iconst F dL_isRefused_1211 ?_
              refine ln_no F (ka_stamper F.tr hP hI (by omega) (by omega) (by omega)) 1 (by unfold t_stamper; rw [if_pos (fun hz => by obtain ⟨w1, w2, w3⟩ := hz; omega)]) (by decide) (fun h => by rw [h]; rfl) (k := kc + 24) (n0 := kn + 260) ⟨Nat.le_of_ble_eq_true rfl, Nat.le_of_ble_eq_true rfl, (Nat.le_refl _), (Nat.le_refl _), (show kc + 24 ≤ 6400 by omega), (show kn + 260 ≤ 53000 by omega), Nat.le_of_ble_eq_true rfl⟩ dL_isRefused_1212 (fun G hP => ?_)
              refine jj_if_eq F (tgt := 1380) dL_isRefused_1215 rfl (by omega) (fun c1215 => by exfalso; omega) (fun c1215 => ?_)
              refine jj_aload0 F dL_isRefused_1218 ?_
              refine jj_bipush F (by decide) dL_isRefused_1219 ?_
              refine jj_iload13 F dL_isRefused_1221 ?_
              refine jj_iconst F dL_isRefused_1223 ?_
              refine jj_iload8 F dL_isRefused_1224 ?_
              refine jj_iconst F dL_isRefused_1226 ?_
              refine ln_no F (ka_stamper F.tr hP hI (by omega) (by omega) (by omega)) 1 (by unfold t_stamper; rw [if_pos (fun hz => by obtain ⟨w1, w2, w3⟩ := hz; omega)]) (by decide) (fun h => by rw [h]; rfl) (k := kc + 36) (n0 := kn + 390) ⟨Nat.le_of_ble_eq_true rfl, Nat.le_of_ble_eq_true rfl, (Nat.le_refl _), (Nat.le_refl _), (show kc + 36 ≤ 6400 by omega), (show kn + 390 ≤ 53000 by omega), Nat.le_of_ble_eq_true rfl⟩ dL_isRefused_1227 (fun G hP => ?_)
              refine jj_if_eq F (tgt := 1380) dL_isRefused_1230 rfl (by omega) (fun c1230 => by exfalso; omega) (fun c1230 => ?_)
              refine jj_aload0 F dL_isRefused_1233 ?_
              refine jj_bipush F (by decide) dL_isRefused_1234 ?_
              refine jj_iload13 F dL_isRefused_1236 ?_
              refine jj_iconst F dL_isRefused_1238 ?_
              refine jj_iconst F dL_isRefused_1239 ?_
              refine jj_iload3 F dL_isRefused_1240 ?_
              refine jj_if_eq F (tgt := 1253) dL_isRefused_1241 rfl (by omega) (fun c1241 => by exfalso; omega) (fun c1241 => ?_)
              refine jj_iconst F dL_isRefused_1244 ?_
              refine jj_iload2 F dL_isRefused_1245 ?_
              refine jj_bipush F (by decide) dL_isRefused_1246 ?_
              refine jj_irem F (by omega) dL_isRefused_1248 ?_
              refine jj_isub F dL_isRefused_1249 ?_
              refine jj_goto F (tgt := 1256) dL_isRefused_1250 rfl ?_
              refine ln_off F (ka_press F.tr hP hI (by omega) (by omega) (by omega) (by omega)) 2 (by unfold t_press; rw [if_neg (fun hz => hz ⟨by omega, by omega, by omega⟩), if_pos (by omega)]) (by decide) (fun h => by rw [h]; rfl) (k := kc + 48) (n0 := kn + 520) ⟨Nat.le_of_ble_eq_true rfl, Nat.le_of_ble_eq_true rfl, (Nat.le_refl _), (Nat.le_refl _), (show kc + 48 ≤ 6400 by omega), (show kn + 520 ≤ 53000 by omega), Nat.le_of_ble_eq_true rfl⟩ dL_isRefused_1256 (fun G hP => ?_)
              refine jj_if_eq F (tgt := 1380) dL_isRefused_1259 rfl (by omega) (fun c1259 => by exfalso; omega) (fun c1259 => ?_)
              refine jj_aload0 F dL_isRefused_1262 ?_
              refine jj_bipush F (by decide) dL_isRefused_1263 ?_
              refine jj_iload13 F dL_isRefused_1265 ?_
              refine jj_iconst F dL_isRefused_1267 ?_
              refine jj_iconst F dL_isRefused_1268 ?_
              refine jj_iload3 F dL_isRefused_1269 ?_
              refine jj_if_eq F (tgt := 1277) dL_isRefused_1270 rfl (by omega) (fun c1270 => by exfalso; omega) (fun c1270 => ?_)
              refine jj_iconst F dL_isRefused_1273 ?_
              refine jj_goto F (tgt := 1283) dL_isRefused_1274 rfl ?_
              refine ln_off F (ka_stamperIs F.tr hP hI (by omega) (by omega) (by omega) (by omega)) 2 (by unfold t_stamperIs; rw [if_neg (fun hz => hz ⟨by omega, by omega, by omega⟩), if_neg (by omega)]) (by decide) (fun h => by rw [h]; rfl) (k := kc + 60) (n0 := kn + 650) ⟨Nat.le_of_ble_eq_true rfl, Nat.le_of_ble_eq_true rfl, (Nat.le_refl _), (Nat.le_refl _), (show kc + 60 ≤ 6400 by omega), (show kn + 650 ≤ 53000 by omega), Nat.le_of_ble_eq_true rfl⟩ dL_isRefused_1283 (fun G hP => ?_)
              refine jj_if_eq F (tgt := 1380) dL_isRefused_1286 rfl (by omega) (fun c1286 => by exfalso; omega) (fun c1286 => ?_)
              refine jj_aload0 F dL_isRefused_1289 ?_
              refine jj_bipush F (by decide) dL_isRefused_1290 ?_
              refine jj_iload13 F dL_isRefused_1292 ?_
              refine jj_iconst F dL_isRefused_1294 ?_
              refine jj_iconst F dL_isRefused_1295 ?_
              refine jj_iload3 F dL_isRefused_1296 ?_
              refine jj_if_eq F (tgt := 1309) dL_isRefused_1297 rfl (by omega) (fun c1297 => by exfalso; omega) (fun c1297 => ?_)
              refine jj_iconst F dL_isRefused_1300 ?_
              refine jj_iload2 F dL_isRefused_1301 ?_
              refine jj_bipush F (by decide) dL_isRefused_1302 ?_
              refine jj_irem F (by omega) dL_isRefused_1304 ?_
              refine jj_isub F dL_isRefused_1305 ?_
              refine jj_goto F (tgt := 1312) dL_isRefused_1306 rfl ?_
              refine ln_off F (ka_sell F.tr hP hI (by omega) (by omega) (by omega) (by omega)) 2 (by unfold t_sell; rw [if_neg (fun hz => hz ⟨by omega, by omega, by omega⟩), if_pos (by omega)]) (by decide) (fun h => by rw [h]; rfl) (k := kc + 72) (n0 := kn + 780) ⟨Nat.le_of_ble_eq_true rfl, Nat.le_of_ble_eq_true rfl, (Nat.le_refl _), (Nat.le_refl _), (show kc + 72 ≤ 6400 by omega), (show kn + 780 ≤ 53000 by omega), Nat.le_of_ble_eq_true rfl⟩ dL_isRefused_1312 (fun G hP => ?_)
              refine jj_if_eq F (tgt := 1380) dL_isRefused_1315 rfl (by omega) (fun c1315 => by exfalso; omega) (fun c1315 => ?_)
              refine jj_aload0 F dL_isRefused_1318 ?_
              refine jj_bipush F (by decide) dL_isRefused_1319 ?_
              refine jj_iload13 F dL_isRefused_1321 ?_
              refine jj_iconst F dL_isRefused_1323 ?_
              refine jj_iconst F dL_isRefused_1324 ?_
              refine jj_iload3 F dL_isRefused_1325 ?_
              refine jj_if_eq F (tgt := 1333) dL_isRefused_1326 rfl (by omega) (fun c1326 => by exfalso; omega) (fun c1326 => ?_)
              refine jj_iconst F dL_isRefused_1329 ?_
              refine jj_goto F (tgt := 1341) dL_isRefused_1330 rfl ?_
              refine ln_off F (ka_back F.tr hP hI (by omega) (by omega) (by omega) (by omega) hj) 2 (by unfold t_back; rw [if_neg (fun hz => hz ⟨by omega, by omega, by omega⟩), if_pos (by omega)]) (by decide) (fun h => by rw [h]; rfl) (k := kc + 84) (n0 := kn + 910) ⟨Nat.le_of_ble_eq_true rfl, Nat.le_of_ble_eq_true rfl, (Nat.le_refl _), (Nat.le_refl _), (show kc + 84 ≤ 6400 by omega), (show kn + 910 ≤ 53000 by omega), Nat.le_of_ble_eq_true rfl⟩ dL_isRefused_1341 (fun G hP => ?_)
              refine jj_if_eq F (tgt := 1380) dL_isRefused_1344 rfl (by omega) (fun c1344 => by exfalso; omega) (fun c1344 => ?_)
              refine jj_aload0 F dL_isRefused_1347 ?_
              refine jj_iload13 F dL_isRefused_1348 ?_
              refine jj_iconst F dL_isRefused_1350 ?_
              refine jj_iconst F dL_isRefused_1351 ?_
              refine jj_iconst F dL_isRefused_1352 ?_
              refine lq_s0 F hP hI ⟨by omega, by omega, by omega⟩ (k := kc + 87) (n0 := kn + 928) ⟨Nat.le_of_ble_eq_true rfl, Nat.le_of_ble_eq_true rfl, (Nat.le_refl _), (Nat.le_refl _), (show kc + 87 ≤ 6400 by omega), (show kn + 928 ≤ 53000 by omega), Nat.le_of_ble_eq_true rfl⟩ dL_isRefused_1353 (fun G hP => ?_)
              have g16 : -1 ≤ s 16 (sSt j 2 3) := (hI.2.2.2.1.1 (sSt j 2 3) (by unfold sSt; omega) (by unfold sSt; omega)).1.1
              have g16b : s 16 (sSt j 2 3) ≤ 9999 := (hI.2.2.2.1.1 (sSt j 2 3) (by unfold sSt; omega) (by unfold sSt; omega)).1.2
              refine jj_meet 1376 (kc + 99) (kn + 1058) (WP (jj_ac X) A s e m g r) (fun G hP => ?_) (fun J1376 => ?_)
              · skip
                refine jj_iconst F dL_isRefused_1376 ?_
                refine jj_goto F (tgt := 1381) dL_isRefused_1377 rfl ?_
                refine jj_istore12 F dL_isRefused_1381 (hN _ (by decide)) rfl ?_
                refine jj_iinc13 F dL_isRefused_1383 (hN _ (by decide)) rfl ?_
                refine jj_goto F (tgt := 1149) dL_isRefused_1386 rfl ?_
                exact ih (j + 1) (kc + 99) (kn + 1058) G _ _ hP (by omega) (by omega) (by omega)
              · skip
                refine jj_if_ge F (tgt := 1376) dL_isRefused_1356 rfl (by omega) (fun c1356 => ?_) (fun c1356 => ?_)
                · skip
                  exact jj_wide ⟨(show kc + 87 ≤ kc + 99 by omega), (show kn + 928 ≤ kn + 1058 by omega)⟩ (J1376 G hP)
                · skip
                  refine jj_aload0 F dL_isRefused_1359 ?_
                  refine jj_bipush F (by decide) dL_isRefused_1360 ?_
                  refine jj_iload13 F dL_isRefused_1362 ?_
                  refine jj_iconst F dL_isRefused_1364 ?_
                  refine jj_iconst F dL_isRefused_1365 ?_
                  refine jj_iconst F dL_isRefused_1366 ?_
                  refine jj_iconst F dL_isRefused_1367 ?_
                  refine la_no F (ka_press F.tr hP hI (by omega) (by omega) (by omega) (by omega)) 3 (-1763000000) (by unfold t_press; rw [if_neg (fun hz => hz ⟨by omega, by omega, by omega⟩), if_neg (by omega), if_pos (by omega)]) (by decide) (fun h => by rw [h]; rfl) (k := kc + 99) (n0 := kn + 1058) ⟨Nat.le_of_ble_eq_true rfl, Nat.le_of_ble_eq_true rfl, (Nat.le_refl _), (Nat.le_refl _), (show kc + 99 ≤ 6400 by omega), (show kn + 1058 ≤ 53000 by omega), Nat.le_of_ble_eq_true rfl⟩ dL_isRefused_1368 (fun G hP => ?_)
                  refine jj_ldc F (v := -1763000000) cn_L_128 (by decide) dL_isRefused_1371 ?_
                  refine jj_icmp_ne F (tgt := 1380) dL_isRefused_1373 rfl (by omega) (fun c1373 => by exfalso; omega) (fun c1373 => ?_)
                  exact jj_wide ⟨(show kc + 99 ≤ kc + 99 by omega), (show kn + 1058 ≤ kn + 1058 by omega)⟩ (J1376 G hP)
        have phA : ∀ (n : Nat) (j : Int) (kc kn : Nat) (G : jj_G) (x14 x15 : Option Value), WP (jj_ac X) A s e m g r G → 0 ≤ j ∧ s 1 0 - j ≤ 2 * n ∧ j ≤ 100 → kc + 132 * n ≤ 3656 → kn + 1372 * n ≤ 33320 → jj_J X G kc kn 869 [some (.ref (A 0)), some (.ref (A 1)), some (.int (jI x)), some (.int (jI 1)), some (.int (jI vT)), some (.int (jI vU)), some (.int (jI vV)), some (.int (jI v6)), some (.int (jI v4)), some (.int (jI v8)), some (.long (jL (qAll s))), none, some (.int (jI 1)), some (.int (jI j)), x14, x15] [] := by
          intro n
          induction n with
          | zero =>
            intro j kc kn G x14 x15 hP hjr h1 h2
            refine jj_iload13 F dL_isRefused_869 ?_
            refine jj_aload1 F dL_isRefused_871 ?_
            refine jj_iconst F dL_isRefused_872 ?_
            refine jm_ald F hP (by omega) dL_isRefused_873 ?_
            refine jj_icmp_ge F (tgt := 1146) dL_isRefused_874 rfl (by omega) (fun c874 => ?_) (fun c874 => by exfalso; omega)
            refine jj_iconst F dL_isRefused_1146 ?_
            refine jj_istore13 F dL_isRefused_1147 (hN _ (by decide)) rfl ?_
            exact jj_wide ⟨by omega, by omega⟩ (phB 10 0 3656 33320 G _ _ hP (by omega) (by omega) (by omega))
          | succ n ih =>
            intro j kc kn G x14 x15 hP hjr h1 h2
            by_cases hend : s 1 0 ≤ j
            · skip
              refine jj_iload13 F dL_isRefused_869 ?_
              refine jj_aload1 F dL_isRefused_871 ?_
              refine jj_iconst F dL_isRefused_872 ?_
              refine jm_ald F hP (by omega) dL_isRefused_873 ?_
              refine jj_icmp_ge F (tgt := 1146) dL_isRefused_874 rfl (by omega) (fun c874 => ?_) (fun c874 => by exfalso; omega)
              refine jj_iconst F dL_isRefused_1146 ?_
              refine jj_istore13 F dL_isRefused_1147 (hN _ (by decide)) rfl ?_
              exact jj_wide ⟨by omega, by omega⟩ (phB 10 0 3656 33320 G _ _ hP (by omega) (by omega) (by omega))
            · skip
              have gt := hI.1.tape (t := j) (by omega)
              have gl := sLen_in hI.1 (t := j) (by omega)
              have gp := sPlay_01 s j
              have gp0 : s 2 j = 0 → sPlay s j = 1 := fun h => by unfold sPlay; rw [if_pos h]
              refine jj_iload13 F dL_isRefused_869 ?_
              refine jj_aload1 F dL_isRefused_871 ?_
              refine jj_iconst F dL_isRefused_872 ?_
              refine jm_ald F hP (by omega) dL_isRefused_873 ?_
              refine jj_icmp_ge F (tgt := 1146) dL_isRefused_874 rfl (by omega) (fun c874 => by exfalso; omega) (fun c874 => ?_)
              refine jj_iload12 F dL_isRefused_877 ?_
              refine jj_if_eq F (tgt := 1146) dL_isRefused_879 rfl (by omega) (fun c879 => by exfalso; omega) (fun c879 => ?_)
              refine jj_aload0 F dL_isRefused_882 ?_
              refine jj_iload13 F dL_isRefused_883 ?_
              refine jj_iconst F dL_isRefused_885 ?_
              refine lq_t2 F hP hI (by omega) (k := kc + 3) (n0 := kn + 18) ⟨Nat.le_of_ble_eq_true rfl, Nat.le_of_ble_eq_true rfl, (Nat.le_refl _), (Nat.le_refl _), (show kc + 3 ≤ 6400 by omega), (show kn + 18 ≤ 53000 by omega), Nat.le_of_ble_eq_true rfl⟩ dL_isRefused_886 (fun G hP => ?_)
              refine jj_istore14 F dL_isRefused_889 (hN _ (by decide)) rfl ?_
              refine jj_aload0 F dL_isRefused_891 ?_
              refine jj_iload13 F dL_isRefused_892 ?_
              refine jj_iconst F dL_isRefused_894 ?_
              refine lq_t0 F hP hI (by omega) (k := kc + 6) (n0 := kn + 36) ⟨Nat.le_of_ble_eq_true rfl, Nat.le_of_ble_eq_true rfl, (Nat.le_refl _), (Nat.le_refl _), (show kc + 6 ≤ 6400 by omega), (show kn + 36 ≤ 53000 by omega), Nat.le_of_ble_eq_true rfl⟩ dL_isRefused_895 (fun G hP => ?_)
              refine jj_meetb 906 (fun b : Int => (b = 0 ∨ b = 1) ∧ (b = 1 ↔ s 2 j = 0)) (fun b hb => ?_) (fun J906 => ?_)
              · skip
                refine jj_istore15 F dL_isRefused_906 (hN _ (by decide)) rfl ?_
                refine jj_aload0 F dL_isRefused_908 ?_
                refine jj_iconst F dL_isRefused_909 ?_
                refine jj_iload13 F dL_isRefused_910 ?_
                refine jj_iconst F dL_isRefused_912 ?_
                refine jj_iload2 F dL_isRefused_913 ?_
                refine jj_bipush F (by decide) dL_isRefused_914 ?_
                refine jj_irem F (by omega) dL_isRefused_916 ?_
                refine jj_isub F dL_isRefused_917 ?_
                refine jj_iconst F dL_isRefused_918 ?_
                refine jj_iconst F dL_isRefused_919 ?_
                refine ln_off F (ka_splice F.tr hP hI (by omega) (by omega) (by omega) (by omega) (by omega)) 2 (by unfold t_splice; rw [if_neg (fun hz => hz ⟨by omega, by omega, by omega⟩), if_pos (by omega)]) (by decide) (fun h => by rw [h]; rfl) (k := kc + 18) (n0 := kn + 166) ⟨Nat.le_of_ble_eq_true rfl, Nat.le_of_ble_eq_true rfl, (Nat.le_refl _), (Nat.le_refl _), (show kc + 18 ≤ 6400 by omega), (show kn + 166 ≤ 53000 by omega), Nat.le_of_ble_eq_true rfl⟩ dL_isRefused_920 (fun G hP => ?_)
                refine jj_if_eq F (tgt := 1137) dL_isRefused_923 rfl (by omega) (fun c923 => by exfalso; omega) (fun c923 => ?_)
                refine jj_aload0 F dL_isRefused_926 ?_
                refine jj_iconst F dL_isRefused_927 ?_
                refine jj_iload13 F dL_isRefused_928 ?_
                refine jj_iload14 F dL_isRefused_930 ?_
                refine jj_iconst F dL_isRefused_932 ?_
                refine jj_isub F dL_isRefused_933 ?_
                refine jj_iload14 F dL_isRefused_934 ?_
                refine jj_iconst F dL_isRefused_936 ?_
                refine jj_isub F dL_isRefused_937 ?_
                refine jj_iconst F dL_isRefused_938 ?_
                refine ln_off F (ka_splice F.tr hP hI (by omega) (by omega) (by omega) (by omega) (by omega)) 2 (by unfold t_splice; rw [if_neg (fun hz => hz ⟨by omega, by omega, by omega⟩), if_pos (by omega)]) (by decide) (fun h => by rw [h]; rfl) (k := kc + 30) (n0 := kn + 296) ⟨Nat.le_of_ble_eq_true rfl, Nat.le_of_ble_eq_true rfl, (Nat.le_refl _), (Nat.le_refl _), (show kc + 30 ≤ 6400 by omega), (show kn + 296 ≤ 53000 by omega), Nat.le_of_ble_eq_true rfl⟩ dL_isRefused_939 (fun G hP => ?_)
                refine jj_if_eq F (tgt := 1137) dL_isRefused_942 rfl (by omega) (fun c942 => by exfalso; omega) (fun c942 => ?_)
                refine jj_aload0 F dL_isRefused_945 ?_
                refine jj_iconst F dL_isRefused_946 ?_
                refine jj_iload13 F dL_isRefused_947 ?_
                refine jj_iconst F dL_isRefused_949 ?_
                refine jj_iload14 F dL_isRefused_950 ?_
                refine jj_iconst F dL_isRefused_952 ?_
                refine jj_iadd F dL_isRefused_953 ?_
                refine jj_iload2 F dL_isRefused_954 ?_
                refine jj_bipush F (by decide) dL_isRefused_955 ?_
                refine jj_irem F (by omega) dL_isRefused_957 ?_
                refine jj_iadd F dL_isRefused_958 ?_
                refine jj_iconst F dL_isRefused_959 ?_
                refine ln_off F (ka_splice F.tr hP hI (by omega) (by omega) (by omega) (by omega) (by omega)) 2 (by unfold t_splice; rw [if_neg (fun hz => hz ⟨by omega, by omega, by omega⟩), if_pos (by omega)]) (by decide) (fun h => by rw [h]; rfl) (k := kc + 42) (n0 := kn + 426) ⟨Nat.le_of_ble_eq_true rfl, Nat.le_of_ble_eq_true rfl, (Nat.le_refl _), (Nat.le_refl _), (show kc + 42 ≤ 6400 by omega), (show kn + 426 ≤ 53000 by omega), Nat.le_of_ble_eq_true rfl⟩ dL_isRefused_960 (fun G hP => ?_)
                refine jj_if_eq F (tgt := 1137) dL_isRefused_963 rfl (by omega) (fun c963 => by exfalso; omega) (fun c963 => ?_)
                refine jj_aload0 F dL_isRefused_966 ?_
                refine jj_iconst F dL_isRefused_967 ?_
                refine jj_iload13 F dL_isRefused_968 ?_
                refine jj_iconst F dL_isRefused_970 ?_
                refine jj_iconst F dL_isRefused_971 ?_
                refine jj_iload3 F dL_isRefused_972 ?_
                refine jj_if_eq F (tgt := 986) dL_isRefused_973 rfl (by omega) (fun c973 => by exfalso; omega) (fun c973 => ?_)
                refine jj_bipush F (by decide) dL_isRefused_976 ?_
                refine jj_iload2 F dL_isRefused_978 ?_
                refine jj_bipush F (by decide) dL_isRefused_979 ?_
                refine jj_irem F (by omega) dL_isRefused_981 ?_
                refine jj_isub F dL_isRefused_982 ?_
                refine jj_goto F (tgt := 989) dL_isRefused_983 rfl ?_
                refine ln_no F (ka_splice F.tr hP hI (by omega) (by omega) (by omega) (by omega) (by omega)) 1 (by unfold t_splice; rw [if_pos (fun hz => by obtain ⟨w1, w2, w3⟩ := hz; omega)]) (by decide) (fun h => by rw [h]; rfl) (k := kc + 54) (n0 := kn + 556) ⟨Nat.le_of_ble_eq_true rfl, Nat.le_of_ble_eq_true rfl, (Nat.le_refl _), (Nat.le_refl _), (show kc + 54 ≤ 6400 by omega), (show kn + 556 ≤ 53000 by omega), Nat.le_of_ble_eq_true rfl⟩ dL_isRefused_989 (fun G hP => ?_)
                refine jj_if_eq F (tgt := 1137) dL_isRefused_992 rfl (by omega) (fun c992 => by exfalso; omega) (fun c992 => ?_)
                refine jj_aload0 F dL_isRefused_995 ?_
                refine jj_iconst F dL_isRefused_996 ?_
                refine jj_iload13 F dL_isRefused_997 ?_
                refine jj_iload3 F dL_isRefused_999 ?_
                refine jj_if_eq F (tgt := 1007) dL_isRefused_1000 rfl (by omega) (fun c1000 => by exfalso; omega) (fun c1000 => ?_)
                refine jj_iconst F dL_isRefused_1003 ?_
                refine jj_goto F (tgt := 1014) dL_isRefused_1004 rfl ?_
                refine jj_iconst F dL_isRefused_1014 ?_
                refine jj_iconst F dL_isRefused_1015 ?_
                refine ln_off F (ka_tapeIs F.tr hP hI (by omega) (by omega)) 2 (by unfold t_tapeIs; rw [if_neg (by omega), if_neg (by omega)]) (by decide) (fun h => by rw [h]; rfl) (k := kc + 66) (n0 := kn + 686) ⟨Nat.le_of_ble_eq_true rfl, Nat.le_of_ble_eq_true rfl, (Nat.le_refl _), (Nat.le_refl _), (show kc + 66 ≤ 6400 by omega), (show kn + 686 ≤ 53000 by omega), Nat.le_of_ble_eq_true rfl⟩ dL_isRefused_1016 (fun G hP => ?_)
                refine jj_if_eq F (tgt := 1137) dL_isRefused_1019 rfl (by omega) (fun c1019 => by exfalso; omega) (fun c1019 => ?_)
                refine jj_aload0 F dL_isRefused_1022 ?_
                refine jj_bipush F (by decide) dL_isRefused_1023 ?_
                refine jj_iload13 F dL_isRefused_1025 ?_
                refine jj_iconst F dL_isRefused_1027 ?_
                refine jj_iload2 F dL_isRefused_1028 ?_
                refine jj_bipush F (by decide) dL_isRefused_1029 ?_
                refine jj_irem F (by omega) dL_isRefused_1031 ?_
                refine jj_isub F dL_isRefused_1032 ?_
                refine jj_iconst F dL_isRefused_1033 ?_
                refine jj_iconst F dL_isRefused_1034 ?_
                refine ln_off F (ka_heard F.tr hP hI (by omega) (by omega)) 2 (by unfold t_heard; rw [if_neg (by omega), if_pos (by omega)]) (by decide) (fun h => by rw [h]; rfl) (k := kc + 78) (n0 := kn + 816) ⟨Nat.le_of_ble_eq_true rfl, Nat.le_of_ble_eq_true rfl, (Nat.le_refl _), (Nat.le_refl _), (show kc + 78 ≤ 6400 by omega), (show kn + 816 ≤ 53000 by omega), Nat.le_of_ble_eq_true rfl⟩ dL_isRefused_1035 (fun G hP => ?_)
                refine jj_if_eq F (tgt := 1137) dL_isRefused_1038 rfl (by omega) (fun c1038 => by exfalso; omega) (fun c1038 => ?_)
                refine jj_iload15 F dL_isRefused_1041 ?_
                refine jj_meet 1062 (kc + 90) (kn + 946) (WP (jj_ac X) A s e m g r) (fun G hP => ?_) (fun J1062 => ?_)
                · skip
                  refine jj_aload0 F dL_isRefused_1062 ?_
                  refine jj_iload13 F dL_isRefused_1063 ?_
                  refine jj_iconst F dL_isRefused_1065 ?_
                  refine lq_t0 F hP hI (by omega) (k := kc + 93) (n0 := kn + 964) ⟨Nat.le_of_ble_eq_true rfl, Nat.le_of_ble_eq_true rfl, (Nat.le_refl _), (Nat.le_refl _), (show kc + 93 ≤ 6400 by omega), (show kn + 964 ≤ 53000 by omega), Nat.le_of_ble_eq_true rfl⟩ dL_isRefused_1066 (fun G hP => ?_)
                  refine jj_iconst F dL_isRefused_1069 ?_
                  refine jj_meet 1089 (kc + 105) (kn + 1094) (WP (jj_ac X) A s e m g r) (fun G hP => ?_) (fun J1089 => ?_)
                  · skip
                    refine jj_aload0 F dL_isRefused_1089 ?_
                    refine jj_iload13 F dL_isRefused_1090 ?_
                    refine jj_iconst F dL_isRefused_1092 ?_
                    refine lq_t1 F hP hI (by omega) (k := kc + 108) (n0 := kn + 1112) ⟨Nat.le_of_ble_eq_true rfl, Nat.le_of_ble_eq_true rfl, (Nat.le_refl _), (Nat.le_refl _), (show kc + 108 ≤ 6400 by omega), (show kn + 1112 ≤ 53000 by omega), Nat.le_of_ble_eq_true rfl⟩ dL_isRefused_1093 (fun G hP => ?_)
                    refine jj_iconst F dL_isRefused_1096 ?_
                    refine jj_meet 1133 (kc + 132) (kn + 1372) (WP (jj_ac X) A s e m g r) (fun G hP => ?_) (fun J1133 => ?_)
                    · skip
                      refine jj_iconst F dL_isRefused_1133 ?_
                      refine jj_goto F (tgt := 1138) dL_isRefused_1134 rfl ?_
                      refine jj_istore12 F dL_isRefused_1138 (hN _ (by decide)) rfl ?_
                      refine jj_iinc13 F dL_isRefused_1140 (hN _ (by decide)) rfl ?_
                      refine jj_goto F (tgt := 869) dL_isRefused_1143 rfl ?_
                      exact ih (j + 2) (kc + 132) (kn + 1372) G _ _ hP (by omega) (by omega) (by omega)
                    · skip
                      refine jj_icmp_eq F (tgt := 1133) dL_isRefused_1097 rfl (by omega) (fun c1097 => ?_) (fun c1097 => ?_)
                      · skip
                        exact jj_wide ⟨(show kc + 108 ≤ kc + 132 by omega), (show kn + 1112 ≤ kn + 1372 by omega)⟩ (J1133 G hP)
                      · skip
                        refine jj_aload0 F dL_isRefused_1100 ?_
                        refine jj_bipush F (by decide) dL_isRefused_1101 ?_
                        refine jj_iload13 F dL_isRefused_1103 ?_
                        refine jj_iconst F dL_isRefused_1105 ?_
                        refine jj_iconst F dL_isRefused_1106 ?_
                        refine jj_iconst F dL_isRefused_1107 ?_
                        refine jj_iconst F dL_isRefused_1108 ?_
                        refine la_no F (ka_add F.tr hP hI (by omega)) 2 (-1763000000) (by unfold t_add; rw [if_neg (by omega), if_pos (by omega)]) (by decide) (fun h => by rw [h]; rfl) (k := kc + 120) (n0 := kn + 1242) ⟨Nat.le_of_ble_eq_true rfl, Nat.le_of_ble_eq_true rfl, (Nat.le_refl _), (Nat.le_refl _), (show kc + 120 ≤ 6400 by omega), (show kn + 1242 ≤ 53000 by omega), Nat.le_of_ble_eq_true rfl⟩ dL_isRefused_1109 (fun G hP => ?_)
                        refine jj_ldc F (v := -1763000000) cn_L_128 (by decide) dL_isRefused_1112 ?_
                        refine jj_icmp_ne F (tgt := 1137) dL_isRefused_1114 rfl (by omega) (fun c1114 => by exfalso; omega) (fun c1114 => ?_)
                        refine jj_aload0 F dL_isRefused_1117 ?_
                        refine jj_iconst F dL_isRefused_1118 ?_
                        refine jj_iload13 F dL_isRefused_1119 ?_
                        refine jj_iconst F dL_isRefused_1121 ?_
                        refine jj_iconst F dL_isRefused_1122 ?_
                        refine jj_iconst F dL_isRefused_1123 ?_
                        refine jj_iconst F dL_isRefused_1124 ?_
                        refine la_no F (ka_splice F.tr hP hI (by omega) (by omega) (by omega) (by omega) (by omega)) 3 (-1763000000) (by unfold t_splice; rw [if_neg (fun hz => hz ⟨by omega, by omega, by omega⟩), if_neg (by omega), if_neg (fun hz => by obtain ⟨w1, -⟩ := hz; omega)]) (by decide) (fun h => by rw [h]; rfl) (k := kc + 132) (n0 := kn + 1372) ⟨Nat.le_of_ble_eq_true rfl, Nat.le_of_ble_eq_true rfl, (Nat.le_refl _), (Nat.le_refl _), (show kc + 132 ≤ 6400 by omega), (show kn + 1372 ≤ 53000 by omega), Nat.le_of_ble_eq_true rfl⟩ dL_isRefused_1125 (fun G hP => ?_)
                        refine jj_ldc F (v := -1763000000) cn_L_128 (by decide) dL_isRefused_1128 ?_
                        refine jj_icmp_ne F (tgt := 1137) dL_isRefused_1130 rfl (by omega) (fun c1130 => by exfalso; omega) (fun c1130 => ?_)
                        exact jj_wide ⟨(show kc + 132 ≤ kc + 132 by omega), (show kn + 1372 ≤ kn + 1372 by omega)⟩ (J1133 G hP)
                  · skip
                    refine jj_icmp_eq F (tgt := 1089) dL_isRefused_1070 rfl (by omega) (fun c1070 => ?_) (fun c1070 => ?_)
                    · skip
                      exact jj_wide ⟨(show kc + 93 ≤ kc + 105 by omega), (show kn + 964 ≤ kn + 1094 by omega)⟩ (J1089 G hP)
                    · skip
                      refine jj_aload0 F dL_isRefused_1073 ?_
                      refine jj_iconst F dL_isRefused_1074 ?_
                      refine jj_iload13 F dL_isRefused_1075 ?_
                      refine jj_iconst F dL_isRefused_1077 ?_
                      refine jj_iconst F dL_isRefused_1078 ?_
                      refine jj_iconst F dL_isRefused_1079 ?_
                      refine jj_iconst F dL_isRefused_1080 ?_
                      refine la_no F (ka_bake F.tr hP hI (by omega)) 2 (-1763000000) (by unfold t_tape; rw [if_neg (by omega), if_neg (by omega)]) (by decide) (fun h => by rw [h]; rfl) (k := kc + 105) (n0 := kn + 1094) ⟨Nat.le_of_ble_eq_true rfl, Nat.le_of_ble_eq_true rfl, (Nat.le_refl _), (Nat.le_refl _), (show kc + 105 ≤ 6400 by omega), (show kn + 1094 ≤ 53000 by omega), Nat.le_of_ble_eq_true rfl⟩ dL_isRefused_1081 (fun G hP => ?_)
                      refine jj_ldc F (v := -1763000000) cn_L_128 (by decide) dL_isRefused_1084 ?_
                      refine jj_icmp_ne F (tgt := 1137) dL_isRefused_1086 rfl (by omega) (fun c1086 => by exfalso; omega) (fun c1086 => ?_)
                      exact jj_wide ⟨(show kc + 105 ≤ kc + 105 by omega), (show kn + 1094 ≤ kn + 1094 by omega)⟩ (J1089 G hP)
                · skip
                  refine jj_if_ne F (tgt := 1062) dL_isRefused_1043 rfl (by omega) (fun c1043 => ?_) (fun c1043 => ?_)
                  · skip
                    exact jj_wide ⟨(show kc + 78 ≤ kc + 90 by omega), (show kn + 816 ≤ kn + 946 by omega)⟩ (J1062 G hP)
                  · skip
                    refine jj_aload0 F dL_isRefused_1046 ?_
                    refine jj_iconst F dL_isRefused_1047 ?_
                    refine jj_iload13 F dL_isRefused_1048 ?_
                    refine jj_iconst F dL_isRefused_1050 ?_
                    refine jj_iconst F dL_isRefused_1051 ?_
                    refine jj_iconst F dL_isRefused_1052 ?_
                    refine jj_iconst F dL_isRefused_1053 ?_
                    refine la_no F (ka_shed F.tr hP hI (by omega)) 2 (-1763000000) (by unfold t_tape; rw [if_neg (by omega), if_neg (by omega)]) (by decide) (fun h => by rw [h]; rfl) (k := kc + 90) (n0 := kn + 946) ⟨Nat.le_of_ble_eq_true rfl, Nat.le_of_ble_eq_true rfl, (Nat.le_refl _), (Nat.le_refl _), (show kc + 90 ≤ 6400 by omega), (show kn + 946 ≤ 53000 by omega), Nat.le_of_ble_eq_true rfl⟩ dL_isRefused_1054 (fun G hP => ?_)
                    refine jj_ldc F (v := -1763000000) cn_L_128 (by decide) dL_isRefused_1057 ?_
                    refine jj_icmp_ne F (tgt := 1137) dL_isRefused_1059 rfl (by omega) (fun c1059 => by exfalso; omega) (fun c1059 => ?_)
                    exact jj_wide ⟨(show kc + 90 ≤ kc + 90 by omega), (show kn + 946 ≤ kn + 946 by omega)⟩ (J1062 G hP)
              · skip
                refine jj_if_ne F (tgt := 905) dL_isRefused_898 rfl (by omega) (fun c898 => ?_) (fun c898 => ?_)
                · skip
                  refine jj_iconst F dL_isRefused_905 ?_
                  exact J906 _ (by omega)
                · skip
                  refine jj_iconst F dL_isRefused_901 ?_
                  refine jj_goto F (tgt := 906) dL_isRefused_902 rfl ?_
                  exact J906 _ (by omega)
        exact jj_wide ⟨Nat.le_of_ble_eq_true rfl, Nat.le_of_ble_eq_true rfl⟩ (phA 15 0 1676 12740 G _ _ hP (by omega) (by omega) (by omega))
      · skip
        refine jj_icmp_lt F (tgt := 859) dL_isRefused_841 rfl (by omega) (fun c841 => ?_) (fun c841 => ?_)
        · skip
          exact jj_wide ⟨Nat.le_of_ble_eq_true rfl, Nat.le_of_ble_eq_true rfl⟩ (J859 G hP)
        · skip
          refine jj_aload0 F dL_isRefused_844 ?_
          refine jj_iconst F dL_isRefused_845 ?_
          refine jj_iconst F dL_isRefused_846 ?_
          refine jj_iconst F dL_isRefused_847 ?_
          refine jj_iconst F dL_isRefused_848 ?_
          refine jj_iconst F dL_isRefused_849 ?_
          refine jj_iconst F dL_isRefused_850 ?_
          refine la_no F (ka_session F.tr hP hI (by omega) (by omega) (by omega)) 3 (-1763000000) (by unfold t_session; rw [if_neg (by omega), if_neg (by omega), if_pos (by omega)]) (by decide) (fun h => by rw [h]; rfl) (k := 1604) (n0 := 11960) ⟨Nat.le_of_ble_eq_true rfl, Nat.le_of_ble_eq_true rfl, Nat.le_of_ble_eq_true rfl, Nat.le_of_ble_eq_true rfl, Nat.le_of_ble_eq_true rfl, Nat.le_of_ble_eq_true rfl, Nat.le_of_ble_eq_true rfl⟩ dL_isRefused_851 (fun G hP => ?_)
          refine jj_ldc F (v := -1763000000) cn_L_128 (by decide) dL_isRefused_854 ?_
          refine jj_icmp_ne F (tgt := 863) dL_isRefused_856 rfl (by omega) (fun c856 => by exfalso; omega) (fun c856 => ?_)
          exact jj_wide ⟨Nat.le_of_ble_eq_true rfl, Nat.le_of_ble_eq_true rfl⟩ (J859 G hP)
    · skip
      refine jj_if_gt F (tgt := 836) dL_isRefused_817 rfl (by omega) (fun c817 => ?_) (fun c817 => ?_)
      · skip
        exact jj_wide ⟨Nat.le_of_ble_eq_true rfl, Nat.le_of_ble_eq_true rfl⟩ (J836 G hP)
      · skip
        refine jj_aload0 F dL_isRefused_820 ?_
        refine jj_bipush F (by decide) dL_isRefused_821 ?_
        refine jj_iconst F dL_isRefused_823 ?_
        refine jj_iconst F dL_isRefused_824 ?_
        refine jj_iconst F dL_isRefused_825 ?_
        refine jj_iconst F dL_isRefused_826 ?_
        refine jj_iconst F dL_isRefused_827 ?_
        refine la_no F (ka_undo F.tr hP hI ) 1 (-1763000000) (by unfold t_undo; rw [if_pos (by omega)]) (by decide) (fun h => by rw [h]; rfl) (k := 1580) (n0 := 11700) ⟨Nat.le_of_ble_eq_true rfl, Nat.le_of_ble_eq_true rfl, Nat.le_of_ble_eq_true rfl, Nat.le_of_ble_eq_true rfl, Nat.le_of_ble_eq_true rfl, Nat.le_of_ble_eq_true rfl, Nat.le_of_ble_eq_true rfl⟩ dL_isRefused_828 (fun G hP => ?_)
        refine jj_ldc F (v := -1763000000) cn_L_128 (by decide) dL_isRefused_831 ?_
        refine jj_icmp_ne F (tgt := 863) dL_isRefused_833 rfl (by omega) (fun c833 => by exfalso; omega) (fun c833 => ?_)
        exact jj_wide ⟨Nat.le_of_ble_eq_true rfl, Nat.le_of_ble_eq_true rfl⟩ (J836 G hP)
  · skip
    refine jj_icmp_eq F (tgt := 814) dL_isRefused_792 rfl (by omega) (fun c792 => ?_) (fun c792 => ?_)
    · skip
      exact jj_wide ⟨Nat.le_of_ble_eq_true rfl, Nat.le_of_ble_eq_true rfl⟩ (J814 G hP)
    · skip
      refine jj_aload0 F dL_isRefused_795 ?_
      refine jj_bipush F (by decide) dL_isRefused_796 ?_
      refine jj_iload2 F dL_isRefused_798 ?_
      refine jj_bipush F (by decide) dL_isRefused_799 ?_
      refine jj_irem F (by omega) dL_isRefused_801 ?_
      refine jj_iconst F dL_isRefused_802 ?_
      refine jj_iconst F dL_isRefused_803 ?_
      refine jj_iconst F dL_isRefused_804 ?_
      refine jj_iconst F dL_isRefused_805 ?_
      refine la_no F (ka_repair F.tr hP hI (by omega)) 2 (-1763000000) (by unfold t_repair; rw [if_neg (by omega), if_pos (by omega)]) (by decide) (fun h => by rw [h]; rfl) (k := 1556) (n0 := 11440) ⟨Nat.le_of_ble_eq_true rfl, Nat.le_of_ble_eq_true rfl, Nat.le_of_ble_eq_true rfl, Nat.le_of_ble_eq_true rfl, Nat.le_of_ble_eq_true rfl, Nat.le_of_ble_eq_true rfl, Nat.le_of_ble_eq_true rfl⟩ dL_isRefused_806 (fun G hP => ?_)
      refine jj_ldc F (v := -1763000000) cn_L_128 (by decide) dL_isRefused_809 ?_
      refine jj_icmp_ne F (tgt := 863) dL_isRefused_811 rfl (by omega) (fun c811 => by exfalso; omega) (fun c811 => ?_)
      exact jj_wide ⟨Nat.le_of_ble_eq_true rfl, Nat.le_of_ble_eq_true rfl⟩ (J814 G hP)
set_option maxRecDepth 100000 in
set_option maxHeartbeats 4000000 in
theorem kl_ref1 {l : Launch} {D : va_G} {ac : Nat → ClassId} (hl : l.stackTraces = false) {A : Nat → Nat} {s e : Sg} {m g r : Int → Int} {x : Int} {G : jj_G} (hP : WP ac A s e m g r G) {c : Int} (hI : hInv s e c) (hM : pM s m) (hj : ∀ i, jR (s 36 i)) (hx : 0 ≤ x ∧ x ≤ 2147483647) (hp : x % 2 = 1) : jj_C l D ac yL_isRefused (.code yL_isRefused cL_isRefused 16 (some .boolean)) rm_isRefused [.ref (A 0), .ref (A 1), .int (jI x)] G (jj_pi (fun v G' => v = 1 ∧ WP ac A s e m g r G')) jj_nx := by
  refine jj_ofx (own := RL) (lv0 := [some (.ref (A 0)), some (.ref (A 1)), some (.int (jI x)), none, none, none, none, none, none, none, none, none, none, none, none, none]) hl (by decide +kernel) rfl rfl (Nat.le_of_ble_eq_true rfl) rfl ?_
  intro X B hN hl0 hdg hac hin
  subst hl0; subst hdg; subst hac
  have F := B.F
  obtain ⟨hM0, hM1, hM2, hM3, hM4, hM5⟩ := id hM
  have b1 := hI.1.2.1
  have b2 := hI.2.2.1.1
  have b3 := hI.2.2.2.2.1.1
  have b6 := hI.2.2.2.2.2.1.2.2.1
  have b6a := hI.2.2.2.2.2.1.1
  refine jj_iload2 F dL_isRefused_0 ?_
  refine jj_iconst F dL_isRefused_1 ?_
  refine jj_irem F (by omega) dL_isRefused_2 ?_
  refine jj_if_ne F (tgt := 10) dL_isRefused_3 rfl (by omega) (fun c3 => ?_) (fun c3 => by exfalso; omega)
  refine jj_iconst F dL_isRefused_10 ?_
  refine jj_istore3 F dL_isRefused_11 (hN _ (by decide)) rfl ?_
  refine jj_iload3 F dL_isRefused_12 ?_
  refine jj_if_eq F (tgt := 26) dL_isRefused_13 rfl (by omega) (fun c13 => ?_) (fun c13 => by exfalso; omega)
  refine jj_aload1 F dL_isRefused_26 ?_
  refine jj_iconst F dL_isRefused_27 ?_
  refine jm_ald F hP (by omega) dL_isRefused_28 ?_
  refine jj_iload2 F dL_isRefused_29 ?_
  refine jj_bipush F (by decide) dL_isRefused_30 ?_
  refine jj_irem F (by omega) dL_isRefused_32 ?_
  refine jj_iadd F dL_isRefused_33 ?_
  refine jj_namei (fun vT hz => ?_)
  have hvT : (vT < -1 ∨ s 1 0 ≤ vT) ∧ jR vT := by omega
  clear hz
  refine jj_istore4 F dL_isRefused_34 (hN _ (by decide)) rfl ?_
  refine jj_iload3 F dL_isRefused_36 ?_
  refine jj_if_eq F (tgt := 49) dL_isRefused_37 rfl (by omega) (fun c37 => ?_) (fun c37 => by exfalso; omega)
  refine jj_aload1 F dL_isRefused_49 ?_
  refine jj_iconst F dL_isRefused_50 ?_
  refine jm_ald F hP (by omega) dL_isRefused_51 ?_
  refine jj_iload2 F dL_isRefused_52 ?_
  refine jj_bipush F (by decide) dL_isRefused_53 ?_
  refine jj_irem F (by omega) dL_isRefused_55 ?_
  refine jj_iadd F dL_isRefused_56 ?_
  refine jj_namei (fun vU hz => ?_)
  have hvU : (vU < 0 ∨ s 13 0 ≤ vU) ∧ jR vU := by omega
  clear hz
  refine jj_istore5 F dL_isRefused_57 (hN _ (by decide)) rfl ?_
  refine jj_iload3 F dL_isRefused_59 ?_
  refine jj_if_eq F (tgt := 72) dL_isRefused_60 rfl (by omega) (fun c60 => ?_) (fun c60 => by exfalso; omega)
  refine jj_aload1 F dL_isRefused_72 ?_
  refine jj_iconst F dL_isRefused_73 ?_
  refine jm_ald F hP (by omega) dL_isRefused_74 ?_
  refine jj_iload2 F dL_isRefused_75 ?_
  refine jj_bipush F (by decide) dL_isRefused_76 ?_
  refine jj_irem F (by omega) dL_isRefused_78 ?_
  refine jj_iadd F dL_isRefused_79 ?_
  refine jj_namei (fun vV hz => ?_)
  have hvV : (vV < 0 ∨ s 22 0 ≤ vV) ∧ jR vV := by omega
  clear hz
  refine jj_istore6 F dL_isRefused_80 (hN _ (by decide)) rfl ?_
  refine jj_iload3 F dL_isRefused_82 ?_
  refine jj_if_eq F (tgt := 95) dL_isRefused_83 rfl (by omega) (fun c83 => ?_) (fun c83 => by exfalso; omega)
  refine jj_bipush F (by decide) dL_isRefused_95 ?_
  refine jj_iload2 F dL_isRefused_97 ?_
  refine jj_bipush F (by decide) dL_isRefused_98 ?_
  refine jj_irem F (by omega) dL_isRefused_100 ?_
  refine jj_iadd F dL_isRefused_101 ?_
  refine jj_namei (fun v6 hz => ?_)
  have hv6 : (v6 < 0 ∨ 6 ≤ v6) ∧ jR v6 := by omega
  clear hz
  refine jj_istore7 F dL_isRefused_102 (hN _ (by decide)) rfl ?_
  refine jj_iload3 F dL_isRefused_104 ?_
  refine jj_if_eq F (tgt := 117) dL_isRefused_105 rfl (by omega) (fun c105 => ?_) (fun c105 => by exfalso; omega)
  refine jj_iconst F dL_isRefused_117 ?_
  refine jj_iload2 F dL_isRefused_118 ?_
  refine jj_bipush F (by decide) dL_isRefused_119 ?_
  refine jj_irem F (by omega) dL_isRefused_121 ?_
  refine jj_iadd F dL_isRefused_122 ?_
  refine jj_namei (fun v4 hz => ?_)
  have hv4 : (v4 < 0 ∨ 4 ≤ v4) ∧ jR v4 := by omega
  clear hz
  refine jj_istore8 F dL_isRefused_123 (hN _ (by decide)) rfl ?_
  refine jj_iload3 F dL_isRefused_125 ?_
  refine jj_if_eq F (tgt := 138) dL_isRefused_126 rfl (by omega) (fun c126 => ?_) (fun c126 => by exfalso; omega)
  refine jj_bipush F (by decide) dL_isRefused_138 ?_
  refine jj_iload2 F dL_isRefused_140 ?_
  refine jj_bipush F (by decide) dL_isRefused_141 ?_
  refine jj_irem F (by omega) dL_isRefused_143 ?_
  refine jj_iadd F dL_isRefused_144 ?_
  refine jj_namei (fun v8 hz => ?_)
  have hv8 : (v8 < 0 ∨ 8 ≤ v8) ∧ jR v8 := by omega
  clear hz
  refine jj_istore9 F dL_isRefused_145 (hN _ (by decide)) rfl ?_
  refine jj_aload0 F dL_isRefused_147 ?_
  refine jj_aload1 F dL_isRefused_148 ?_
  refine ll_all F hP hI ⟨hM1, hM2, hM3⟩ (k := 1100) (n0 := 6500) ⟨Nat.le_of_ble_eq_true rfl, Nat.le_of_ble_eq_true rfl, Nat.le_of_ble_eq_true rfl, Nat.le_of_ble_eq_true rfl, Nat.le_of_ble_eq_true rfl, Nat.le_of_ble_eq_true rfl, Nat.le_of_ble_eq_true rfl⟩ dL_isRefused_149 (fun G hP => ?_)
  refine jj_lstore10 F dL_isRefused_152 (hN _ (by decide)) rfl ?_
  refine jj_aload0 F dL_isRefused_154 ?_
  refine jj_iconst F dL_isRefused_155 ?_
  refine jj_iload7 F dL_isRefused_156 ?_
  refine jj_iconst F dL_isRefused_158 ?_
  refine jj_iconst F dL_isRefused_159 ?_
  refine jj_iconst F dL_isRefused_160 ?_
  refine ln_no F (ka_session F.tr hP hI (by omega) (by omega) (by omega)) 1 (by unfold t_session; rw [if_pos (by omega)]) (by decide) (fun h => by rw [h]; rfl) (k := 1112) (n0 := 6630) ⟨Nat.le_of_ble_eq_true rfl, Nat.le_of_ble_eq_true rfl, Nat.le_of_ble_eq_true rfl, Nat.le_of_ble_eq_true rfl, Nat.le_of_ble_eq_true rfl, Nat.le_of_ble_eq_true rfl, Nat.le_of_ble_eq_true rfl⟩ dL_isRefused_161 (fun G hP => ?_)
  refine jj_if_eq F (tgt := 863) dL_isRefused_164 rfl (by omega) (fun c164 => by exfalso; omega) (fun c164 => ?_)
  refine jj_aload0 F dL_isRefused_167 ?_
  refine jj_iconst F dL_isRefused_168 ?_
  refine jj_iconst F dL_isRefused_169 ?_
  refine jj_iconst F dL_isRefused_170 ?_
  refine jj_iload8 F dL_isRefused_171 ?_
  refine jj_iconst F dL_isRefused_173 ?_
  refine ln_no F (ka_session F.tr hP hI (by omega) (by omega) (by omega)) 1 (by unfold t_session; rw [if_pos (by omega)]) (by decide) (fun h => by rw [h]; rfl) (k := 1124) (n0 := 6760) ⟨Nat.le_of_ble_eq_true rfl, Nat.le_of_ble_eq_true rfl, Nat.le_of_ble_eq_true rfl, Nat.le_of_ble_eq_true rfl, Nat.le_of_ble_eq_true rfl, Nat.le_of_ble_eq_true rfl, Nat.le_of_ble_eq_true rfl⟩ dL_isRefused_174 (fun G hP => ?_)
  refine jj_if_eq F (tgt := 863) dL_isRefused_177 rfl (by omega) (fun c177 => by exfalso; omega) (fun c177 => ?_)
  refine jj_aload0 F dL_isRefused_180 ?_
  refine jj_iconst F dL_isRefused_181 ?_
  refine jj_iload2 F dL_isRefused_182 ?_
  refine jj_bipush F (by decide) dL_isRefused_183 ?_
  refine jj_irem F (by omega) dL_isRefused_185 ?_
  refine jj_iload3 F dL_isRefused_186 ?_
  refine jj_if_eq F (tgt := 199) dL_isRefused_187 rfl (by omega) (fun c187 => ?_) (fun c187 => by exfalso; omega)
  refine jj_sipush F (by decide) dL_isRefused_199 ?_
  refine jj_iload2 F dL_isRefused_202 ?_
  refine jj_iconst F dL_isRefused_203 ?_
  refine jj_irem F (by omega) dL_isRefused_204 ?_
  refine jj_iconst F dL_isRefused_205 ?_
  refine ln_off F (ka_session F.tr hP hI (by omega) (by omega) (by omega)) 2 (by unfold t_session; rw [if_neg (by omega), if_pos (by omega)]) (by decide) (fun h => by rw [h]; rfl) (k := 1136) (n0 := 6890) ⟨Nat.le_of_ble_eq_true rfl, Nat.le_of_ble_eq_true rfl, Nat.le_of_ble_eq_true rfl, Nat.le_of_ble_eq_true rfl, Nat.le_of_ble_eq_true rfl, Nat.le_of_ble_eq_true rfl, Nat.le_of_ble_eq_true rfl⟩ dL_isRefused_206 (fun G hP => ?_)
  refine jj_if_eq F (tgt := 863) dL_isRefused_209 rfl (by omega) (fun c209 => by exfalso; omega) (fun c209 => ?_)
  refine jj_aload0 F dL_isRefused_212 ?_
  refine jj_iconst F dL_isRefused_213 ?_
  refine jj_iload4 F dL_isRefused_214 ?_
  refine jj_bipush F (by decide) dL_isRefused_216 ?_
  refine jj_iconst F dL_isRefused_218 ?_
  refine jj_iconst F dL_isRefused_219 ?_
  refine ln_no F (ka_splice F.tr hP hI (by omega) (by omega) (by omega) (by omega) (by omega)) 1 (by unfold t_splice; rw [if_pos (fun hz => by obtain ⟨w1, w2, w3⟩ := hz; omega)]) (by decide) (fun h => by rw [h]; rfl) (k := 1148) (n0 := 7020) ⟨Nat.le_of_ble_eq_true rfl, Nat.le_of_ble_eq_true rfl, Nat.le_of_ble_eq_true rfl, Nat.le_of_ble_eq_true rfl, Nat.le_of_ble_eq_true rfl, Nat.le_of_ble_eq_true rfl, Nat.le_of_ble_eq_true rfl⟩ dL_isRefused_220 (fun G hP => ?_)
  refine jj_if_eq F (tgt := 863) dL_isRefused_223 rfl (by omega) (fun c223 => by exfalso; omega) (fun c223 => ?_)
  refine jj_aload0 F dL_isRefused_226 ?_
  refine jj_iconst F dL_isRefused_227 ?_
  refine jj_iload4 F dL_isRefused_228 ?_
  refine jj_iconst F dL_isRefused_230 ?_
  refine jj_iconst F dL_isRefused_231 ?_
  refine jj_iconst F dL_isRefused_232 ?_
  refine ln_no F (ka_shed F.tr hP hI (by omega)) 1 (by unfold t_tape; rw [if_pos (by omega)]) (by decide) (fun h => by rw [h]; rfl) (k := 1160) (n0 := 7150) ⟨Nat.le_of_ble_eq_true rfl, Nat.le_of_ble_eq_true rfl, Nat.le_of_ble_eq_true rfl, Nat.le_of_ble_eq_true rfl, Nat.le_of_ble_eq_true rfl, Nat.le_of_ble_eq_true rfl, Nat.le_of_ble_eq_true rfl⟩ dL_isRefused_233 (fun G hP => ?_)
  refine jj_if_eq F (tgt := 863) dL_isRefused_236 rfl (by omega) (fun c236 => by exfalso; omega) (fun c236 => ?_)
  refine jj_aload0 F dL_isRefused_239 ?_
  refine jj_iconst F dL_isRefused_240 ?_
  refine jj_iload4 F dL_isRefused_241 ?_
  refine jj_iconst F dL_isRefused_243 ?_
  refine jj_iconst F dL_isRefused_244 ?_
  refine jj_iconst F dL_isRefused_245 ?_
  refine ln_no F (ka_bake F.tr hP hI (by omega)) 1 (by unfold t_tape; rw [if_pos (by omega)]) (by decide) (fun h => by rw [h]; rfl) (k := 1172) (n0 := 7280) ⟨Nat.le_of_ble_eq_true rfl, Nat.le_of_ble_eq_true rfl, Nat.le_of_ble_eq_true rfl, Nat.le_of_ble_eq_true rfl, Nat.le_of_ble_eq_true rfl, Nat.le_of_ble_eq_true rfl, Nat.le_of_ble_eq_true rfl⟩ dL_isRefused_246 (fun G hP => ?_)
  refine jj_if_eq F (tgt := 863) dL_isRefused_249 rfl (by omega) (fun c249 => by exfalso; omega) (fun c249 => ?_)
  refine jj_aload0 F dL_isRefused_252 ?_
  refine jj_iconst F dL_isRefused_253 ?_
  refine jj_iload8 F dL_isRefused_254 ?_
  refine jj_iconst F dL_isRefused_256 ?_
  refine jj_iconst F dL_isRefused_257 ?_
  refine jj_iconst F dL_isRefused_258 ?_
  refine ln_no F (ka_fire F.tr hP hI (by omega)) 1 (by unfold t_vault; rw [if_neg (by omega)]) (by decide) (fun h => by rw [h]; rfl) (k := 1184) (n0 := 7410) ⟨Nat.le_of_ble_eq_true rfl, Nat.le_of_ble_eq_true rfl, Nat.le_of_ble_eq_true rfl, Nat.le_of_ble_eq_true rfl, Nat.le_of_ble_eq_true rfl, Nat.le_of_ble_eq_true rfl, Nat.le_of_ble_eq_true rfl⟩ dL_isRefused_259 (fun G hP => ?_)
  refine jj_if_eq F (tgt := 863) dL_isRefused_262 rfl (by omega) (fun c262 => by exfalso; omega) (fun c262 => ?_)
  refine jj_aload0 F dL_isRefused_265 ?_
  refine jj_iconst F dL_isRefused_266 ?_
  refine jj_iload4 F dL_isRefused_267 ?_
  refine jj_bipush F (by decide) dL_isRefused_269 ?_
  refine jj_iconst F dL_isRefused_271 ?_
  refine jj_iconst F dL_isRefused_272 ?_
  refine ln_no F (ka_tapeIs F.tr hP hI (by omega) (by omega)) 1 (by unfold t_tapeIs; rw [if_pos (by omega)]) (by decide) (fun h => by rw [h]; rfl) (k := 1196) (n0 := 7540) ⟨Nat.le_of_ble_eq_true rfl, Nat.le_of_ble_eq_true rfl, Nat.le_of_ble_eq_true rfl, Nat.le_of_ble_eq_true rfl, Nat.le_of_ble_eq_true rfl, Nat.le_of_ble_eq_true rfl, Nat.le_of_ble_eq_true rfl⟩ dL_isRefused_273 (fun G hP => ?_)
  refine jj_if_eq F (tgt := 863) dL_isRefused_276 rfl (by omega) (fun c276 => by exfalso; omega) (fun c276 => ?_)
  refine jj_aload0 F dL_isRefused_279 ?_
  refine jj_bipush F (by decide) dL_isRefused_280 ?_
  refine jj_iload4 F dL_isRefused_282 ?_
  refine jj_iconst F dL_isRefused_284 ?_
  refine jj_iconst F dL_isRefused_285 ?_
  refine jj_iconst F dL_isRefused_286 ?_
  refine ln_no F (ka_heard F.tr hP hI (by omega) (by omega)) 1 (by unfold t_heard; rw [if_pos (by omega)]) (by decide) (fun h => by rw [h]; rfl) (k := 1208) (n0 := 7670) ⟨Nat.le_of_ble_eq_true rfl, Nat.le_of_ble_eq_true rfl, Nat.le_of_ble_eq_true rfl, Nat.le_of_ble_eq_true rfl, Nat.le_of_ble_eq_true rfl, Nat.le_of_ble_eq_true rfl, Nat.le_of_ble_eq_true rfl⟩ dL_isRefused_287 (fun G hP => ?_)
  refine jj_if_eq F (tgt := 863) dL_isRefused_290 rfl (by omega) (fun c290 => by exfalso; omega) (fun c290 => ?_)
  refine jj_aload0 F dL_isRefused_293 ?_
  refine jj_bipush F (by decide) dL_isRefused_294 ?_
  refine jj_iload4 F dL_isRefused_296 ?_
  refine jj_iconst F dL_isRefused_298 ?_
  refine jj_iconst F dL_isRefused_299 ?_
  refine jj_iconst F dL_isRefused_300 ?_
  refine ln_no F (ka_takes F.tr hP hI (by omega)) 1 (by unfold t_is; rw [if_neg (by omega)]) (by decide) (fun h => by rw [h]; rfl) (k := 1220) (n0 := 7800) ⟨Nat.le_of_ble_eq_true rfl, Nat.le_of_ble_eq_true rfl, Nat.le_of_ble_eq_true rfl, Nat.le_of_ble_eq_true rfl, Nat.le_of_ble_eq_true rfl, Nat.le_of_ble_eq_true rfl, Nat.le_of_ble_eq_true rfl⟩ dL_isRefused_301 (fun G hP => ?_)
  refine jj_if_eq F (tgt := 863) dL_isRefused_304 rfl (by omega) (fun c304 => by exfalso; omega) (fun c304 => ?_)
  refine jj_aload0 F dL_isRefused_307 ?_
  refine jj_bipush F (by decide) dL_isRefused_308 ?_
  refine jj_iload4 F dL_isRefused_310 ?_
  refine jj_iconst F dL_isRefused_312 ?_
  refine jj_iconst F dL_isRefused_313 ?_
  refine jj_iconst F dL_isRefused_314 ?_
  refine ln_no F (ka_takesAnew F.tr hP hI (by omega)) 1 (by unfold t_is; rw [if_neg (by omega)]) (by decide) (fun h => by rw [h]; rfl) (k := 1232) (n0 := 7930) ⟨Nat.le_of_ble_eq_true rfl, Nat.le_of_ble_eq_true rfl, Nat.le_of_ble_eq_true rfl, Nat.le_of_ble_eq_true rfl, Nat.le_of_ble_eq_true rfl, Nat.le_of_ble_eq_true rfl, Nat.le_of_ble_eq_true rfl⟩ dL_isRefused_315 (fun G hP => ?_)
  refine jj_if_eq F (tgt := 863) dL_isRefused_318 rfl (by omega) (fun c318 => by exfalso; omega) (fun c318 => ?_)
  refine jj_aload0 F dL_isRefused_321 ?_
  refine jj_bipush F (by decide) dL_isRefused_322 ?_
  refine jj_iload4 F dL_isRefused_324 ?_
  refine jj_iconst F dL_isRefused_326 ?_
  refine jj_iconst F dL_isRefused_327 ?_
  refine jj_iconst F dL_isRefused_328 ?_
  refine ln_no F (ka_isLost F.tr hP hI (by omega)) 1 (by unfold t_isLost; rw [if_neg (by omega)]) (by decide) (fun h => by rw [h]; rfl) (k := 1244) (n0 := 8060) ⟨Nat.le_of_ble_eq_true rfl, Nat.le_of_ble_eq_true rfl, Nat.le_of_ble_eq_true rfl, Nat.le_of_ble_eq_true rfl, Nat.le_of_ble_eq_true rfl, Nat.le_of_ble_eq_true rfl, Nat.le_of_ble_eq_true rfl⟩ dL_isRefused_329 (fun G hP => ?_)
  refine jj_if_eq F (tgt := 863) dL_isRefused_332 rfl (by omega) (fun c332 => by exfalso; omega) (fun c332 => ?_)
  refine jj_aload0 F dL_isRefused_335 ?_
  refine jj_bipush F (by decide) dL_isRefused_336 ?_
  refine jj_iload4 F dL_isRefused_338 ?_
  refine jj_iconst F dL_isRefused_340 ?_
  refine jj_iconst F dL_isRefused_341 ?_
  refine jj_iconst F dL_isRefused_342 ?_
  refine ln_no F (ka_add F.tr hP hI (by omega)) 1 (by unfold t_add; rw [if_pos (by omega)]) (by decide) (fun h => by rw [h]; rfl) (k := 1256) (n0 := 8190) ⟨Nat.le_of_ble_eq_true rfl, Nat.le_of_ble_eq_true rfl, Nat.le_of_ble_eq_true rfl, Nat.le_of_ble_eq_true rfl, Nat.le_of_ble_eq_true rfl, Nat.le_of_ble_eq_true rfl, Nat.le_of_ble_eq_true rfl⟩ dL_isRefused_343 (fun G hP => ?_)
  refine jj_if_eq F (tgt := 863) dL_isRefused_346 rfl (by omega) (fun c346 => by exfalso; omega) (fun c346 => ?_)
  refine jj_aload0 F dL_isRefused_349 ?_
  refine jj_bipush F (by decide) dL_isRefused_350 ?_
  refine jj_iload3 F dL_isRefused_352 ?_
  refine jj_if_eq F (tgt := 365) dL_isRefused_353 rfl (by omega) (fun c353 => ?_) (fun c353 => by exfalso; omega)
  refine jj_bipush F (by decide) dL_isRefused_365 ?_
  refine jj_iconst F dL_isRefused_367 ?_
  refine jj_iconst F dL_isRefused_368 ?_
  refine jj_iconst F dL_isRefused_369 ?_
  refine ln_off F (ka_cut F.tr hP hI (by omega)) 1 (by unfold t_cut; rw [if_pos (by omega)]) (by decide) (fun h => by rw [h]; rfl) (k := 1268) (n0 := 8320) ⟨Nat.le_of_ble_eq_true rfl, Nat.le_of_ble_eq_true rfl, Nat.le_of_ble_eq_true rfl, Nat.le_of_ble_eq_true rfl, Nat.le_of_ble_eq_true rfl, Nat.le_of_ble_eq_true rfl, Nat.le_of_ble_eq_true rfl⟩ dL_isRefused_370 (fun G hP => ?_)
  refine jj_if_eq F (tgt := 863) dL_isRefused_373 rfl (by omega) (fun c373 => by exfalso; omega) (fun c373 => ?_)
  refine jj_aload0 F dL_isRefused_376 ?_
  refine jj_bipush F (by decide) dL_isRefused_377 ?_
  refine jj_iload5 F dL_isRefused_379 ?_
  refine jj_iconst F dL_isRefused_381 ?_
  refine jj_iconst F dL_isRefused_382 ?_
  refine jj_iconst F dL_isRefused_383 ?_
  refine ln_no F (ka_seconds F.tr hP hI (by omega) (by omega)) 1 (by unfold t_seconds; rw [if_neg (by omega)]) (by decide) (fun h => by rw [h]; rfl) (k := 1280) (n0 := 8450) ⟨Nat.le_of_ble_eq_true rfl, Nat.le_of_ble_eq_true rfl, Nat.le_of_ble_eq_true rfl, Nat.le_of_ble_eq_true rfl, Nat.le_of_ble_eq_true rfl, Nat.le_of_ble_eq_true rfl, Nat.le_of_ble_eq_true rfl⟩ dL_isRefused_384 (fun G hP => ?_)
  refine jj_if_eq F (tgt := 863) dL_isRefused_387 rfl (by omega) (fun c387 => by exfalso; omega) (fun c387 => ?_)
  refine jj_aload0 F dL_isRefused_390 ?_
  refine jj_bipush F (by decide) dL_isRefused_391 ?_
  refine jj_iload5 F dL_isRefused_393 ?_
  refine jj_iconst F dL_isRefused_395 ?_
  refine jj_iconst F dL_isRefused_396 ?_
  refine jj_iconst F dL_isRefused_397 ?_
  refine ln_no F (ka_stamper F.tr hP hI (by omega) (by omega) (by omega)) 1 (by unfold t_stamper; rw [if_pos (fun hz => by obtain ⟨w1, w2, w3⟩ := hz; omega)]) (by decide) (fun h => by rw [h]; rfl) (k := 1292) (n0 := 8580) ⟨Nat.le_of_ble_eq_true rfl, Nat.le_of_ble_eq_true rfl, Nat.le_of_ble_eq_true rfl, Nat.le_of_ble_eq_true rfl, Nat.le_of_ble_eq_true rfl, Nat.le_of_ble_eq_true rfl, Nat.le_of_ble_eq_true rfl⟩ dL_isRefused_398 (fun G hP => ?_)
  refine jj_if_eq F (tgt := 863) dL_isRefused_401 rfl (by omega) (fun c401 => by exfalso; omega) (fun c401 => ?_)
  refine jj_aload0 F dL_isRefused_404 ?_
  refine jj_bipush F (by decide) dL_isRefused_405 ?_
  refine jj_iload5 F dL_isRefused_407 ?_
  refine jj_iconst F dL_isRefused_409 ?_
  refine jj_iconst F dL_isRefused_410 ?_
  refine jj_iconst F dL_isRefused_411 ?_
  refine ln_no F (ka_press F.tr hP hI (by omega) (by omega) (by omega) (by omega)) 1 (by unfold t_press; rw [if_pos (fun hz => by obtain ⟨w1, w2, w3⟩ := hz; omega)]) (by decide) (fun h => by rw [h]; rfl) (k := 1304) (n0 := 8710) ⟨Nat.le_of_ble_eq_true rfl, Nat.le_of_ble_eq_true rfl, Nat.le_of_ble_eq_true rfl, Nat.le_of_ble_eq_true rfl, Nat.le_of_ble_eq_true rfl, Nat.le_of_ble_eq_true rfl, Nat.le_of_ble_eq_true rfl⟩ dL_isRefused_412 (fun G hP => ?_)
  refine jj_if_eq F (tgt := 863) dL_isRefused_415 rfl (by omega) (fun c415 => by exfalso; omega) (fun c415 => ?_)
  refine jj_aload0 F dL_isRefused_418 ?_
  refine jj_bipush F (by decide) dL_isRefused_419 ?_
  refine jj_iload5 F dL_isRefused_421 ?_
  refine jj_iconst F dL_isRefused_423 ?_
  refine jj_iconst F dL_isRefused_424 ?_
  refine jj_bipush F (by decide) dL_isRefused_425 ?_
  refine ln_no F (ka_stamperIs F.tr hP hI (by omega) (by omega) (by omega) (by omega)) 1 (by unfold t_stamperIs; rw [if_pos (fun hz => by obtain ⟨w1, w2, w3⟩ := hz; omega)]) (by decide) (fun h => by rw [h]; rfl) (k := 1316) (n0 := 8840) ⟨Nat.le_of_ble_eq_true rfl, Nat.le_of_ble_eq_true rfl, Nat.le_of_ble_eq_true rfl, Nat.le_of_ble_eq_true rfl, Nat.le_of_ble_eq_true rfl, Nat.le_of_ble_eq_true rfl, Nat.le_of_ble_eq_true rfl⟩ dL_isRefused_427 (fun G hP => ?_)
  refine jj_if_eq F (tgt := 863) dL_isRefused_430 rfl (by omega) (fun c430 => by exfalso; omega) (fun c430 => ?_)
  refine jj_aload0 F dL_isRefused_433 ?_
  refine jj_bipush F (by decide) dL_isRefused_434 ?_
  refine jj_iload5 F dL_isRefused_436 ?_
  refine jj_iconst F dL_isRefused_438 ?_
  refine jj_iconst F dL_isRefused_439 ?_
  refine jj_iconst F dL_isRefused_440 ?_
  refine ln_no F (ka_sell F.tr hP hI (by omega) (by omega) (by omega) (by omega)) 1 (by unfold t_sell; rw [if_pos (fun hz => by obtain ⟨w1, w2, w3⟩ := hz; omega)]) (by decide) (fun h => by rw [h]; rfl) (k := 1328) (n0 := 8970) ⟨Nat.le_of_ble_eq_true rfl, Nat.le_of_ble_eq_true rfl, Nat.le_of_ble_eq_true rfl, Nat.le_of_ble_eq_true rfl, Nat.le_of_ble_eq_true rfl, Nat.le_of_ble_eq_true rfl, Nat.le_of_ble_eq_true rfl⟩ dL_isRefused_441 (fun G hP => ?_)
  refine jj_if_eq F (tgt := 863) dL_isRefused_444 rfl (by omega) (fun c444 => by exfalso; omega) (fun c444 => ?_)
  refine jj_aload0 F dL_isRefused_447 ?_
  refine jj_bipush F (by decide) dL_isRefused_448 ?_
  refine jj_iload5 F dL_isRefused_450 ?_
  refine jj_iconst F dL_isRefused_452 ?_
  refine jj_iconst F dL_isRefused_453 ?_
  refine jj_iconst F dL_isRefused_454 ?_
  refine ln_no F (ka_back F.tr hP hI (by omega) (by omega) (by omega) (by omega) hj) 1 (by unfold t_back; rw [if_pos (fun hz => by obtain ⟨w1, w2, w3⟩ := hz; omega)]) (by decide) (fun h => by rw [h]; rfl) (k := 1340) (n0 := 9100) ⟨Nat.le_of_ble_eq_true rfl, Nat.le_of_ble_eq_true rfl, Nat.le_of_ble_eq_true rfl, Nat.le_of_ble_eq_true rfl, Nat.le_of_ble_eq_true rfl, Nat.le_of_ble_eq_true rfl, Nat.le_of_ble_eq_true rfl⟩ dL_isRefused_455 (fun G hP => ?_)
  refine jj_if_eq F (tgt := 863) dL_isRefused_458 rfl (by omega) (fun c458 => by exfalso; omega) (fun c458 => ?_)
  refine jj_aload0 F dL_isRefused_461 ?_
  refine jj_bipush F (by decide) dL_isRefused_462 ?_
  refine jj_iload5 F dL_isRefused_464 ?_
  refine jj_iconst F dL_isRefused_466 ?_
  refine jj_iconst F dL_isRefused_467 ?_
  refine jj_iconst F dL_isRefused_468 ?_
  refine ln_no F (ka_disc F.tr hP hI (by omega) (by omega) (by omega)) 1 (by unfold t_disc; rw [if_pos (fun hz => by obtain ⟨w1, w2, w3⟩ := hz; omega)]) (by decide) (fun h => by rw [h]; rfl) (k := 1352) (n0 := 9230) ⟨Nat.le_of_ble_eq_true rfl, Nat.le_of_ble_eq_true rfl, Nat.le_of_ble_eq_true rfl, Nat.le_of_ble_eq_true rfl, Nat.le_of_ble_eq_true rfl, Nat.le_of_ble_eq_true rfl, Nat.le_of_ble_eq_true rfl⟩ dL_isRefused_469 (fun G hP => ?_)
  refine jj_if_eq F (tgt := 863) dL_isRefused_472 rfl (by omega) (fun c472 => by exfalso; omega) (fun c472 => ?_)
  refine jj_aload0 F dL_isRefused_475 ?_
  refine jj_bipush F (by decide) dL_isRefused_476 ?_
  refine jj_iload6 F dL_isRefused_478 ?_
  refine jj_bipush F (by decide) dL_isRefused_480 ?_
  refine jj_bipush F (by decide) dL_isRefused_482 ?_
  refine jj_iconst F dL_isRefused_484 ?_
  refine ln_no F (ka_play F.tr hP hI (by omega) (by omega) (by omega)) 1 (by unfold t_play; rw [if_pos (by omega)]) (by decide) (fun h => by rw [h]; rfl) (k := 1364) (n0 := 9360) ⟨Nat.le_of_ble_eq_true rfl, Nat.le_of_ble_eq_true rfl, Nat.le_of_ble_eq_true rfl, Nat.le_of_ble_eq_true rfl, Nat.le_of_ble_eq_true rfl, Nat.le_of_ble_eq_true rfl, Nat.le_of_ble_eq_true rfl⟩ dL_isRefused_485 (fun G hP => ?_)
  refine jj_if_eq F (tgt := 863) dL_isRefused_488 rfl (by omega) (fun c488 => by exfalso; omega) (fun c488 => ?_)
  refine jj_aload0 F dL_isRefused_491 ?_
  refine jj_bipush F (by decide) dL_isRefused_492 ?_
  refine jj_iload6 F dL_isRefused_494 ?_
  refine jj_iconst F dL_isRefused_496 ?_
  refine jj_iconst F dL_isRefused_497 ?_
  refine jj_iconst F dL_isRefused_498 ?_
  refine ln_no F (ka_scratch F.tr hP hI (by omega) (by omega)) 1 (by unfold t_scr; rw [if_neg (by omega)]) (by decide) (fun h => by rw [h]; rfl) (k := 1376) (n0 := 9490) ⟨Nat.le_of_ble_eq_true rfl, Nat.le_of_ble_eq_true rfl, Nat.le_of_ble_eq_true rfl, Nat.le_of_ble_eq_true rfl, Nat.le_of_ble_eq_true rfl, Nat.le_of_ble_eq_true rfl, Nat.le_of_ble_eq_true rfl⟩ dL_isRefused_499 (fun G hP => ?_)
  refine jj_if_eq F (tgt := 863) dL_isRefused_502 rfl (by omega) (fun c502 => by exfalso; omega) (fun c502 => ?_)
  refine jj_aload0 F dL_isRefused_505 ?_
  refine jj_bipush F (by decide) dL_isRefused_506 ?_
  refine jj_iload6 F dL_isRefused_508 ?_
  refine jj_iconst F dL_isRefused_510 ?_
  refine jj_iconst F dL_isRefused_511 ?_
  refine jj_iconst F dL_isRefused_512 ?_
  refine ln_no F (ka_noise F.tr hP hI (by omega) (by omega)) 1 (by unfold t_scr; rw [if_neg (by omega)]) (by decide) (fun h => by rw [h]; rfl) (k := 1388) (n0 := 9620) ⟨Nat.le_of_ble_eq_true rfl, Nat.le_of_ble_eq_true rfl, Nat.le_of_ble_eq_true rfl, Nat.le_of_ble_eq_true rfl, Nat.le_of_ble_eq_true rfl, Nat.le_of_ble_eq_true rfl, Nat.le_of_ble_eq_true rfl⟩ dL_isRefused_513 (fun G hP => ?_)
  refine jj_if_eq F (tgt := 863) dL_isRefused_516 rfl (by omega) (fun c516 => by exfalso; omega) (fun c516 => ?_)
  refine jj_aload0 F dL_isRefused_519 ?_
  refine jj_bipush F (by decide) dL_isRefused_520 ?_
  refine jj_iload6 F dL_isRefused_522 ?_
  refine jj_iconst F dL_isRefused_524 ?_
  refine jj_iconst F dL_isRefused_525 ?_
  refine jj_iconst F dL_isRefused_526 ?_
  refine ln_no F (ka_grade F.tr hP hI (by omega)) 1 (by unfold t_grade; rw [if_neg (by omega)]) (by decide) (fun h => by rw [h]; rfl) (k := 1400) (n0 := 9750) ⟨Nat.le_of_ble_eq_true rfl, Nat.le_of_ble_eq_true rfl, Nat.le_of_ble_eq_true rfl, Nat.le_of_ble_eq_true rfl, Nat.le_of_ble_eq_true rfl, Nat.le_of_ble_eq_true rfl, Nat.le_of_ble_eq_true rfl⟩ dL_isRefused_527 (fun G hP => ?_)
  refine jj_if_eq F (tgt := 863) dL_isRefused_530 rfl (by omega) (fun c530 => by exfalso; omega) (fun c530 => ?_)
  refine jj_aload0 F dL_isRefused_533 ?_
  refine jj_bipush F (by decide) dL_isRefused_534 ?_
  refine jj_iconst F dL_isRefused_536 ?_
  refine jj_iload9 F dL_isRefused_537 ?_
  refine jj_iconst F dL_isRefused_539 ?_
  refine jj_iconst F dL_isRefused_540 ?_
  refine ln_no F (ka_join F.tr hP hI (by omega) (by omega)) 1 (by unfold t_join; rw [if_pos (by omega)]) (by decide) (fun h => by rw [h]; rfl) (k := 1412) (n0 := 9880) ⟨Nat.le_of_ble_eq_true rfl, Nat.le_of_ble_eq_true rfl, Nat.le_of_ble_eq_true rfl, Nat.le_of_ble_eq_true rfl, Nat.le_of_ble_eq_true rfl, Nat.le_of_ble_eq_true rfl, Nat.le_of_ble_eq_true rfl⟩ dL_isRefused_541 (fun G hP => ?_)
  refine jj_if_eq F (tgt := 863) dL_isRefused_544 rfl (by omega) (fun c544 => by exfalso; omega) (fun c544 => ?_)
  refine jj_aload0 F dL_isRefused_547 ?_
  refine jj_bipush F (by decide) dL_isRefused_548 ?_
  refine jj_iload3 F dL_isRefused_550 ?_
  refine jj_if_eq F (tgt := 558) dL_isRefused_551 rfl (by omega) (fun c551 => ?_) (fun c551 => by exfalso; omega)
  refine jj_iconst F dL_isRefused_558 ?_
  refine jj_aload1 F dL_isRefused_559 ?_
  refine jj_iconst F dL_isRefused_560 ?_
  refine jm_ald F hP (by omega) dL_isRefused_561 ?_
  refine jj_iload2 F dL_isRefused_562 ?_
  refine jj_bipush F (by decide) dL_isRefused_563 ?_
  refine jj_irem F (by omega) dL_isRefused_565 ?_
  refine jj_iadd F dL_isRefused_566 ?_
  refine jj_ishl F dL_isRefused_567 ?_
  refine jj_topi (jI_of _) ?_
  have hare : sAre s (jI 1 <<< (jI (m 3 + x % 9) &&& 31)).toInt = 0 := sAre_out b3 (by omega)
  have hqr := jI_rng (jI 1 <<< (jI (m 3 + x % 9) &&& 31))
  generalize (jI 1 <<< (jI (m 3 + x % 9) &&& 31)).toInt = vQ at hare hqr ⊢
  refine jj_iload2 F dL_isRefused_568 ?_
  refine jj_bipush F (by decide) dL_isRefused_569 ?_
  refine jj_irem F (by omega) dL_isRefused_571 ?_
  refine jj_iconst F dL_isRefused_572 ?_
  refine jj_iconst F dL_isRefused_573 ?_
  refine ln_off F (ka_join F.tr hP hI (by omega) (by omega)) 2 (by unfold t_join; rw [if_neg (by omega), if_pos hare]) (by decide) (fun h => by rw [h]; rfl) (k := 1424) (n0 := 10010) ⟨Nat.le_of_ble_eq_true rfl, Nat.le_of_ble_eq_true rfl, Nat.le_of_ble_eq_true rfl, Nat.le_of_ble_eq_true rfl, Nat.le_of_ble_eq_true rfl, Nat.le_of_ble_eq_true rfl, Nat.le_of_ble_eq_true rfl⟩ dL_isRefused_574 (fun G hP => ?_)
  refine jj_if_eq F (tgt := 863) dL_isRefused_577 rfl (by omega) (fun c577 => by exfalso; omega) (fun c577 => ?_)
  refine jj_aload0 F dL_isRefused_580 ?_
  refine jj_bipush F (by decide) dL_isRefused_581 ?_
  refine jj_iload3 F dL_isRefused_583 ?_
  refine jj_if_eq F (tgt := 591) dL_isRefused_584 rfl (by omega) (fun c584 => ?_) (fun c584 => by exfalso; omega)
  refine jj_iconst F dL_isRefused_591 ?_
  refine jj_aload1 F dL_isRefused_592 ?_
  refine jj_iconst F dL_isRefused_593 ?_
  refine jm_ald F hP (by omega) dL_isRefused_594 ?_
  refine jj_iload2 F dL_isRefused_595 ?_
  refine jj_bipush F (by decide) dL_isRefused_596 ?_
  refine jj_irem F (by omega) dL_isRefused_598 ?_
  refine jj_iadd F dL_isRefused_599 ?_
  refine jj_ishl F dL_isRefused_600 ?_
  refine jj_topi (jI_of _) ?_
  have hare : sAre s (jI 1 <<< (jI (m 3 + x % 9) &&& 31)).toInt = 0 := sAre_out b3 (by omega)
  have hqr := jI_rng (jI 1 <<< (jI (m 3 + x % 9) &&& 31))
  generalize (jI 1 <<< (jI (m 3 + x % 9) &&& 31)).toInt = vQ at hare hqr ⊢
  refine jj_iconst F dL_isRefused_601 ?_
  refine jj_iconst F dL_isRefused_602 ?_
  refine jj_iconst F dL_isRefused_603 ?_
  refine ln_off F (ka_file F.tr hP hI (by omega)) 1 (by unfold t_file; rw [if_pos hare]) (by decide) (fun h => by rw [h]; rfl) (k := 1436) (n0 := 10140) ⟨Nat.le_of_ble_eq_true rfl, Nat.le_of_ble_eq_true rfl, Nat.le_of_ble_eq_true rfl, Nat.le_of_ble_eq_true rfl, Nat.le_of_ble_eq_true rfl, Nat.le_of_ble_eq_true rfl, Nat.le_of_ble_eq_true rfl⟩ dL_isRefused_604 (fun G hP => ?_)
  refine jj_if_eq F (tgt := 863) dL_isRefused_607 rfl (by omega) (fun c607 => by exfalso; omega) (fun c607 => ?_)
  refine jj_aload0 F dL_isRefused_610 ?_
  refine jj_bipush F (by decide) dL_isRefused_611 ?_
  refine jj_iload9 F dL_isRefused_613 ?_
  refine jj_iconst F dL_isRefused_615 ?_
  refine jj_iconst F dL_isRefused_616 ?_
  refine jj_iconst F dL_isRefused_617 ?_
  refine ln_no F (ka_repair F.tr hP hI (by omega)) 1 (by unfold t_repair; rw [if_pos (by omega)]) (by decide) (fun h => by rw [h]; rfl) (k := 1448) (n0 := 10270) ⟨Nat.le_of_ble_eq_true rfl, Nat.le_of_ble_eq_true rfl, Nat.le_of_ble_eq_true rfl, Nat.le_of_ble_eq_true rfl, Nat.le_of_ble_eq_true rfl, Nat.le_of_ble_eq_true rfl, Nat.le_of_ble_eq_true rfl⟩ dL_isRefused_618 (fun G hP => ?_)
  refine jj_if_eq F (tgt := 863) dL_isRefused_621 rfl (by omega) (fun c621 => by exfalso; omega) (fun c621 => ?_)
  refine jj_aload0 F dL_isRefused_624 ?_
  refine jj_bipush F (by decide) dL_isRefused_625 ?_
  refine jj_iload9 F dL_isRefused_627 ?_
  refine jj_iconst F dL_isRefused_629 ?_
  refine jj_iconst F dL_isRefused_630 ?_
  refine jj_iconst F dL_isRefused_631 ?_
  refine ln_no F (ka_fileIs F.tr hP hI (by omega)) 1 (by unfold t_part; rw [if_neg (by omega)]) (by decide) (fun h => by rw [h]; rfl) (k := 1460) (n0 := 10400) ⟨Nat.le_of_ble_eq_true rfl, Nat.le_of_ble_eq_true rfl, Nat.le_of_ble_eq_true rfl, Nat.le_of_ble_eq_true rfl, Nat.le_of_ble_eq_true rfl, Nat.le_of_ble_eq_true rfl, Nat.le_of_ble_eq_true rfl⟩ dL_isRefused_632 (fun G hP => ?_)
  refine jj_if_eq F (tgt := 863) dL_isRefused_635 rfl (by omega) (fun c635 => by exfalso; omega) (fun c635 => ?_)
  refine jj_aload0 F dL_isRefused_638 ?_
  refine jj_bipush F (by decide) dL_isRefused_639 ?_
  refine jj_iload7 F dL_isRefused_641 ?_
  refine jj_iconst F dL_isRefused_643 ?_
  refine jj_iconst F dL_isRefused_644 ?_
  refine jj_iconst F dL_isRefused_645 ?_
  refine ln_no F (ka_contract F.tr hP hI (by omega) (by omega) (by omega)) 1 (by unfold t_contract; rw [if_pos (by omega)]) (by decide) (fun h => by rw [h]; rfl) (k := 1472) (n0 := 10530) ⟨Nat.le_of_ble_eq_true rfl, Nat.le_of_ble_eq_true rfl, Nat.le_of_ble_eq_true rfl, Nat.le_of_ble_eq_true rfl, Nat.le_of_ble_eq_true rfl, Nat.le_of_ble_eq_true rfl, Nat.le_of_ble_eq_true rfl⟩ dL_isRefused_646 (fun G hP => ?_)
  refine jj_if_eq F (tgt := 863) dL_isRefused_649 rfl (by omega) (fun c649 => by exfalso; omega) (fun c649 => ?_)
  refine jj_aload0 F dL_isRefused_652 ?_
  refine jj_bipush F (by decide) dL_isRefused_653 ?_
  refine jj_iload2 F dL_isRefused_655 ?_
  refine jj_bipush F (by decide) dL_isRefused_656 ?_
  refine jj_irem F (by omega) dL_isRefused_658 ?_
  refine jj_iload3 F dL_isRefused_659 ?_
  refine jj_if_eq F (tgt := 672) dL_isRefused_660 rfl (by omega) (fun c660 => ?_) (fun c660 => by exfalso; omega)
  refine jj_sipush F (by decide) dL_isRefused_672 ?_
  refine jj_iconst F dL_isRefused_675 ?_
  refine jj_iconst F dL_isRefused_676 ?_
  refine ln_off F (ka_contract F.tr hP hI (by omega) (by omega) (by omega)) 2 (by unfold t_contract; rw [if_neg (by omega), if_neg (by omega)]) (by decide) (fun h => by rw [h]; rfl) (k := 1484) (n0 := 10660) ⟨Nat.le_of_ble_eq_true rfl, Nat.le_of_ble_eq_true rfl, Nat.le_of_ble_eq_true rfl, Nat.le_of_ble_eq_true rfl, Nat.le_of_ble_eq_true rfl, Nat.le_of_ble_eq_true rfl, Nat.le_of_ble_eq_true rfl⟩ dL_isRefused_677 (fun G hP => ?_)
  refine jj_if_eq F (tgt := 863) dL_isRefused_680 rfl (by omega) (fun c680 => by exfalso; omega) (fun c680 => ?_)
  refine jj_aload0 F dL_isRefused_683 ?_
  refine jj_bipush F (by decide) dL_isRefused_684 ?_
  refine jj_iload2 F dL_isRefused_686 ?_
  refine jj_bipush F (by decide) dL_isRefused_687 ?_
  refine jj_irem F (by omega) dL_isRefused_689 ?_
  refine jj_iconst F dL_isRefused_690 ?_
  refine jj_iload3 F dL_isRefused_691 ?_
  refine jj_if_eq F (tgt := 699) dL_isRefused_692 rfl (by omega) (fun c692 => ?_) (fun c692 => by exfalso; omega)
  refine jj_ldc F (v := 1000000) cn_L_152 (by decide) dL_isRefused_699 ?_
  refine jj_iload2 F dL_isRefused_701 ?_
  refine jj_bipush F (by decide) dL_isRefused_702 ?_
  refine jj_irem F (by omega) dL_isRefused_704 ?_
  refine jj_iadd F dL_isRefused_705 ?_
  refine jj_iconst F dL_isRefused_706 ?_
  refine ln_off F (ka_contract F.tr hP hI (by omega) (by omega) (by omega)) 2 (by unfold t_contract; rw [if_neg (by omega), if_neg (by omega)]) (by decide) (fun h => by rw [h]; rfl) (k := 1496) (n0 := 10790) ⟨Nat.le_of_ble_eq_true rfl, Nat.le_of_ble_eq_true rfl, Nat.le_of_ble_eq_true rfl, Nat.le_of_ble_eq_true rfl, Nat.le_of_ble_eq_true rfl, Nat.le_of_ble_eq_true rfl, Nat.le_of_ble_eq_true rfl⟩ dL_isRefused_707 (fun G hP => ?_)
  refine jj_if_eq F (tgt := 863) dL_isRefused_710 rfl (by omega) (fun c710 => by exfalso; omega) (fun c710 => ?_)
  refine jj_aload0 F dL_isRefused_713 ?_
  refine jj_bipush F (by decide) dL_isRefused_714 ?_
  refine jj_iload7 F dL_isRefused_716 ?_
  refine jj_iconst F dL_isRefused_718 ?_
  refine jj_iconst F dL_isRefused_719 ?_
  refine jj_iconst F dL_isRefused_720 ?_
  refine ln_no F (ka_account F.tr hP hI (by omega)) 1 (by unfold t_artist; rw [if_neg (by omega)]) (by decide) (fun h => by rw [h]; rfl) (k := 1508) (n0 := 10920) ⟨Nat.le_of_ble_eq_true rfl, Nat.le_of_ble_eq_true rfl, Nat.le_of_ble_eq_true rfl, Nat.le_of_ble_eq_true rfl, Nat.le_of_ble_eq_true rfl, Nat.le_of_ble_eq_true rfl, Nat.le_of_ble_eq_true rfl⟩ dL_isRefused_721 (fun G hP => ?_)
  refine jj_if_eq F (tgt := 863) dL_isRefused_724 rfl (by omega) (fun c724 => by exfalso; omega) (fun c724 => ?_)
  refine jj_aload0 F dL_isRefused_727 ?_
  refine jj_bipush F (by decide) dL_isRefused_728 ?_
  refine jj_iload7 F dL_isRefused_730 ?_
  refine jj_iconst F dL_isRefused_732 ?_
  refine jj_iconst F dL_isRefused_733 ?_
  refine jj_iconst F dL_isRefused_734 ?_
  refine ln_no F (ka_accountAnew F.tr hP hI (by omega)) 1 (by unfold t_artist; rw [if_neg (by omega)]) (by decide) (fun h => by rw [h]; rfl) (k := 1520) (n0 := 11050) ⟨Nat.le_of_ble_eq_true rfl, Nat.le_of_ble_eq_true rfl, Nat.le_of_ble_eq_true rfl, Nat.le_of_ble_eq_true rfl, Nat.le_of_ble_eq_true rfl, Nat.le_of_ble_eq_true rfl, Nat.le_of_ble_eq_true rfl⟩ dL_isRefused_735 (fun G hP => ?_)
  refine jj_if_eq F (tgt := 863) dL_isRefused_738 rfl (by omega) (fun c738 => by exfalso; omega) (fun c738 => ?_)
  refine jj_aload0 F dL_isRefused_741 ?_
  refine jj_bipush F (by decide) dL_isRefused_742 ?_
  refine jj_iload7 F dL_isRefused_744 ?_
  refine jj_iconst F dL_isRefused_746 ?_
  refine jj_iconst F dL_isRefused_747 ?_
  refine jj_iconst F dL_isRefused_748 ?_
  refine ln_no F (ka_payOut F.tr hP hI (by omega) hj) 1 (by unfold t_artist; rw [if_neg (by omega)]) (by decide) (fun h => by rw [h]; rfl) (k := 1532) (n0 := 11180) ⟨Nat.le_of_ble_eq_true rfl, Nat.le_of_ble_eq_true rfl, Nat.le_of_ble_eq_true rfl, Nat.le_of_ble_eq_true rfl, Nat.le_of_ble_eq_true rfl, Nat.le_of_ble_eq_true rfl, Nat.le_of_ble_eq_true rfl⟩ dL_isRefused_749 (fun G hP => ?_)
  refine jj_if_eq F (tgt := 863) dL_isRefused_752 rfl (by omega) (fun c752 => by exfalso; omega) (fun c752 => ?_)
  refine jj_aload0 F dL_isRefused_755 ?_
  refine jj_bipush F (by decide) dL_isRefused_756 ?_
  refine jj_iload3 F dL_isRefused_758 ?_
  refine jj_if_eq F (tgt := 771) dL_isRefused_759 rfl (by omega) (fun c759 => ?_) (fun c759 => by exfalso; omega)
  refine jj_sipush F (by decide) dL_isRefused_771 ?_
  refine jj_iload2 F dL_isRefused_774 ?_
  refine jj_bipush F (by decide) dL_isRefused_775 ?_
  refine jj_irem F (by omega) dL_isRefused_777 ?_
  refine jj_iadd F dL_isRefused_778 ?_
  refine jj_iconst F dL_isRefused_779 ?_
  refine jj_iconst F dL_isRefused_780 ?_
  refine jj_iconst F dL_isRefused_781 ?_
  refine ln_off F (ka_pass F.tr hP hI (by omega)) 1 (by unfold t_pass; rw [if_pos (by omega)]) (by decide) (fun h => by rw [h]; rfl) (k := 1544) (n0 := 11310) ⟨Nat.le_of_ble_eq_true rfl, Nat.le_of_ble_eq_true rfl, Nat.le_of_ble_eq_true rfl, Nat.le_of_ble_eq_true rfl, Nat.le_of_ble_eq_true rfl, Nat.le_of_ble_eq_true rfl, Nat.le_of_ble_eq_true rfl⟩ dL_isRefused_782 (fun G hP => ?_)
  refine jj_if_eq F (tgt := 863) dL_isRefused_785 rfl (by omega) (fun c785 => by exfalso; omega) (fun c785 => ?_)
  refine jj_aload1 F dL_isRefused_788 ?_
  refine jj_iconst F dL_isRefused_789 ?_
  refine jm_ald F hP (by omega) dL_isRefused_790 ?_
  refine jj_iconst F dL_isRefused_791 ?_
  refine jj_meet 814 (1568) (11570) (WP (jj_ac X) A s e m g r) (fun G hP => ?_) (fun J814 => ?_)
  · skip
    refine jj_aload1 F dL_isRefused_814 ?_
    refine jj_iconst F dL_isRefused_815 ?_
    refine jm_ald F hP (by omega) dL_isRefused_816 ?_
    refine jj_meet 836 (1592) (11830) (WP (jj_ac X) A s e m g r) (fun G hP => ?_) (fun J836 => ?_)
    · skip
      refine jj_aload1 F dL_isRefused_836 ?_
      refine jj_iconst F dL_isRefused_837 ?_
      refine jm_ald F hP (by omega) dL_isRefused_838 ?_
      refine jj_bipush F (by decide) dL_isRefused_839 ?_
      refine jj_meet 859 (1616) (12090) (WP (jj_ac X) A s e m g r) (fun G hP => ?_) (fun J859 => ?_)
      · skip
        refine jj_iconst F dL_isRefused_859 ?_
        refine jj_goto F (tgt := 864) dL_isRefused_860 rfl ?_
        refine jj_istore12 F dL_isRefused_864 (hN _ (by decide)) rfl ?_
        refine jj_iconst F dL_isRefused_866 ?_
        refine jj_istore13 F dL_isRefused_867 (hN _ (by decide)) rfl ?_
        have phC : ∀ (G : jj_G) (x13 x14 x15 : Option Value), WP (jj_ac X) A s e m g r G → jj_J X G 4646 43900 1389 [some (.ref (A 0)), some (.ref (A 1)), some (.int (jI x)), some (.int (jI 0)), some (.int (jI vT)), some (.int (jI vU)), some (.int (jI vV)), some (.int (jI v6)), some (.int (jI v4)), some (.int (jI v8)), some (.long (jL (qAll s))), none, some (.int (jI 1)), x13, x14, x15] [] := by
          intro G x13 x14 x15 hP
          refine jj_iload12 F dL_isRefused_1389 ?_
          refine jj_if_eq F (tgt := 1496) dL_isRefused_1391 rfl (by omega) (fun c1391 => by exfalso; omega) (fun c1391 => ?_)
          refine jj_aload1 F dL_isRefused_1394 ?_
          refine jj_iconst F dL_isRefused_1395 ?_
          refine jm_ald F hP (by omega) dL_isRefused_1396 ?_
          refine jj_meet 1481 (4694) (44420) (WP (jj_ac X) A s e m g r) (fun G hP => ?_) (fun J1481 => ?_)
          · skip
            refine jj_aload0 F dL_isRefused_1481 ?_
            refine jj_aload1 F dL_isRefused_1482 ?_
            refine ll_all F hP hI ⟨hM1, hM2, hM3⟩ (k := 5794) (n0 := 50920) ⟨Nat.le_of_ble_eq_true rfl, Nat.le_of_ble_eq_true rfl, Nat.le_of_ble_eq_true rfl, Nat.le_of_ble_eq_true rfl, Nat.le_of_ble_eq_true rfl, Nat.le_of_ble_eq_true rfl, Nat.le_of_ble_eq_true rfl⟩ dL_isRefused_1483 (fun G hP => ?_)
            refine jj_lload10 F dL_isRefused_1486 ?_
            refine jj_lcmp F dL_isRefused_1488 ?_
            rw [lg_same]
            refine jj_if_ne F (tgt := 1496) dL_isRefused_1489 rfl (by omega) (fun c1489 => by exfalso; omega) (fun c1489 => ?_)
            refine jj_iconst F dL_isRefused_1492 ?_
            refine jj_goto F (tgt := 1497) dL_isRefused_1493 rfl ?_
            exact jj_zret B dL_isRefused_1497 ⟨Nat.le_of_ble_eq_true rfl, Nat.le_of_ble_eq_true rfl⟩ (Or.inr rfl) ⟨1, rfl, rfl, hP⟩
          · skip
            refine jj_if_eq F (tgt := 1481) dL_isRefused_1397 rfl (by omega) (fun c1397 => ?_) (fun c1397 => ?_)
            · skip
              exact jj_wide ⟨Nat.le_of_ble_eq_true rfl, Nat.le_of_ble_eq_true rfl⟩ (J1481 G hP)
            · skip
              refine jj_aload0 F dL_isRefused_1400 ?_
              refine jj_bipush F (by decide) dL_isRefused_1401 ?_
              refine jj_iconst F dL_isRefused_1403 ?_
              refine jj_iload3 F dL_isRefused_1404 ?_
              refine jj_if_eq F (tgt := 1417) dL_isRefused_1405 rfl (by omega) (fun c1405 => ?_) (fun c1405 => by exfalso; omega)
              refine jj_iconst F dL_isRefused_1417 ?_
              refine jj_iconst F dL_isRefused_1418 ?_
              refine jj_iconst F dL_isRefused_1419 ?_
              refine ln_off F (ka_play F.tr hP hI (by omega) (by omega) (by omega)) 2 (by unfold t_play; rw [if_neg (by omega), if_neg (by omega)]) (by decide) (fun h => by rw [h]; rfl) (k := 4658) (n0 := 44030) ⟨Nat.le_of_ble_eq_true rfl, Nat.le_of_ble_eq_true rfl, Nat.le_of_ble_eq_true rfl, Nat.le_of_ble_eq_true rfl, Nat.le_of_ble_eq_true rfl, Nat.le_of_ble_eq_true rfl, Nat.le_of_ble_eq_true rfl⟩ dL_isRefused_1420 (fun G hP => ?_)
              refine jj_if_eq F (tgt := 1496) dL_isRefused_1423 rfl (by omega) (fun c1423 => by exfalso; omega) (fun c1423 => ?_)
              refine jj_aload0 F dL_isRefused_1426 ?_
              refine jj_bipush F (by decide) dL_isRefused_1427 ?_
              refine jj_iconst F dL_isRefused_1429 ?_
              refine jj_iconst F dL_isRefused_1430 ?_
              refine jj_iload3 F dL_isRefused_1431 ?_
              refine jj_if_eq F (tgt := 1439) dL_isRefused_1432 rfl (by omega) (fun c1432 => ?_) (fun c1432 => by exfalso; omega)
              refine jj_bipush F (by decide) dL_isRefused_1439 ?_
              refine jj_iload2 F dL_isRefused_1441 ?_
              refine jj_bipush F (by decide) dL_isRefused_1442 ?_
              refine jj_irem F (by omega) dL_isRefused_1444 ?_
              refine jj_iadd F dL_isRefused_1445 ?_
              refine jj_iconst F dL_isRefused_1446 ?_
              refine ln_off F (ka_play F.tr hP hI (by omega) (by omega) (by omega)) 2 (by unfold t_play; rw [if_neg (by omega), if_neg (by omega)]) (by decide) (fun h => by rw [h]; rfl) (k := 4670) (n0 := 44160) ⟨Nat.le_of_ble_eq_true rfl, Nat.le_of_ble_eq_true rfl, Nat.le_of_ble_eq_true rfl, Nat.le_of_ble_eq_true rfl, Nat.le_of_ble_eq_true rfl, Nat.le_of_ble_eq_true rfl, Nat.le_of_ble_eq_true rfl⟩ dL_isRefused_1447 (fun G hP => ?_)
              refine jj_if_eq F (tgt := 1496) dL_isRefused_1450 rfl (by omega) (fun c1450 => by exfalso; omega) (fun c1450 => ?_)
              refine jj_aload0 F dL_isRefused_1453 ?_
              refine jj_bipush F (by decide) dL_isRefused_1454 ?_
              refine jj_iconst F dL_isRefused_1456 ?_
              refine jj_iload9 F dL_isRefused_1457 ?_
              refine jj_iconst F dL_isRefused_1459 ?_
              refine jj_iconst F dL_isRefused_1460 ?_
              refine ln_no F (ka_scratch F.tr hP hI (by omega) (by omega)) 1 (by unfold t_scr; rw [if_neg (by omega)]) (by decide) (fun h => by rw [h]; rfl) (k := 4682) (n0 := 44290) ⟨Nat.le_of_ble_eq_true rfl, Nat.le_of_ble_eq_true rfl, Nat.le_of_ble_eq_true rfl, Nat.le_of_ble_eq_true rfl, Nat.le_of_ble_eq_true rfl, Nat.le_of_ble_eq_true rfl, Nat.le_of_ble_eq_true rfl⟩ dL_isRefused_1461 (fun G hP => ?_)
              refine jj_if_eq F (tgt := 1496) dL_isRefused_1464 rfl (by omega) (fun c1464 => by exfalso; omega) (fun c1464 => ?_)
              refine jj_aload0 F dL_isRefused_1467 ?_
              refine jj_bipush F (by decide) dL_isRefused_1468 ?_
              refine jj_iconst F dL_isRefused_1470 ?_
              refine jj_iload9 F dL_isRefused_1471 ?_
              refine jj_iconst F dL_isRefused_1473 ?_
              refine jj_iconst F dL_isRefused_1474 ?_
              refine ln_no F (ka_noise F.tr hP hI (by omega) (by omega)) 1 (by unfold t_scr; rw [if_neg (by omega)]) (by decide) (fun h => by rw [h]; rfl) (k := 4694) (n0 := 44420) ⟨Nat.le_of_ble_eq_true rfl, Nat.le_of_ble_eq_true rfl, Nat.le_of_ble_eq_true rfl, Nat.le_of_ble_eq_true rfl, Nat.le_of_ble_eq_true rfl, Nat.le_of_ble_eq_true rfl, Nat.le_of_ble_eq_true rfl⟩ dL_isRefused_1475 (fun G hP => ?_)
              refine jj_if_eq F (tgt := 1496) dL_isRefused_1478 rfl (by omega) (fun c1478 => by exfalso; omega) (fun c1478 => ?_)
              exact jj_wide ⟨Nat.le_of_ble_eq_true rfl, Nat.le_of_ble_eq_true rfl⟩ (J1481 G hP)
        have phB : ∀ (n : Nat) (j : Int) (kc kn : Nat) (G : jj_G) (x14 x15 : Option Value), WP (jj_ac X) A s e m g r G → 0 ≤ j ∧ s 13 0 - j ≤ n ∧ j ≤ 100 → kc + 99 * n ≤ 4646 → kn + 1058 * n ≤ 43900 → jj_J X G kc kn 1149 [some (.ref (A 0)), some (.ref (A 1)), some (.int (jI x)), some (.int (jI 0)), some (.int (jI vT)), some (.int (jI vU)), some (.int (jI vV)), some (.int (jI v6)), some (.int (jI v4)), some (.int (jI v8)), some (.long (jL (qAll s))), none, some (.int (jI 1)), some (.int (jI j)), x14, x15] [] := by
          intro n
          induction n with
          | zero =>
            intro j kc kn G x14 x15 hP hjr h1 h2
            refine jj_iload13 F dL_isRefused_1149 ?_
            refine jj_aload1 F dL_isRefused_1151 ?_
            refine jj_iconst F dL_isRefused_1152 ?_
            refine jm_ald F hP (by omega) dL_isRefused_1153 ?_
            refine jj_icmp_ge F (tgt := 1389) dL_isRefused_1154 rfl (by omega) (fun c1154 => ?_) (fun c1154 => by exfalso; omega)
            exact jj_wide ⟨by omega, by omega⟩ (phC G _ _ _ hP)
          | succ n ih =>
            intro j kc kn G x14 x15 hP hjr h1 h2
            refine jj_iload13 F dL_isRefused_1149 ?_
            refine jj_aload1 F dL_isRefused_1151 ?_
            refine jj_iconst F dL_isRefused_1152 ?_
            refine jm_ald F hP (by omega) dL_isRefused_1153 ?_
            refine jj_icmp_ge F (tgt := 1389) dL_isRefused_1154 rfl (by omega) (fun c1154 => ?_) (fun c1154 => ?_)
            · skip
              exact jj_wide ⟨by omega, by omega⟩ (phC G _ _ _ hP)
            · skip
              refine jj_iload12 F dL_isRefused_1157 ?_
              refine jj_if_eq F (tgt := 1389) dL_isRefused_1159 rfl (by omega) (fun c1159 => by exfalso; omega) (fun c1159 => ?_)
              refine jj_aload0 F dL_isRefused_1162 ?_
              refine jj_bipush F (by decide) dL_isRefused_1163 ?_
              refine jj_iload13 F dL_isRefused_1165 ?_
              refine jj_iload3 F dL_isRefused_1167 ?_
              refine jj_if_eq F (tgt := 1181) dL_isRefused_1168 rfl (by omega) (fun c1168 => ?_) (fun c1168 => by exfalso; omega)
              refine jj_bipush F (by decide) dL_isRefused_1181 ?_
              refine jj_iconst F dL_isRefused_1183 ?_
              refine jj_iconst F dL_isRefused_1184 ?_
              refine ln_no F (ka_seconds F.tr hP hI (by omega) (by omega)) 1 (by unfold t_seconds; rw [if_neg (by omega)]) (by decide) (fun h => by rw [h]; rfl) (k := kc + 12) (n0 := kn + 130) ⟨Nat.le_of_ble_eq_true rfl, Nat.le_of_ble_eq_true rfl, (Nat.le_refl _), (Nat.le_refl _), (show kc + 12 ≤ 6400 by omega), (show kn + 130 ≤ 53000 by omega), Nat.le_of_ble_eq_true rfl⟩ dL_isRefused_1185 (fun G hP => ?_)
              refine jj_if_eq F (tgt := 1380) dL_isRefused_1188 rfl (by omega) (fun c1188 => by exfalso; omega) (fun c1188 => ?_)
              refine jj_aload0 F dL_isRefused_1191 ?_
              refine jj_bipush F (by decide) dL_isRefused_1192 ?_
              refine jj_iload13 F dL_isRefused_1194 ?_
              refine jj_iload3 F dL_isRefused_1196 ?_
              refine jj_if_eq F (tgt := 1204) dL_isRefused_1197 rfl (by omega) (fun c1197 => ?_) (fun c1197 => by exfalso; omega)
              refine jj_iconst F dL_isRefused_1204 ?_
              refine jj_iload2 F dL_isRefused_1205 ?_
              refine jj_bipush F (by decide) dL_isRefused_1206 ?_
              refine jj_irem F (by omega) dL_isRefused_1208 ?_
              refine jj_iadd F dL_isRefused_1209 ?_
              refine jj_iconst F dL_isRefused_1210 ?_
              refine jj_iconst F dL_isRefused_1211 ?_
              refine ln_no F (ka_stamper F.tr hP hI (by omega) (by omega) (by omega)) 1 (by unfold t_stamper; rw [if_pos (fun hz => by obtain ⟨w1, w2, w3⟩ := hz; omega)]) (by decide) (fun h => by rw [h]; rfl) (k := kc + 24) (n0 := kn + 260) ⟨Nat.le_of_ble_eq_true rfl, Nat.le_of_ble_eq_true rfl, (Nat.le_refl _), (Nat.le_refl _), (show kc + 24 ≤ 6400 by omega), (show kn + 260 ≤ 53000 by omega), Nat.le_of_ble_eq_true rfl⟩ dL_isRefused_1212 (fun G hP => ?_)
              refine jj_if_eq F (tgt := 1380) dL_isRefused_1215 rfl (by omega) (fun c1215 => by exfalso; omega) (fun c1215 => ?_)
              refine jj_aload0 F dL_isRefused_1218 ?_
              refine jj_bipush F (by decide) dL_isRefused_1219 ?_
              refine jj_iload13 F dL_isRefused_1221 ?_
              refine jj_iconst F dL_isRefused_1223 ?_
              refine jj_iload8 F dL_isRefused_1224 ?_
              refine jj_iconst F dL_isRefused_1226 ?_
              refine ln_no F (ka_stamper F.tr hP hI (by omega) (by omega) (by omega)) 1 (by unfold t_stamper; rw [if_pos (fun hz => by obtain ⟨w1, w2, w3⟩ := hz; omega)]) (by decide) (fun h => by rw [h]; rfl) (k := kc + 36) (n0 := kn + 390) ⟨Nat.le_of_ble_eq_true rfl, Nat.le_of_ble_eq_true rfl, (Nat.le_refl _), (Nat.le_refl _), (show kc + 36 ≤ 6400 by omega), (show kn + 390 ≤ 53000 by omega), Nat.le_of_ble_eq_true rfl⟩ dL_isRefused_1227 (fun G hP => ?_)
              refine jj_if_eq F (tgt := 1380) dL_isRefused_1230 rfl (by omega) (fun c1230 => by exfalso; omega) (fun c1230 => ?_)
              refine jj_aload0 F dL_isRefused_1233 ?_
              refine jj_bipush F (by decide) dL_isRefused_1234 ?_
              refine jj_iload13 F dL_isRefused_1236 ?_
              refine jj_iconst F dL_isRefused_1238 ?_
              refine jj_iconst F dL_isRefused_1239 ?_
              refine jj_iload3 F dL_isRefused_1240 ?_
              refine jj_if_eq F (tgt := 1253) dL_isRefused_1241 rfl (by omega) (fun c1241 => ?_) (fun c1241 => by exfalso; omega)
              refine jj_sipush F (by decide) dL_isRefused_1253 ?_
              refine ln_off F (ka_press F.tr hP hI (by omega) (by omega) (by omega) (by omega)) 2 (by unfold t_press; rw [if_neg (fun hz => hz ⟨by omega, by omega, by omega⟩), if_pos (by omega)]) (by decide) (fun h => by rw [h]; rfl) (k := kc + 48) (n0 := kn + 520) ⟨Nat.le_of_ble_eq_true rfl, Nat.le_of_ble_eq_true rfl, (Nat.le_refl _), (Nat.le_refl _), (show kc + 48 ≤ 6400 by omega), (show kn + 520 ≤ 53000 by omega), Nat.le_of_ble_eq_true rfl⟩ dL_isRefused_1256 (fun G hP => ?_)
              refine jj_if_eq F (tgt := 1380) dL_isRefused_1259 rfl (by omega) (fun c1259 => by exfalso; omega) (fun c1259 => ?_)
              refine jj_aload0 F dL_isRefused_1262 ?_
              refine jj_bipush F (by decide) dL_isRefused_1263 ?_
              refine jj_iload13 F dL_isRefused_1265 ?_
              refine jj_iconst F dL_isRefused_1267 ?_
              refine jj_iconst F dL_isRefused_1268 ?_
              refine jj_iload3 F dL_isRefused_1269 ?_
              refine jj_if_eq F (tgt := 1277) dL_isRefused_1270 rfl (by omega) (fun c1270 => ?_) (fun c1270 => by exfalso; omega)
              refine jj_iconst F dL_isRefused_1277 ?_
              refine jj_iload2 F dL_isRefused_1278 ?_
              refine jj_bipush F (by decide) dL_isRefused_1279 ?_
              refine jj_irem F (by omega) dL_isRefused_1281 ?_
              refine jj_iadd F dL_isRefused_1282 ?_
              refine ln_off F (ka_stamperIs F.tr hP hI (by omega) (by omega) (by omega) (by omega)) 2 (by unfold t_stamperIs; rw [if_neg (fun hz => hz ⟨by omega, by omega, by omega⟩), if_neg (by omega)]) (by decide) (fun h => by rw [h]; rfl) (k := kc + 60) (n0 := kn + 650) ⟨Nat.le_of_ble_eq_true rfl, Nat.le_of_ble_eq_true rfl, (Nat.le_refl _), (Nat.le_refl _), (show kc + 60 ≤ 6400 by omega), (show kn + 650 ≤ 53000 by omega), Nat.le_of_ble_eq_true rfl⟩ dL_isRefused_1283 (fun G hP => ?_)
              refine jj_if_eq F (tgt := 1380) dL_isRefused_1286 rfl (by omega) (fun c1286 => by exfalso; omega) (fun c1286 => ?_)
              refine jj_aload0 F dL_isRefused_1289 ?_
              refine jj_bipush F (by decide) dL_isRefused_1290 ?_
              refine jj_iload13 F dL_isRefused_1292 ?_
              refine jj_iconst F dL_isRefused_1294 ?_
              refine jj_iconst F dL_isRefused_1295 ?_
              refine jj_iload3 F dL_isRefused_1296 ?_
              refine jj_if_eq F (tgt := 1309) dL_isRefused_1297 rfl (by omega) (fun c1297 => ?_) (fun c1297 => by exfalso; omega)
              refine jj_sipush F (by decide) dL_isRefused_1309 ?_
              refine ln_off F (ka_sell F.tr hP hI (by omega) (by omega) (by omega) (by omega)) 2 (by unfold t_sell; rw [if_neg (fun hz => hz ⟨by omega, by omega, by omega⟩), if_pos (by omega)]) (by decide) (fun h => by rw [h]; rfl) (k := kc + 72) (n0 := kn + 780) ⟨Nat.le_of_ble_eq_true rfl, Nat.le_of_ble_eq_true rfl, (Nat.le_refl _), (Nat.le_refl _), (show kc + 72 ≤ 6400 by omega), (show kn + 780 ≤ 53000 by omega), Nat.le_of_ble_eq_true rfl⟩ dL_isRefused_1312 (fun G hP => ?_)
              refine jj_if_eq F (tgt := 1380) dL_isRefused_1315 rfl (by omega) (fun c1315 => by exfalso; omega) (fun c1315 => ?_)
              refine jj_aload0 F dL_isRefused_1318 ?_
              refine jj_bipush F (by decide) dL_isRefused_1319 ?_
              refine jj_iload13 F dL_isRefused_1321 ?_
              refine jj_iconst F dL_isRefused_1323 ?_
              refine jj_iconst F dL_isRefused_1324 ?_
              refine jj_iload3 F dL_isRefused_1325 ?_
              refine jj_if_eq F (tgt := 1333) dL_isRefused_1326 rfl (by omega) (fun c1326 => ?_) (fun c1326 => by exfalso; omega)
              refine jj_sipush F (by decide) dL_isRefused_1333 ?_
              refine jj_iload2 F dL_isRefused_1336 ?_
              refine jj_bipush F (by decide) dL_isRefused_1337 ?_
              refine jj_irem F (by omega) dL_isRefused_1339 ?_
              refine jj_iadd F dL_isRefused_1340 ?_
              refine ln_off F (ka_back F.tr hP hI (by omega) (by omega) (by omega) (by omega) hj) 2 (by unfold t_back; rw [if_neg (fun hz => hz ⟨by omega, by omega, by omega⟩), if_pos (by omega)]) (by decide) (fun h => by rw [h]; rfl) (k := kc + 84) (n0 := kn + 910) ⟨Nat.le_of_ble_eq_true rfl, Nat.le_of_ble_eq_true rfl, (Nat.le_refl _), (Nat.le_refl _), (show kc + 84 ≤ 6400 by omega), (show kn + 910 ≤ 53000 by omega), Nat.le_of_ble_eq_true rfl⟩ dL_isRefused_1341 (fun G hP => ?_)
              refine jj_if_eq F (tgt := 1380) dL_isRefused_1344 rfl (by omega) (fun c1344 => by exfalso; omega) (fun c1344 => ?_)
              refine jj_aload0 F dL_isRefused_1347 ?_
              refine jj_iload13 F dL_isRefused_1348 ?_
              refine jj_iconst F dL_isRefused_1350 ?_
              refine jj_iconst F dL_isRefused_1351 ?_
              refine jj_iconst F dL_isRefused_1352 ?_
              refine lq_s0 F hP hI ⟨by omega, by omega, by omega⟩ (k := kc + 87) (n0 := kn + 928) ⟨Nat.le_of_ble_eq_true rfl, Nat.le_of_ble_eq_true rfl, (Nat.le_refl _), (Nat.le_refl _), (show kc + 87 ≤ 6400 by omega), (show kn + 928 ≤ 53000 by omega), Nat.le_of_ble_eq_true rfl⟩ dL_isRefused_1353 (fun G hP => ?_)
              have g16 : -1 ≤ s 16 (sSt j 2 3) := (hI.2.2.2.1.1 (sSt j 2 3) (by unfold sSt; omega) (by unfold sSt; omega)).1.1
              have g16b : s 16 (sSt j 2 3) ≤ 9999 := (hI.2.2.2.1.1 (sSt j 2 3) (by unfold sSt; omega) (by unfold sSt; omega)).1.2
              refine jj_meet 1376 (kc + 99) (kn + 1058) (WP (jj_ac X) A s e m g r) (fun G hP => ?_) (fun J1376 => ?_)
              · skip
                refine jj_iconst F dL_isRefused_1376 ?_
                refine jj_goto F (tgt := 1381) dL_isRefused_1377 rfl ?_
                refine jj_istore12 F dL_isRefused_1381 (hN _ (by decide)) rfl ?_
                refine jj_iinc13 F dL_isRefused_1383 (hN _ (by decide)) rfl ?_
                refine jj_goto F (tgt := 1149) dL_isRefused_1386 rfl ?_
                exact ih (j + 1) (kc + 99) (kn + 1058) G _ _ hP (by omega) (by omega) (by omega)
              · skip
                refine jj_if_ge F (tgt := 1376) dL_isRefused_1356 rfl (by omega) (fun c1356 => ?_) (fun c1356 => ?_)
                · skip
                  exact jj_wide ⟨(show kc + 87 ≤ kc + 99 by omega), (show kn + 928 ≤ kn + 1058 by omega)⟩ (J1376 G hP)
                · skip
                  refine jj_aload0 F dL_isRefused_1359 ?_
                  refine jj_bipush F (by decide) dL_isRefused_1360 ?_
                  refine jj_iload13 F dL_isRefused_1362 ?_
                  refine jj_iconst F dL_isRefused_1364 ?_
                  refine jj_iconst F dL_isRefused_1365 ?_
                  refine jj_iconst F dL_isRefused_1366 ?_
                  refine jj_iconst F dL_isRefused_1367 ?_
                  refine la_no F (ka_press F.tr hP hI (by omega) (by omega) (by omega) (by omega)) 3 (-1763000000) (by unfold t_press; rw [if_neg (fun hz => hz ⟨by omega, by omega, by omega⟩), if_neg (by omega), if_pos (by omega)]) (by decide) (fun h => by rw [h]; rfl) (k := kc + 99) (n0 := kn + 1058) ⟨Nat.le_of_ble_eq_true rfl, Nat.le_of_ble_eq_true rfl, (Nat.le_refl _), (Nat.le_refl _), (show kc + 99 ≤ 6400 by omega), (show kn + 1058 ≤ 53000 by omega), Nat.le_of_ble_eq_true rfl⟩ dL_isRefused_1368 (fun G hP => ?_)
                  refine jj_ldc F (v := -1763000000) cn_L_128 (by decide) dL_isRefused_1371 ?_
                  refine jj_icmp_ne F (tgt := 1380) dL_isRefused_1373 rfl (by omega) (fun c1373 => by exfalso; omega) (fun c1373 => ?_)
                  exact jj_wide ⟨(show kc + 99 ≤ kc + 99 by omega), (show kn + 1058 ≤ kn + 1058 by omega)⟩ (J1376 G hP)
        have phA : ∀ (n : Nat) (j : Int) (kc kn : Nat) (G : jj_G) (x14 x15 : Option Value), WP (jj_ac X) A s e m g r G → 0 ≤ j ∧ s 1 0 - j ≤ 2 * n ∧ j ≤ 100 → kc + 132 * n ≤ 3656 → kn + 1372 * n ≤ 33320 → jj_J X G kc kn 869 [some (.ref (A 0)), some (.ref (A 1)), some (.int (jI x)), some (.int (jI 0)), some (.int (jI vT)), some (.int (jI vU)), some (.int (jI vV)), some (.int (jI v6)), some (.int (jI v4)), some (.int (jI v8)), some (.long (jL (qAll s))), none, some (.int (jI 1)), some (.int (jI j)), x14, x15] [] := by
          intro n
          induction n with
          | zero =>
            intro j kc kn G x14 x15 hP hjr h1 h2
            refine jj_iload13 F dL_isRefused_869 ?_
            refine jj_aload1 F dL_isRefused_871 ?_
            refine jj_iconst F dL_isRefused_872 ?_
            refine jm_ald F hP (by omega) dL_isRefused_873 ?_
            refine jj_icmp_ge F (tgt := 1146) dL_isRefused_874 rfl (by omega) (fun c874 => ?_) (fun c874 => by exfalso; omega)
            refine jj_iconst F dL_isRefused_1146 ?_
            refine jj_istore13 F dL_isRefused_1147 (hN _ (by decide)) rfl ?_
            exact jj_wide ⟨by omega, by omega⟩ (phB 10 0 3656 33320 G _ _ hP (by omega) (by omega) (by omega))
          | succ n ih =>
            intro j kc kn G x14 x15 hP hjr h1 h2
            by_cases hend : s 1 0 ≤ j
            · skip
              refine jj_iload13 F dL_isRefused_869 ?_
              refine jj_aload1 F dL_isRefused_871 ?_
              refine jj_iconst F dL_isRefused_872 ?_
              refine jm_ald F hP (by omega) dL_isRefused_873 ?_
              refine jj_icmp_ge F (tgt := 1146) dL_isRefused_874 rfl (by omega) (fun c874 => ?_) (fun c874 => by exfalso; omega)
              refine jj_iconst F dL_isRefused_1146 ?_
              refine jj_istore13 F dL_isRefused_1147 (hN _ (by decide)) rfl ?_
              exact jj_wide ⟨by omega, by omega⟩ (phB 10 0 3656 33320 G _ _ hP (by omega) (by omega) (by omega))
            · skip
              have gt := hI.1.tape (t := j) (by omega)
              have gl := sLen_in hI.1 (t := j) (by omega)
              have gp := sPlay_01 s j
              have gp0 : s 2 j = 0 → sPlay s j = 1 := fun h => by unfold sPlay; rw [if_pos h]
              refine jj_iload13 F dL_isRefused_869 ?_
              refine jj_aload1 F dL_isRefused_871 ?_
              refine jj_iconst F dL_isRefused_872 ?_
              refine jm_ald F hP (by omega) dL_isRefused_873 ?_
              refine jj_icmp_ge F (tgt := 1146) dL_isRefused_874 rfl (by omega) (fun c874 => by exfalso; omega) (fun c874 => ?_)
              refine jj_iload12 F dL_isRefused_877 ?_
              refine jj_if_eq F (tgt := 1146) dL_isRefused_879 rfl (by omega) (fun c879 => by exfalso; omega) (fun c879 => ?_)
              refine jj_aload0 F dL_isRefused_882 ?_
              refine jj_iload13 F dL_isRefused_883 ?_
              refine jj_iconst F dL_isRefused_885 ?_
              refine lq_t2 F hP hI (by omega) (k := kc + 3) (n0 := kn + 18) ⟨Nat.le_of_ble_eq_true rfl, Nat.le_of_ble_eq_true rfl, (Nat.le_refl _), (Nat.le_refl _), (show kc + 3 ≤ 6400 by omega), (show kn + 18 ≤ 53000 by omega), Nat.le_of_ble_eq_true rfl⟩ dL_isRefused_886 (fun G hP => ?_)
              refine jj_istore14 F dL_isRefused_889 (hN _ (by decide)) rfl ?_
              refine jj_aload0 F dL_isRefused_891 ?_
              refine jj_iload13 F dL_isRefused_892 ?_
              refine jj_iconst F dL_isRefused_894 ?_
              refine lq_t0 F hP hI (by omega) (k := kc + 6) (n0 := kn + 36) ⟨Nat.le_of_ble_eq_true rfl, Nat.le_of_ble_eq_true rfl, (Nat.le_refl _), (Nat.le_refl _), (show kc + 6 ≤ 6400 by omega), (show kn + 36 ≤ 53000 by omega), Nat.le_of_ble_eq_true rfl⟩ dL_isRefused_895 (fun G hP => ?_)
              refine jj_meetb 906 (fun b : Int => (b = 0 ∨ b = 1) ∧ (b = 1 ↔ s 2 j = 0)) (fun b hb => ?_) (fun J906 => ?_)
              · skip
                refine jj_istore15 F dL_isRefused_906 (hN _ (by decide)) rfl ?_
                refine jj_aload0 F dL_isRefused_908 ?_
                refine jj_iconst F dL_isRefused_909 ?_
                refine jj_iload13 F dL_isRefused_910 ?_
                refine jj_iconst F dL_isRefused_912 ?_
                refine jj_iload2 F dL_isRefused_913 ?_
                refine jj_bipush F (by decide) dL_isRefused_914 ?_
                refine jj_irem F (by omega) dL_isRefused_916 ?_
                refine jj_isub F dL_isRefused_917 ?_
                refine jj_iconst F dL_isRefused_918 ?_
                refine jj_iconst F dL_isRefused_919 ?_
                refine ln_off F (ka_splice F.tr hP hI (by omega) (by omega) (by omega) (by omega) (by omega)) 2 (by unfold t_splice; rw [if_neg (fun hz => hz ⟨by omega, by omega, by omega⟩), if_pos (by omega)]) (by decide) (fun h => by rw [h]; rfl) (k := kc + 18) (n0 := kn + 166) ⟨Nat.le_of_ble_eq_true rfl, Nat.le_of_ble_eq_true rfl, (Nat.le_refl _), (Nat.le_refl _), (show kc + 18 ≤ 6400 by omega), (show kn + 166 ≤ 53000 by omega), Nat.le_of_ble_eq_true rfl⟩ dL_isRefused_920 (fun G hP => ?_)
                refine jj_if_eq F (tgt := 1137) dL_isRefused_923 rfl (by omega) (fun c923 => by exfalso; omega) (fun c923 => ?_)
                refine jj_aload0 F dL_isRefused_926 ?_
                refine jj_iconst F dL_isRefused_927 ?_
                refine jj_iload13 F dL_isRefused_928 ?_
                refine jj_iload14 F dL_isRefused_930 ?_
                refine jj_iconst F dL_isRefused_932 ?_
                refine jj_isub F dL_isRefused_933 ?_
                refine jj_iload14 F dL_isRefused_934 ?_
                refine jj_iconst F dL_isRefused_936 ?_
                refine jj_isub F dL_isRefused_937 ?_
                refine jj_iconst F dL_isRefused_938 ?_
                refine ln_off F (ka_splice F.tr hP hI (by omega) (by omega) (by omega) (by omega) (by omega)) 2 (by unfold t_splice; rw [if_neg (fun hz => hz ⟨by omega, by omega, by omega⟩), if_pos (by omega)]) (by decide) (fun h => by rw [h]; rfl) (k := kc + 30) (n0 := kn + 296) ⟨Nat.le_of_ble_eq_true rfl, Nat.le_of_ble_eq_true rfl, (Nat.le_refl _), (Nat.le_refl _), (show kc + 30 ≤ 6400 by omega), (show kn + 296 ≤ 53000 by omega), Nat.le_of_ble_eq_true rfl⟩ dL_isRefused_939 (fun G hP => ?_)
                refine jj_if_eq F (tgt := 1137) dL_isRefused_942 rfl (by omega) (fun c942 => by exfalso; omega) (fun c942 => ?_)
                refine jj_aload0 F dL_isRefused_945 ?_
                refine jj_iconst F dL_isRefused_946 ?_
                refine jj_iload13 F dL_isRefused_947 ?_
                refine jj_iconst F dL_isRefused_949 ?_
                refine jj_iload14 F dL_isRefused_950 ?_
                refine jj_iconst F dL_isRefused_952 ?_
                refine jj_iadd F dL_isRefused_953 ?_
                refine jj_iload2 F dL_isRefused_954 ?_
                refine jj_bipush F (by decide) dL_isRefused_955 ?_
                refine jj_irem F (by omega) dL_isRefused_957 ?_
                refine jj_iadd F dL_isRefused_958 ?_
                refine jj_iconst F dL_isRefused_959 ?_
                refine ln_off F (ka_splice F.tr hP hI (by omega) (by omega) (by omega) (by omega) (by omega)) 2 (by unfold t_splice; rw [if_neg (fun hz => hz ⟨by omega, by omega, by omega⟩), if_pos (by omega)]) (by decide) (fun h => by rw [h]; rfl) (k := kc + 42) (n0 := kn + 426) ⟨Nat.le_of_ble_eq_true rfl, Nat.le_of_ble_eq_true rfl, (Nat.le_refl _), (Nat.le_refl _), (show kc + 42 ≤ 6400 by omega), (show kn + 426 ≤ 53000 by omega), Nat.le_of_ble_eq_true rfl⟩ dL_isRefused_960 (fun G hP => ?_)
                refine jj_if_eq F (tgt := 1137) dL_isRefused_963 rfl (by omega) (fun c963 => by exfalso; omega) (fun c963 => ?_)
                refine jj_aload0 F dL_isRefused_966 ?_
                refine jj_iconst F dL_isRefused_967 ?_
                refine jj_iload13 F dL_isRefused_968 ?_
                refine jj_iconst F dL_isRefused_970 ?_
                refine jj_iconst F dL_isRefused_971 ?_
                refine jj_iload3 F dL_isRefused_972 ?_
                refine jj_if_eq F (tgt := 986) dL_isRefused_973 rfl (by omega) (fun c973 => ?_) (fun c973 => by exfalso; omega)
                refine jj_aload1 F dL_isRefused_986 ?_
                refine jj_iconst F dL_isRefused_987 ?_
                refine jm_ald F hP (by omega) dL_isRefused_988 ?_
                refine ln_no F (ka_splice F.tr hP hI (by omega) (by omega) (by omega) (by omega) (by omega)) 1 (by unfold t_splice; rw [if_pos (fun hz => by obtain ⟨w1, w2, w3⟩ := hz; omega)]) (by decide) (fun h => by rw [h]; rfl) (k := kc + 54) (n0 := kn + 556) ⟨Nat.le_of_ble_eq_true rfl, Nat.le_of_ble_eq_true rfl, (Nat.le_refl _), (Nat.le_refl _), (show kc + 54 ≤ 6400 by omega), (show kn + 556 ≤ 53000 by omega), Nat.le_of_ble_eq_true rfl⟩ dL_isRefused_989 (fun G hP => ?_)
                refine jj_if_eq F (tgt := 1137) dL_isRefused_992 rfl (by omega) (fun c992 => by exfalso; omega) (fun c992 => ?_)
                refine jj_aload0 F dL_isRefused_995 ?_
                refine jj_iconst F dL_isRefused_996 ?_
                refine jj_iload13 F dL_isRefused_997 ?_
                refine jj_iload3 F dL_isRefused_999 ?_
                refine jj_if_eq F (tgt := 1007) dL_isRefused_1000 rfl (by omega) (fun c1000 => ?_) (fun c1000 => by exfalso; omega)
                refine jj_bipush F (by decide) dL_isRefused_1007 ?_
                refine jj_iload2 F dL_isRefused_1009 ?_
                refine jj_bipush F (by decide) dL_isRefused_1010 ?_
                refine jj_irem F (by omega) dL_isRefused_1012 ?_
                refine jj_iadd F dL_isRefused_1013 ?_
                refine jj_iconst F dL_isRefused_1014 ?_
                refine jj_iconst F dL_isRefused_1015 ?_
                refine ln_off F (ka_tapeIs F.tr hP hI (by omega) (by omega)) 2 (by unfold t_tapeIs; rw [if_neg (by omega), if_neg (by omega)]) (by decide) (fun h => by rw [h]; rfl) (k := kc + 66) (n0 := kn + 686) ⟨Nat.le_of_ble_eq_true rfl, Nat.le_of_ble_eq_true rfl, (Nat.le_refl _), (Nat.le_refl _), (show kc + 66 ≤ 6400 by omega), (show kn + 686 ≤ 53000 by omega), Nat.le_of_ble_eq_true rfl⟩ dL_isRefused_1016 (fun G hP => ?_)
                refine jj_if_eq F (tgt := 1137) dL_isRefused_1019 rfl (by omega) (fun c1019 => by exfalso; omega) (fun c1019 => ?_)
                refine jj_aload0 F dL_isRefused_1022 ?_
                refine jj_bipush F (by decide) dL_isRefused_1023 ?_
                refine jj_iload13 F dL_isRefused_1025 ?_
                refine jj_iconst F dL_isRefused_1027 ?_
                refine jj_iload2 F dL_isRefused_1028 ?_
                refine jj_bipush F (by decide) dL_isRefused_1029 ?_
                refine jj_irem F (by omega) dL_isRefused_1031 ?_
                refine jj_isub F dL_isRefused_1032 ?_
                refine jj_iconst F dL_isRefused_1033 ?_
                refine jj_iconst F dL_isRefused_1034 ?_
                refine ln_off F (ka_heard F.tr hP hI (by omega) (by omega)) 2 (by unfold t_heard; rw [if_neg (by omega), if_pos (by omega)]) (by decide) (fun h => by rw [h]; rfl) (k := kc + 78) (n0 := kn + 816) ⟨Nat.le_of_ble_eq_true rfl, Nat.le_of_ble_eq_true rfl, (Nat.le_refl _), (Nat.le_refl _), (show kc + 78 ≤ 6400 by omega), (show kn + 816 ≤ 53000 by omega), Nat.le_of_ble_eq_true rfl⟩ dL_isRefused_1035 (fun G hP => ?_)
                refine jj_if_eq F (tgt := 1137) dL_isRefused_1038 rfl (by omega) (fun c1038 => by exfalso; omega) (fun c1038 => ?_)
                refine jj_iload15 F dL_isRefused_1041 ?_
                refine jj_meet 1062 (kc + 90) (kn + 946) (WP (jj_ac X) A s e m g r) (fun G hP => ?_) (fun J1062 => ?_)
                · skip
                  refine jj_aload0 F dL_isRefused_1062 ?_
                  refine jj_iload13 F dL_isRefused_1063 ?_
                  refine jj_iconst F dL_isRefused_1065 ?_
                  refine lq_t0 F hP hI (by omega) (k := kc + 93) (n0 := kn + 964) ⟨Nat.le_of_ble_eq_true rfl, Nat.le_of_ble_eq_true rfl, (Nat.le_refl _), (Nat.le_refl _), (show kc + 93 ≤ 6400 by omega), (show kn + 964 ≤ 53000 by omega), Nat.le_of_ble_eq_true rfl⟩ dL_isRefused_1066 (fun G hP => ?_)
                  refine jj_iconst F dL_isRefused_1069 ?_
                  refine jj_meet 1089 (kc + 105) (kn + 1094) (WP (jj_ac X) A s e m g r) (fun G hP => ?_) (fun J1089 => ?_)
                  · skip
                    refine jj_aload0 F dL_isRefused_1089 ?_
                    refine jj_iload13 F dL_isRefused_1090 ?_
                    refine jj_iconst F dL_isRefused_1092 ?_
                    refine lq_t1 F hP hI (by omega) (k := kc + 108) (n0 := kn + 1112) ⟨Nat.le_of_ble_eq_true rfl, Nat.le_of_ble_eq_true rfl, (Nat.le_refl _), (Nat.le_refl _), (show kc + 108 ≤ 6400 by omega), (show kn + 1112 ≤ 53000 by omega), Nat.le_of_ble_eq_true rfl⟩ dL_isRefused_1093 (fun G hP => ?_)
                    refine jj_iconst F dL_isRefused_1096 ?_
                    refine jj_meet 1133 (kc + 132) (kn + 1372) (WP (jj_ac X) A s e m g r) (fun G hP => ?_) (fun J1133 => ?_)
                    · skip
                      refine jj_iconst F dL_isRefused_1133 ?_
                      refine jj_goto F (tgt := 1138) dL_isRefused_1134 rfl ?_
                      refine jj_istore12 F dL_isRefused_1138 (hN _ (by decide)) rfl ?_
                      refine jj_iinc13 F dL_isRefused_1140 (hN _ (by decide)) rfl ?_
                      refine jj_goto F (tgt := 869) dL_isRefused_1143 rfl ?_
                      exact ih (j + 2) (kc + 132) (kn + 1372) G _ _ hP (by omega) (by omega) (by omega)
                    · skip
                      refine jj_icmp_eq F (tgt := 1133) dL_isRefused_1097 rfl (by omega) (fun c1097 => ?_) (fun c1097 => ?_)
                      · skip
                        exact jj_wide ⟨(show kc + 108 ≤ kc + 132 by omega), (show kn + 1112 ≤ kn + 1372 by omega)⟩ (J1133 G hP)
                      · skip
                        refine jj_aload0 F dL_isRefused_1100 ?_
                        refine jj_bipush F (by decide) dL_isRefused_1101 ?_
                        refine jj_iload13 F dL_isRefused_1103 ?_
                        refine jj_iconst F dL_isRefused_1105 ?_
                        refine jj_iconst F dL_isRefused_1106 ?_
                        refine jj_iconst F dL_isRefused_1107 ?_
                        refine jj_iconst F dL_isRefused_1108 ?_
                        refine la_no F (ka_add F.tr hP hI (by omega)) 2 (-1763000000) (by unfold t_add; rw [if_neg (by omega), if_pos (by omega)]) (by decide) (fun h => by rw [h]; rfl) (k := kc + 120) (n0 := kn + 1242) ⟨Nat.le_of_ble_eq_true rfl, Nat.le_of_ble_eq_true rfl, (Nat.le_refl _), (Nat.le_refl _), (show kc + 120 ≤ 6400 by omega), (show kn + 1242 ≤ 53000 by omega), Nat.le_of_ble_eq_true rfl⟩ dL_isRefused_1109 (fun G hP => ?_)
                        refine jj_ldc F (v := -1763000000) cn_L_128 (by decide) dL_isRefused_1112 ?_
                        refine jj_icmp_ne F (tgt := 1137) dL_isRefused_1114 rfl (by omega) (fun c1114 => by exfalso; omega) (fun c1114 => ?_)
                        refine jj_aload0 F dL_isRefused_1117 ?_
                        refine jj_iconst F dL_isRefused_1118 ?_
                        refine jj_iload13 F dL_isRefused_1119 ?_
                        refine jj_iconst F dL_isRefused_1121 ?_
                        refine jj_iconst F dL_isRefused_1122 ?_
                        refine jj_iconst F dL_isRefused_1123 ?_
                        refine jj_iconst F dL_isRefused_1124 ?_
                        refine la_no F (ka_splice F.tr hP hI (by omega) (by omega) (by omega) (by omega) (by omega)) 3 (-1763000000) (by unfold t_splice; rw [if_neg (fun hz => hz ⟨by omega, by omega, by omega⟩), if_neg (by omega), if_neg (fun hz => by obtain ⟨w1, -⟩ := hz; omega)]) (by decide) (fun h => by rw [h]; rfl) (k := kc + 132) (n0 := kn + 1372) ⟨Nat.le_of_ble_eq_true rfl, Nat.le_of_ble_eq_true rfl, (Nat.le_refl _), (Nat.le_refl _), (show kc + 132 ≤ 6400 by omega), (show kn + 1372 ≤ 53000 by omega), Nat.le_of_ble_eq_true rfl⟩ dL_isRefused_1125 (fun G hP => ?_)
                        refine jj_ldc F (v := -1763000000) cn_L_128 (by decide) dL_isRefused_1128 ?_
                        refine jj_icmp_ne F (tgt := 1137) dL_isRefused_1130 rfl (by omega) (fun c1130 => by exfalso; omega) (fun c1130 => ?_)
                        exact jj_wide ⟨(show kc + 132 ≤ kc + 132 by omega), (show kn + 1372 ≤ kn + 1372 by omega)⟩ (J1133 G hP)
                  · skip
                    refine jj_icmp_eq F (tgt := 1089) dL_isRefused_1070 rfl (by omega) (fun c1070 => ?_) (fun c1070 => ?_)
                    · skip
                      exact jj_wide ⟨(show kc + 93 ≤ kc + 105 by omega), (show kn + 964 ≤ kn + 1094 by omega)⟩ (J1089 G hP)
                    · skip
                      refine jj_aload0 F dL_isRefused_1073 ?_
                      refine jj_iconst F dL_isRefused_1074 ?_
                      refine jj_iload13 F dL_isRefused_1075 ?_
                      refine jj_iconst F dL_isRefused_1077 ?_
                      refine jj_iconst F dL_isRefused_1078 ?_
                      refine jj_iconst F dL_isRefused_1079 ?_
                      refine jj_iconst F dL_isRefused_1080 ?_
                      refine la_no F (ka_bake F.tr hP hI (by omega)) 2 (-1763000000) (by unfold t_tape; rw [if_neg (by omega), if_neg (by omega)]) (by decide) (fun h => by rw [h]; rfl) (k := kc + 105) (n0 := kn + 1094) ⟨Nat.le_of_ble_eq_true rfl, Nat.le_of_ble_eq_true rfl, (Nat.le_refl _), (Nat.le_refl _), (show kc + 105 ≤ 6400 by omega), (show kn + 1094 ≤ 53000 by omega), Nat.le_of_ble_eq_true rfl⟩ dL_isRefused_1081 (fun G hP => ?_)
                      refine jj_ldc F (v := -1763000000) cn_L_128 (by decide) dL_isRefused_1084 ?_
                      refine jj_icmp_ne F (tgt := 1137) dL_isRefused_1086 rfl (by omega) (fun c1086 => by exfalso; omega) (fun c1086 => ?_)
                      exact jj_wide ⟨(show kc + 105 ≤ kc + 105 by omega), (show kn + 1094 ≤ kn + 1094 by omega)⟩ (J1089 G hP)
                · skip
                  refine jj_if_ne F (tgt := 1062) dL_isRefused_1043 rfl (by omega) (fun c1043 => ?_) (fun c1043 => ?_)
                  · skip
                    exact jj_wide ⟨(show kc + 78 ≤ kc + 90 by omega), (show kn + 816 ≤ kn + 946 by omega)⟩ (J1062 G hP)
                  · skip
                    refine jj_aload0 F dL_isRefused_1046 ?_
                    refine jj_iconst F dL_isRefused_1047 ?_
                    refine jj_iload13 F dL_isRefused_1048 ?_
                    refine jj_iconst F dL_isRefused_1050 ?_
                    refine jj_iconst F dL_isRefused_1051 ?_
                    refine jj_iconst F dL_isRefused_1052 ?_
                    refine jj_iconst F dL_isRefused_1053 ?_
                    refine la_no F (ka_shed F.tr hP hI (by omega)) 2 (-1763000000) (by unfold t_tape; rw [if_neg (by omega), if_neg (by omega)]) (by decide) (fun h => by rw [h]; rfl) (k := kc + 90) (n0 := kn + 946) ⟨Nat.le_of_ble_eq_true rfl, Nat.le_of_ble_eq_true rfl, (Nat.le_refl _), (Nat.le_refl _), (show kc + 90 ≤ 6400 by omega), (show kn + 946 ≤ 53000 by omega), Nat.le_of_ble_eq_true rfl⟩ dL_isRefused_1054 (fun G hP => ?_)
                    refine jj_ldc F (v := -1763000000) cn_L_128 (by decide) dL_isRefused_1057 ?_
                    refine jj_icmp_ne F (tgt := 1137) dL_isRefused_1059 rfl (by omega) (fun c1059 => by exfalso; omega) (fun c1059 => ?_)
                    exact jj_wide ⟨(show kc + 90 ≤ kc + 90 by omega), (show kn + 946 ≤ kn + 946 by omega)⟩ (J1062 G hP)
              · skip
                refine jj_if_ne F (tgt := 905) dL_isRefused_898 rfl (by omega) (fun c898 => ?_) (fun c898 => ?_)
                · skip
                  refine jj_iconst F dL_isRefused_905 ?_
                  exact J906 _ (by omega)
                · skip
                  refine jj_iconst F dL_isRefused_901 ?_
                  refine jj_goto F (tgt := 906) dL_isRefused_902 rfl ?_
                  exact J906 _ (by omega)
        exact jj_wide ⟨Nat.le_of_ble_eq_true rfl, Nat.le_of_ble_eq_true rfl⟩ (phA 15 0 1676 12740 G _ _ hP (by omega) (by omega) (by omega))
      · skip
        refine jj_icmp_lt F (tgt := 859) dL_isRefused_841 rfl (by omega) (fun c841 => ?_) (fun c841 => ?_)
        · skip
          exact jj_wide ⟨Nat.le_of_ble_eq_true rfl, Nat.le_of_ble_eq_true rfl⟩ (J859 G hP)
        · skip
          refine jj_aload0 F dL_isRefused_844 ?_
          refine jj_iconst F dL_isRefused_845 ?_
          refine jj_iconst F dL_isRefused_846 ?_
          refine jj_iconst F dL_isRefused_847 ?_
          refine jj_iconst F dL_isRefused_848 ?_
          refine jj_iconst F dL_isRefused_849 ?_
          refine jj_iconst F dL_isRefused_850 ?_
          refine la_no F (ka_session F.tr hP hI (by omega) (by omega) (by omega)) 3 (-1763000000) (by unfold t_session; rw [if_neg (by omega), if_neg (by omega), if_pos (by omega)]) (by decide) (fun h => by rw [h]; rfl) (k := 1604) (n0 := 11960) ⟨Nat.le_of_ble_eq_true rfl, Nat.le_of_ble_eq_true rfl, Nat.le_of_ble_eq_true rfl, Nat.le_of_ble_eq_true rfl, Nat.le_of_ble_eq_true rfl, Nat.le_of_ble_eq_true rfl, Nat.le_of_ble_eq_true rfl⟩ dL_isRefused_851 (fun G hP => ?_)
          refine jj_ldc F (v := -1763000000) cn_L_128 (by decide) dL_isRefused_854 ?_
          refine jj_icmp_ne F (tgt := 863) dL_isRefused_856 rfl (by omega) (fun c856 => by exfalso; omega) (fun c856 => ?_)
          exact jj_wide ⟨Nat.le_of_ble_eq_true rfl, Nat.le_of_ble_eq_true rfl⟩ (J859 G hP)
    · skip
      refine jj_if_gt F (tgt := 836) dL_isRefused_817 rfl (by omega) (fun c817 => ?_) (fun c817 => ?_)
      · skip
        exact jj_wide ⟨Nat.le_of_ble_eq_true rfl, Nat.le_of_ble_eq_true rfl⟩ (J836 G hP)
      · skip
        refine jj_aload0 F dL_isRefused_820 ?_
        refine jj_bipush F (by decide) dL_isRefused_821 ?_
        refine jj_iconst F dL_isRefused_823 ?_
        refine jj_iconst F dL_isRefused_824 ?_
        refine jj_iconst F dL_isRefused_825 ?_
        refine jj_iconst F dL_isRefused_826 ?_
        refine jj_iconst F dL_isRefused_827 ?_
        refine la_no F (ka_undo F.tr hP hI ) 1 (-1763000000) (by unfold t_undo; rw [if_pos (by omega)]) (by decide) (fun h => by rw [h]; rfl) (k := 1580) (n0 := 11700) ⟨Nat.le_of_ble_eq_true rfl, Nat.le_of_ble_eq_true rfl, Nat.le_of_ble_eq_true rfl, Nat.le_of_ble_eq_true rfl, Nat.le_of_ble_eq_true rfl, Nat.le_of_ble_eq_true rfl, Nat.le_of_ble_eq_true rfl⟩ dL_isRefused_828 (fun G hP => ?_)
        refine jj_ldc F (v := -1763000000) cn_L_128 (by decide) dL_isRefused_831 ?_
        refine jj_icmp_ne F (tgt := 863) dL_isRefused_833 rfl (by omega) (fun c833 => by exfalso; omega) (fun c833 => ?_)
        exact jj_wide ⟨Nat.le_of_ble_eq_true rfl, Nat.le_of_ble_eq_true rfl⟩ (J836 G hP)
  · skip
    refine jj_icmp_eq F (tgt := 814) dL_isRefused_792 rfl (by omega) (fun c792 => ?_) (fun c792 => ?_)
    · skip
      exact jj_wide ⟨Nat.le_of_ble_eq_true rfl, Nat.le_of_ble_eq_true rfl⟩ (J814 G hP)
    · skip
      refine jj_aload0 F dL_isRefused_795 ?_
      refine jj_bipush F (by decide) dL_isRefused_796 ?_
      refine jj_iload2 F dL_isRefused_798 ?_
      refine jj_bipush F (by decide) dL_isRefused_799 ?_
      refine jj_irem F (by omega) dL_isRefused_801 ?_
      refine jj_iconst F dL_isRefused_802 ?_
      refine jj_iconst F dL_isRefused_803 ?_
      refine jj_iconst F dL_isRefused_804 ?_
      refine jj_iconst F dL_isRefused_805 ?_
      refine la_no F (ka_repair F.tr hP hI (by omega)) 2 (-1763000000) (by unfold t_repair; rw [if_neg (by omega), if_pos (by omega)]) (by decide) (fun h => by rw [h]; rfl) (k := 1556) (n0 := 11440) ⟨Nat.le_of_ble_eq_true rfl, Nat.le_of_ble_eq_true rfl, Nat.le_of_ble_eq_true rfl, Nat.le_of_ble_eq_true rfl, Nat.le_of_ble_eq_true rfl, Nat.le_of_ble_eq_true rfl, Nat.le_of_ble_eq_true rfl⟩ dL_isRefused_806 (fun G hP => ?_)
      refine jj_ldc F (v := -1763000000) cn_L_128 (by decide) dL_isRefused_809 ?_
      refine jj_icmp_ne F (tgt := 863) dL_isRefused_811 rfl (by omega) (fun c811 => by exfalso; omega) (fun c811 => ?_)
      exact jj_wide ⟨Nat.le_of_ble_eq_true rfl, Nat.le_of_ble_eq_true rfl⟩ (J814 G hP)
