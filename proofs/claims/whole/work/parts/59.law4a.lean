/-! ===== the law's own calls: both houses go on together ===== -/
def jone (o : Nat) (x : va_E) : jj_G := fun q => if q = o then some x else none
theorem jone_s {o : Nat} {x : va_E} : jone o x o = some x := if_pos rfl
theorem jone_n {o q : Nat} {x : va_E} (h : q ≠ o) : jone o x q = none := if_neg h
theorem jone_u {o : Nat} {x y : va_E} : jj_u (jone o x) o y = jone o y := by
  funext q
  by_cases e : q = o
  · subst e; rw [jj_us, jone_s]
  · rw [jj_un e, jone_n e, jone_n e]
theorem jDj.one {A : jj_G} {o : Nat} {x : va_E} (h : A o = none) : jDj A (jone o x) := fun q hq => jone_n (fun e => hq (by rw [e]; exact h))
/-- the law's world behind c calls: both houses, and the row of the class's answers -/
def lInv (ac : Nat → ClassId) (xo mo oo : Nat) (c : Int) (G : jj_G) : Prop := ∃ (s e : Sg) (G1 G2 : jj_G) (ad : Ad) (a : Nat → Nat) (g : Int → Int), hInv s e c ∧ Rep ad (cC ac ad s e) G1 ∧ ad 0 0 = xo ∧ RM (ac 0) mo a s G2 ∧ jDj G1 G2 ∧ G1 oo = none ∧ G2 oo = none ∧ G = jj_j G1 (jj_j G2 (jone oo (jj_al (ac 1) 1 g)))
theorem lInv.of {ac : Nat → ClassId} {xo mo oo : Nat} {c : Int} {s e : Sg} {G1 G2 : jj_G} {ad : Ad} {a : Nat → Nat} {g : Int → Int} (h : hInv s e c) (hR : Rep ad (cC ac ad s e) G1) (ha : ad 0 0 = xo) (hM : RM (ac 0) mo a s G2) (hdn : jDj G2 (jj_j G1 (jone oo (jj_al (ac 1) 1 g)))) (h1 : G1 oo = none) : lInv ac xo mo oo c (jj_j G2 (jj_j G1 (jone oo (jj_al (ac 1) 1 g)))) :=
  ⟨s, e, G1, G2, ad, a, g, h, hR, ha, hM, (hdn.jl).symm, h1, hdn.symm oo (jj_sn ((jj_jr h1).trans jone_s)), jj_j_rot hdn.jl⟩
theorem hInv.up {s e : Sg} {c : Int} (h : hInv s e c) (hc : c < 512) : hInv s e (c + 1) := by
  obtain ⟨I1, I2, I3, I4, I5, I6, I7, hc0, K, Z, T, A⟩ := h
  exact ⟨I1, I2, I3, I4, sI5_k (s := s) rfl rfl rfl rfl rfl (by omega) I5, I6, I7, by omega, K, Z, T, A⟩
theorem lInv.up {ac : Nat → ClassId} {xo mo oo : Nat} {c : Int} {G : jj_G} (h : lInv ac xo mo oo c G) (hc : c < 512) : lInv ac xo mo oo (c + 1) G := by
  obtain ⟨s, e, G1, G2, ad, a, g, h, r⟩ := h
  exact ⟨s, e, G1, G2, ad, a, g, h.up hc, r⟩
set_option maxRecDepth 100000 in
set_option maxHeartbeats 1000000 in
theorem ls_session {X : jj_X} (F : jj_F X RL cL_law room_1) (hN : ∀ k, k < 7 → k < jj_nL X) {b L : Nat} {xs : Nat → Int32} (hX : jj_scr X b L xs) (hL : L ≤ 3072) {i c : Int} (hi : 0 ≤ i ∧ i + 6 ≤ L) (hc : c < 512) {xo mo oo : Nat} {G : jj_G} (I : lInv (jj_ac X) xo mo oo c G) {kc kn : Nat} (hk : kc + 100 ≤ 601024 ∧ kn + 1000 ≤ 7293034) {x5 x6 : Option Value} (kk : ∀ (G1 : jj_G) (x5 x6 : Option Value), lInv (jj_ac X) xo mo oo (c + 1) G1 → jj_J X G1 (kc + 100) (kn + 1000) 2412 [some (.ref b), some (.ref xo), some (.ref mo), some (.ref oo), some (.int (jI i)), x5, x6] []) : jj_J X G kc kn 192 [some (.ref b), some (.ref xo), some (.ref mo), some (.ref oo), some (.int (jI i)), x5, x6] [] := by
  obtain ⟨s, e, G1, G2, ad, a, g, h, hR, rfl, hM, hd, h1, h2, rfl⟩ := I
  have hj := hM.rng
  have ho : jj_j G2 (jone oo (jj_al (jj_ac X 1) 1 g)) oo = some (jj_al (jj_ac X 1) 1 g) := (jj_jr h2).trans jone_s
  refine jj_aload1 F dL_law_192 ?_
  refine jj_aload0 F dL_law_193 ?_
  refine jj_iload4 F dL_law_194 ?_
  refine jj_iconst F dL_law_196 ?_
  refine jj_iadd F dL_law_197 ?_
  refine jj_sld F hX (by omega) (by omega) dL_law_198 ?_
  refine jj_aload0 F dL_law_199 ?_
  refine jj_iload4 F dL_law_200 ?_
  refine jj_iconst F dL_law_202 ?_
  refine jj_iadd F dL_law_203 ?_
  refine jj_sld F hX (by omega) (by omega) dL_law_204 ?_
  refine jj_aload0 F dL_law_205 ?_
  refine jj_iload4 F dL_law_206 ?_
  refine jj_iconst F dL_law_208 ?_
  refine jj_iadd F dL_law_209 ?_
  refine jj_sld F hX (by omega) (by omega) dL_law_210 ?_
  refine jj_aload3 F dL_law_211 ?_
  refine jj_callFSi F (k := kc + 100) (n := kn + 1000) (w_session F.tr hR (hd.j (jDj.one h1)) ho h (jSc_r _ _) (jSc_r _ _) (jSc_r _ _) hj) lkw_session rfl ⟨Nat.le_of_ble_eq_true rfl, Nat.le_of_ble_eq_true rfl, (by show kc + 10 ≤ 601024; omega), (by show kn + 110 ≤ 7293034; omega), Nat.le_of_ble_eq_true rfl⟩ ⟨(by show kc + 10 ≤ kc + 100; omega), (by show kn + 110 ≤ kn + 1000; omega)⟩ dL_law_212 (fun r Gw hw => ?_)
  obtain ⟨rfl, Gn, ad1, g1, hd1, rfl, ha1, hR1, hg1⟩ := hw
  have h11 : Gn oo = none := hd1.symm oo (jj_sn ho)
  have hd2 : jDj Gn G2 := hd1.jl
  rw [jj_ur h2, jone_u, jj_j_rot hd2]
  have hdg : jDj G2 (jj_j Gn (jone oo (jj_al (jj_ac X 1) 1 g1))) := hd2.symm.j (jDj.one h2)
  refine jj_istore5 F dL_law_215 (hN _ (by decide)) rfl ?_
  refine jj_aload2 F dL_law_217 ?_
  refine jj_aload0 F dL_law_218 ?_
  refine jj_iload4 F dL_law_219 ?_
  refine jj_iconst F dL_law_221 ?_
  refine jj_iadd F dL_law_222 ?_
  refine jj_sld F hX (by omega) (by omega) dL_law_223 ?_
  refine jj_aload0 F dL_law_224 ?_
  refine jj_iload4 F dL_law_225 ?_
  refine jj_iconst F dL_law_227 ?_
  refine jj_iadd F dL_law_228 ?_
  refine jj_sld F hX (by omega) (by omega) dL_law_229 ?_
  refine jj_aload0 F dL_law_230 ?_
  refine jj_iload4 F dL_law_231 ?_
  refine jj_iconst F dL_law_233 ?_
  refine jj_iadd F dL_law_234 ?_
  refine jj_sld F hX (by omega) (by omega) dL_law_235 ?_
  refine jj_callFVi F hdg (k := kc + 100) (n := kn + 1000) (k9_session F.tr hM h.s (jSc_r _ _) (jSc_r _ _) (jSc_r _ _)) lk_L_131 hM.1 cs_9 rfl rfl ⟨Nat.le_of_ble_eq_true rfl, Nat.le_of_ble_eq_true rfl, (by show kc + 100 + 0 ≤ 601024; omega), (by show kn + 1000 + 0 ≤ 7293034; omega), Nat.le_of_ble_eq_true rfl⟩ ⟨(by show kc + 100 + 0 ≤ kc + 100; omega), (by show kn + 1000 + 0 ≤ kn + 1000; omega)⟩ dL_law_236 (fun E hE => hE.elim) (fun r G3 hp hdn => ?_)
  obtain ⟨rfl, hM1⟩ := hp
  have th := th_session (s := s) (x := jSc xs (i + 1)) (y := jSc xs (i + 2)) (z := jSc xs (i + 3))
  have hrt := hM1.rng 37 0
  rw [th] at hrt
  have fin := fun (x5 x6 : Option Value) => kk _ x5 x6 (lInv.of (h_session h hc) hR1 ha1 hM1 hdn h11)
  have hoo : jj_j G3 (jj_j Gn (jone oo (jj_al (jj_ac X 1) 1 g1))) oo = some (jj_al (jj_ac X 1) 1 g1) := (jj_jr (hdn.symm oo (jj_sn ((jj_jr h11).trans jone_s)))).trans ((jj_jr h11).trans jone_s)
  refine jj_istore6 F dL_law_239 (hN _ (by decide)) rfl ?_
  refine jj_aload2 F dL_law_241 ?_
  refine jj_callFVi F hdn (k := kc + 100) (n := kn + 1000) (k9_thrown F.tr hM1) lk_L_132 hM1.1 cs_9 rfl rfl ⟨Nat.le_of_ble_eq_true rfl, Nat.le_of_ble_eq_true rfl, (by show kc + 100 + 0 ≤ 601024; omega), (by show kn + 1000 + 0 ≤ 7293034; omega), Nat.le_of_ble_eq_true rfl⟩ ⟨(by show kc + 100 + 0 ≤ kc + 100; omega), (by show kn + 1000 + 0 ≤ kn + 1000; omega)⟩ dL_law_242 (fun E hE => hE.elim) (fun r G4 hp _ => ?_)
  obtain ⟨rfl, rfl⟩ := hp
  refine jj_eqi th ?_
  refine jj_iload5 F dL_law_245 ?_
  refine jj_icmpx_eq F (tgt := 252) dL_law_247 rfl (fun _ => ?_) (fun hne => absurd rfl hne)
  refine jj_iload5 F dL_law_252 ?_
  refine jj_if_ne F (tgt := 269) dL_law_254 rfl hrt (fun _ => ?_) (fun h0 => ?_)
  · skip
    refine jj_goto F (tgt := 2412) dL_law_269 rfl ?_
    exact fin _ _
  · skip
    refine jj_aload3 F dL_law_257 ?_
    refine jj_iconst F dL_law_258 ?_
    refine jj_lald F (n := 1) (g := g1) hoo (by decide) (by decide) dL_law_259 ?_
    refine jj_iload6 F dL_law_260 ?_
    refine jj_jw ?_
    refine jj_i2l F (jI_rng _) dL_law_262 ?_
    refine jj_lcmp F dL_law_263 ?_
    refine jj_ifx_eq F (tgt := 269) dL_law_264 rfl (fun _ => ?_) (fun hne => absurd ((lg_cmp_eq _ _).mpr (congrArg jL (hg1 h0))) hne)
    refine jj_goto F (tgt := 2412) dL_law_269 rfl ?_
    exact fin _ _
set_option maxRecDepth 100000 in
set_option maxHeartbeats 1000000 in
theorem ls_splice {X : jj_X} (F : jj_F X RL cL_law room_1) (hN : ∀ k, k < 7 → k < jj_nL X) {b L : Nat} {xs : Nat → Int32} (hX : jj_scr X b L xs) (hL : L ≤ 3072) {i c : Int} (hi : 0 ≤ i ∧ i + 6 ≤ L) (hc : c < 512) {xo mo oo : Nat} {G : jj_G} (I : lInv (jj_ac X) xo mo oo c G) {kc kn : Nat} (hk : kc + 100 ≤ 601024 ∧ kn + 1000 ≤ 7293034) {x5 x6 : Option Value} (kk : ∀ (G1 : jj_G) (x5 x6 : Option Value), lInv (jj_ac X) xo mo oo (c + 1) G1 → jj_J X G1 (kc + 100) (kn + 1000) 2412 [some (.ref b), some (.ref xo), some (.ref mo), some (.ref oo), some (.int (jI i)), x5, x6] []) : jj_J X G kc kn 272 [some (.ref b), some (.ref xo), some (.ref mo), some (.ref oo), some (.int (jI i)), x5, x6] [] := by
  obtain ⟨s, e, G1, G2, ad, a, g, h, hR, rfl, hM, hd, h1, h2, rfl⟩ := I
  have hj := hM.rng
  have ho : jj_j G2 (jone oo (jj_al (jj_ac X 1) 1 g)) oo = some (jj_al (jj_ac X 1) 1 g) := (jj_jr h2).trans jone_s
  refine jj_aload1 F dL_law_272 ?_
  refine jj_aload0 F dL_law_273 ?_
  refine jj_iload4 F dL_law_274 ?_
  refine jj_iconst F dL_law_276 ?_
  refine jj_iadd F dL_law_277 ?_
  refine jj_sld F hX (by omega) (by omega) dL_law_278 ?_
  refine jj_aload0 F dL_law_279 ?_
  refine jj_iload4 F dL_law_280 ?_
  refine jj_iconst F dL_law_282 ?_
  refine jj_iadd F dL_law_283 ?_
  refine jj_sld F hX (by omega) (by omega) dL_law_284 ?_
  refine jj_aload0 F dL_law_285 ?_
  refine jj_iload4 F dL_law_286 ?_
  refine jj_iconst F dL_law_288 ?_
  refine jj_iadd F dL_law_289 ?_
  refine jj_sld F hX (by omega) (by omega) dL_law_290 ?_
  refine jj_aload0 F dL_law_291 ?_
  refine jj_iload4 F dL_law_292 ?_
  refine jj_iconst F dL_law_294 ?_
  refine jj_iadd F dL_law_295 ?_
  refine jj_sld F hX (by omega) (by omega) dL_law_296 ?_
  refine jj_aload0 F dL_law_297 ?_
  refine jj_iload4 F dL_law_298 ?_
  refine jj_iconst F dL_law_300 ?_
  refine jj_iadd F dL_law_301 ?_
  refine jj_sld F hX (by omega) (by omega) dL_law_302 ?_
  refine jj_aload3 F dL_law_303 ?_
  refine jj_callFSi F (k := kc + 100) (n := kn + 1000) (w_splice F.tr hR (hd.j (jDj.one h1)) ho h (jSc_r _ _) (jSc_r _ _) (jSc_r _ _) (jSc_r _ _) (jSc_r _ _) hj) lkw_splice rfl ⟨Nat.le_of_ble_eq_true rfl, Nat.le_of_ble_eq_true rfl, (by show kc + 12 ≤ 601024; omega), (by show kn + 130 ≤ 7293034; omega), Nat.le_of_ble_eq_true rfl⟩ ⟨(by show kc + 12 ≤ kc + 100; omega), (by show kn + 130 ≤ kn + 1000; omega)⟩ dL_law_304 (fun r Gw hw => ?_)
  obtain ⟨rfl, Gn, ad1, g1, hd1, rfl, ha1, hR1, hg1⟩ := hw
  have h11 : Gn oo = none := hd1.symm oo (jj_sn ho)
  have hd2 : jDj Gn G2 := hd1.jl
  rw [jj_ur h2, jone_u, jj_j_rot hd2]
  have hdg : jDj G2 (jj_j Gn (jone oo (jj_al (jj_ac X 1) 1 g1))) := hd2.symm.j (jDj.one h2)
  refine jj_istore5 F dL_law_307 (hN _ (by decide)) rfl ?_
  refine jj_aload2 F dL_law_309 ?_
  refine jj_aload0 F dL_law_310 ?_
  refine jj_iload4 F dL_law_311 ?_
  refine jj_iconst F dL_law_313 ?_
  refine jj_iadd F dL_law_314 ?_
  refine jj_sld F hX (by omega) (by omega) dL_law_315 ?_
  refine jj_aload0 F dL_law_316 ?_
  refine jj_iload4 F dL_law_317 ?_
  refine jj_iconst F dL_law_319 ?_
  refine jj_iadd F dL_law_320 ?_
  refine jj_sld F hX (by omega) (by omega) dL_law_321 ?_
  refine jj_aload0 F dL_law_322 ?_
  refine jj_iload4 F dL_law_323 ?_
  refine jj_iconst F dL_law_325 ?_
  refine jj_iadd F dL_law_326 ?_
  refine jj_sld F hX (by omega) (by omega) dL_law_327 ?_
  refine jj_aload0 F dL_law_328 ?_
  refine jj_iload4 F dL_law_329 ?_
  refine jj_iconst F dL_law_331 ?_
  refine jj_iadd F dL_law_332 ?_
  refine jj_sld F hX (by omega) (by omega) dL_law_333 ?_
  refine jj_aload0 F dL_law_334 ?_
  refine jj_iload4 F dL_law_335 ?_
  refine jj_iconst F dL_law_337 ?_
  refine jj_iadd F dL_law_338 ?_
  refine jj_sld F hX (by omega) (by omega) dL_law_339 ?_
  refine jj_callFVi F hdg (k := kc + 100) (n := kn + 1000) (k9_splice F.tr hM h.s (jSc_r _ _) (jSc_r _ _) (jSc_r _ _) (jSc_r _ _) (jSc_r _ _)) lk_L_138 hM.1 cs_9 rfl rfl ⟨Nat.le_of_ble_eq_true rfl, Nat.le_of_ble_eq_true rfl, (by show kc + 100 + 0 ≤ 601024; omega), (by show kn + 1000 + 0 ≤ 7293034; omega), Nat.le_of_ble_eq_true rfl⟩ ⟨(by show kc + 100 + 0 ≤ kc + 100; omega), (by show kn + 1000 + 0 ≤ kn + 1000; omega)⟩ dL_law_340 (fun E hE => hE.elim) (fun r G3 hp hdn => ?_)
  obtain ⟨rfl, hM1⟩ := hp
  have th := th_splice (s := s) (t := jSc xs (i + 1)) (f := jSc xs (i + 2)) (u := jSc xs (i + 3)) (v := jSc xs (i + 4)) (w := jSc xs (i + 5))
  have hrt := hM1.rng 37 0
  rw [th] at hrt
  have fin := fun (x5 x6 : Option Value) => kk _ x5 x6 (lInv.of (h_splice h hc) hR1 ha1 hM1 hdn h11)
  have hoo : jj_j G3 (jj_j Gn (jone oo (jj_al (jj_ac X 1) 1 g1))) oo = some (jj_al (jj_ac X 1) 1 g1) := (jj_jr (hdn.symm oo (jj_sn ((jj_jr h11).trans jone_s)))).trans ((jj_jr h11).trans jone_s)
  refine jj_istore6 F dL_law_343 (hN _ (by decide)) rfl ?_
  refine jj_aload2 F dL_law_345 ?_
  refine jj_callFVi F hdn (k := kc + 100) (n := kn + 1000) (k9_thrown F.tr hM1) lk_L_132 hM1.1 cs_9 rfl rfl ⟨Nat.le_of_ble_eq_true rfl, Nat.le_of_ble_eq_true rfl, (by show kc + 100 + 0 ≤ 601024; omega), (by show kn + 1000 + 0 ≤ 7293034; omega), Nat.le_of_ble_eq_true rfl⟩ ⟨(by show kc + 100 + 0 ≤ kc + 100; omega), (by show kn + 1000 + 0 ≤ kn + 1000; omega)⟩ dL_law_346 (fun E hE => hE.elim) (fun r G4 hp _ => ?_)
  obtain ⟨rfl, rfl⟩ := hp
  refine jj_eqi th ?_
  refine jj_iload5 F dL_law_349 ?_
  refine jj_icmpx_eq F (tgt := 356) dL_law_351 rfl (fun _ => ?_) (fun hne => absurd rfl hne)
  refine jj_iload5 F dL_law_356 ?_
  refine jj_if_ne F (tgt := 373) dL_law_358 rfl hrt (fun _ => ?_) (fun h0 => ?_)
  · skip
    refine jj_goto F (tgt := 2412) dL_law_373 rfl ?_
    exact fin _ _
  · skip
    refine jj_aload3 F dL_law_361 ?_
    refine jj_iconst F dL_law_362 ?_
    refine jj_lald F (n := 1) (g := g1) hoo (by decide) (by decide) dL_law_363 ?_
    refine jj_iload6 F dL_law_364 ?_
    refine jj_jw ?_
    refine jj_i2l F (jI_rng _) dL_law_366 ?_
    refine jj_lcmp F dL_law_367 ?_
    refine jj_ifx_eq F (tgt := 373) dL_law_368 rfl (fun _ => ?_) (fun hne => absurd ((lg_cmp_eq _ _).mpr (congrArg jL (hg1 h0))) hne)
    refine jj_goto F (tgt := 2412) dL_law_373 rfl ?_
    exact fin _ _
set_option maxRecDepth 100000 in
set_option maxHeartbeats 1000000 in
theorem ls_shed {X : jj_X} (F : jj_F X RL cL_law room_1) (hN : ∀ k, k < 7 → k < jj_nL X) {b L : Nat} {xs : Nat → Int32} (hX : jj_scr X b L xs) (hL : L ≤ 3072) {i c : Int} (hi : 0 ≤ i ∧ i + 6 ≤ L) (hc : c < 512) {xo mo oo : Nat} {G : jj_G} (I : lInv (jj_ac X) xo mo oo c G) {kc kn : Nat} (hk : kc + 100 ≤ 601024 ∧ kn + 1000 ≤ 7293034) {x5 x6 : Option Value} (kk : ∀ (G1 : jj_G) (x5 x6 : Option Value), lInv (jj_ac X) xo mo oo (c + 1) G1 → jj_J X G1 (kc + 100) (kn + 1000) 2412 [some (.ref b), some (.ref xo), some (.ref mo), some (.ref oo), some (.int (jI i)), x5, x6] []) : jj_J X G kc kn 376 [some (.ref b), some (.ref xo), some (.ref mo), some (.ref oo), some (.int (jI i)), x5, x6] [] := by
  obtain ⟨s, e, G1, G2, ad, a, g, h, hR, rfl, hM, hd, h1, h2, rfl⟩ := I
  have hj := hM.rng
  have ho : jj_j G2 (jone oo (jj_al (jj_ac X 1) 1 g)) oo = some (jj_al (jj_ac X 1) 1 g) := (jj_jr h2).trans jone_s
  refine jj_aload1 F dL_law_376 ?_
  refine jj_aload0 F dL_law_377 ?_
  refine jj_iload4 F dL_law_378 ?_
  refine jj_iconst F dL_law_380 ?_
  refine jj_iadd F dL_law_381 ?_
  refine jj_sld F hX (by omega) (by omega) dL_law_382 ?_
  refine jj_callFSi F (k := kc + 100) (n := kn + 1000) (w_shed F.tr hR (hd.j (jDj.one h1)) ho h (jSc_r _ _) hj) lkw_shed rfl ⟨Nat.le_of_ble_eq_true rfl, Nat.le_of_ble_eq_true rfl, (by show kc + 2 ≤ 601024; omega), (by show kn + 12 ≤ 7293034; omega), Nat.le_of_ble_eq_true rfl⟩ ⟨(by show kc + 2 ≤ kc + 100; omega), (by show kn + 12 ≤ kn + 1000; omega)⟩ dL_law_383 (fun r Gw hw => ?_)
  obtain ⟨rfl, Gn, ad1, g1, hd1, rfl, ha1, hR1, hg1⟩ := hw
  have h11 : Gn oo = none := hd1.symm oo (jj_sn ho)
  have hd2 : jDj Gn G2 := hd1.jl
  rw [jj_ur h2, jone_u, jj_j_rot hd2]
  have hdg : jDj G2 (jj_j Gn (jone oo (jj_al (jj_ac X 1) 1 g1))) := hd2.symm.j (jDj.one h2)
  refine jj_istore5 F dL_law_386 (hN _ (by decide)) rfl ?_
  refine jj_aload2 F dL_law_388 ?_
  refine jj_aload0 F dL_law_389 ?_
  refine jj_iload4 F dL_law_390 ?_
  refine jj_iconst F dL_law_392 ?_
  refine jj_iadd F dL_law_393 ?_
  refine jj_sld F hX (by omega) (by omega) dL_law_394 ?_
  refine jj_callFVv F hdg (k := kc + 100) (n := kn + 1000) (k9_shed F.tr hM h.s (jSc_r _ _)) lk_L_142 hM.1 cs_9 rfl rfl ⟨Nat.le_of_ble_eq_true rfl, Nat.le_of_ble_eq_true rfl, (by show kc + 100 + 0 ≤ 601024; omega), (by show kn + 1000 + 0 ≤ 7293034; omega), Nat.le_of_ble_eq_true rfl⟩ ⟨(by show kc + 100 + 0 ≤ kc + 100; omega), (by show kn + 1000 + 0 ≤ kn + 1000; omega)⟩ dL_law_395 (fun E hE => hE.elim) (fun G3 hM1 hdn => ?_)
  have th := th_shed (s := s) (t := jSc xs (i + 1))
  have hrt := hM1.rng 37 0
  rw [th] at hrt
  have fin := fun (x5 x6 : Option Value) => kk _ x5 x6 (lInv.of (h_shed h hc) hR1 ha1 hM1 hdn h11)
  have hoo : jj_j G3 (jj_j Gn (jone oo (jj_al (jj_ac X 1) 1 g1))) oo = some (jj_al (jj_ac X 1) 1 g1) := (jj_jr (hdn.symm oo (jj_sn ((jj_jr h11).trans jone_s)))).trans ((jj_jr h11).trans jone_s)
  refine jj_aload2 F dL_law_398 ?_
  refine jj_callFVi F hdn (k := kc + 100) (n := kn + 1000) (k9_thrown F.tr hM1) lk_L_132 hM1.1 cs_9 rfl rfl ⟨Nat.le_of_ble_eq_true rfl, Nat.le_of_ble_eq_true rfl, (by show kc + 100 + 0 ≤ 601024; omega), (by show kn + 1000 + 0 ≤ 7293034; omega), Nat.le_of_ble_eq_true rfl⟩ ⟨(by show kc + 100 + 0 ≤ kc + 100; omega), (by show kn + 1000 + 0 ≤ kn + 1000; omega)⟩ dL_law_399 (fun E hE => hE.elim) (fun r G4 hp _ => ?_)
  obtain ⟨rfl, rfl⟩ := hp
  refine jj_eqi th ?_
  refine jj_iload5 F dL_law_402 ?_
  refine jj_icmpx_eq F (tgt := 409) dL_law_404 rfl (fun _ => ?_) (fun hne => absurd rfl hne)
  refine jj_goto F (tgt := 2412) dL_law_409 rfl ?_
  exact fin _ _
set_option maxRecDepth 100000 in
set_option maxHeartbeats 1000000 in
theorem ls_bake {X : jj_X} (F : jj_F X RL cL_law room_1) (hN : ∀ k, k < 7 → k < jj_nL X) {b L : Nat} {xs : Nat → Int32} (hX : jj_scr X b L xs) (hL : L ≤ 3072) {i c : Int} (hi : 0 ≤ i ∧ i + 6 ≤ L) (hc : c < 512) {xo mo oo : Nat} {G : jj_G} (I : lInv (jj_ac X) xo mo oo c G) {kc kn : Nat} (hk : kc + 100 ≤ 601024 ∧ kn + 1000 ≤ 7293034) {x5 x6 : Option Value} (kk : ∀ (G1 : jj_G) (x5 x6 : Option Value), lInv (jj_ac X) xo mo oo (c + 1) G1 → jj_J X G1 (kc + 100) (kn + 1000) 2412 [some (.ref b), some (.ref xo), some (.ref mo), some (.ref oo), some (.int (jI i)), x5, x6] []) : jj_J X G kc kn 412 [some (.ref b), some (.ref xo), some (.ref mo), some (.ref oo), some (.int (jI i)), x5, x6] [] := by
  obtain ⟨s, e, G1, G2, ad, a, g, h, hR, rfl, hM, hd, h1, h2, rfl⟩ := I
  have hj := hM.rng
  have ho : jj_j G2 (jone oo (jj_al (jj_ac X 1) 1 g)) oo = some (jj_al (jj_ac X 1) 1 g) := (jj_jr h2).trans jone_s
  refine jj_aload1 F dL_law_412 ?_
  refine jj_aload0 F dL_law_413 ?_
  refine jj_iload4 F dL_law_414 ?_
  refine jj_iconst F dL_law_416 ?_
  refine jj_iadd F dL_law_417 ?_
  refine jj_sld F hX (by omega) (by omega) dL_law_418 ?_
  refine jj_aload3 F dL_law_419 ?_
  refine jj_callFSi F (k := kc + 100) (n := kn + 1000) (w_bake F.tr hR (hd.j (jDj.one h1)) ho h (jSc_r _ _) hj) lkw_bake rfl ⟨Nat.le_of_ble_eq_true rfl, Nat.le_of_ble_eq_true rfl, (by show kc + 2 ≤ 601024; omega), (by show kn + 12 ≤ 7293034; omega), Nat.le_of_ble_eq_true rfl⟩ ⟨(by show kc + 2 ≤ kc + 100; omega), (by show kn + 12 ≤ kn + 1000; omega)⟩ dL_law_420 (fun r Gw hw => ?_)
  obtain ⟨rfl, Gn, ad1, g1, hd1, rfl, ha1, hR1, hg1⟩ := hw
  have h11 : Gn oo = none := hd1.symm oo (jj_sn ho)
  have hd2 : jDj Gn G2 := hd1.jl
  rw [jj_ur h2, jone_u, jj_j_rot hd2]
  have hdg : jDj G2 (jj_j Gn (jone oo (jj_al (jj_ac X 1) 1 g1))) := hd2.symm.j (jDj.one h2)
  refine jj_istore5 F dL_law_423 (hN _ (by decide)) rfl ?_
  refine jj_aload2 F dL_law_425 ?_
  refine jj_aload0 F dL_law_426 ?_
  refine jj_iload4 F dL_law_427 ?_
  refine jj_iconst F dL_law_429 ?_
  refine jj_iadd F dL_law_430 ?_
  refine jj_sld F hX (by omega) (by omega) dL_law_431 ?_
  refine jj_callFVi F hdg (k := kc + 100) (n := kn + 1000) (k9_bake F.tr hM h.s (jSc_r _ _)) lk_L_146 hM.1 cs_9 rfl rfl ⟨Nat.le_of_ble_eq_true rfl, Nat.le_of_ble_eq_true rfl, (by show kc + 100 + 0 ≤ 601024; omega), (by show kn + 1000 + 0 ≤ 7293034; omega), Nat.le_of_ble_eq_true rfl⟩ ⟨(by show kc + 100 + 0 ≤ kc + 100; omega), (by show kn + 1000 + 0 ≤ kn + 1000; omega)⟩ dL_law_432 (fun E hE => hE.elim) (fun r G3 hp hdn => ?_)
  obtain ⟨rfl, hM1⟩ := hp
  have th := th_bake (s := s) (t := jSc xs (i + 1))
  have hrt := hM1.rng 37 0
  rw [th] at hrt
  have fin := fun (x5 x6 : Option Value) => kk _ x5 x6 (lInv.of (h_bake h hc) hR1 ha1 hM1 hdn h11)
  have hoo : jj_j G3 (jj_j Gn (jone oo (jj_al (jj_ac X 1) 1 g1))) oo = some (jj_al (jj_ac X 1) 1 g1) := (jj_jr (hdn.symm oo (jj_sn ((jj_jr h11).trans jone_s)))).trans ((jj_jr h11).trans jone_s)
  refine jj_istore6 F dL_law_435 (hN _ (by decide)) rfl ?_
  refine jj_aload2 F dL_law_437 ?_
  refine jj_callFVi F hdn (k := kc + 100) (n := kn + 1000) (k9_thrown F.tr hM1) lk_L_132 hM1.1 cs_9 rfl rfl ⟨Nat.le_of_ble_eq_true rfl, Nat.le_of_ble_eq_true rfl, (by show kc + 100 + 0 ≤ 601024; omega), (by show kn + 1000 + 0 ≤ 7293034; omega), Nat.le_of_ble_eq_true rfl⟩ ⟨(by show kc + 100 + 0 ≤ kc + 100; omega), (by show kn + 1000 + 0 ≤ kn + 1000; omega)⟩ dL_law_438 (fun E hE => hE.elim) (fun r G4 hp _ => ?_)
  obtain ⟨rfl, rfl⟩ := hp
  refine jj_eqi th ?_
  refine jj_iload5 F dL_law_441 ?_
  refine jj_icmpx_eq F (tgt := 448) dL_law_443 rfl (fun _ => ?_) (fun hne => absurd rfl hne)
  refine jj_iload5 F dL_law_448 ?_
  refine jj_if_ne F (tgt := 465) dL_law_450 rfl hrt (fun _ => ?_) (fun h0 => ?_)
  · skip
    refine jj_goto F (tgt := 2412) dL_law_465 rfl ?_
    exact fin _ _
  · skip
    refine jj_aload3 F dL_law_453 ?_
    refine jj_iconst F dL_law_454 ?_
    refine jj_lald F (n := 1) (g := g1) hoo (by decide) (by decide) dL_law_455 ?_
    refine jj_iload6 F dL_law_456 ?_
    refine jj_jw ?_
    refine jj_i2l F (jI_rng _) dL_law_458 ?_
    refine jj_lcmp F dL_law_459 ?_
    refine jj_ifx_eq F (tgt := 465) dL_law_460 rfl (fun _ => ?_) (fun hne => absurd ((lg_cmp_eq _ _).mpr (congrArg jL (hg1 h0))) hne)
    refine jj_goto F (tgt := 2412) dL_law_465 rfl ?_
    exact fin _ _
set_option maxRecDepth 100000 in
set_option maxHeartbeats 1000000 in
theorem ls_fire {X : jj_X} (F : jj_F X RL cL_law room_1) (hN : ∀ k, k < 7 → k < jj_nL X) {b L : Nat} {xs : Nat → Int32} (hX : jj_scr X b L xs) (hL : L ≤ 3072) {i c : Int} (hi : 0 ≤ i ∧ i + 6 ≤ L) (hc : c < 512) {xo mo oo : Nat} {G : jj_G} (I : lInv (jj_ac X) xo mo oo c G) {kc kn : Nat} (hk : kc + 100 ≤ 601024 ∧ kn + 1000 ≤ 7293034) {x5 x6 : Option Value} (kk : ∀ (G1 : jj_G) (x5 x6 : Option Value), lInv (jj_ac X) xo mo oo (c + 1) G1 → jj_J X G1 (kc + 100) (kn + 1000) 2412 [some (.ref b), some (.ref xo), some (.ref mo), some (.ref oo), some (.int (jI i)), x5, x6] []) : jj_J X G kc kn 468 [some (.ref b), some (.ref xo), some (.ref mo), some (.ref oo), some (.int (jI i)), x5, x6] [] := by
  obtain ⟨s, e, G1, G2, ad, a, g, h, hR, rfl, hM, hd, h1, h2, rfl⟩ := I
  have hj := hM.rng
  have ho : jj_j G2 (jone oo (jj_al (jj_ac X 1) 1 g)) oo = some (jj_al (jj_ac X 1) 1 g) := (jj_jr h2).trans jone_s
  refine jj_aload1 F dL_law_468 ?_
  refine jj_aload0 F dL_law_469 ?_
  refine jj_iload4 F dL_law_470 ?_
  refine jj_iconst F dL_law_472 ?_
  refine jj_iadd F dL_law_473 ?_
  refine jj_sld F hX (by omega) (by omega) dL_law_474 ?_
  refine jj_aload3 F dL_law_475 ?_
  refine jj_callFSi F (k := kc + 100) (n := kn + 1000) (w_fire F.tr hR (hd.j (jDj.one h1)) ho h (jSc_r _ _) hj) lkw_fire rfl ⟨Nat.le_of_ble_eq_true rfl, Nat.le_of_ble_eq_true rfl, (by show kc + 2 ≤ 601024; omega), (by show kn + 12 ≤ 7293034; omega), Nat.le_of_ble_eq_true rfl⟩ ⟨(by show kc + 2 ≤ kc + 100; omega), (by show kn + 12 ≤ kn + 1000; omega)⟩ dL_law_476 (fun r Gw hw => ?_)
  obtain ⟨rfl, Gn, ad1, g1, hd1, rfl, ha1, hR1, hg1⟩ := hw
  have h11 : Gn oo = none := hd1.symm oo (jj_sn ho)
  have hd2 : jDj Gn G2 := hd1.jl
  rw [jj_ur h2, jone_u, jj_j_rot hd2]
  have hdg : jDj G2 (jj_j Gn (jone oo (jj_al (jj_ac X 1) 1 g1))) := hd2.symm.j (jDj.one h2)
  refine jj_istore5 F dL_law_479 (hN _ (by decide)) rfl ?_
  refine jj_aload2 F dL_law_481 ?_
  refine jj_aload0 F dL_law_482 ?_
  refine jj_iload4 F dL_law_483 ?_
  refine jj_iconst F dL_law_485 ?_
  refine jj_iadd F dL_law_486 ?_
  refine jj_sld F hX (by omega) (by omega) dL_law_487 ?_
  refine jj_callFVi F hdg (k := kc + 100) (n := kn + 1000) (k9_fire F.tr hM h.s (jSc_r _ _)) lk_L_149 hM.1 cs_9 rfl rfl ⟨Nat.le_of_ble_eq_true rfl, Nat.le_of_ble_eq_true rfl, (by show kc + 100 + 0 ≤ 601024; omega), (by show kn + 1000 + 0 ≤ 7293034; omega), Nat.le_of_ble_eq_true rfl⟩ ⟨(by show kc + 100 + 0 ≤ kc + 100; omega), (by show kn + 1000 + 0 ≤ kn + 1000; omega)⟩ dL_law_488 (fun E hE => hE.elim) (fun r G3 hp hdn => ?_)
  obtain ⟨rfl, hM1⟩ := hp
  have th := th_fire (s := s) (v := jSc xs (i + 1))
  have hrt := hM1.rng 37 0
  rw [th] at hrt
  have fin := fun (x5 x6 : Option Value) => kk _ x5 x6 (lInv.of (h_fire h hc) hR1 ha1 hM1 hdn h11)
  have hoo : jj_j G3 (jj_j Gn (jone oo (jj_al (jj_ac X 1) 1 g1))) oo = some (jj_al (jj_ac X 1) 1 g1) := (jj_jr (hdn.symm oo (jj_sn ((jj_jr h11).trans jone_s)))).trans ((jj_jr h11).trans jone_s)
  refine jj_istore6 F dL_law_491 (hN _ (by decide)) rfl ?_
  refine jj_aload2 F dL_law_493 ?_
  refine jj_callFVi F hdn (k := kc + 100) (n := kn + 1000) (k9_thrown F.tr hM1) lk_L_132 hM1.1 cs_9 rfl rfl ⟨Nat.le_of_ble_eq_true rfl, Nat.le_of_ble_eq_true rfl, (by show kc + 100 + 0 ≤ 601024; omega), (by show kn + 1000 + 0 ≤ 7293034; omega), Nat.le_of_ble_eq_true rfl⟩ ⟨(by show kc + 100 + 0 ≤ kc + 100; omega), (by show kn + 1000 + 0 ≤ kn + 1000; omega)⟩ dL_law_494 (fun E hE => hE.elim) (fun r G4 hp _ => ?_)
  obtain ⟨rfl, rfl⟩ := hp
  refine jj_eqi th ?_
  refine jj_iload5 F dL_law_497 ?_
  refine jj_icmpx_eq F (tgt := 504) dL_law_499 rfl (fun _ => ?_) (fun hne => absurd rfl hne)
  refine jj_iload5 F dL_law_504 ?_
  refine jj_if_ne F (tgt := 521) dL_law_506 rfl hrt (fun _ => ?_) (fun h0 => ?_)
  · skip
    refine jj_goto F (tgt := 2412) dL_law_521 rfl ?_
    exact fin _ _
  · skip
    refine jj_aload3 F dL_law_509 ?_
    refine jj_iconst F dL_law_510 ?_
    refine jj_lald F (n := 1) (g := g1) hoo (by decide) (by decide) dL_law_511 ?_
    refine jj_iload6 F dL_law_512 ?_
    refine jj_jw ?_
    refine jj_i2l F (jI_rng _) dL_law_514 ?_
    refine jj_lcmp F dL_law_515 ?_
    refine jj_ifx_eq F (tgt := 521) dL_law_516 rfl (fun _ => ?_) (fun hne => absurd ((lg_cmp_eq _ _).mpr (congrArg jL (hg1 h0))) hne)
    refine jj_goto F (tgt := 2412) dL_law_521 rfl ?_
    exact fin _ _
set_option maxRecDepth 100000 in
set_option maxHeartbeats 1000000 in
theorem ls_tapeIs {X : jj_X} (F : jj_F X RL cL_law room_1) (hN : ∀ k, k < 7 → k < jj_nL X) {b L : Nat} {xs : Nat → Int32} (hX : jj_scr X b L xs) (hL : L ≤ 3072) {i c : Int} (hi : 0 ≤ i ∧ i + 6 ≤ L) (hc : c < 512) {xo mo oo : Nat} {G : jj_G} (I : lInv (jj_ac X) xo mo oo c G) {kc kn : Nat} (hk : kc + 100 ≤ 601024 ∧ kn + 1000 ≤ 7293034) {x5 x6 : Option Value} (kk : ∀ (G1 : jj_G) (x5 x6 : Option Value), lInv (jj_ac X) xo mo oo (c + 1) G1 → jj_J X G1 (kc + 100) (kn + 1000) 2412 [some (.ref b), some (.ref xo), some (.ref mo), some (.ref oo), some (.int (jI i)), x5, x6] []) : jj_J X G kc kn 524 [some (.ref b), some (.ref xo), some (.ref mo), some (.ref oo), some (.int (jI i)), x5, x6] [] := by
  obtain ⟨s, e, G1, G2, ad, a, g, h, hR, rfl, hM, hd, h1, h2, rfl⟩ := I
  have hj := hM.rng
  have ho : jj_j G2 (jone oo (jj_al (jj_ac X 1) 1 g)) oo = some (jj_al (jj_ac X 1) 1 g) := (jj_jr h2).trans jone_s
  refine jj_aload1 F dL_law_524 ?_
  refine jj_aload0 F dL_law_525 ?_
  refine jj_iload4 F dL_law_526 ?_
  refine jj_iconst F dL_law_528 ?_
  refine jj_iadd F dL_law_529 ?_
  refine jj_sld F hX (by omega) (by omega) dL_law_530 ?_
  refine jj_aload0 F dL_law_531 ?_
  refine jj_iload4 F dL_law_532 ?_
  refine jj_iconst F dL_law_534 ?_
  refine jj_iadd F dL_law_535 ?_
  refine jj_sld F hX (by omega) (by omega) dL_law_536 ?_
  refine jj_aload3 F dL_law_537 ?_
  refine jj_callFSi F (k := kc + 100) (n := kn + 1000) (w_tapeIs F.tr hR (hd.j (jDj.one h1)) ho h (jSc_r _ _) (jSc_r _ _) hj) lkw_tapeIs rfl ⟨Nat.le_of_ble_eq_true rfl, Nat.le_of_ble_eq_true rfl, (by show kc + 2 ≤ 601024; omega), (by show kn + 12 ≤ 7293034; omega), Nat.le_of_ble_eq_true rfl⟩ ⟨(by show kc + 2 ≤ kc + 100; omega), (by show kn + 12 ≤ kn + 1000; omega)⟩ dL_law_538 (fun r Gw hw => ?_)
  obtain ⟨rfl, Gn, ad1, g1, hd1, rfl, ha1, hR1, hg1⟩ := hw
  have h11 : Gn oo = none := hd1.symm oo (jj_sn ho)
  have hd2 : jDj Gn G2 := hd1.jl
  rw [jj_ur h2, jone_u, jj_j_rot hd2]
  have hdg : jDj G2 (jj_j Gn (jone oo (jj_al (jj_ac X 1) 1 g1))) := hd2.symm.j (jDj.one h2)
  refine jj_istore5 F dL_law_541 (hN _ (by decide)) rfl ?_
  refine jj_aload2 F dL_law_543 ?_
  refine jj_aload0 F dL_law_544 ?_
  refine jj_iload4 F dL_law_545 ?_
  refine jj_iconst F dL_law_547 ?_
  refine jj_iadd F dL_law_548 ?_
  refine jj_sld F hX (by omega) (by omega) dL_law_549 ?_
  refine jj_aload0 F dL_law_550 ?_
  refine jj_iload4 F dL_law_551 ?_
  refine jj_iconst F dL_law_553 ?_
  refine jj_iadd F dL_law_554 ?_
  refine jj_sld F hX (by omega) (by omega) dL_law_555 ?_
  refine jj_callFVi F hdg (k := kc + 100) (n := kn + 1000) (k9_tapeIs F.tr hM h.s (jSc_r _ _) (jSc_r _ _)) lk_L_153 hM.1 cs_9 rfl rfl ⟨Nat.le_of_ble_eq_true rfl, Nat.le_of_ble_eq_true rfl, (by show kc + 100 + 0 ≤ 601024; omega), (by show kn + 1000 + 0 ≤ 7293034; omega), Nat.le_of_ble_eq_true rfl⟩ ⟨(by show kc + 100 + 0 ≤ kc + 100; omega), (by show kn + 1000 + 0 ≤ kn + 1000; omega)⟩ dL_law_556 (fun E hE => hE.elim) (fun r G3 hp hdn => ?_)
  obtain ⟨rfl, hM1⟩ := hp
  have th := th_tapeIs (s := s) (t := jSc xs (i + 1)) (x := jSc xs (i + 2))
  have hrt := hM1.rng 37 0
  rw [th] at hrt
  have fin := fun (x5 x6 : Option Value) => kk _ x5 x6 (lInv.of (h_tapeIs h hc) hR1 ha1 hM1 hdn h11)
  have hoo : jj_j G3 (jj_j Gn (jone oo (jj_al (jj_ac X 1) 1 g1))) oo = some (jj_al (jj_ac X 1) 1 g1) := (jj_jr (hdn.symm oo (jj_sn ((jj_jr h11).trans jone_s)))).trans ((jj_jr h11).trans jone_s)
  refine jj_istore6 F dL_law_559 (hN _ (by decide)) rfl ?_
  refine jj_aload2 F dL_law_561 ?_
  refine jj_callFVi F hdn (k := kc + 100) (n := kn + 1000) (k9_thrown F.tr hM1) lk_L_132 hM1.1 cs_9 rfl rfl ⟨Nat.le_of_ble_eq_true rfl, Nat.le_of_ble_eq_true rfl, (by show kc + 100 + 0 ≤ 601024; omega), (by show kn + 1000 + 0 ≤ 7293034; omega), Nat.le_of_ble_eq_true rfl⟩ ⟨(by show kc + 100 + 0 ≤ kc + 100; omega), (by show kn + 1000 + 0 ≤ kn + 1000; omega)⟩ dL_law_562 (fun E hE => hE.elim) (fun r G4 hp _ => ?_)
  obtain ⟨rfl, rfl⟩ := hp
  refine jj_eqi th ?_
  refine jj_iload5 F dL_law_565 ?_
  refine jj_icmpx_eq F (tgt := 572) dL_law_567 rfl (fun _ => ?_) (fun hne => absurd rfl hne)
  refine jj_iload5 F dL_law_572 ?_
  refine jj_if_ne F (tgt := 589) dL_law_574 rfl hrt (fun _ => ?_) (fun h0 => ?_)
  · skip
    refine jj_goto F (tgt := 2412) dL_law_589 rfl ?_
    exact fin _ _
  · skip
    refine jj_aload3 F dL_law_577 ?_
    refine jj_iconst F dL_law_578 ?_
    refine jj_lald F (n := 1) (g := g1) hoo (by decide) (by decide) dL_law_579 ?_
    refine jj_iload6 F dL_law_580 ?_
    refine jj_jw ?_
    refine jj_i2l F (jI_rng _) dL_law_582 ?_
    refine jj_lcmp F dL_law_583 ?_
    refine jj_ifx_eq F (tgt := 589) dL_law_584 rfl (fun _ => ?_) (fun hne => absurd ((lg_cmp_eq _ _).mpr (congrArg jL (hg1 h0))) hne)
    refine jj_goto F (tgt := 2412) dL_law_589 rfl ?_
    exact fin _ _
set_option maxRecDepth 100000 in
set_option maxHeartbeats 1000000 in
theorem ls_heard {X : jj_X} (F : jj_F X RL cL_law room_1) (hN : ∀ k, k < 7 → k < jj_nL X) {b L : Nat} {xs : Nat → Int32} (hX : jj_scr X b L xs) (hL : L ≤ 3072) {i c : Int} (hi : 0 ≤ i ∧ i + 6 ≤ L) (hc : c < 512) {xo mo oo : Nat} {G : jj_G} (I : lInv (jj_ac X) xo mo oo c G) {kc kn : Nat} (hk : kc + 100 ≤ 601024 ∧ kn + 1000 ≤ 7293034) {x5 x6 : Option Value} (kk : ∀ (G1 : jj_G) (x5 x6 : Option Value), lInv (jj_ac X) xo mo oo (c + 1) G1 → jj_J X G1 (kc + 100) (kn + 1000) 2412 [some (.ref b), some (.ref xo), some (.ref mo), some (.ref oo), some (.int (jI i)), x5, x6] []) : jj_J X G kc kn 592 [some (.ref b), some (.ref xo), some (.ref mo), some (.ref oo), some (.int (jI i)), x5, x6] [] := by
  obtain ⟨s, e, G1, G2, ad, a, g, h, hR, rfl, hM, hd, h1, h2, rfl⟩ := I
  have hj := hM.rng
  have ho : jj_j G2 (jone oo (jj_al (jj_ac X 1) 1 g)) oo = some (jj_al (jj_ac X 1) 1 g) := (jj_jr h2).trans jone_s
  refine jj_aload1 F dL_law_592 ?_
  refine jj_aload0 F dL_law_593 ?_
  refine jj_iload4 F dL_law_594 ?_
  refine jj_iconst F dL_law_596 ?_
  refine jj_iadd F dL_law_597 ?_
  refine jj_sld F hX (by omega) (by omega) dL_law_598 ?_
  refine jj_aload0 F dL_law_599 ?_
  refine jj_iload4 F dL_law_600 ?_
  refine jj_iconst F dL_law_602 ?_
  refine jj_iadd F dL_law_603 ?_
  refine jj_sld F hX (by omega) (by omega) dL_law_604 ?_
  refine jj_aload3 F dL_law_605 ?_
  refine jj_callFSi F (k := kc + 100) (n := kn + 1000) (w_heard F.tr hR (hd.j (jDj.one h1)) ho h (jSc_r _ _) (jSc_r _ _) hj) lkw_heard rfl ⟨Nat.le_of_ble_eq_true rfl, Nat.le_of_ble_eq_true rfl, (by show kc + 2 ≤ 601024; omega), (by show kn + 12 ≤ 7293034; omega), Nat.le_of_ble_eq_true rfl⟩ ⟨(by show kc + 2 ≤ kc + 100; omega), (by show kn + 12 ≤ kn + 1000; omega)⟩ dL_law_606 (fun r Gw hw => ?_)
  obtain ⟨rfl, Gn, ad1, g1, hd1, rfl, ha1, hR1, hg1⟩ := hw
  have h11 : Gn oo = none := hd1.symm oo (jj_sn ho)
  have hd2 : jDj Gn G2 := hd1.jl
  rw [jj_ur h2, jone_u, jj_j_rot hd2]
  have hdg : jDj G2 (jj_j Gn (jone oo (jj_al (jj_ac X 1) 1 g1))) := hd2.symm.j (jDj.one h2)
  refine jj_istore5 F dL_law_609 (hN _ (by decide)) rfl ?_
  refine jj_aload2 F dL_law_611 ?_
  refine jj_aload0 F dL_law_612 ?_
  refine jj_iload4 F dL_law_613 ?_
  refine jj_iconst F dL_law_615 ?_
  refine jj_iadd F dL_law_616 ?_
  refine jj_sld F hX (by omega) (by omega) dL_law_617 ?_
  refine jj_aload0 F dL_law_618 ?_
  refine jj_iload4 F dL_law_619 ?_
  refine jj_iconst F dL_law_621 ?_
  refine jj_iadd F dL_law_622 ?_
  refine jj_sld F hX (by omega) (by omega) dL_law_623 ?_
  refine jj_callFVi F hdg (k := kc + 100) (n := kn + 1000) (k9_heard F.tr hM h.s (jSc_r _ _) (jSc_r _ _)) lk_L_156 hM.1 cs_9 rfl rfl ⟨Nat.le_of_ble_eq_true rfl, Nat.le_of_ble_eq_true rfl, (by show kc + 100 + 0 ≤ 601024; omega), (by show kn + 1000 + 0 ≤ 7293034; omega), Nat.le_of_ble_eq_true rfl⟩ ⟨(by show kc + 100 + 0 ≤ kc + 100; omega), (by show kn + 1000 + 0 ≤ kn + 1000; omega)⟩ dL_law_624 (fun E hE => hE.elim) (fun r G3 hp hdn => ?_)
  obtain ⟨rfl, hM1⟩ := hp
  have th := th_heard (s := s) (t := jSc xs (i + 1)) (x := jSc xs (i + 2))
  have hrt := hM1.rng 37 0
  rw [th] at hrt
  have fin := fun (x5 x6 : Option Value) => kk _ x5 x6 (lInv.of (h_heard h hc) hR1 ha1 hM1 hdn h11)
  have hoo : jj_j G3 (jj_j Gn (jone oo (jj_al (jj_ac X 1) 1 g1))) oo = some (jj_al (jj_ac X 1) 1 g1) := (jj_jr (hdn.symm oo (jj_sn ((jj_jr h11).trans jone_s)))).trans ((jj_jr h11).trans jone_s)
  refine jj_istore6 F dL_law_627 (hN _ (by decide)) rfl ?_
  refine jj_aload2 F dL_law_629 ?_
  refine jj_callFVi F hdn (k := kc + 100) (n := kn + 1000) (k9_thrown F.tr hM1) lk_L_132 hM1.1 cs_9 rfl rfl ⟨Nat.le_of_ble_eq_true rfl, Nat.le_of_ble_eq_true rfl, (by show kc + 100 + 0 ≤ 601024; omega), (by show kn + 1000 + 0 ≤ 7293034; omega), Nat.le_of_ble_eq_true rfl⟩ ⟨(by show kc + 100 + 0 ≤ kc + 100; omega), (by show kn + 1000 + 0 ≤ kn + 1000; omega)⟩ dL_law_630 (fun E hE => hE.elim) (fun r G4 hp _ => ?_)
  obtain ⟨rfl, rfl⟩ := hp
  refine jj_eqi th ?_
  refine jj_iload5 F dL_law_633 ?_
  refine jj_icmpx_eq F (tgt := 640) dL_law_635 rfl (fun _ => ?_) (fun hne => absurd rfl hne)
  refine jj_iload5 F dL_law_640 ?_
  refine jj_if_ne F (tgt := 657) dL_law_642 rfl hrt (fun _ => ?_) (fun h0 => ?_)
  · skip
    refine jj_goto F (tgt := 2412) dL_law_657 rfl ?_
    exact fin _ _
  · skip
    refine jj_aload3 F dL_law_645 ?_
    refine jj_iconst F dL_law_646 ?_
    refine jj_lald F (n := 1) (g := g1) hoo (by decide) (by decide) dL_law_647 ?_
    refine jj_iload6 F dL_law_648 ?_
    refine jj_jw ?_
    refine jj_i2l F (jI_rng _) dL_law_650 ?_
    refine jj_lcmp F dL_law_651 ?_
    refine jj_ifx_eq F (tgt := 657) dL_law_652 rfl (fun _ => ?_) (fun hne => absurd ((lg_cmp_eq _ _).mpr (congrArg jL (hg1 h0))) hne)
    refine jj_goto F (tgt := 2412) dL_law_657 rfl ?_
    exact fin _ _
set_option maxRecDepth 100000 in
set_option maxHeartbeats 1000000 in
theorem ls_takes {X : jj_X} (F : jj_F X RL cL_law room_1) (hN : ∀ k, k < 7 → k < jj_nL X) {b L : Nat} {xs : Nat → Int32} (hX : jj_scr X b L xs) (hL : L ≤ 3072) {i c : Int} (hi : 0 ≤ i ∧ i + 6 ≤ L) (hc : c < 512) {xo mo oo : Nat} {G : jj_G} (I : lInv (jj_ac X) xo mo oo c G) {kc kn : Nat} (hk : kc + 100 ≤ 601024 ∧ kn + 1000 ≤ 7293034) {x5 x6 : Option Value} (kk : ∀ (G1 : jj_G) (x5 x6 : Option Value), lInv (jj_ac X) xo mo oo (c + 1) G1 → jj_J X G1 (kc + 100) (kn + 1000) 2412 [some (.ref b), some (.ref xo), some (.ref mo), some (.ref oo), some (.int (jI i)), x5, x6] []) : jj_J X G kc kn 660 [some (.ref b), some (.ref xo), some (.ref mo), some (.ref oo), some (.int (jI i)), x5, x6] [] := by
  obtain ⟨s, e, G1, G2, ad, a, g, h, hR, rfl, hM, hd, h1, h2, rfl⟩ := I
  have hj := hM.rng
  have ho : jj_j G2 (jone oo (jj_al (jj_ac X 1) 1 g)) oo = some (jj_al (jj_ac X 1) 1 g) := (jj_jr h2).trans jone_s
  refine jj_aload1 F dL_law_660 ?_
  refine jj_aload0 F dL_law_661 ?_
  refine jj_iload4 F dL_law_662 ?_
  refine jj_iconst F dL_law_664 ?_
  refine jj_iadd F dL_law_665 ?_
  refine jj_sld F hX (by omega) (by omega) dL_law_666 ?_
  refine jj_aload3 F dL_law_667 ?_
  refine jj_callFSi F (k := kc + 100) (n := kn + 1000) (w_takes F.tr hR (hd.j (jDj.one h1)) ho h (jSc_r _ _) hj) lkw_takes rfl ⟨Nat.le_of_ble_eq_true rfl, Nat.le_of_ble_eq_true rfl, (by show kc + 2 ≤ 601024; omega), (by show kn + 12 ≤ 7293034; omega), Nat.le_of_ble_eq_true rfl⟩ ⟨(by show kc + 2 ≤ kc + 100; omega), (by show kn + 12 ≤ kn + 1000; omega)⟩ dL_law_668 (fun r Gw hw => ?_)
  obtain ⟨rfl, Gn, ad1, g1, hd1, rfl, ha1, hR1, hg1⟩ := hw
  have h11 : Gn oo = none := hd1.symm oo (jj_sn ho)
  have hd2 : jDj Gn G2 := hd1.jl
  rw [jj_ur h2, jone_u, jj_j_rot hd2]
  have hdg : jDj G2 (jj_j Gn (jone oo (jj_al (jj_ac X 1) 1 g1))) := hd2.symm.j (jDj.one h2)
  refine jj_istore5 F dL_law_671 (hN _ (by decide)) rfl ?_
  refine jj_aload2 F dL_law_673 ?_
  refine jj_aload0 F dL_law_674 ?_
  refine jj_iload4 F dL_law_675 ?_
  refine jj_iconst F dL_law_677 ?_
  refine jj_iadd F dL_law_678 ?_
  refine jj_sld F hX (by omega) (by omega) dL_law_679 ?_
  refine jj_callFVi F hdg (k := kc + 100) (n := kn + 1000) (k9_takes F.tr hM h.s (jSc_r _ _)) lk_L_159 hM.1 cs_9 rfl rfl ⟨Nat.le_of_ble_eq_true rfl, Nat.le_of_ble_eq_true rfl, (by show kc + 100 + 0 ≤ 601024; omega), (by show kn + 1000 + 0 ≤ 7293034; omega), Nat.le_of_ble_eq_true rfl⟩ ⟨(by show kc + 100 + 0 ≤ kc + 100; omega), (by show kn + 1000 + 0 ≤ kn + 1000; omega)⟩ dL_law_680 (fun E hE => hE.elim) (fun r G3 hp hdn => ?_)
  obtain ⟨rfl, hM1⟩ := hp
  have th := th_takes (s := s) (t := jSc xs (i + 1))
  have hrt := hM1.rng 37 0
  rw [th] at hrt
  have fin := fun (x5 x6 : Option Value) => kk _ x5 x6 (lInv.of (h_takes h hc) hR1 ha1 hM1 hdn h11)
  have hoo : jj_j G3 (jj_j Gn (jone oo (jj_al (jj_ac X 1) 1 g1))) oo = some (jj_al (jj_ac X 1) 1 g1) := (jj_jr (hdn.symm oo (jj_sn ((jj_jr h11).trans jone_s)))).trans ((jj_jr h11).trans jone_s)
  refine jj_istore6 F dL_law_683 (hN _ (by decide)) rfl ?_
  refine jj_aload2 F dL_law_685 ?_
  refine jj_callFVi F hdn (k := kc + 100) (n := kn + 1000) (k9_thrown F.tr hM1) lk_L_132 hM1.1 cs_9 rfl rfl ⟨Nat.le_of_ble_eq_true rfl, Nat.le_of_ble_eq_true rfl, (by show kc + 100 + 0 ≤ 601024; omega), (by show kn + 1000 + 0 ≤ 7293034; omega), Nat.le_of_ble_eq_true rfl⟩ ⟨(by show kc + 100 + 0 ≤ kc + 100; omega), (by show kn + 1000 + 0 ≤ kn + 1000; omega)⟩ dL_law_686 (fun E hE => hE.elim) (fun r G4 hp _ => ?_)
  obtain ⟨rfl, rfl⟩ := hp
  refine jj_eqi th ?_
  refine jj_iload5 F dL_law_689 ?_
  refine jj_icmpx_eq F (tgt := 696) dL_law_691 rfl (fun _ => ?_) (fun hne => absurd rfl hne)
  refine jj_iload5 F dL_law_696 ?_
  refine jj_if_ne F (tgt := 713) dL_law_698 rfl hrt (fun _ => ?_) (fun h0 => ?_)
  · skip
    refine jj_goto F (tgt := 2412) dL_law_713 rfl ?_
    exact fin _ _
  · skip
    refine jj_aload3 F dL_law_701 ?_
    refine jj_iconst F dL_law_702 ?_
    refine jj_lald F (n := 1) (g := g1) hoo (by decide) (by decide) dL_law_703 ?_
    refine jj_iload6 F dL_law_704 ?_
    refine jj_jw ?_
    refine jj_i2l F (jI_rng _) dL_law_706 ?_
    refine jj_lcmp F dL_law_707 ?_
    refine jj_ifx_eq F (tgt := 713) dL_law_708 rfl (fun _ => ?_) (fun hne => absurd ((lg_cmp_eq _ _).mpr (congrArg jL (hg1 h0))) hne)
    refine jj_goto F (tgt := 2412) dL_law_713 rfl ?_
    exact fin _ _
set_option maxRecDepth 100000 in
set_option maxHeartbeats 1000000 in
theorem ls_takesAnew {X : jj_X} (F : jj_F X RL cL_law room_1) (hN : ∀ k, k < 7 → k < jj_nL X) {b L : Nat} {xs : Nat → Int32} (hX : jj_scr X b L xs) (hL : L ≤ 3072) {i c : Int} (hi : 0 ≤ i ∧ i + 6 ≤ L) (hc : c < 512) {xo mo oo : Nat} {G : jj_G} (I : lInv (jj_ac X) xo mo oo c G) {kc kn : Nat} (hk : kc + 100 ≤ 601024 ∧ kn + 1000 ≤ 7293034) {x5 x6 : Option Value} (kk : ∀ (G1 : jj_G) (x5 x6 : Option Value), lInv (jj_ac X) xo mo oo (c + 1) G1 → jj_J X G1 (kc + 100) (kn + 1000) 2412 [some (.ref b), some (.ref xo), some (.ref mo), some (.ref oo), some (.int (jI i)), x5, x6] []) : jj_J X G kc kn 716 [some (.ref b), some (.ref xo), some (.ref mo), some (.ref oo), some (.int (jI i)), x5, x6] [] := by
  obtain ⟨s, e, G1, G2, ad, a, g, h, hR, rfl, hM, hd, h1, h2, rfl⟩ := I
  have hj := hM.rng
  have ho : jj_j G2 (jone oo (jj_al (jj_ac X 1) 1 g)) oo = some (jj_al (jj_ac X 1) 1 g) := (jj_jr h2).trans jone_s
  refine jj_aload1 F dL_law_716 ?_
  refine jj_aload0 F dL_law_717 ?_
  refine jj_iload4 F dL_law_718 ?_
  refine jj_iconst F dL_law_720 ?_
  refine jj_iadd F dL_law_721 ?_
  refine jj_sld F hX (by omega) (by omega) dL_law_722 ?_
  refine jj_aload3 F dL_law_723 ?_
  refine jj_callFSi F (k := kc + 100) (n := kn + 1000) (w_takesAnew F.tr hR (hd.j (jDj.one h1)) ho h (jSc_r _ _) hj) lkw_takesAnew rfl ⟨Nat.le_of_ble_eq_true rfl, Nat.le_of_ble_eq_true rfl, (by show kc + 2 ≤ 601024; omega), (by show kn + 12 ≤ 7293034; omega), Nat.le_of_ble_eq_true rfl⟩ ⟨(by show kc + 2 ≤ kc + 100; omega), (by show kn + 12 ≤ kn + 1000; omega)⟩ dL_law_724 (fun r Gw hw => ?_)
  obtain ⟨rfl, Gn, ad1, g1, hd1, rfl, ha1, hR1, hg1⟩ := hw
  have h11 : Gn oo = none := hd1.symm oo (jj_sn ho)
  have hd2 : jDj Gn G2 := hd1.jl
  rw [jj_ur h2, jone_u, jj_j_rot hd2]
  have hdg : jDj G2 (jj_j Gn (jone oo (jj_al (jj_ac X 1) 1 g1))) := hd2.symm.j (jDj.one h2)
  refine jj_istore5 F dL_law_727 (hN _ (by decide)) rfl ?_
  refine jj_aload2 F dL_law_729 ?_
  refine jj_aload0 F dL_law_730 ?_
  refine jj_iload4 F dL_law_731 ?_
  refine jj_iconst F dL_law_733 ?_
  refine jj_iadd F dL_law_734 ?_
  refine jj_sld F hX (by omega) (by omega) dL_law_735 ?_
  refine jj_callFVi F hdg (k := kc + 100) (n := kn + 1000) (k9_takesAnew F.tr hM h.s (jSc_r _ _)) lk_L_162 hM.1 cs_9 rfl rfl ⟨Nat.le_of_ble_eq_true rfl, Nat.le_of_ble_eq_true rfl, (by show kc + 100 + 0 ≤ 601024; omega), (by show kn + 1000 + 0 ≤ 7293034; omega), Nat.le_of_ble_eq_true rfl⟩ ⟨(by show kc + 100 + 0 ≤ kc + 100; omega), (by show kn + 1000 + 0 ≤ kn + 1000; omega)⟩ dL_law_736 (fun E hE => hE.elim) (fun r G3 hp hdn => ?_)
  obtain ⟨rfl, hM1⟩ := hp
  have th := th_takes (s := s) (t := jSc xs (i + 1))
  have hrt := hM1.rng 37 0
  rw [th] at hrt
  have fin := fun (x5 x6 : Option Value) => kk _ x5 x6 (lInv.of (h_takes h hc) hR1 ha1 hM1 hdn h11)
  have hoo : jj_j G3 (jj_j Gn (jone oo (jj_al (jj_ac X 1) 1 g1))) oo = some (jj_al (jj_ac X 1) 1 g1) := (jj_jr (hdn.symm oo (jj_sn ((jj_jr h11).trans jone_s)))).trans ((jj_jr h11).trans jone_s)
  refine jj_istore6 F dL_law_739 (hN _ (by decide)) rfl ?_
  refine jj_aload2 F dL_law_741 ?_
  refine jj_callFVi F hdn (k := kc + 100) (n := kn + 1000) (k9_thrown F.tr hM1) lk_L_132 hM1.1 cs_9 rfl rfl ⟨Nat.le_of_ble_eq_true rfl, Nat.le_of_ble_eq_true rfl, (by show kc + 100 + 0 ≤ 601024; omega), (by show kn + 1000 + 0 ≤ 7293034; omega), Nat.le_of_ble_eq_true rfl⟩ ⟨(by show kc + 100 + 0 ≤ kc + 100; omega), (by show kn + 1000 + 0 ≤ kn + 1000; omega)⟩ dL_law_742 (fun E hE => hE.elim) (fun r G4 hp _ => ?_)
  obtain ⟨rfl, rfl⟩ := hp
  refine jj_eqi th ?_
  refine jj_iload5 F dL_law_745 ?_
  refine jj_icmpx_eq F (tgt := 752) dL_law_747 rfl (fun _ => ?_) (fun hne => absurd rfl hne)
  refine jj_iload5 F dL_law_752 ?_
  refine jj_if_ne F (tgt := 769) dL_law_754 rfl hrt (fun _ => ?_) (fun h0 => ?_)
  · skip
    refine jj_goto F (tgt := 2412) dL_law_769 rfl ?_
    exact fin _ _
  · skip
    refine jj_aload3 F dL_law_757 ?_
    refine jj_iconst F dL_law_758 ?_
    refine jj_lald F (n := 1) (g := g1) hoo (by decide) (by decide) dL_law_759 ?_
    refine jj_iload6 F dL_law_760 ?_
    refine jj_jw ?_
    refine jj_i2l F (jI_rng _) dL_law_762 ?_
    refine jj_lcmp F dL_law_763 ?_
    refine jj_ifx_eq F (tgt := 769) dL_law_764 rfl (fun _ => ?_) (fun hne => absurd ((lg_cmp_eq _ _).mpr (congrArg jL (hg1 h0))) hne)
    refine jj_goto F (tgt := 2412) dL_law_769 rfl ?_
    exact fin _ _
