/-! ===== act: a call by its number; what it throws told as a number ===== -/
abbrev hh_act : List (Nat × Nat × Nat × Nat) := [(0, 501, 502, 120), (0, 501, 507, 123), (0, 501, 512, 126)]
theorem cwL_act : Cond.codeWith yL_act cL_act 8 (some .int) hh_act ∈ jj_GW := jj_gw 332 (by decide +kernel) rfl
theorem lkw_act : jj_lkW RL 133 yL_act cL_act 8 (some .int) hh_act 7 := ⟨jj_nm_of (by decide +kernel), jj_gw 330 (by decide +kernel) rfl, jj_gw 331 (by decide +kernel) rfl, jj_gw 13 (by decide +kernel) rfl, cwL_act⟩
abbrev rm_act : Room := { frames := 9, cells := 12, slots := 130, locals := 170 }
def xC3 (t a b c : Int) : Int := if t = 1 then a else if t = 2 then b else c
/-- behind a call by its number -/
def AP (ac : Nat → ClassId) (A : Nat → Nat) (s e : Sg) (m g r : Int → Int) (t rv : Int) (n e2 : Sg) (code : Int) : Int → jj_G → Prop := fun v G' => (t = 0 ∧ v = rv ∧ WP ac A n e2 m g r G') ∨ (¬ t = 0 ∧ v = code ∧ WP ac A s e m g r G')
abbrev rm_sheds : Room := { frames := 8, cells := 2, slots := 12, locals := 134 }
set_option maxRecDepth 100000 in
set_option maxHeartbeats 400000 in
theorem kw_sheds {l : Launch} {D : va_G} {ac : Nat → ClassId} (hl : l.stackTraces = false) {ad : Ad} {s e : Sg} {t : Int} {G : jj_G} (hR : Rep ad (cC ac ad s e) G) {c : Int} (hI : sInv s c) (ht : jR t) : jj_C l D ac yL_sheds (.code yL_sheds cL_sheds 2 (some .int)) rm_sheds [.ref (ad 0 0), .int (jI t)] G (jj_pi (fun r' G' => t_tape s t 0 = 0 ∧ r' = 0 ∧ ∃ ad' : Ad, ad' 0 0 = ad 0 0 ∧ Rep ad' (cC ac ad' (n_shed s t) e) G')) (jp2 (t_tape s t 0) eB eS) := by
  refine jj_ofx (own := RL) (lv0 := [some (.ref (ad 0 0)), some (.int (jI t))]) hl (by decide +kernel) rfl rfl (Nat.le_of_ble_eq_true rfl) rfl ?_
  intro X B hN hl0 hdg hac hin
  subst hl0; subst hdg; subst hac
  have F := B.F
  refine jj_aload0 F dL_sheds_0 ?_
  refine jj_iload1 F dL_sheds_1 ?_
  refine jj_callVv B (k := 2) (n := 12) (x8_shed F.tr hR hI ht) lk_L_129 (hR.at (k := 0) (i := 0) cc_0) cs_8 rfl rfl ⟨Nat.le_of_ble_eq_true rfl, Nat.le_of_ble_eq_true rfl, Nat.le_of_ble_eq_true rfl, Nat.le_of_ble_eq_true rfl, Nat.le_of_ble_eq_true rfl⟩ ⟨Nat.le_of_ble_eq_true rfl, Nat.le_of_ble_eq_true rfl, Nat.le_of_ble_eq_true rfl, Nat.le_of_ble_eq_true rfl⟩ (fun E hE => ⟨rfl, hE⟩) dL_sheds_2 (fun Gn h => ?_)
  refine jj_iconst F dL_sheds_5 ?_
  exact jj_iret B dL_sheds_6 ⟨Nat.le_of_ble_eq_true rfl, Nat.le_of_ble_eq_true rfl⟩ ⟨_, rfl, h.1, rfl, h.2⟩
section ACH
variable {X : jj_X} {G : jj_G} {w : Int} {a0 : Nat} {lr : List (Option Value)}
theorem ach_0 (F : jj_F X RL cL_act rm_act) (hw : 0 ≤ w ∧ w ≤ 32) (kk : jj_J X G 0 0 0 (some (.ref a0) :: some (.int (jI w)) :: lr) []) : jj_J X G 0 0 0 (some (.ref a0) :: some (.int (jI w)) :: lr) [] := kk
theorem ach_1 (F : jj_F X RL cL_act rm_act) (hw : 1 ≤ w ∧ w ≤ 32) (kk : jj_J X G 0 0 15 (some (.ref a0) :: some (.int (jI w)) :: lr) []) : jj_J X G 0 0 0 (some (.ref a0) :: some (.int (jI w)) :: lr) [] := by
  refine ach_0 F (by omega) ?_
  refine jj_iload1 F dL_act_0 ?_
  exact jj_if_ne F (tgt := 15) dL_act_1 rfl (by omega) (fun _ => kk) (fun hz => by exfalso; omega)
theorem ach_2 (F : jj_F X RL cL_act rm_act) (hw : 2 ≤ w ∧ w ≤ 32) (kk : jj_J X G 0 0 35 (some (.ref a0) :: some (.int (jI w)) :: lr) []) : jj_J X G 0 0 0 (some (.ref a0) :: some (.int (jI w)) :: lr) [] := by
  refine ach_1 F (by omega) ?_
  refine jj_iload1 F dL_act_15 ?_
  refine jj_iconst F dL_act_16 ?_
  exact jj_icmp_ne F (tgt := 35) dL_act_17 rfl (by omega) (fun _ => kk) (fun hz => by exfalso; omega)
theorem ach_3 (F : jj_F X RL cL_act rm_act) (hw : 3 ≤ w ∧ w ≤ 32) (kk : jj_J X G 0 0 48 (some (.ref a0) :: some (.int (jI w)) :: lr) []) : jj_J X G 0 0 0 (some (.ref a0) :: some (.int (jI w)) :: lr) [] := by
  refine ach_2 F (by omega) ?_
  refine jj_iload1 F dL_act_35 ?_
  refine jj_iconst F dL_act_36 ?_
  exact jj_icmp_ne F (tgt := 48) dL_act_37 rfl (by omega) (fun _ => kk) (fun hz => by exfalso; omega)
theorem ach_4 (F : jj_F X RL cL_act rm_act) (hw : 4 ≤ w ∧ w ≤ 32) (kk : jj_J X G 0 0 61 (some (.ref a0) :: some (.int (jI w)) :: lr) []) : jj_J X G 0 0 0 (some (.ref a0) :: some (.int (jI w)) :: lr) [] := by
  refine ach_3 F (by omega) ?_
  refine jj_iload1 F dL_act_48 ?_
  refine jj_iconst F dL_act_49 ?_
  exact jj_icmp_ne F (tgt := 61) dL_act_50 rfl (by omega) (fun _ => kk) (fun hz => by exfalso; omega)
theorem ach_5 (F : jj_F X RL cL_act rm_act) (hw : 5 ≤ w ∧ w ≤ 32) (kk : jj_J X G 0 0 74 (some (.ref a0) :: some (.int (jI w)) :: lr) []) : jj_J X G 0 0 0 (some (.ref a0) :: some (.int (jI w)) :: lr) [] := by
  refine ach_4 F (by omega) ?_
  refine jj_iload1 F dL_act_61 ?_
  refine jj_iconst F dL_act_62 ?_
  exact jj_icmp_ne F (tgt := 74) dL_act_63 rfl (by omega) (fun _ => kk) (fun hz => by exfalso; omega)
theorem ach_6 (F : jj_F X RL cL_act rm_act) (hw : 6 ≤ w ∧ w ≤ 32) (kk : jj_J X G 0 0 88 (some (.ref a0) :: some (.int (jI w)) :: lr) []) : jj_J X G 0 0 0 (some (.ref a0) :: some (.int (jI w)) :: lr) [] := by
  refine ach_5 F (by omega) ?_
  refine jj_iload1 F dL_act_74 ?_
  refine jj_iconst F dL_act_75 ?_
  exact jj_icmp_ne F (tgt := 88) dL_act_76 rfl (by omega) (fun _ => kk) (fun hz => by exfalso; omega)
theorem ach_7 (F : jj_F X RL cL_act rm_act) (hw : 7 ≤ w ∧ w ≤ 32) (kk : jj_J X G 0 0 103 (some (.ref a0) :: some (.int (jI w)) :: lr) []) : jj_J X G 0 0 0 (some (.ref a0) :: some (.int (jI w)) :: lr) [] := by
  refine ach_6 F (by omega) ?_
  refine jj_iload1 F dL_act_88 ?_
  refine jj_bipush F (by decide) dL_act_89 ?_
  exact jj_icmp_ne F (tgt := 103) dL_act_91 rfl (by omega) (fun _ => kk) (fun hz => by exfalso; omega)
theorem ach_8 (F : jj_F X RL cL_act rm_act) (hw : 8 ≤ w ∧ w ≤ 32) (kk : jj_J X G 0 0 117 (some (.ref a0) :: some (.int (jI w)) :: lr) []) : jj_J X G 0 0 0 (some (.ref a0) :: some (.int (jI w)) :: lr) [] := by
  refine ach_7 F (by omega) ?_
  refine jj_iload1 F dL_act_103 ?_
  refine jj_bipush F (by decide) dL_act_104 ?_
  exact jj_icmp_ne F (tgt := 117) dL_act_106 rfl (by omega) (fun _ => kk) (fun hz => by exfalso; omega)
theorem ach_9 (F : jj_F X RL cL_act rm_act) (hw : 9 ≤ w ∧ w ≤ 32) (kk : jj_J X G 0 0 131 (some (.ref a0) :: some (.int (jI w)) :: lr) []) : jj_J X G 0 0 0 (some (.ref a0) :: some (.int (jI w)) :: lr) [] := by
  refine ach_8 F (by omega) ?_
  refine jj_iload1 F dL_act_117 ?_
  refine jj_bipush F (by decide) dL_act_118 ?_
  exact jj_icmp_ne F (tgt := 131) dL_act_120 rfl (by omega) (fun _ => kk) (fun hz => by exfalso; omega)
theorem ach_10 (F : jj_F X RL cL_act rm_act) (hw : 10 ≤ w ∧ w ≤ 32) (kk : jj_J X G 0 0 153 (some (.ref a0) :: some (.int (jI w)) :: lr) []) : jj_J X G 0 0 0 (some (.ref a0) :: some (.int (jI w)) :: lr) [] := by
  refine ach_9 F (by omega) ?_
  refine jj_iload1 F dL_act_131 ?_
  refine jj_bipush F (by decide) dL_act_132 ?_
  exact jj_icmp_ne F (tgt := 153) dL_act_134 rfl (by omega) (fun _ => kk) (fun hz => by exfalso; omega)
theorem ach_11 (F : jj_F X RL cL_act rm_act) (hw : 11 ≤ w ∧ w ≤ 32) (kk : jj_J X G 0 0 167 (some (.ref a0) :: some (.int (jI w)) :: lr) []) : jj_J X G 0 0 0 (some (.ref a0) :: some (.int (jI w)) :: lr) [] := by
  refine ach_10 F (by omega) ?_
  refine jj_iload1 F dL_act_153 ?_
  refine jj_bipush F (by decide) dL_act_154 ?_
  exact jj_icmp_ne F (tgt := 167) dL_act_156 rfl (by omega) (fun _ => kk) (fun hz => by exfalso; omega)
theorem ach_12 (F : jj_F X RL cL_act rm_act) (hw : 12 ≤ w ∧ w ≤ 32) (kk : jj_J X G 0 0 181 (some (.ref a0) :: some (.int (jI w)) :: lr) []) : jj_J X G 0 0 0 (some (.ref a0) :: some (.int (jI w)) :: lr) [] := by
  refine ach_11 F (by omega) ?_
  refine jj_iload1 F dL_act_167 ?_
  refine jj_bipush F (by decide) dL_act_168 ?_
  exact jj_icmp_ne F (tgt := 181) dL_act_170 rfl (by omega) (fun _ => kk) (fun hz => by exfalso; omega)
theorem ach_13 (F : jj_F X RL cL_act rm_act) (hw : 13 ≤ w ∧ w ≤ 32) (kk : jj_J X G 0 0 196 (some (.ref a0) :: some (.int (jI w)) :: lr) []) : jj_J X G 0 0 0 (some (.ref a0) :: some (.int (jI w)) :: lr) [] := by
  refine ach_12 F (by omega) ?_
  refine jj_iload1 F dL_act_181 ?_
  refine jj_bipush F (by decide) dL_act_182 ?_
  exact jj_icmp_ne F (tgt := 196) dL_act_184 rfl (by omega) (fun _ => kk) (fun hz => by exfalso; omega)
theorem ach_14 (F : jj_F X RL cL_act rm_act) (hw : 14 ≤ w ∧ w ≤ 32) (kk : jj_J X G 0 0 213 (some (.ref a0) :: some (.int (jI w)) :: lr) []) : jj_J X G 0 0 0 (some (.ref a0) :: some (.int (jI w)) :: lr) [] := by
  refine ach_13 F (by omega) ?_
  refine jj_iload1 F dL_act_196 ?_
  refine jj_bipush F (by decide) dL_act_197 ?_
  exact jj_icmp_ne F (tgt := 213) dL_act_199 rfl (by omega) (fun _ => kk) (fun hz => by exfalso; omega)
theorem ach_15 (F : jj_F X RL cL_act rm_act) (hw : 15 ≤ w ∧ w ≤ 32) (kk : jj_J X G 0 0 232 (some (.ref a0) :: some (.int (jI w)) :: lr) []) : jj_J X G 0 0 0 (some (.ref a0) :: some (.int (jI w)) :: lr) [] := by
  refine ach_14 F (by omega) ?_
  refine jj_iload1 F dL_act_213 ?_
  refine jj_bipush F (by decide) dL_act_214 ?_
  exact jj_icmp_ne F (tgt := 232) dL_act_216 rfl (by omega) (fun _ => kk) (fun hz => by exfalso; omega)
theorem ach_16 (F : jj_F X RL cL_act rm_act) (hw : 16 ≤ w ∧ w ≤ 32) (kk : jj_J X G 0 0 251 (some (.ref a0) :: some (.int (jI w)) :: lr) []) : jj_J X G 0 0 0 (some (.ref a0) :: some (.int (jI w)) :: lr) [] := by
  refine ach_15 F (by omega) ?_
  refine jj_iload1 F dL_act_232 ?_
  refine jj_bipush F (by decide) dL_act_233 ?_
  exact jj_icmp_ne F (tgt := 251) dL_act_235 rfl (by omega) (fun _ => kk) (fun hz => by exfalso; omega)
theorem ach_17 (F : jj_F X RL cL_act rm_act) (hw : 17 ≤ w ∧ w ≤ 32) (kk : jj_J X G 0 0 270 (some (.ref a0) :: some (.int (jI w)) :: lr) []) : jj_J X G 0 0 0 (some (.ref a0) :: some (.int (jI w)) :: lr) [] := by
  refine ach_16 F (by omega) ?_
  refine jj_iload1 F dL_act_251 ?_
  refine jj_bipush F (by decide) dL_act_252 ?_
  exact jj_icmp_ne F (tgt := 270) dL_act_254 rfl (by omega) (fun _ => kk) (fun hz => by exfalso; omega)
theorem ach_18 (F : jj_F X RL cL_act rm_act) (hw : 18 ≤ w ∧ w ≤ 32) (kk : jj_J X G 0 0 289 (some (.ref a0) :: some (.int (jI w)) :: lr) []) : jj_J X G 0 0 0 (some (.ref a0) :: some (.int (jI w)) :: lr) [] := by
  refine ach_17 F (by omega) ?_
  refine jj_iload1 F dL_act_270 ?_
  refine jj_bipush F (by decide) dL_act_271 ?_
  exact jj_icmp_ne F (tgt := 289) dL_act_273 rfl (by omega) (fun _ => kk) (fun hz => by exfalso; omega)
theorem ach_19 (F : jj_F X RL cL_act rm_act) (hw : 19 ≤ w ∧ w ≤ 32) (kk : jj_J X G 0 0 306 (some (.ref a0) :: some (.int (jI w)) :: lr) []) : jj_J X G 0 0 0 (some (.ref a0) :: some (.int (jI w)) :: lr) [] := by
  refine ach_18 F (by omega) ?_
  refine jj_iload1 F dL_act_289 ?_
  refine jj_bipush F (by decide) dL_act_290 ?_
  exact jj_icmp_ne F (tgt := 306) dL_act_292 rfl (by omega) (fun _ => kk) (fun hz => by exfalso; omega)
theorem ach_20 (F : jj_F X RL cL_act rm_act) (hw : 20 ≤ w ∧ w ≤ 32) (kk : jj_J X G 0 0 323 (some (.ref a0) :: some (.int (jI w)) :: lr) []) : jj_J X G 0 0 0 (some (.ref a0) :: some (.int (jI w)) :: lr) [] := by
  refine ach_19 F (by omega) ?_
  refine jj_iload1 F dL_act_306 ?_
  refine jj_bipush F (by decide) dL_act_307 ?_
  exact jj_icmp_ne F (tgt := 323) dL_act_309 rfl (by omega) (fun _ => kk) (fun hz => by exfalso; omega)
theorem ach_21 (F : jj_F X RL cL_act rm_act) (hw : 21 ≤ w ∧ w ≤ 32) (kk : jj_J X G 0 0 338 (some (.ref a0) :: some (.int (jI w)) :: lr) []) : jj_J X G 0 0 0 (some (.ref a0) :: some (.int (jI w)) :: lr) [] := by
  refine ach_20 F (by omega) ?_
  refine jj_iload1 F dL_act_323 ?_
  refine jj_bipush F (by decide) dL_act_324 ?_
  exact jj_icmp_ne F (tgt := 338) dL_act_326 rfl (by omega) (fun _ => kk) (fun hz => by exfalso; omega)
theorem ach_22 (F : jj_F X RL cL_act rm_act) (hw : 22 ≤ w ∧ w ≤ 32) (kk : jj_J X G 0 0 353 (some (.ref a0) :: some (.int (jI w)) :: lr) []) : jj_J X G 0 0 0 (some (.ref a0) :: some (.int (jI w)) :: lr) [] := by
  refine ach_21 F (by omega) ?_
  refine jj_iload1 F dL_act_338 ?_
  refine jj_bipush F (by decide) dL_act_339 ?_
  exact jj_icmp_ne F (tgt := 353) dL_act_341 rfl (by omega) (fun _ => kk) (fun hz => by exfalso; omega)
theorem ach_23 (F : jj_F X RL cL_act rm_act) (hw : 23 ≤ w ∧ w ≤ 32) (kk : jj_J X G 0 0 367 (some (.ref a0) :: some (.int (jI w)) :: lr) []) : jj_J X G 0 0 0 (some (.ref a0) :: some (.int (jI w)) :: lr) [] := by
  refine ach_22 F (by omega) ?_
  refine jj_iload1 F dL_act_353 ?_
  refine jj_bipush F (by decide) dL_act_354 ?_
  exact jj_icmp_ne F (tgt := 367) dL_act_356 rfl (by omega) (fun _ => kk) (fun hz => by exfalso; omega)
theorem ach_24 (F : jj_F X RL cL_act rm_act) (hw : 24 ≤ w ∧ w ≤ 32) (kk : jj_J X G 0 0 382 (some (.ref a0) :: some (.int (jI w)) :: lr) []) : jj_J X G 0 0 0 (some (.ref a0) :: some (.int (jI w)) :: lr) [] := by
  refine ach_23 F (by omega) ?_
  refine jj_iload1 F dL_act_367 ?_
  refine jj_bipush F (by decide) dL_act_368 ?_
  exact jj_icmp_ne F (tgt := 382) dL_act_370 rfl (by omega) (fun _ => kk) (fun hz => by exfalso; omega)
theorem ach_25 (F : jj_F X RL cL_act rm_act) (hw : 25 ≤ w ∧ w ≤ 32) (kk : jj_J X G 0 0 396 (some (.ref a0) :: some (.int (jI w)) :: lr) []) : jj_J X G 0 0 0 (some (.ref a0) :: some (.int (jI w)) :: lr) [] := by
  refine ach_24 F (by omega) ?_
  refine jj_iload1 F dL_act_382 ?_
  refine jj_bipush F (by decide) dL_act_383 ?_
  exact jj_icmp_ne F (tgt := 396) dL_act_385 rfl (by omega) (fun _ => kk) (fun hz => by exfalso; omega)
theorem ach_26 (F : jj_F X RL cL_act rm_act) (hw : 26 ≤ w ∧ w ≤ 32) (kk : jj_J X G 0 0 410 (some (.ref a0) :: some (.int (jI w)) :: lr) []) : jj_J X G 0 0 0 (some (.ref a0) :: some (.int (jI w)) :: lr) [] := by
  refine ach_25 F (by omega) ?_
  refine jj_iload1 F dL_act_396 ?_
  refine jj_bipush F (by decide) dL_act_397 ?_
  exact jj_icmp_ne F (tgt := 410) dL_act_399 rfl (by omega) (fun _ => kk) (fun hz => by exfalso; omega)
theorem ach_27 (F : jj_F X RL cL_act rm_act) (hw : 27 ≤ w ∧ w ≤ 32) (kk : jj_J X G 0 0 423 (some (.ref a0) :: some (.int (jI w)) :: lr) []) : jj_J X G 0 0 0 (some (.ref a0) :: some (.int (jI w)) :: lr) [] := by
  refine ach_26 F (by omega) ?_
  refine jj_iload1 F dL_act_410 ?_
  refine jj_bipush F (by decide) dL_act_411 ?_
  exact jj_icmp_ne F (tgt := 423) dL_act_413 rfl (by omega) (fun _ => kk) (fun hz => by exfalso; omega)
theorem ach_28 (F : jj_F X RL cL_act rm_act) (hw : 28 ≤ w ∧ w ≤ 32) (kk : jj_J X G 0 0 437 (some (.ref a0) :: some (.int (jI w)) :: lr) []) : jj_J X G 0 0 0 (some (.ref a0) :: some (.int (jI w)) :: lr) [] := by
  refine ach_27 F (by omega) ?_
  refine jj_iload1 F dL_act_423 ?_
  refine jj_bipush F (by decide) dL_act_424 ?_
  exact jj_icmp_ne F (tgt := 437) dL_act_426 rfl (by omega) (fun _ => kk) (fun hz => by exfalso; omega)
theorem ach_29 (F : jj_F X RL cL_act rm_act) (hw : 29 ≤ w ∧ w ≤ 32) (kk : jj_J X G 0 0 454 (some (.ref a0) :: some (.int (jI w)) :: lr) []) : jj_J X G 0 0 0 (some (.ref a0) :: some (.int (jI w)) :: lr) [] := by
  refine ach_28 F (by omega) ?_
  refine jj_iload1 F dL_act_437 ?_
  refine jj_bipush F (by decide) dL_act_438 ?_
  exact jj_icmp_ne F (tgt := 454) dL_act_440 rfl (by omega) (fun _ => kk) (fun hz => by exfalso; omega)
theorem ach_30 (F : jj_F X RL cL_act rm_act) (hw : 30 ≤ w ∧ w ≤ 32) (kk : jj_J X G 0 0 468 (some (.ref a0) :: some (.int (jI w)) :: lr) []) : jj_J X G 0 0 0 (some (.ref a0) :: some (.int (jI w)) :: lr) [] := by
  refine ach_29 F (by omega) ?_
  refine jj_iload1 F dL_act_454 ?_
  refine jj_bipush F (by decide) dL_act_455 ?_
  exact jj_icmp_ne F (tgt := 468) dL_act_457 rfl (by omega) (fun _ => kk) (fun hz => by exfalso; omega)
theorem ach_31 (F : jj_F X RL cL_act rm_act) (hw : 31 ≤ w ∧ w ≤ 32) (kk : jj_J X G 0 0 482 (some (.ref a0) :: some (.int (jI w)) :: lr) []) : jj_J X G 0 0 0 (some (.ref a0) :: some (.int (jI w)) :: lr) [] := by
  refine ach_30 F (by omega) ?_
  refine jj_iload1 F dL_act_468 ?_
  refine jj_bipush F (by decide) dL_act_469 ?_
  exact jj_icmp_ne F (tgt := 482) dL_act_471 rfl (by omega) (fun _ => kk) (fun hz => by exfalso; omega)
theorem ach_32 (F : jj_F X RL cL_act rm_act) (hw : 32 ≤ w ∧ w ≤ 32) (kk : jj_J X G 0 0 496 (some (.ref a0) :: some (.int (jI w)) :: lr) []) : jj_J X G 0 0 0 (some (.ref a0) :: some (.int (jI w)) :: lr) [] := by
  refine ach_31 F (by omega) ?_
  refine jj_iload1 F dL_act_482 ?_
  refine jj_bipush F (by decide) dL_act_483 ?_
  exact jj_icmp_ne F (tgt := 496) dL_act_485 rfl (by omega) (fun _ => kk) (fun hz => by exfalso; omega)
end ACH
set_option maxRecDepth 100000 in
set_option maxHeartbeats 400000 in
theorem ka_session {l : Launch} {D : va_G} {ac : Nat → ClassId} (hl : l.stackTraces = false) {A : Nat → Nat} {s e : Sg} {mm gg rr : Int → Int} {G : jj_G} (hP : WP ac A s e mm gg rr G) {c : Int} (h : hInv s e c) {x y z z0 z1 : Int} (hx1 : jR x) (hy1 : jR y) (hz1 : jR z) : jj_C l D ac yL_act (.codeWith yL_act cL_act 8 (some .int) hh_act) rm_act [.ref (A 0), .int (jI 0), .int (jI x), .int (jI y), .int (jI z), .int (jI z0), .int (jI z1)] G (jj_pi (AP ac A s e mm gg rr (t_session s x y z) (r_session s x y z) (n_session s x y z) (eT e (s 1 0) (-1) 0 0 (-1)) (xC3 (t_session s x y z) (-1761000000) (-1762000000) (-1763000000)))) jj_nx := by
  obtain ⟨G1, G2, rfl, hd, ⟨ad, ha, hR⟩, hG⟩ := hP
  rw [← ha]
  refine jj_ofH (own := RL) (lv0 := [some (.ref (ad 0 0)), some (.int (jI 0)), some (.int (jI x)), some (.int (jI y)), some (.int (jI z)), some (.int (jI z0)), some (.int (jI z1)), none]) hl (by decide +kernel) rfl rfl (Nat.le_of_ble_eq_true rfl) rfl cwL_act ?_
  intro X B hN hl0 hdg hac
  subst hl0; subst hdg; subst hac
  have F := B.F
  refine ach_0 F (by omega) ?_
  refine jj_iload1 F dL_act_0 ?_
  refine jj_if_ne F (tgt := 15) dL_act_1 rfl (by omega) (fun hz => by exfalso; omega) (fun _ => ?_)
  refine jj_aload0 F dL_act_4 ?_
  refine jj_iload2 F dL_act_5 ?_
  refine jj_iload3 F dL_act_6 ?_
  refine jj_iload4 F dL_act_7 ?_
  refine jj_callFVi F hd (k := 10) (n := 110) (x8_session F.tr hR h.s hx1 hy1 hz1 h.E h.Z) lk_L_9 (hR.at (k := 0) (i := 0) cc_0) cs_8 rfl rfl ⟨Nat.le_of_ble_eq_true rfl, Nat.le_of_ble_eq_true rfl, Nat.le_of_ble_eq_true rfl, Nat.le_of_ble_eq_true rfl, Nat.le_of_ble_eq_true rfl⟩ ⟨Nat.le_of_ble_eq_true rfl, Nat.le_of_ble_eq_true rfl⟩ dL_act_9 (fun E hE => ?_) (fun r1 Gn hp hdn => ?_)
  · skip
    rcases hE with ⟨ht, rfl⟩ | ⟨ht, rfl⟩ | ⟨ht, rfl⟩
    · skip
      refine jj_catch F B.tab [] 0 501 502 120 [(0, 501, 507, 123), (0, 501, 512, 126)] rfl (fun _ h => absurd h List.not_mem_nil) (by decide) (by decide) cl_L_120 ca_B (fun q => ?_)
      refine jj_astore7 F dL_act_502 (hN _ (by decide)) rfl ?_
      refine jj_ldc F (v := -1761000000) cn_L_122 (by decide) dL_act_504 ?_
      exact jj_iretH B dL_act_506 ⟨Nat.le_of_ble_eq_true rfl, Nat.le_of_ble_eq_true rfl⟩ ⟨_, rfl, Or.inr ⟨by omega, by rw [ht]; rfl, G1, G2, rfl, hd, ⟨ad, ha, hR⟩, hG⟩⟩
    · skip
      refine jj_catch F B.tab [(0, 501, 502, 120)] 0 501 507 123 [(0, 501, 512, 126)] rfl (List.forall_mem_cons.mpr ⟨⟨by decide, _, cl_L_120, nn_AB⟩, (fun _ h => absurd h List.not_mem_nil)⟩) (by decide) (by decide) cl_L_123 ca_A (fun q => ?_)
      refine jj_astore7 F dL_act_507 (hN _ (by decide)) rfl ?_
      refine jj_ldc F (v := -1762000000) cn_L_125 (by decide) dL_act_509 ?_
      exact jj_iretH B dL_act_511 ⟨Nat.le_of_ble_eq_true rfl, Nat.le_of_ble_eq_true rfl⟩ ⟨_, rfl, Or.inr ⟨by omega, by rw [ht]; rfl, G1, G2, rfl, hd, ⟨ad, ha, hR⟩, hG⟩⟩
    · skip
      refine jj_catch F B.tab [(0, 501, 502, 120), (0, 501, 507, 123)] 0 501 512 126 [] rfl (List.forall_mem_cons.mpr ⟨⟨by decide, _, cl_L_120, nn_SB⟩, (List.forall_mem_cons.mpr ⟨⟨by decide, _, cl_L_123, nn_SA⟩, (fun _ h => absurd h List.not_mem_nil)⟩)⟩) (by decide) (by decide) cl_L_126 ca_S (fun q => ?_)
      refine jj_astore7 F dL_act_512 (hN _ (by decide)) rfl ?_
      refine jj_ldc F (v := -1763000000) cn_L_128 (by decide) dL_act_514 ?_
      exact jj_iretH B dL_act_516 ⟨Nat.le_of_ble_eq_true rfl, Nat.le_of_ble_eq_true rfl⟩ ⟨_, rfl, Or.inr ⟨by omega, by rw [ht]; rfl, G1, G2, rfl, hd, ⟨ad, ha, hR⟩, hG⟩⟩
  · skip
    obtain ⟨ht, rfl, ad', ha', hR'⟩ := hp
    refine jj_goto F (tgt := 501) dL_act_12 rfl ?_
    exact jj_iretH B dL_act_501 ⟨Nat.le_of_ble_eq_true rfl, Nat.le_of_ble_eq_true rfl⟩ ⟨_, rfl, Or.inl ⟨ht, rfl, Gn, G2, rfl, hdn, ⟨ad', ha'.trans ha, hR'⟩, hG⟩⟩
set_option maxRecDepth 100000 in
set_option maxHeartbeats 400000 in
theorem ka_splice {l : Launch} {D : va_G} {ac : Nat → ClassId} (hl : l.stackTraces = false) {A : Nat → Nat} {s e : Sg} {mm gg rr : Int → Int} {G : jj_G} (hP : WP ac A s e mm gg rr G) {c : Int} (h : hInv s e c) {t f u v w : Int} (ht1 : jR t) (hf1 : jR f) (hu1 : jR u) (hv1 : jR v) (hw1 : jR w) : jj_C l D ac yL_act (.codeWith yL_act cL_act 8 (some .int) hh_act) rm_act [.ref (A 0), .int (jI 1), .int (jI t), .int (jI f), .int (jI u), .int (jI v), .int (jI w)] G (jj_pi (AP ac A s e mm gg rr (t_splice s t f u v w) (r_splice s t f u v w) (n_splice s t f u v w) (eT e (s 1 0) t f u v) (xC3 (t_splice s t f u v w) (-1761000000) (-1762000000) (-1763000000)))) jj_nx := by
  obtain ⟨G1, G2, rfl, hd, ⟨ad, ha, hR⟩, hG⟩ := hP
  rw [← ha]
  refine jj_ofH (own := RL) (lv0 := [some (.ref (ad 0 0)), some (.int (jI 1)), some (.int (jI t)), some (.int (jI f)), some (.int (jI u)), some (.int (jI v)), some (.int (jI w)), none]) hl (by decide +kernel) rfl rfl (Nat.le_of_ble_eq_true rfl) rfl cwL_act ?_
  intro X B hN hl0 hdg hac
  subst hl0; subst hdg; subst hac
  have F := B.F
  refine ach_1 F (by omega) ?_
  refine jj_iload1 F dL_act_15 ?_
  refine jj_iconst F dL_act_16 ?_
  refine jj_icmp_ne F (tgt := 35) dL_act_17 rfl (by omega) (fun hz => by exfalso; omega) (fun _ => ?_)
  refine jj_aload0 F dL_act_20 ?_
  refine jj_iload2 F dL_act_21 ?_
  refine jj_iload3 F dL_act_22 ?_
  refine jj_iload4 F dL_act_23 ?_
  refine jj_iload5 F dL_act_25 ?_
  refine jj_iload6 F dL_act_27 ?_
  refine jj_callFVi F hd (k := 12) (n := 130) (x8_splice F.tr hR h.s ht1 hf1 hu1 hv1 hw1 h.E h.Z) lk_L_15 (hR.at (k := 0) (i := 0) cc_0) cs_8 rfl rfl ⟨Nat.le_of_ble_eq_true rfl, Nat.le_of_ble_eq_true rfl, Nat.le_of_ble_eq_true rfl, Nat.le_of_ble_eq_true rfl, Nat.le_of_ble_eq_true rfl⟩ ⟨Nat.le_of_ble_eq_true rfl, Nat.le_of_ble_eq_true rfl⟩ dL_act_29 (fun E hE => ?_) (fun r1 Gn hp hdn => ?_)
  · skip
    rcases hE with ⟨ht, rfl⟩ | ⟨ht, rfl⟩ | ⟨ht, rfl⟩
    · skip
      refine jj_catch F B.tab [] 0 501 502 120 [(0, 501, 507, 123), (0, 501, 512, 126)] rfl (fun _ h => absurd h List.not_mem_nil) (by decide) (by decide) cl_L_120 ca_B (fun q => ?_)
      refine jj_astore7 F dL_act_502 (hN _ (by decide)) rfl ?_
      refine jj_ldc F (v := -1761000000) cn_L_122 (by decide) dL_act_504 ?_
      exact jj_iretH B dL_act_506 ⟨Nat.le_of_ble_eq_true rfl, Nat.le_of_ble_eq_true rfl⟩ ⟨_, rfl, Or.inr ⟨by omega, by rw [ht]; rfl, G1, G2, rfl, hd, ⟨ad, ha, hR⟩, hG⟩⟩
    · skip
      refine jj_catch F B.tab [(0, 501, 502, 120)] 0 501 507 123 [(0, 501, 512, 126)] rfl (List.forall_mem_cons.mpr ⟨⟨by decide, _, cl_L_120, nn_AB⟩, (fun _ h => absurd h List.not_mem_nil)⟩) (by decide) (by decide) cl_L_123 ca_A (fun q => ?_)
      refine jj_astore7 F dL_act_507 (hN _ (by decide)) rfl ?_
      refine jj_ldc F (v := -1762000000) cn_L_125 (by decide) dL_act_509 ?_
      exact jj_iretH B dL_act_511 ⟨Nat.le_of_ble_eq_true rfl, Nat.le_of_ble_eq_true rfl⟩ ⟨_, rfl, Or.inr ⟨by omega, by rw [ht]; rfl, G1, G2, rfl, hd, ⟨ad, ha, hR⟩, hG⟩⟩
    · skip
      refine jj_catch F B.tab [(0, 501, 502, 120), (0, 501, 507, 123)] 0 501 512 126 [] rfl (List.forall_mem_cons.mpr ⟨⟨by decide, _, cl_L_120, nn_SB⟩, (List.forall_mem_cons.mpr ⟨⟨by decide, _, cl_L_123, nn_SA⟩, (fun _ h => absurd h List.not_mem_nil)⟩)⟩) (by decide) (by decide) cl_L_126 ca_S (fun q => ?_)
      refine jj_astore7 F dL_act_512 (hN _ (by decide)) rfl ?_
      refine jj_ldc F (v := -1763000000) cn_L_128 (by decide) dL_act_514 ?_
      exact jj_iretH B dL_act_516 ⟨Nat.le_of_ble_eq_true rfl, Nat.le_of_ble_eq_true rfl⟩ ⟨_, rfl, Or.inr ⟨by omega, by rw [ht]; rfl, G1, G2, rfl, hd, ⟨ad, ha, hR⟩, hG⟩⟩
  · skip
    obtain ⟨ht, rfl, ad', ha', hR'⟩ := hp
    refine jj_goto F (tgt := 501) dL_act_32 rfl ?_
    exact jj_iretH B dL_act_501 ⟨Nat.le_of_ble_eq_true rfl, Nat.le_of_ble_eq_true rfl⟩ ⟨_, rfl, Or.inl ⟨ht, rfl, Gn, G2, rfl, hdn, ⟨ad', ha'.trans ha, hR'⟩, hG⟩⟩
set_option maxRecDepth 100000 in
set_option maxHeartbeats 400000 in
theorem ka_shed {l : Launch} {D : va_G} {ac : Nat → ClassId} (hl : l.stackTraces = false) {A : Nat → Nat} {s e : Sg} {mm gg rr : Int → Int} {G : jj_G} (hP : WP ac A s e mm gg rr G) {c : Int} (h : hInv s e c) {t z0 z1 z2 z3 : Int} (ht1 : jR t) : jj_C l D ac yL_act (.codeWith yL_act cL_act 8 (some .int) hh_act) rm_act [.ref (A 0), .int (jI 2), .int (jI t), .int (jI z0), .int (jI z1), .int (jI z2), .int (jI z3)] G (jj_pi (AP ac A s e mm gg rr (t_tape s t 0) (0) (n_shed s t) (e) (xC3 (t_tape s t 0) (-1761000000) (-1763000000) (-1763000000)))) jj_nx := by
  obtain ⟨G1, G2, rfl, hd, ⟨ad, ha, hR⟩, hG⟩ := hP
  rw [← ha]
  refine jj_ofH (own := RL) (lv0 := [some (.ref (ad 0 0)), some (.int (jI 2)), some (.int (jI t)), some (.int (jI z0)), some (.int (jI z1)), some (.int (jI z2)), some (.int (jI z3)), none]) hl (by decide +kernel) rfl rfl (Nat.le_of_ble_eq_true rfl) rfl cwL_act ?_
  intro X B hN hl0 hdg hac
  subst hl0; subst hdg; subst hac
  have F := B.F
  refine ach_2 F (by omega) ?_
  refine jj_iload1 F dL_act_35 ?_
  refine jj_iconst F dL_act_36 ?_
  refine jj_icmp_ne F (tgt := 48) dL_act_37 rfl (by omega) (fun hz => by exfalso; omega) (fun _ => ?_)
  refine jj_aload0 F dL_act_40 ?_
  refine jj_iload2 F dL_act_41 ?_
  refine jj_runF F hd (jj_runS F (kw_sheds F.tr hR h.s ht1) lk_L_19 (rest := []) rfl ⟨Nat.le_of_ble_eq_true rfl, Nat.le_of_ble_eq_true rfl, Nat.le_of_ble_eq_true rfl, Nat.le_of_ble_eq_true rfl, Nat.le_of_ble_eq_true rfl⟩ dL_act_42) (k := 2) (n := 12) ⟨Nat.le_of_ble_eq_true rfl, Nat.le_of_ble_eq_true rfl⟩ rfl (fun E hE => ?_) ?_
  · skip
    rcases hE with ⟨ht, rfl⟩ | ⟨ht, rfl⟩
    · skip
      refine jj_catch F B.tab [] 0 501 502 120 [(0, 501, 507, 123), (0, 501, 512, 126)] rfl (fun _ h => absurd h List.not_mem_nil) (by decide) (by decide) cl_L_120 ca_B (fun q => ?_)
      refine jj_astore7 F dL_act_502 (hN _ (by decide)) rfl ?_
      refine jj_ldc F (v := -1761000000) cn_L_122 (by decide) dL_act_504 ?_
      exact jj_iretH B dL_act_506 ⟨Nat.le_of_ble_eq_true rfl, Nat.le_of_ble_eq_true rfl⟩ ⟨_, rfl, Or.inr ⟨by omega, by rw [ht]; rfl, G1, G2, rfl, hd, ⟨ad, ha, hR⟩, hG⟩⟩
    · skip
      refine jj_catch F B.tab [(0, 501, 502, 120), (0, 501, 507, 123)] 0 501 512 126 [] rfl (List.forall_mem_cons.mpr ⟨⟨by decide, _, cl_L_120, nn_SB⟩, (List.forall_mem_cons.mpr ⟨⟨by decide, _, cl_L_123, nn_SA⟩, (fun _ h => absurd h List.not_mem_nil)⟩)⟩) (by decide) (by decide) cl_L_126 ca_S (fun q => ?_)
      refine jj_astore7 F dL_act_512 (hN _ (by decide)) rfl ?_
      refine jj_ldc F (v := -1763000000) cn_L_128 (by decide) dL_act_514 ?_
      exact jj_iretH B dL_act_516 ⟨Nat.le_of_ble_eq_true rfl, Nat.le_of_ble_eq_true rfl⟩ ⟨_, rfl, Or.inr ⟨by omega, by rw [ht]; rfl, G1, G2, rfl, hd, ⟨ad, ha, hR⟩, hG⟩⟩
  · skip
    rintro v Gn ⟨r1, rfl, hp⟩ hdn
    show jj_J X _ _ _ _ _ [.int (jI r1)]
    obtain ⟨ht, rfl, ad', ha', hR'⟩ := hp
    refine jj_goto F (tgt := 501) dL_act_45 rfl ?_
    exact jj_iretH B dL_act_501 ⟨Nat.le_of_ble_eq_true rfl, Nat.le_of_ble_eq_true rfl⟩ ⟨_, rfl, Or.inl ⟨ht, rfl, Gn, G2, rfl, hdn, ⟨ad', ha'.trans ha, hR'⟩, hG⟩⟩
set_option maxRecDepth 100000 in
set_option maxHeartbeats 400000 in
theorem ka_bake {l : Launch} {D : va_G} {ac : Nat → ClassId} (hl : l.stackTraces = false) {A : Nat → Nat} {s e : Sg} {mm gg rr : Int → Int} {G : jj_G} (hP : WP ac A s e mm gg rr G) {c : Int} (h : hInv s e c) {t z0 z1 z2 z3 : Int} (ht1 : jR t) : jj_C l D ac yL_act (.codeWith yL_act cL_act 8 (some .int) hh_act) rm_act [.ref (A 0), .int (jI 3), .int (jI t), .int (jI z0), .int (jI z1), .int (jI z2), .int (jI z3)] G (jj_pi (AP ac A s e mm gg rr (t_tape s t 1) (r_bake s t) (n_bake s t) (e) (xC3 (t_tape s t 1) (-1761000000) (-1763000000) (-1763000000)))) jj_nx := by
  obtain ⟨G1, G2, rfl, hd, ⟨ad, ha, hR⟩, hG⟩ := hP
  rw [← ha]
  refine jj_ofH (own := RL) (lv0 := [some (.ref (ad 0 0)), some (.int (jI 3)), some (.int (jI t)), some (.int (jI z0)), some (.int (jI z1)), some (.int (jI z2)), some (.int (jI z3)), none]) hl (by decide +kernel) rfl rfl (Nat.le_of_ble_eq_true rfl) rfl cwL_act ?_
  intro X B hN hl0 hdg hac
  subst hl0; subst hdg; subst hac
  have F := B.F
  refine ach_3 F (by omega) ?_
  refine jj_iload1 F dL_act_48 ?_
  refine jj_iconst F dL_act_49 ?_
  refine jj_icmp_ne F (tgt := 61) dL_act_50 rfl (by omega) (fun hz => by exfalso; omega) (fun _ => ?_)
  refine jj_aload0 F dL_act_53 ?_
  refine jj_iload2 F dL_act_54 ?_
  refine jj_callFVi F hd (k := 2) (n := 12) (x8_bake F.tr hR h.s ht1 ) lk_L_25 (hR.at (k := 0) (i := 0) cc_0) cs_8 rfl rfl ⟨Nat.le_of_ble_eq_true rfl, Nat.le_of_ble_eq_true rfl, Nat.le_of_ble_eq_true rfl, Nat.le_of_ble_eq_true rfl, Nat.le_of_ble_eq_true rfl⟩ ⟨Nat.le_of_ble_eq_true rfl, Nat.le_of_ble_eq_true rfl⟩ dL_act_55 (fun E hE => ?_) (fun r1 Gn hp hdn => ?_)
  · skip
    rcases hE with ⟨ht, rfl⟩ | ⟨ht, rfl⟩
    · skip
      refine jj_catch F B.tab [] 0 501 502 120 [(0, 501, 507, 123), (0, 501, 512, 126)] rfl (fun _ h => absurd h List.not_mem_nil) (by decide) (by decide) cl_L_120 ca_B (fun q => ?_)
      refine jj_astore7 F dL_act_502 (hN _ (by decide)) rfl ?_
      refine jj_ldc F (v := -1761000000) cn_L_122 (by decide) dL_act_504 ?_
      exact jj_iretH B dL_act_506 ⟨Nat.le_of_ble_eq_true rfl, Nat.le_of_ble_eq_true rfl⟩ ⟨_, rfl, Or.inr ⟨by omega, by rw [ht]; rfl, G1, G2, rfl, hd, ⟨ad, ha, hR⟩, hG⟩⟩
    · skip
      refine jj_catch F B.tab [(0, 501, 502, 120), (0, 501, 507, 123)] 0 501 512 126 [] rfl (List.forall_mem_cons.mpr ⟨⟨by decide, _, cl_L_120, nn_SB⟩, (List.forall_mem_cons.mpr ⟨⟨by decide, _, cl_L_123, nn_SA⟩, (fun _ h => absurd h List.not_mem_nil)⟩)⟩) (by decide) (by decide) cl_L_126 ca_S (fun q => ?_)
      refine jj_astore7 F dL_act_512 (hN _ (by decide)) rfl ?_
      refine jj_ldc F (v := -1763000000) cn_L_128 (by decide) dL_act_514 ?_
      exact jj_iretH B dL_act_516 ⟨Nat.le_of_ble_eq_true rfl, Nat.le_of_ble_eq_true rfl⟩ ⟨_, rfl, Or.inr ⟨by omega, by rw [ht]; rfl, G1, G2, rfl, hd, ⟨ad, ha, hR⟩, hG⟩⟩
  · skip
    obtain ⟨ht, rfl, ad', ha', hR'⟩ := hp
    refine jj_goto F (tgt := 501) dL_act_58 rfl ?_
    exact jj_iretH B dL_act_501 ⟨Nat.le_of_ble_eq_true rfl, Nat.le_of_ble_eq_true rfl⟩ ⟨_, rfl, Or.inl ⟨ht, rfl, Gn, G2, rfl, hdn, ⟨ad', ha'.trans ha, hR'⟩, hG⟩⟩
set_option maxRecDepth 100000 in
set_option maxHeartbeats 400000 in
theorem ka_fire {l : Launch} {D : va_G} {ac : Nat → ClassId} (hl : l.stackTraces = false) {A : Nat → Nat} {s e : Sg} {mm gg rr : Int → Int} {G : jj_G} (hP : WP ac A s e mm gg rr G) {c : Int} (h : hInv s e c) {v z0 z1 z2 z3 : Int} (hv1 : jR v) : jj_C l D ac yL_act (.codeWith yL_act cL_act 8 (some .int) hh_act) rm_act [.ref (A 0), .int (jI 4), .int (jI v), .int (jI z0), .int (jI z1), .int (jI z2), .int (jI z3)] G (jj_pi (AP ac A s e mm gg rr (t_vault v) (r_fire s v) (n_fire s v) (e) (xC3 (t_vault v) (-1761000000) (-1761000000) (-1761000000)))) jj_nx := by
  obtain ⟨G1, G2, rfl, hd, ⟨ad, ha, hR⟩, hG⟩ := hP
  rw [← ha]
  refine jj_ofH (own := RL) (lv0 := [some (.ref (ad 0 0)), some (.int (jI 4)), some (.int (jI v)), some (.int (jI z0)), some (.int (jI z1)), some (.int (jI z2)), some (.int (jI z3)), none]) hl (by decide +kernel) rfl rfl (Nat.le_of_ble_eq_true rfl) rfl cwL_act ?_
  intro X B hN hl0 hdg hac
  subst hl0; subst hdg; subst hac
  have F := B.F
  refine ach_4 F (by omega) ?_
  refine jj_iload1 F dL_act_61 ?_
  refine jj_iconst F dL_act_62 ?_
  refine jj_icmp_ne F (tgt := 74) dL_act_63 rfl (by omega) (fun hz => by exfalso; omega) (fun _ => ?_)
  refine jj_aload0 F dL_act_66 ?_
  refine jj_iload2 F dL_act_67 ?_
  refine jj_callFVi F hd (k := 2) (n := 12) (x8_fire F.tr hR h.s hv1 ) lk_L_29 (hR.at (k := 0) (i := 0) cc_0) cs_8 rfl rfl ⟨Nat.le_of_ble_eq_true rfl, Nat.le_of_ble_eq_true rfl, Nat.le_of_ble_eq_true rfl, Nat.le_of_ble_eq_true rfl, Nat.le_of_ble_eq_true rfl⟩ ⟨Nat.le_of_ble_eq_true rfl, Nat.le_of_ble_eq_true rfl⟩ dL_act_68 (fun E hE => ?_) (fun r1 Gn hp hdn => ?_)
  · skip
    obtain ⟨ht, rfl⟩ := hE
    refine jj_catch F B.tab [] 0 501 502 120 [(0, 501, 507, 123), (0, 501, 512, 126)] rfl (fun _ h => absurd h List.not_mem_nil) (by decide) (by decide) cl_L_120 ca_B (fun q => ?_)
    refine jj_astore7 F dL_act_502 (hN _ (by decide)) rfl ?_
    refine jj_ldc F (v := -1761000000) cn_L_122 (by decide) dL_act_504 ?_
    exact jj_iretH B dL_act_506 ⟨Nat.le_of_ble_eq_true rfl, Nat.le_of_ble_eq_true rfl⟩ ⟨_, rfl, Or.inr ⟨by omega, by rw [ht]; rfl, G1, G2, rfl, hd, ⟨ad, ha, hR⟩, hG⟩⟩
  · skip
    obtain ⟨ht, rfl, ad', ha', hR'⟩ := hp
    refine jj_goto F (tgt := 501) dL_act_71 rfl ?_
    exact jj_iretH B dL_act_501 ⟨Nat.le_of_ble_eq_true rfl, Nat.le_of_ble_eq_true rfl⟩ ⟨_, rfl, Or.inl ⟨ht, rfl, Gn, G2, rfl, hdn, ⟨ad', ha'.trans ha, hR'⟩, hG⟩⟩
set_option maxRecDepth 100000 in
set_option maxHeartbeats 400000 in
theorem ka_tapeIs {l : Launch} {D : va_G} {ac : Nat → ClassId} (hl : l.stackTraces = false) {A : Nat → Nat} {s e : Sg} {mm gg rr : Int → Int} {G : jj_G} (hP : WP ac A s e mm gg rr G) {c : Int} (h : hInv s e c) {t x z0 z1 z2 : Int} (ht1 : jR t) (hx1 : jR x) : jj_C l D ac yL_act (.codeWith yL_act cL_act 8 (some .int) hh_act) rm_act [.ref (A 0), .int (jI 5), .int (jI t), .int (jI x), .int (jI z0), .int (jI z1), .int (jI z2)] G (jj_pi (AP ac A s e mm gg rr (t_tapeIs s t x) (r_tapeIs s t x) (s) (e) (xC3 (t_tapeIs s t x) (-1761000000) (-1762000000) (-1762000000)))) jj_nx := by
  obtain ⟨G1, G2, rfl, hd, ⟨ad, ha, hR⟩, hG⟩ := hP
  rw [← ha]
  refine jj_ofH (own := RL) (lv0 := [some (.ref (ad 0 0)), some (.int (jI 5)), some (.int (jI t)), some (.int (jI x)), some (.int (jI z0)), some (.int (jI z1)), some (.int (jI z2)), none]) hl (by decide +kernel) rfl rfl (Nat.le_of_ble_eq_true rfl) rfl cwL_act ?_
  intro X B hN hl0 hdg hac
  subst hl0; subst hdg; subst hac
  have F := B.F
  refine ach_5 F (by omega) ?_
  refine jj_iload1 F dL_act_74 ?_
  refine jj_iconst F dL_act_75 ?_
  refine jj_icmp_ne F (tgt := 88) dL_act_76 rfl (by omega) (fun hz => by exfalso; omega) (fun _ => ?_)
  refine jj_aload0 F dL_act_79 ?_
  refine jj_iload2 F dL_act_80 ?_
  refine jj_iload3 F dL_act_81 ?_
  refine jj_callFVi F hd (k := 2) (n := 12) (x8_tapeIs F.tr hR h.s ht1 hx1 ) lk_L_32 (hR.at (k := 0) (i := 0) cc_0) cs_8 rfl rfl ⟨Nat.le_of_ble_eq_true rfl, Nat.le_of_ble_eq_true rfl, Nat.le_of_ble_eq_true rfl, Nat.le_of_ble_eq_true rfl, Nat.le_of_ble_eq_true rfl⟩ ⟨Nat.le_of_ble_eq_true rfl, Nat.le_of_ble_eq_true rfl⟩ dL_act_82 (fun E hE => ?_) (fun r1 Gn hp hdn => ?_)
  · skip
    rcases hE with ⟨ht, rfl⟩ | ⟨ht, rfl⟩
    · skip
      refine jj_catch F B.tab [] 0 501 502 120 [(0, 501, 507, 123), (0, 501, 512, 126)] rfl (fun _ h => absurd h List.not_mem_nil) (by decide) (by decide) cl_L_120 ca_B (fun q => ?_)
      refine jj_astore7 F dL_act_502 (hN _ (by decide)) rfl ?_
      refine jj_ldc F (v := -1761000000) cn_L_122 (by decide) dL_act_504 ?_
      exact jj_iretH B dL_act_506 ⟨Nat.le_of_ble_eq_true rfl, Nat.le_of_ble_eq_true rfl⟩ ⟨_, rfl, Or.inr ⟨by omega, by rw [ht]; rfl, G1, G2, rfl, hd, ⟨ad, ha, hR⟩, hG⟩⟩
    · skip
      refine jj_catch F B.tab [(0, 501, 502, 120)] 0 501 507 123 [(0, 501, 512, 126)] rfl (List.forall_mem_cons.mpr ⟨⟨by decide, _, cl_L_120, nn_AB⟩, (fun _ h => absurd h List.not_mem_nil)⟩) (by decide) (by decide) cl_L_123 ca_A (fun q => ?_)
      refine jj_astore7 F dL_act_507 (hN _ (by decide)) rfl ?_
      refine jj_ldc F (v := -1762000000) cn_L_125 (by decide) dL_act_509 ?_
      exact jj_iretH B dL_act_511 ⟨Nat.le_of_ble_eq_true rfl, Nat.le_of_ble_eq_true rfl⟩ ⟨_, rfl, Or.inr ⟨by omega, by rw [ht]; rfl, G1, G2, rfl, hd, ⟨ad, ha, hR⟩, hG⟩⟩
  · skip
    obtain ⟨ht, rfl, ad', ha', hR'⟩ := hp
    refine jj_goto F (tgt := 501) dL_act_85 rfl ?_
    exact jj_iretH B dL_act_501 ⟨Nat.le_of_ble_eq_true rfl, Nat.le_of_ble_eq_true rfl⟩ ⟨_, rfl, Or.inl ⟨ht, rfl, Gn, G2, rfl, hdn, HG.u37 ⟨ad', ha'.trans ha, hR'⟩, hG⟩⟩
set_option maxRecDepth 100000 in
set_option maxHeartbeats 400000 in
theorem ka_heard {l : Launch} {D : va_G} {ac : Nat → ClassId} (hl : l.stackTraces = false) {A : Nat → Nat} {s e : Sg} {mm gg rr : Int → Int} {G : jj_G} (hP : WP ac A s e mm gg rr G) {c : Int} (h : hInv s e c) {t x z0 z1 z2 : Int} (ht1 : jR t) (hx1 : jR x) : jj_C l D ac yL_act (.codeWith yL_act cL_act 8 (some .int) hh_act) rm_act [.ref (A 0), .int (jI 6), .int (jI t), .int (jI x), .int (jI z0), .int (jI z1), .int (jI z2)] G (jj_pi (AP ac A s e mm gg rr (t_heard s t x) (r_heard s t x) (s) (e) (xC3 (t_heard s t x) (-1761000000) (-1762000000) (-1762000000)))) jj_nx := by
  obtain ⟨G1, G2, rfl, hd, ⟨ad, ha, hR⟩, hG⟩ := hP
  rw [← ha]
  refine jj_ofH (own := RL) (lv0 := [some (.ref (ad 0 0)), some (.int (jI 6)), some (.int (jI t)), some (.int (jI x)), some (.int (jI z0)), some (.int (jI z1)), some (.int (jI z2)), none]) hl (by decide +kernel) rfl rfl (Nat.le_of_ble_eq_true rfl) rfl cwL_act ?_
  intro X B hN hl0 hdg hac
  subst hl0; subst hdg; subst hac
  have F := B.F
  refine ach_6 F (by omega) ?_
  refine jj_iload1 F dL_act_88 ?_
  refine jj_bipush F (by decide) dL_act_89 ?_
  refine jj_icmp_ne F (tgt := 103) dL_act_91 rfl (by omega) (fun hz => by exfalso; omega) (fun _ => ?_)
  refine jj_aload0 F dL_act_94 ?_
  refine jj_iload2 F dL_act_95 ?_
  refine jj_iload3 F dL_act_96 ?_
  refine jj_callFVi F hd (k := 2) (n := 12) (x8_heard F.tr hR h.s ht1 hx1 ) lk_L_36 (hR.at (k := 0) (i := 0) cc_0) cs_8 rfl rfl ⟨Nat.le_of_ble_eq_true rfl, Nat.le_of_ble_eq_true rfl, Nat.le_of_ble_eq_true rfl, Nat.le_of_ble_eq_true rfl, Nat.le_of_ble_eq_true rfl⟩ ⟨Nat.le_of_ble_eq_true rfl, Nat.le_of_ble_eq_true rfl⟩ dL_act_97 (fun E hE => ?_) (fun r1 Gn hp hdn => ?_)
  · skip
    rcases hE with ⟨ht, rfl⟩ | ⟨ht, rfl⟩
    · skip
      refine jj_catch F B.tab [] 0 501 502 120 [(0, 501, 507, 123), (0, 501, 512, 126)] rfl (fun _ h => absurd h List.not_mem_nil) (by decide) (by decide) cl_L_120 ca_B (fun q => ?_)
      refine jj_astore7 F dL_act_502 (hN _ (by decide)) rfl ?_
      refine jj_ldc F (v := -1761000000) cn_L_122 (by decide) dL_act_504 ?_
      exact jj_iretH B dL_act_506 ⟨Nat.le_of_ble_eq_true rfl, Nat.le_of_ble_eq_true rfl⟩ ⟨_, rfl, Or.inr ⟨by omega, by rw [ht]; rfl, G1, G2, rfl, hd, ⟨ad, ha, hR⟩, hG⟩⟩
    · skip
      refine jj_catch F B.tab [(0, 501, 502, 120)] 0 501 507 123 [(0, 501, 512, 126)] rfl (List.forall_mem_cons.mpr ⟨⟨by decide, _, cl_L_120, nn_AB⟩, (fun _ h => absurd h List.not_mem_nil)⟩) (by decide) (by decide) cl_L_123 ca_A (fun q => ?_)
      refine jj_astore7 F dL_act_507 (hN _ (by decide)) rfl ?_
      refine jj_ldc F (v := -1762000000) cn_L_125 (by decide) dL_act_509 ?_
      exact jj_iretH B dL_act_511 ⟨Nat.le_of_ble_eq_true rfl, Nat.le_of_ble_eq_true rfl⟩ ⟨_, rfl, Or.inr ⟨by omega, by rw [ht]; rfl, G1, G2, rfl, hd, ⟨ad, ha, hR⟩, hG⟩⟩
  · skip
    obtain ⟨ht, rfl, ad', ha', hR'⟩ := hp
    refine jj_goto F (tgt := 501) dL_act_100 rfl ?_
    exact jj_iretH B dL_act_501 ⟨Nat.le_of_ble_eq_true rfl, Nat.le_of_ble_eq_true rfl⟩ ⟨_, rfl, Or.inl ⟨ht, rfl, Gn, G2, rfl, hdn, HG.u37 ⟨ad', ha'.trans ha, hR'⟩, hG⟩⟩
set_option maxRecDepth 100000 in
set_option maxHeartbeats 400000 in
theorem ka_takes {l : Launch} {D : va_G} {ac : Nat → ClassId} (hl : l.stackTraces = false) {A : Nat → Nat} {s e : Sg} {mm gg rr : Int → Int} {G : jj_G} (hP : WP ac A s e mm gg rr G) {c : Int} (h : hInv s e c) {t z0 z1 z2 z3 : Int} (ht1 : jR t) : jj_C l D ac yL_act (.codeWith yL_act cL_act 8 (some .int) hh_act) rm_act [.ref (A 0), .int (jI 7), .int (jI t), .int (jI z0), .int (jI z1), .int (jI z2), .int (jI z3)] G (jj_pi (AP ac A s e mm gg rr (t_is s t) (r_takes s t) (s) (e) (xC3 (t_is s t) (-1761000000) (-1761000000) (-1761000000)))) jj_nx := by
  obtain ⟨G1, G2, rfl, hd, ⟨ad, ha, hR⟩, hG⟩ := hP
  rw [← ha]
  refine jj_ofH (own := RL) (lv0 := [some (.ref (ad 0 0)), some (.int (jI 7)), some (.int (jI t)), some (.int (jI z0)), some (.int (jI z1)), some (.int (jI z2)), some (.int (jI z3)), none]) hl (by decide +kernel) rfl rfl (Nat.le_of_ble_eq_true rfl) rfl cwL_act ?_
  intro X B hN hl0 hdg hac
  subst hl0; subst hdg; subst hac
  have F := B.F
  refine ach_7 F (by omega) ?_
  refine jj_iload1 F dL_act_103 ?_
  refine jj_bipush F (by decide) dL_act_104 ?_
  refine jj_icmp_ne F (tgt := 117) dL_act_106 rfl (by omega) (fun hz => by exfalso; omega) (fun _ => ?_)
  refine jj_aload0 F dL_act_109 ?_
  refine jj_iload2 F dL_act_110 ?_
  refine jj_callFVi F hd (k := 2) (n := 12) (x8_takes F.tr hR h.s ht1 ) lk_L_39 (hR.at (k := 0) (i := 0) cc_0) cs_8 rfl rfl ⟨Nat.le_of_ble_eq_true rfl, Nat.le_of_ble_eq_true rfl, Nat.le_of_ble_eq_true rfl, Nat.le_of_ble_eq_true rfl, Nat.le_of_ble_eq_true rfl⟩ ⟨Nat.le_of_ble_eq_true rfl, Nat.le_of_ble_eq_true rfl⟩ dL_act_111 (fun E hE => ?_) (fun r1 Gn hp hdn => ?_)
  · skip
    obtain ⟨ht, rfl⟩ := hE
    refine jj_catch F B.tab [] 0 501 502 120 [(0, 501, 507, 123), (0, 501, 512, 126)] rfl (fun _ h => absurd h List.not_mem_nil) (by decide) (by decide) cl_L_120 ca_B (fun q => ?_)
    refine jj_astore7 F dL_act_502 (hN _ (by decide)) rfl ?_
    refine jj_ldc F (v := -1761000000) cn_L_122 (by decide) dL_act_504 ?_
    exact jj_iretH B dL_act_506 ⟨Nat.le_of_ble_eq_true rfl, Nat.le_of_ble_eq_true rfl⟩ ⟨_, rfl, Or.inr ⟨by omega, by rw [ht]; rfl, G1, G2, rfl, hd, ⟨ad, ha, hR⟩, hG⟩⟩
  · skip
    obtain ⟨ht, rfl, ad', ha', hR'⟩ := hp
    refine jj_goto F (tgt := 501) dL_act_114 rfl ?_
    exact jj_iretH B dL_act_501 ⟨Nat.le_of_ble_eq_true rfl, Nat.le_of_ble_eq_true rfl⟩ ⟨_, rfl, Or.inl ⟨ht, rfl, Gn, G2, rfl, hdn, HG.u37 ⟨ad', ha'.trans ha, hR'⟩, hG⟩⟩
set_option maxRecDepth 100000 in
set_option maxHeartbeats 400000 in
theorem ka_takesAnew {l : Launch} {D : va_G} {ac : Nat → ClassId} (hl : l.stackTraces = false) {A : Nat → Nat} {s e : Sg} {mm gg rr : Int → Int} {G : jj_G} (hP : WP ac A s e mm gg rr G) {c : Int} (h : hInv s e c) {t z0 z1 z2 z3 : Int} (ht1 : jR t) : jj_C l D ac yL_act (.codeWith yL_act cL_act 8 (some .int) hh_act) rm_act [.ref (A 0), .int (jI 8), .int (jI t), .int (jI z0), .int (jI z1), .int (jI z2), .int (jI z3)] G (jj_pi (AP ac A s e mm gg rr (t_is s t) (r_takes s t) (s) (e) (xC3 (t_is s t) (-1761000000) (-1761000000) (-1761000000)))) jj_nx := by
  obtain ⟨G1, G2, rfl, hd, ⟨ad, ha, hR⟩, hG⟩ := hP
  rw [← ha]
  refine jj_ofH (own := RL) (lv0 := [some (.ref (ad 0 0)), some (.int (jI 8)), some (.int (jI t)), some (.int (jI z0)), some (.int (jI z1)), some (.int (jI z2)), some (.int (jI z3)), none]) hl (by decide +kernel) rfl rfl (Nat.le_of_ble_eq_true rfl) rfl cwL_act ?_
  intro X B hN hl0 hdg hac
  subst hl0; subst hdg; subst hac
  have F := B.F
  refine ach_8 F (by omega) ?_
  refine jj_iload1 F dL_act_117 ?_
  refine jj_bipush F (by decide) dL_act_118 ?_
  refine jj_icmp_ne F (tgt := 131) dL_act_120 rfl (by omega) (fun hz => by exfalso; omega) (fun _ => ?_)
  refine jj_aload0 F dL_act_123 ?_
  refine jj_iload2 F dL_act_124 ?_
  refine jj_callFVi F hd (k := 2) (n := 12) (x8_takesAnew F.tr hR h.s ht1 h.T) lk_L_42 (hR.at (k := 0) (i := 0) cc_0) cs_8 rfl rfl ⟨Nat.le_of_ble_eq_true rfl, Nat.le_of_ble_eq_true rfl, Nat.le_of_ble_eq_true rfl, Nat.le_of_ble_eq_true rfl, Nat.le_of_ble_eq_true rfl⟩ ⟨Nat.le_of_ble_eq_true rfl, Nat.le_of_ble_eq_true rfl⟩ dL_act_125 (fun E hE => ?_) (fun r1 Gn hp hdn => ?_)
  · skip
    obtain ⟨ht, rfl⟩ := hE
    refine jj_catch F B.tab [] 0 501 502 120 [(0, 501, 507, 123), (0, 501, 512, 126)] rfl (fun _ h => absurd h List.not_mem_nil) (by decide) (by decide) cl_L_120 ca_B (fun q => ?_)
    refine jj_astore7 F dL_act_502 (hN _ (by decide)) rfl ?_
    refine jj_ldc F (v := -1761000000) cn_L_122 (by decide) dL_act_504 ?_
    exact jj_iretH B dL_act_506 ⟨Nat.le_of_ble_eq_true rfl, Nat.le_of_ble_eq_true rfl⟩ ⟨_, rfl, Or.inr ⟨by omega, by rw [ht]; rfl, G1, G2, rfl, hd, ⟨ad, ha, hR⟩, hG⟩⟩
  · skip
    obtain ⟨ht, rfl, ad', ha', hR'⟩ := hp
    refine jj_goto F (tgt := 501) dL_act_128 rfl ?_
    exact jj_iretH B dL_act_501 ⟨Nat.le_of_ble_eq_true rfl, Nat.le_of_ble_eq_true rfl⟩ ⟨_, rfl, Or.inl ⟨ht, rfl, Gn, G2, rfl, hdn, HG.u37 ⟨ad', ha'.trans ha, hR'⟩, hG⟩⟩
set_option maxRecDepth 100000 in
set_option maxHeartbeats 400000 in
theorem ka_isLost {l : Launch} {D : va_G} {ac : Nat → ClassId} (hl : l.stackTraces = false) {A : Nat → Nat} {s e : Sg} {mm gg rr : Int → Int} {G : jj_G} (hP : WP ac A s e mm gg rr G) {c : Int} (h : hInv s e c) {t z0 z1 z2 z3 : Int} (ht1 : jR t) : jj_C l D ac yL_act (.codeWith yL_act cL_act 8 (some .int) hh_act) rm_act [.ref (A 0), .int (jI 9), .int (jI t), .int (jI z0), .int (jI z1), .int (jI z2), .int (jI z3)] G (jj_pi (AP ac A s e mm gg rr (t_isLost s t) (if jI (r_isLost s t) = 0 then 0 else 1) (s) (e) (xC3 (t_isLost s t) (-1761000000) (-1761000000) (-1761000000)))) jj_nx := by
  obtain ⟨G1, G2, rfl, hd, ⟨ad, ha, hR⟩, hG⟩ := hP
  rw [← ha]
  refine jj_ofH (own := RL) (lv0 := [some (.ref (ad 0 0)), some (.int (jI 9)), some (.int (jI t)), some (.int (jI z0)), some (.int (jI z1)), some (.int (jI z2)), some (.int (jI z3)), none]) hl (by decide +kernel) rfl rfl (Nat.le_of_ble_eq_true rfl) rfl cwL_act ?_
  intro X B hN hl0 hdg hac
  subst hl0; subst hdg; subst hac
  have F := B.F
  refine ach_9 F (by omega) ?_
  refine jj_iload1 F dL_act_131 ?_
  refine jj_bipush F (by decide) dL_act_132 ?_
  refine jj_icmp_ne F (tgt := 153) dL_act_134 rfl (by omega) (fun hz => by exfalso; omega) (fun _ => ?_)
  refine jj_aload0 F dL_act_137 ?_
  refine jj_iload2 F dL_act_138 ?_
  refine jj_callFVi F hd (k := 2) (n := 12) (x8_isLost F.tr hR h.s ht1 h.lost) lk_L_45 (hR.at (k := 0) (i := 0) cc_0) cs_8 rfl rfl ⟨Nat.le_of_ble_eq_true rfl, Nat.le_of_ble_eq_true rfl, Nat.le_of_ble_eq_true rfl, Nat.le_of_ble_eq_true rfl, Nat.le_of_ble_eq_true rfl⟩ ⟨Nat.le_of_ble_eq_true rfl, Nat.le_of_ble_eq_true rfl⟩ dL_act_139 (fun E hE => ?_) (fun r1 Gn hp hdn => ?_)
  · skip
    obtain ⟨ht, rfl⟩ := hE
    refine jj_catch F B.tab [] 0 501 502 120 [(0, 501, 507, 123), (0, 501, 512, 126)] rfl (fun _ h => absurd h List.not_mem_nil) (by decide) (by decide) cl_L_120 ca_B (fun q => ?_)
    refine jj_astore7 F dL_act_502 (hN _ (by decide)) rfl ?_
    refine jj_ldc F (v := -1761000000) cn_L_122 (by decide) dL_act_504 ?_
    exact jj_iretH B dL_act_506 ⟨Nat.le_of_ble_eq_true rfl, Nat.le_of_ble_eq_true rfl⟩ ⟨_, rfl, Or.inr ⟨by omega, by rw [ht]; rfl, G1, G2, rfl, hd, ⟨ad, ha, hR⟩, hG⟩⟩
  · skip
    obtain ⟨ht, rfl, ad', ha', hR'⟩ := hp
    refine jj_ifx_eq F (tgt := 149) dL_act_142 rfl (fun hz => ?_) (fun hz => ?_)
    · skip
      refine jj_iconst F dL_act_149 ?_
      refine jj_goto F (tgt := 501) dL_act_150 rfl ?_
      exact jj_iretH B dL_act_501 ⟨Nat.le_of_ble_eq_true rfl, Nat.le_of_ble_eq_true rfl⟩ ⟨_, rfl, Or.inl ⟨ht, (if_pos hz).symm, Gn, G2, rfl, hdn, HG.u37 ⟨ad', ha'.trans ha, hR'⟩, hG⟩⟩
    · skip
      refine jj_iconst F dL_act_145 ?_
      refine jj_goto F (tgt := 501) dL_act_146 rfl ?_
      exact jj_iretH B dL_act_501 ⟨Nat.le_of_ble_eq_true rfl, Nat.le_of_ble_eq_true rfl⟩ ⟨_, rfl, Or.inl ⟨ht, (if_neg hz).symm, Gn, G2, rfl, hdn, HG.u37 ⟨ad', ha'.trans ha, hR'⟩, hG⟩⟩
set_option maxRecDepth 100000 in
set_option maxHeartbeats 400000 in
theorem ka_add {l : Launch} {D : va_G} {ac : Nat → ClassId} (hl : l.stackTraces = false) {A : Nat → Nat} {s e : Sg} {mm gg rr : Int → Int} {G : jj_G} (hP : WP ac A s e mm gg rr G) {c : Int} (h : hInv s e c) {t z0 z1 z2 z3 : Int} (ht1 : jR t) : jj_C l D ac yL_act (.codeWith yL_act cL_act 8 (some .int) hh_act) rm_act [.ref (A 0), .int (jI 10), .int (jI t), .int (jI z0), .int (jI z1), .int (jI z2), .int (jI z3)] G (jj_pi (AP ac A s e mm gg rr (t_add s t) (r_add s t) (n_add s t) (e) (xC3 (t_add s t) (-1761000000) (-1763000000) (-1763000000)))) jj_nx := by
  obtain ⟨G1, G2, rfl, hd, ⟨ad, ha, hR⟩, hG⟩ := hP
  rw [← ha]
  refine jj_ofH (own := RL) (lv0 := [some (.ref (ad 0 0)), some (.int (jI 10)), some (.int (jI t)), some (.int (jI z0)), some (.int (jI z1)), some (.int (jI z2)), some (.int (jI z3)), none]) hl (by decide +kernel) rfl rfl (Nat.le_of_ble_eq_true rfl) rfl cwL_act ?_
  intro X B hN hl0 hdg hac
  subst hl0; subst hdg; subst hac
  have F := B.F
  refine ach_10 F (by omega) ?_
  refine jj_iload1 F dL_act_153 ?_
  refine jj_bipush F (by decide) dL_act_154 ?_
  refine jj_icmp_ne F (tgt := 167) dL_act_156 rfl (by omega) (fun hz => by exfalso; omega) (fun _ => ?_)
  refine jj_aload0 F dL_act_159 ?_
  refine jj_iload2 F dL_act_160 ?_
  refine jj_callFVi F hd (k := 3) (n := 18) (x8_add F.tr hR h.s ht1 ) lk_L_49 (hR.at (k := 0) (i := 0) cc_0) cs_8 rfl rfl ⟨Nat.le_of_ble_eq_true rfl, Nat.le_of_ble_eq_true rfl, Nat.le_of_ble_eq_true rfl, Nat.le_of_ble_eq_true rfl, Nat.le_of_ble_eq_true rfl⟩ ⟨Nat.le_of_ble_eq_true rfl, Nat.le_of_ble_eq_true rfl⟩ dL_act_161 (fun E hE => ?_) (fun r1 Gn hp hdn => ?_)
  · skip
    rcases hE with ⟨ht, rfl⟩ | ⟨ht, rfl⟩
    · skip
      refine jj_catch F B.tab [] 0 501 502 120 [(0, 501, 507, 123), (0, 501, 512, 126)] rfl (fun _ h => absurd h List.not_mem_nil) (by decide) (by decide) cl_L_120 ca_B (fun q => ?_)
      refine jj_astore7 F dL_act_502 (hN _ (by decide)) rfl ?_
      refine jj_ldc F (v := -1761000000) cn_L_122 (by decide) dL_act_504 ?_
      exact jj_iretH B dL_act_506 ⟨Nat.le_of_ble_eq_true rfl, Nat.le_of_ble_eq_true rfl⟩ ⟨_, rfl, Or.inr ⟨by omega, by rw [ht]; rfl, G1, G2, rfl, hd, ⟨ad, ha, hR⟩, hG⟩⟩
    · skip
      refine jj_catch F B.tab [(0, 501, 502, 120), (0, 501, 507, 123)] 0 501 512 126 [] rfl (List.forall_mem_cons.mpr ⟨⟨by decide, _, cl_L_120, nn_SB⟩, (List.forall_mem_cons.mpr ⟨⟨by decide, _, cl_L_123, nn_SA⟩, (fun _ h => absurd h List.not_mem_nil)⟩)⟩) (by decide) (by decide) cl_L_126 ca_S (fun q => ?_)
      refine jj_astore7 F dL_act_512 (hN _ (by decide)) rfl ?_
      refine jj_ldc F (v := -1763000000) cn_L_128 (by decide) dL_act_514 ?_
      exact jj_iretH B dL_act_516 ⟨Nat.le_of_ble_eq_true rfl, Nat.le_of_ble_eq_true rfl⟩ ⟨_, rfl, Or.inr ⟨by omega, by rw [ht]; rfl, G1, G2, rfl, hd, ⟨ad, ha, hR⟩, hG⟩⟩
  · skip
    obtain ⟨ht, rfl, ad', ha', hR'⟩ := hp
    refine jj_goto F (tgt := 501) dL_act_164 rfl ?_
    exact jj_iretH B dL_act_501 ⟨Nat.le_of_ble_eq_true rfl, Nat.le_of_ble_eq_true rfl⟩ ⟨_, rfl, Or.inl ⟨ht, rfl, Gn, G2, rfl, hdn, ⟨ad', ha'.trans ha, hR'⟩, hG⟩⟩
set_option maxRecDepth 100000 in
set_option maxHeartbeats 400000 in
theorem ka_cut {l : Launch} {D : va_G} {ac : Nat → ClassId} (hl : l.stackTraces = false) {A : Nat → Nat} {s e : Sg} {mm gg rr : Int → Int} {G : jj_G} (hP : WP ac A s e mm gg rr G) {c : Int} (h : hInv s e c) {y z0 z1 z2 z3 : Int} (hy1 : jR y) : jj_C l D ac yL_act (.codeWith yL_act cL_act 8 (some .int) hh_act) rm_act [.ref (A 0), .int (jI 11), .int (jI y), .int (jI z0), .int (jI z1), .int (jI z2), .int (jI z3)] G (jj_pi (AP ac A s e mm gg rr (t_cut s y) (r_cut s y) (n_cut s y) (e) (xC3 (t_cut s y) (-1762000000) (-1763000000) (-1763000000)))) jj_nx := by
  obtain ⟨G1, G2, rfl, hd, ⟨ad, ha, hR⟩, hG⟩ := hP
  rw [← ha]
  refine jj_ofH (own := RL) (lv0 := [some (.ref (ad 0 0)), some (.int (jI 11)), some (.int (jI y)), some (.int (jI z0)), some (.int (jI z1)), some (.int (jI z2)), some (.int (jI z3)), none]) hl (by decide +kernel) rfl rfl (Nat.le_of_ble_eq_true rfl) rfl cwL_act ?_
  intro X B hN hl0 hdg hac
  subst hl0; subst hdg; subst hac
  have F := B.F
  refine ach_11 F (by omega) ?_
  refine jj_iload1 F dL_act_167 ?_
  refine jj_bipush F (by decide) dL_act_168 ?_
  refine jj_icmp_ne F (tgt := 181) dL_act_170 rfl (by omega) (fun hz => by exfalso; omega) (fun _ => ?_)
  refine jj_aload0 F dL_act_173 ?_
  refine jj_iload2 F dL_act_174 ?_
  refine jj_callFVi F hd (k := 5) (n := 40) (x8_cut F.tr hR h.s hy1 ) lk_L_52 (hR.at (k := 0) (i := 0) cc_0) cs_8 rfl rfl ⟨Nat.le_of_ble_eq_true rfl, Nat.le_of_ble_eq_true rfl, Nat.le_of_ble_eq_true rfl, Nat.le_of_ble_eq_true rfl, Nat.le_of_ble_eq_true rfl⟩ ⟨Nat.le_of_ble_eq_true rfl, Nat.le_of_ble_eq_true rfl⟩ dL_act_175 (fun E hE => ?_) (fun r1 Gn hp hdn => ?_)
  · skip
    rcases hE with ⟨ht, rfl⟩ | ⟨ht, rfl⟩
    · skip
      refine jj_catch F B.tab [(0, 501, 502, 120)] 0 501 507 123 [(0, 501, 512, 126)] rfl (List.forall_mem_cons.mpr ⟨⟨by decide, _, cl_L_120, nn_AB⟩, (fun _ h => absurd h List.not_mem_nil)⟩) (by decide) (by decide) cl_L_123 ca_A (fun q => ?_)
      refine jj_astore7 F dL_act_507 (hN _ (by decide)) rfl ?_
      refine jj_ldc F (v := -1762000000) cn_L_125 (by decide) dL_act_509 ?_
      exact jj_iretH B dL_act_511 ⟨Nat.le_of_ble_eq_true rfl, Nat.le_of_ble_eq_true rfl⟩ ⟨_, rfl, Or.inr ⟨by omega, by rw [ht]; rfl, G1, G2, rfl, hd, ⟨ad, ha, hR⟩, hG⟩⟩
    · skip
      refine jj_catch F B.tab [(0, 501, 502, 120), (0, 501, 507, 123)] 0 501 512 126 [] rfl (List.forall_mem_cons.mpr ⟨⟨by decide, _, cl_L_120, nn_SB⟩, (List.forall_mem_cons.mpr ⟨⟨by decide, _, cl_L_123, nn_SA⟩, (fun _ h => absurd h List.not_mem_nil)⟩)⟩) (by decide) (by decide) cl_L_126 ca_S (fun q => ?_)
      refine jj_astore7 F dL_act_512 (hN _ (by decide)) rfl ?_
      refine jj_ldc F (v := -1763000000) cn_L_128 (by decide) dL_act_514 ?_
      exact jj_iretH B dL_act_516 ⟨Nat.le_of_ble_eq_true rfl, Nat.le_of_ble_eq_true rfl⟩ ⟨_, rfl, Or.inr ⟨by omega, by rw [ht]; rfl, G1, G2, rfl, hd, ⟨ad, ha, hR⟩, hG⟩⟩
  · skip
    obtain ⟨ht, rfl, ad', ha', hR'⟩ := hp
    refine jj_goto F (tgt := 501) dL_act_178 rfl ?_
    exact jj_iretH B dL_act_501 ⟨Nat.le_of_ble_eq_true rfl, Nat.le_of_ble_eq_true rfl⟩ ⟨_, rfl, Or.inl ⟨ht, rfl, Gn, G2, rfl, hdn, ⟨ad', ha'.trans ha, hR'⟩, hG⟩⟩
set_option maxRecDepth 100000 in
set_option maxHeartbeats 400000 in
theorem ka_seconds {l : Launch} {D : va_G} {ac : Nat → ClassId} (hl : l.stackTraces = false) {A : Nat → Nat} {s e : Sg} {mm gg rr : Int → Int} {G : jj_G} (hP : WP ac A s e mm gg rr G) {c : Int} (h : hInv s e c) {d q z0 z1 z2 : Int} (hd1 : jR d) (hq1 : jR q) : jj_C l D ac yL_act (.codeWith yL_act cL_act 8 (some .int) hh_act) rm_act [.ref (A 0), .int (jI 12), .int (jI d), .int (jI q), .int (jI z0), .int (jI z1), .int (jI z2)] G (jj_pi (AP ac A s e mm gg rr (t_seconds s d q) (r_seconds s d q) (s) (e) (xC3 (t_seconds s d q) (-1761000000) (-1761000000) (-1761000000)))) jj_nx := by
  obtain ⟨G1, G2, rfl, hd, ⟨ad, ha, hR⟩, hG⟩ := hP
  rw [← ha]
  refine jj_ofH (own := RL) (lv0 := [some (.ref (ad 0 0)), some (.int (jI 12)), some (.int (jI d)), some (.int (jI q)), some (.int (jI z0)), some (.int (jI z1)), some (.int (jI z2)), none]) hl (by decide +kernel) rfl rfl (Nat.le_of_ble_eq_true rfl) rfl cwL_act ?_
  intro X B hN hl0 hdg hac
  subst hl0; subst hdg; subst hac
  have F := B.F
  refine ach_12 F (by omega) ?_
  refine jj_iload1 F dL_act_181 ?_
  refine jj_bipush F (by decide) dL_act_182 ?_
  refine jj_icmp_ne F (tgt := 196) dL_act_184 rfl (by omega) (fun hz => by exfalso; omega) (fun _ => ?_)
  refine jj_aload0 F dL_act_187 ?_
  refine jj_iload2 F dL_act_188 ?_
  refine jj_iload3 F dL_act_189 ?_
  refine jj_callFVi F hd (k := 3) (n := 18) (x8_seconds F.tr hR h.s hd1 hq1 ) lk_L_55 (hR.at (k := 0) (i := 0) cc_0) cs_8 rfl rfl ⟨Nat.le_of_ble_eq_true rfl, Nat.le_of_ble_eq_true rfl, Nat.le_of_ble_eq_true rfl, Nat.le_of_ble_eq_true rfl, Nat.le_of_ble_eq_true rfl⟩ ⟨Nat.le_of_ble_eq_true rfl, Nat.le_of_ble_eq_true rfl⟩ dL_act_190 (fun E hE => ?_) (fun r1 Gn hp hdn => ?_)
  · skip
    obtain ⟨ht, rfl⟩ := hE
    refine jj_catch F B.tab [] 0 501 502 120 [(0, 501, 507, 123), (0, 501, 512, 126)] rfl (fun _ h => absurd h List.not_mem_nil) (by decide) (by decide) cl_L_120 ca_B (fun q => ?_)
    refine jj_astore7 F dL_act_502 (hN _ (by decide)) rfl ?_
    refine jj_ldc F (v := -1761000000) cn_L_122 (by decide) dL_act_504 ?_
    exact jj_iretH B dL_act_506 ⟨Nat.le_of_ble_eq_true rfl, Nat.le_of_ble_eq_true rfl⟩ ⟨_, rfl, Or.inr ⟨by omega, by rw [ht]; rfl, G1, G2, rfl, hd, ⟨ad, ha, hR⟩, hG⟩⟩
  · skip
    obtain ⟨ht, rfl, ad', ha', hR'⟩ := hp
    refine jj_goto F (tgt := 501) dL_act_193 rfl ?_
    exact jj_iretH B dL_act_501 ⟨Nat.le_of_ble_eq_true rfl, Nat.le_of_ble_eq_true rfl⟩ ⟨_, rfl, Or.inl ⟨ht, rfl, Gn, G2, rfl, hdn, HG.u37 ⟨ad', ha'.trans ha, hR'⟩, hG⟩⟩
set_option maxRecDepth 100000 in
set_option maxHeartbeats 400000 in
theorem ka_stamper {l : Launch} {D : va_G} {ac : Nat → ClassId} (hl : l.stackTraces = false) {A : Nat → Nat} {s e : Sg} {mm gg rr : Int → Int} {G : jj_G} (hP : WP ac A s e mm gg rr G) {c : Int} (h : hInv s e c) {d m n z0 z1 : Int} (hd1 : jR d) (hm1 : jR m) (hn1 : jR n) : jj_C l D ac yL_act (.codeWith yL_act cL_act 8 (some .int) hh_act) rm_act [.ref (A 0), .int (jI 13), .int (jI d), .int (jI m), .int (jI n), .int (jI z0), .int (jI z1)] G (jj_pi (AP ac A s e mm gg rr (t_stamper s d m n) (r_stamper s d m n) (n_stamper s d m n) (e) (xC3 (t_stamper s d m n) (-1761000000) (-1763000000) (-1763000000)))) jj_nx := by
  obtain ⟨G1, G2, rfl, hd, ⟨ad, ha, hR⟩, hG⟩ := hP
  rw [← ha]
  refine jj_ofH (own := RL) (lv0 := [some (.ref (ad 0 0)), some (.int (jI 13)), some (.int (jI d)), some (.int (jI m)), some (.int (jI n)), some (.int (jI z0)), some (.int (jI z1)), none]) hl (by decide +kernel) rfl rfl (Nat.le_of_ble_eq_true rfl) rfl cwL_act ?_
  intro X B hN hl0 hdg hac
  subst hl0; subst hdg; subst hac
  have F := B.F
  refine ach_13 F (by omega) ?_
  refine jj_iload1 F dL_act_196 ?_
  refine jj_bipush F (by decide) dL_act_197 ?_
  refine jj_icmp_ne F (tgt := 213) dL_act_199 rfl (by omega) (fun hz => by exfalso; omega) (fun _ => ?_)
  refine jj_aload0 F dL_act_202 ?_
  refine jj_iload2 F dL_act_203 ?_
  refine jj_iload3 F dL_act_204 ?_
  refine jj_iload4 F dL_act_205 ?_
  refine jj_callFVi F hd (k := 4) (n := 25) (x8_stamper F.tr hR h.s hd1 hm1 hn1 h.K) lk_L_58 (hR.at (k := 0) (i := 0) cc_0) cs_8 rfl rfl ⟨Nat.le_of_ble_eq_true rfl, Nat.le_of_ble_eq_true rfl, Nat.le_of_ble_eq_true rfl, Nat.le_of_ble_eq_true rfl, Nat.le_of_ble_eq_true rfl⟩ ⟨Nat.le_of_ble_eq_true rfl, Nat.le_of_ble_eq_true rfl⟩ dL_act_207 (fun E hE => ?_) (fun r1 Gn hp hdn => ?_)
  · skip
    rcases hE with ⟨ht, rfl⟩ | ⟨ht, rfl⟩
    · skip
      refine jj_catch F B.tab [] 0 501 502 120 [(0, 501, 507, 123), (0, 501, 512, 126)] rfl (fun _ h => absurd h List.not_mem_nil) (by decide) (by decide) cl_L_120 ca_B (fun q => ?_)
      refine jj_astore7 F dL_act_502 (hN _ (by decide)) rfl ?_
      refine jj_ldc F (v := -1761000000) cn_L_122 (by decide) dL_act_504 ?_
      exact jj_iretH B dL_act_506 ⟨Nat.le_of_ble_eq_true rfl, Nat.le_of_ble_eq_true rfl⟩ ⟨_, rfl, Or.inr ⟨by omega, by rw [ht]; rfl, G1, G2, rfl, hd, ⟨ad, ha, hR⟩, hG⟩⟩
    · skip
      refine jj_catch F B.tab [(0, 501, 502, 120), (0, 501, 507, 123)] 0 501 512 126 [] rfl (List.forall_mem_cons.mpr ⟨⟨by decide, _, cl_L_120, nn_SB⟩, (List.forall_mem_cons.mpr ⟨⟨by decide, _, cl_L_123, nn_SA⟩, (fun _ h => absurd h List.not_mem_nil)⟩)⟩) (by decide) (by decide) cl_L_126 ca_S (fun q => ?_)
      refine jj_astore7 F dL_act_512 (hN _ (by decide)) rfl ?_
      refine jj_ldc F (v := -1763000000) cn_L_128 (by decide) dL_act_514 ?_
      exact jj_iretH B dL_act_516 ⟨Nat.le_of_ble_eq_true rfl, Nat.le_of_ble_eq_true rfl⟩ ⟨_, rfl, Or.inr ⟨by omega, by rw [ht]; rfl, G1, G2, rfl, hd, ⟨ad, ha, hR⟩, hG⟩⟩
  · skip
    obtain ⟨ht, rfl, ad', ha', hR'⟩ := hp
    refine jj_goto F (tgt := 501) dL_act_210 rfl ?_
    exact jj_iretH B dL_act_501 ⟨Nat.le_of_ble_eq_true rfl, Nat.le_of_ble_eq_true rfl⟩ ⟨_, rfl, Or.inl ⟨ht, rfl, Gn, G2, rfl, hdn, ⟨ad', ha'.trans ha, hR'⟩, hG⟩⟩
set_option maxRecDepth 100000 in
set_option maxHeartbeats 400000 in
theorem ka_press {l : Launch} {D : va_G} {ac : Nat → ClassId} (hl : l.stackTraces = false) {A : Nat → Nat} {s e : Sg} {mm gg rr : Int → Int} {G : jj_G} (hP : WP ac A s e mm gg rr G) {c : Int} (h : hInv s e c) {d m n x z0 : Int} (hd1 : jR d) (hm1 : jR m) (hn1 : jR n) (hx1 : jR x) : jj_C l D ac yL_act (.codeWith yL_act cL_act 8 (some .int) hh_act) rm_act [.ref (A 0), .int (jI 14), .int (jI d), .int (jI m), .int (jI n), .int (jI x), .int (jI z0)] G (jj_pi (AP ac A s e mm gg rr (t_press s d m n x) (r_press s d m n x) (n_press s d m n x) (e) (xC3 (t_press s d m n x) (-1761000000) (-1762000000) (-1763000000)))) jj_nx := by
  obtain ⟨G1, G2, rfl, hd, ⟨ad, ha, hR⟩, hG⟩ := hP
  rw [← ha]
  refine jj_ofH (own := RL) (lv0 := [some (.ref (ad 0 0)), some (.int (jI 14)), some (.int (jI d)), some (.int (jI m)), some (.int (jI n)), some (.int (jI x)), some (.int (jI z0)), none]) hl (by decide +kernel) rfl rfl (Nat.le_of_ble_eq_true rfl) rfl cwL_act ?_
  intro X B hN hl0 hdg hac
  subst hl0; subst hdg; subst hac
  have F := B.F
  refine ach_14 F (by omega) ?_
  refine jj_iload1 F dL_act_213 ?_
  refine jj_bipush F (by decide) dL_act_214 ?_
  refine jj_icmp_ne F (tgt := 232) dL_act_216 rfl (by omega) (fun hz => by exfalso; omega) (fun _ => ?_)
  refine jj_aload0 F dL_act_219 ?_
  refine jj_iload2 F dL_act_220 ?_
  refine jj_iload3 F dL_act_221 ?_
  refine jj_iload4 F dL_act_222 ?_
  refine jj_iload5 F dL_act_224 ?_
  refine jj_callFVi F hd (k := 4) (n := 24) (x8_press F.tr hR h.s hd1 hm1 hn1 hx1 ) lk_L_61 (hR.at (k := 0) (i := 0) cc_0) cs_8 rfl rfl ⟨Nat.le_of_ble_eq_true rfl, Nat.le_of_ble_eq_true rfl, Nat.le_of_ble_eq_true rfl, Nat.le_of_ble_eq_true rfl, Nat.le_of_ble_eq_true rfl⟩ ⟨Nat.le_of_ble_eq_true rfl, Nat.le_of_ble_eq_true rfl⟩ dL_act_226 (fun E hE => ?_) (fun r1 Gn hp hdn => ?_)
  · skip
    rcases hE with ⟨ht, rfl⟩ | ⟨ht, rfl⟩ | ⟨ht, rfl⟩
    · skip
      refine jj_catch F B.tab [] 0 501 502 120 [(0, 501, 507, 123), (0, 501, 512, 126)] rfl (fun _ h => absurd h List.not_mem_nil) (by decide) (by decide) cl_L_120 ca_B (fun q => ?_)
      refine jj_astore7 F dL_act_502 (hN _ (by decide)) rfl ?_
      refine jj_ldc F (v := -1761000000) cn_L_122 (by decide) dL_act_504 ?_
      exact jj_iretH B dL_act_506 ⟨Nat.le_of_ble_eq_true rfl, Nat.le_of_ble_eq_true rfl⟩ ⟨_, rfl, Or.inr ⟨by omega, by rw [ht]; rfl, G1, G2, rfl, hd, ⟨ad, ha, hR⟩, hG⟩⟩
    · skip
      refine jj_catch F B.tab [(0, 501, 502, 120)] 0 501 507 123 [(0, 501, 512, 126)] rfl (List.forall_mem_cons.mpr ⟨⟨by decide, _, cl_L_120, nn_AB⟩, (fun _ h => absurd h List.not_mem_nil)⟩) (by decide) (by decide) cl_L_123 ca_A (fun q => ?_)
      refine jj_astore7 F dL_act_507 (hN _ (by decide)) rfl ?_
      refine jj_ldc F (v := -1762000000) cn_L_125 (by decide) dL_act_509 ?_
      exact jj_iretH B dL_act_511 ⟨Nat.le_of_ble_eq_true rfl, Nat.le_of_ble_eq_true rfl⟩ ⟨_, rfl, Or.inr ⟨by omega, by rw [ht]; rfl, G1, G2, rfl, hd, ⟨ad, ha, hR⟩, hG⟩⟩
    · skip
      refine jj_catch F B.tab [(0, 501, 502, 120), (0, 501, 507, 123)] 0 501 512 126 [] rfl (List.forall_mem_cons.mpr ⟨⟨by decide, _, cl_L_120, nn_SB⟩, (List.forall_mem_cons.mpr ⟨⟨by decide, _, cl_L_123, nn_SA⟩, (fun _ h => absurd h List.not_mem_nil)⟩)⟩) (by decide) (by decide) cl_L_126 ca_S (fun q => ?_)
      refine jj_astore7 F dL_act_512 (hN _ (by decide)) rfl ?_
      refine jj_ldc F (v := -1763000000) cn_L_128 (by decide) dL_act_514 ?_
      exact jj_iretH B dL_act_516 ⟨Nat.le_of_ble_eq_true rfl, Nat.le_of_ble_eq_true rfl⟩ ⟨_, rfl, Or.inr ⟨by omega, by rw [ht]; rfl, G1, G2, rfl, hd, ⟨ad, ha, hR⟩, hG⟩⟩
  · skip
    obtain ⟨ht, rfl, ad', ha', hR'⟩ := hp
    refine jj_goto F (tgt := 501) dL_act_229 rfl ?_
    exact jj_iretH B dL_act_501 ⟨Nat.le_of_ble_eq_true rfl, Nat.le_of_ble_eq_true rfl⟩ ⟨_, rfl, Or.inl ⟨ht, rfl, Gn, G2, rfl, hdn, ⟨ad', ha'.trans ha, hR'⟩, hG⟩⟩
set_option maxRecDepth 100000 in
set_option maxHeartbeats 400000 in
theorem ka_stamperIs {l : Launch} {D : va_G} {ac : Nat → ClassId} (hl : l.stackTraces = false) {A : Nat → Nat} {s e : Sg} {mm gg rr : Int → Int} {G : jj_G} (hP : WP ac A s e mm gg rr G) {c : Int} (h : hInv s e c) {d m n x z0 : Int} (hd1 : jR d) (hm1 : jR m) (hn1 : jR n) (hx1 : jR x) : jj_C l D ac yL_act (.codeWith yL_act cL_act 8 (some .int) hh_act) rm_act [.ref (A 0), .int (jI 15), .int (jI d), .int (jI m), .int (jI n), .int (jI x), .int (jI z0)] G (jj_pi (AP ac A s e mm gg rr (t_stamperIs s d m n x) (r_stamperIs s d m n x) (s) (e) (xC3 (t_stamperIs s d m n x) (-1761000000) (-1762000000) (-1762000000)))) jj_nx := by
  obtain ⟨G1, G2, rfl, hd, ⟨ad, ha, hR⟩, hG⟩ := hP
  rw [← ha]
  refine jj_ofH (own := RL) (lv0 := [some (.ref (ad 0 0)), some (.int (jI 15)), some (.int (jI d)), some (.int (jI m)), some (.int (jI n)), some (.int (jI x)), some (.int (jI z0)), none]) hl (by decide +kernel) rfl rfl (Nat.le_of_ble_eq_true rfl) rfl cwL_act ?_
  intro X B hN hl0 hdg hac
  subst hl0; subst hdg; subst hac
  have F := B.F
  refine ach_15 F (by omega) ?_
  refine jj_iload1 F dL_act_232 ?_
  refine jj_bipush F (by decide) dL_act_233 ?_
  refine jj_icmp_ne F (tgt := 251) dL_act_235 rfl (by omega) (fun hz => by exfalso; omega) (fun _ => ?_)
  refine jj_aload0 F dL_act_238 ?_
  refine jj_iload2 F dL_act_239 ?_
  refine jj_iload3 F dL_act_240 ?_
  refine jj_iload4 F dL_act_241 ?_
  refine jj_iload5 F dL_act_243 ?_
  refine jj_callFVi F hd (k := 3) (n := 18) (x8_stamperIs F.tr hR h.s hd1 hm1 hn1 hx1 ) lk_L_65 (hR.at (k := 0) (i := 0) cc_0) cs_8 rfl rfl ⟨Nat.le_of_ble_eq_true rfl, Nat.le_of_ble_eq_true rfl, Nat.le_of_ble_eq_true rfl, Nat.le_of_ble_eq_true rfl, Nat.le_of_ble_eq_true rfl⟩ ⟨Nat.le_of_ble_eq_true rfl, Nat.le_of_ble_eq_true rfl⟩ dL_act_245 (fun E hE => ?_) (fun r1 Gn hp hdn => ?_)
  · skip
    rcases hE with ⟨ht, rfl⟩ | ⟨ht, rfl⟩
    · skip
      refine jj_catch F B.tab [] 0 501 502 120 [(0, 501, 507, 123), (0, 501, 512, 126)] rfl (fun _ h => absurd h List.not_mem_nil) (by decide) (by decide) cl_L_120 ca_B (fun q => ?_)
      refine jj_astore7 F dL_act_502 (hN _ (by decide)) rfl ?_
      refine jj_ldc F (v := -1761000000) cn_L_122 (by decide) dL_act_504 ?_
      exact jj_iretH B dL_act_506 ⟨Nat.le_of_ble_eq_true rfl, Nat.le_of_ble_eq_true rfl⟩ ⟨_, rfl, Or.inr ⟨by omega, by rw [ht]; rfl, G1, G2, rfl, hd, ⟨ad, ha, hR⟩, hG⟩⟩
    · skip
      refine jj_catch F B.tab [(0, 501, 502, 120)] 0 501 507 123 [(0, 501, 512, 126)] rfl (List.forall_mem_cons.mpr ⟨⟨by decide, _, cl_L_120, nn_AB⟩, (fun _ h => absurd h List.not_mem_nil)⟩) (by decide) (by decide) cl_L_123 ca_A (fun q => ?_)
      refine jj_astore7 F dL_act_507 (hN _ (by decide)) rfl ?_
      refine jj_ldc F (v := -1762000000) cn_L_125 (by decide) dL_act_509 ?_
      exact jj_iretH B dL_act_511 ⟨Nat.le_of_ble_eq_true rfl, Nat.le_of_ble_eq_true rfl⟩ ⟨_, rfl, Or.inr ⟨by omega, by rw [ht]; rfl, G1, G2, rfl, hd, ⟨ad, ha, hR⟩, hG⟩⟩
  · skip
    obtain ⟨ht, rfl, ad', ha', hR'⟩ := hp
    refine jj_goto F (tgt := 501) dL_act_248 rfl ?_
    exact jj_iretH B dL_act_501 ⟨Nat.le_of_ble_eq_true rfl, Nat.le_of_ble_eq_true rfl⟩ ⟨_, rfl, Or.inl ⟨ht, rfl, Gn, G2, rfl, hdn, HG.u37 ⟨ad', ha'.trans ha, hR'⟩, hG⟩⟩
set_option maxRecDepth 100000 in
set_option maxHeartbeats 400000 in
theorem ka_sell {l : Launch} {D : va_G} {ac : Nat → ClassId} (hl : l.stackTraces = false) {A : Nat → Nat} {s e : Sg} {mm gg rr : Int → Int} {G : jj_G} (hP : WP ac A s e mm gg rr G) {c : Int} (h : hInv s e c) {d m n x z0 : Int} (hd1 : jR d) (hm1 : jR m) (hn1 : jR n) (hx1 : jR x) : jj_C l D ac yL_act (.codeWith yL_act cL_act 8 (some .int) hh_act) rm_act [.ref (A 0), .int (jI 16), .int (jI d), .int (jI m), .int (jI n), .int (jI x), .int (jI z0)] G (jj_pi (AP ac A s e mm gg rr (t_sell s d m n x) (r_sell s d m n x) (n_sell s d m n x) (e) (xC3 (t_sell s d m n x) (-1761000000) (-1762000000) (-1763000000)))) jj_nx := by
  obtain ⟨G1, G2, rfl, hd, ⟨ad, ha, hR⟩, hG⟩ := hP
  rw [← ha]
  refine jj_ofH (own := RL) (lv0 := [some (.ref (ad 0 0)), some (.int (jI 16)), some (.int (jI d)), some (.int (jI m)), some (.int (jI n)), some (.int (jI x)), some (.int (jI z0)), none]) hl (by decide +kernel) rfl rfl (Nat.le_of_ble_eq_true rfl) rfl cwL_act ?_
  intro X B hN hl0 hdg hac
  subst hl0; subst hdg; subst hac
  have F := B.F
  refine ach_16 F (by omega) ?_
  refine jj_iload1 F dL_act_251 ?_
  refine jj_bipush F (by decide) dL_act_252 ?_
  refine jj_icmp_ne F (tgt := 270) dL_act_254 rfl (by omega) (fun hz => by exfalso; omega) (fun _ => ?_)
  refine jj_aload0 F dL_act_257 ?_
  refine jj_iload2 F dL_act_258 ?_
  refine jj_iload3 F dL_act_259 ?_
  refine jj_iload4 F dL_act_260 ?_
  refine jj_iload5 F dL_act_262 ?_
  refine jj_callFVi F hd (k := 12) (n := 90) (x8_sell F.tr hR h.s hd1 hm1 hn1 hx1 ) lk_L_68 (hR.at (k := 0) (i := 0) cc_0) cs_8 rfl rfl ⟨Nat.le_of_ble_eq_true rfl, Nat.le_of_ble_eq_true rfl, Nat.le_of_ble_eq_true rfl, Nat.le_of_ble_eq_true rfl, Nat.le_of_ble_eq_true rfl⟩ ⟨Nat.le_of_ble_eq_true rfl, Nat.le_of_ble_eq_true rfl⟩ dL_act_264 (fun E hE => ?_) (fun r1 Gn hp hdn => ?_)
  · skip
    rcases hE with ⟨ht, rfl⟩ | ⟨ht, rfl⟩ | ⟨ht, rfl⟩
    · skip
      refine jj_catch F B.tab [] 0 501 502 120 [(0, 501, 507, 123), (0, 501, 512, 126)] rfl (fun _ h => absurd h List.not_mem_nil) (by decide) (by decide) cl_L_120 ca_B (fun q => ?_)
      refine jj_astore7 F dL_act_502 (hN _ (by decide)) rfl ?_
      refine jj_ldc F (v := -1761000000) cn_L_122 (by decide) dL_act_504 ?_
      exact jj_iretH B dL_act_506 ⟨Nat.le_of_ble_eq_true rfl, Nat.le_of_ble_eq_true rfl⟩ ⟨_, rfl, Or.inr ⟨by omega, by rw [ht]; rfl, G1, G2, rfl, hd, ⟨ad, ha, hR⟩, hG⟩⟩
    · skip
      refine jj_catch F B.tab [(0, 501, 502, 120)] 0 501 507 123 [(0, 501, 512, 126)] rfl (List.forall_mem_cons.mpr ⟨⟨by decide, _, cl_L_120, nn_AB⟩, (fun _ h => absurd h List.not_mem_nil)⟩) (by decide) (by decide) cl_L_123 ca_A (fun q => ?_)
      refine jj_astore7 F dL_act_507 (hN _ (by decide)) rfl ?_
      refine jj_ldc F (v := -1762000000) cn_L_125 (by decide) dL_act_509 ?_
      exact jj_iretH B dL_act_511 ⟨Nat.le_of_ble_eq_true rfl, Nat.le_of_ble_eq_true rfl⟩ ⟨_, rfl, Or.inr ⟨by omega, by rw [ht]; rfl, G1, G2, rfl, hd, ⟨ad, ha, hR⟩, hG⟩⟩
    · skip
      refine jj_catch F B.tab [(0, 501, 502, 120), (0, 501, 507, 123)] 0 501 512 126 [] rfl (List.forall_mem_cons.mpr ⟨⟨by decide, _, cl_L_120, nn_SB⟩, (List.forall_mem_cons.mpr ⟨⟨by decide, _, cl_L_123, nn_SA⟩, (fun _ h => absurd h List.not_mem_nil)⟩)⟩) (by decide) (by decide) cl_L_126 ca_S (fun q => ?_)
      refine jj_astore7 F dL_act_512 (hN _ (by decide)) rfl ?_
      refine jj_ldc F (v := -1763000000) cn_L_128 (by decide) dL_act_514 ?_
      exact jj_iretH B dL_act_516 ⟨Nat.le_of_ble_eq_true rfl, Nat.le_of_ble_eq_true rfl⟩ ⟨_, rfl, Or.inr ⟨by omega, by rw [ht]; rfl, G1, G2, rfl, hd, ⟨ad, ha, hR⟩, hG⟩⟩
  · skip
    obtain ⟨ht, rfl, ad', ha', hR'⟩ := hp
    refine jj_goto F (tgt := 501) dL_act_267 rfl ?_
    exact jj_iretH B dL_act_501 ⟨Nat.le_of_ble_eq_true rfl, Nat.le_of_ble_eq_true rfl⟩ ⟨_, rfl, Or.inl ⟨ht, rfl, Gn, G2, rfl, hdn, ⟨ad', ha'.trans ha, hR'⟩, hG⟩⟩
set_option maxRecDepth 100000 in
set_option maxHeartbeats 400000 in
theorem ka_back {l : Launch} {D : va_G} {ac : Nat → ClassId} (hl : l.stackTraces = false) {A : Nat → Nat} {s e : Sg} {mm gg rr : Int → Int} {G : jj_G} (hP : WP ac A s e mm gg rr G) {c : Int} (h : hInv s e c) {d m n x z0 : Int} (hd1 : jR d) (hm1 : jR m) (hn1 : jR n) (hx1 : jR x) (hj : ∀ i, jR (s 36 i)) : jj_C l D ac yL_act (.codeWith yL_act cL_act 8 (some .int) hh_act) rm_act [.ref (A 0), .int (jI 17), .int (jI d), .int (jI m), .int (jI n), .int (jI x), .int (jI z0)] G (jj_pi (AP ac A s e mm gg rr (t_back s d m n x) (r_back s d m n x) (n_back s d m n x) (e) (xC3 (t_back s d m n x) (-1761000000) (-1762000000) (-1763000000)))) jj_nx := by
  obtain ⟨G1, G2, rfl, hd, ⟨ad, ha, hR⟩, hG⟩ := hP
  rw [← ha]
  refine jj_ofH (own := RL) (lv0 := [some (.ref (ad 0 0)), some (.int (jI 17)), some (.int (jI d)), some (.int (jI m)), some (.int (jI n)), some (.int (jI x)), some (.int (jI z0)), none]) hl (by decide +kernel) rfl rfl (Nat.le_of_ble_eq_true rfl) rfl cwL_act ?_
  intro X B hN hl0 hdg hac
  subst hl0; subst hdg; subst hac
  have F := B.F
  refine ach_17 F (by omega) ?_
  refine jj_iload1 F dL_act_270 ?_
  refine jj_bipush F (by decide) dL_act_271 ?_
  refine jj_icmp_ne F (tgt := 289) dL_act_273 rfl (by omega) (fun hz => by exfalso; omega) (fun _ => ?_)
  refine jj_aload0 F dL_act_276 ?_
  refine jj_iload2 F dL_act_277 ?_
  refine jj_iload3 F dL_act_278 ?_
  refine jj_iload4 F dL_act_279 ?_
  refine jj_iload5 F dL_act_281 ?_
  refine jj_callFVi F hd (k := 4) (n := 24) (x8_back F.tr hR h.s hd1 hm1 hn1 hx1 hj h.K) lk_L_71 (hR.at (k := 0) (i := 0) cc_0) cs_8 rfl rfl ⟨Nat.le_of_ble_eq_true rfl, Nat.le_of_ble_eq_true rfl, Nat.le_of_ble_eq_true rfl, Nat.le_of_ble_eq_true rfl, Nat.le_of_ble_eq_true rfl⟩ ⟨Nat.le_of_ble_eq_true rfl, Nat.le_of_ble_eq_true rfl⟩ dL_act_283 (fun E hE => ?_) (fun r1 Gn hp hdn => ?_)
  · skip
    rcases hE with ⟨ht, rfl⟩ | ⟨ht, rfl⟩ | ⟨ht, rfl⟩
    · skip
      refine jj_catch F B.tab [] 0 501 502 120 [(0, 501, 507, 123), (0, 501, 512, 126)] rfl (fun _ h => absurd h List.not_mem_nil) (by decide) (by decide) cl_L_120 ca_B (fun q => ?_)
      refine jj_astore7 F dL_act_502 (hN _ (by decide)) rfl ?_
      refine jj_ldc F (v := -1761000000) cn_L_122 (by decide) dL_act_504 ?_
      exact jj_iretH B dL_act_506 ⟨Nat.le_of_ble_eq_true rfl, Nat.le_of_ble_eq_true rfl⟩ ⟨_, rfl, Or.inr ⟨by omega, by rw [ht]; rfl, G1, G2, rfl, hd, ⟨ad, ha, hR⟩, hG⟩⟩
    · skip
      refine jj_catch F B.tab [(0, 501, 502, 120)] 0 501 507 123 [(0, 501, 512, 126)] rfl (List.forall_mem_cons.mpr ⟨⟨by decide, _, cl_L_120, nn_AB⟩, (fun _ h => absurd h List.not_mem_nil)⟩) (by decide) (by decide) cl_L_123 ca_A (fun q => ?_)
      refine jj_astore7 F dL_act_507 (hN _ (by decide)) rfl ?_
      refine jj_ldc F (v := -1762000000) cn_L_125 (by decide) dL_act_509 ?_
      exact jj_iretH B dL_act_511 ⟨Nat.le_of_ble_eq_true rfl, Nat.le_of_ble_eq_true rfl⟩ ⟨_, rfl, Or.inr ⟨by omega, by rw [ht]; rfl, G1, G2, rfl, hd, ⟨ad, ha, hR⟩, hG⟩⟩
    · skip
      refine jj_catch F B.tab [(0, 501, 502, 120), (0, 501, 507, 123)] 0 501 512 126 [] rfl (List.forall_mem_cons.mpr ⟨⟨by decide, _, cl_L_120, nn_SB⟩, (List.forall_mem_cons.mpr ⟨⟨by decide, _, cl_L_123, nn_SA⟩, (fun _ h => absurd h List.not_mem_nil)⟩)⟩) (by decide) (by decide) cl_L_126 ca_S (fun q => ?_)
      refine jj_astore7 F dL_act_512 (hN _ (by decide)) rfl ?_
      refine jj_ldc F (v := -1763000000) cn_L_128 (by decide) dL_act_514 ?_
      exact jj_iretH B dL_act_516 ⟨Nat.le_of_ble_eq_true rfl, Nat.le_of_ble_eq_true rfl⟩ ⟨_, rfl, Or.inr ⟨by omega, by rw [ht]; rfl, G1, G2, rfl, hd, ⟨ad, ha, hR⟩, hG⟩⟩
  · skip
    obtain ⟨ht, rfl, ad', ha', hR'⟩ := hp
    refine jj_goto F (tgt := 501) dL_act_286 rfl ?_
    exact jj_iretH B dL_act_501 ⟨Nat.le_of_ble_eq_true rfl, Nat.le_of_ble_eq_true rfl⟩ ⟨_, rfl, Or.inl ⟨ht, rfl, Gn, G2, rfl, hdn, ⟨ad', ha'.trans ha, hR'⟩, hG⟩⟩
set_option maxRecDepth 100000 in
set_option maxHeartbeats 400000 in
theorem ka_disc {l : Launch} {D : va_G} {ac : Nat → ClassId} (hl : l.stackTraces = false) {A : Nat → Nat} {s e : Sg} {mm gg rr : Int → Int} {G : jj_G} (hP : WP ac A s e mm gg rr G) {c : Int} (h : hInv s e c) {d m n z0 z1 : Int} (hd1 : jR d) (hm1 : jR m) (hn1 : jR n) : jj_C l D ac yL_act (.codeWith yL_act cL_act 8 (some .int) hh_act) rm_act [.ref (A 0), .int (jI 18), .int (jI d), .int (jI m), .int (jI n), .int (jI z0), .int (jI z1)] G (jj_pi (AP ac A s e mm gg rr (t_disc s d m n) (r_disc s d m n) (n_disc s d m n) (e) (xC3 (t_disc s d m n) (-1761000000) (-1763000000) (-1763000000)))) jj_nx := by
  obtain ⟨G1, G2, rfl, hd, ⟨ad, ha, hR⟩, hG⟩ := hP
  rw [← ha]
  refine jj_ofH (own := RL) (lv0 := [some (.ref (ad 0 0)), some (.int (jI 18)), some (.int (jI d)), some (.int (jI m)), some (.int (jI n)), some (.int (jI z0)), some (.int (jI z1)), none]) hl (by decide +kernel) rfl rfl (Nat.le_of_ble_eq_true rfl) rfl cwL_act ?_
  intro X B hN hl0 hdg hac
  subst hl0; subst hdg; subst hac
  have F := B.F
  refine ach_18 F (by omega) ?_
  refine jj_iload1 F dL_act_289 ?_
  refine jj_bipush F (by decide) dL_act_290 ?_
  refine jj_icmp_ne F (tgt := 306) dL_act_292 rfl (by omega) (fun hz => by exfalso; omega) (fun _ => ?_)
  refine jj_aload0 F dL_act_295 ?_
  refine jj_iload2 F dL_act_296 ?_
  refine jj_iload3 F dL_act_297 ?_
  refine jj_iload4 F dL_act_298 ?_
  refine jj_callFVi F hd (k := 5) (n := 40) (x8_disc F.tr hR h.s hd1 hm1 hn1 ) lk_L_74 (hR.at (k := 0) (i := 0) cc_0) cs_8 rfl rfl ⟨Nat.le_of_ble_eq_true rfl, Nat.le_of_ble_eq_true rfl, Nat.le_of_ble_eq_true rfl, Nat.le_of_ble_eq_true rfl, Nat.le_of_ble_eq_true rfl⟩ ⟨Nat.le_of_ble_eq_true rfl, Nat.le_of_ble_eq_true rfl⟩ dL_act_300 (fun E hE => ?_) (fun r1 Gn hp hdn => ?_)
  · skip
    rcases hE with ⟨ht, rfl⟩ | ⟨ht, rfl⟩
    · skip
      refine jj_catch F B.tab [] 0 501 502 120 [(0, 501, 507, 123), (0, 501, 512, 126)] rfl (fun _ h => absurd h List.not_mem_nil) (by decide) (by decide) cl_L_120 ca_B (fun q => ?_)
      refine jj_astore7 F dL_act_502 (hN _ (by decide)) rfl ?_
      refine jj_ldc F (v := -1761000000) cn_L_122 (by decide) dL_act_504 ?_
      exact jj_iretH B dL_act_506 ⟨Nat.le_of_ble_eq_true rfl, Nat.le_of_ble_eq_true rfl⟩ ⟨_, rfl, Or.inr ⟨by omega, by rw [ht]; rfl, G1, G2, rfl, hd, ⟨ad, ha, hR⟩, hG⟩⟩
    · skip
      refine jj_catch F B.tab [(0, 501, 502, 120), (0, 501, 507, 123)] 0 501 512 126 [] rfl (List.forall_mem_cons.mpr ⟨⟨by decide, _, cl_L_120, nn_SB⟩, (List.forall_mem_cons.mpr ⟨⟨by decide, _, cl_L_123, nn_SA⟩, (fun _ h => absurd h List.not_mem_nil)⟩)⟩) (by decide) (by decide) cl_L_126 ca_S (fun q => ?_)
      refine jj_astore7 F dL_act_512 (hN _ (by decide)) rfl ?_
      refine jj_ldc F (v := -1763000000) cn_L_128 (by decide) dL_act_514 ?_
      exact jj_iretH B dL_act_516 ⟨Nat.le_of_ble_eq_true rfl, Nat.le_of_ble_eq_true rfl⟩ ⟨_, rfl, Or.inr ⟨by omega, by rw [ht]; rfl, G1, G2, rfl, hd, ⟨ad, ha, hR⟩, hG⟩⟩
  · skip
    obtain ⟨ht, rfl, ad', ha', hR'⟩ := hp
    refine jj_goto F (tgt := 501) dL_act_303 rfl ?_
    exact jj_iretH B dL_act_501 ⟨Nat.le_of_ble_eq_true rfl, Nat.le_of_ble_eq_true rfl⟩ ⟨_, rfl, Or.inl ⟨ht, rfl, Gn, G2, rfl, hdn, ⟨ad', ha'.trans ha, hR'⟩, hG⟩⟩
set_option maxRecDepth 100000 in
set_option maxHeartbeats 400000 in
theorem ka_play {l : Launch} {D : va_G} {ac : Nat → ClassId} (hl : l.stackTraces = false) {A : Nat → Nat} {s e : Sg} {mm gg rr : Int → Int} {G : jj_G} (hP : WP ac A s e mm gg rr G) {c : Int} (h : hInv s e c) {d n x z0 z1 : Int} (hd1 : jR d) (hn1 : jR n) (hx1 : jR x) : jj_C l D ac yL_act (.codeWith yL_act cL_act 8 (some .int) hh_act) rm_act [.ref (A 0), .int (jI 19), .int (jI d), .int (jI n), .int (jI x), .int (jI z0), .int (jI z1)] G (jj_pi (AP ac A s e mm gg rr (t_play s d n x) (r_play s d n x) (n_play s d n x) (e) (xC3 (t_play s d n x) (-1761000000) (-1762000000) (-1762000000)))) jj_nx := by
  obtain ⟨G1, G2, rfl, hd, ⟨ad, ha, hR⟩, hG⟩ := hP
  rw [← ha]
  refine jj_ofH (own := RL) (lv0 := [some (.ref (ad 0 0)), some (.int (jI 19)), some (.int (jI d)), some (.int (jI n)), some (.int (jI x)), some (.int (jI z0)), some (.int (jI z1)), none]) hl (by decide +kernel) rfl rfl (Nat.le_of_ble_eq_true rfl) rfl cwL_act ?_
  intro X B hN hl0 hdg hac
  subst hl0; subst hdg; subst hac
  have F := B.F
  refine ach_19 F (by omega) ?_
  refine jj_iload1 F dL_act_306 ?_
  refine jj_bipush F (by decide) dL_act_307 ?_
  refine jj_icmp_ne F (tgt := 323) dL_act_309 rfl (by omega) (fun hz => by exfalso; omega) (fun _ => ?_)
  refine jj_aload0 F dL_act_312 ?_
  refine jj_iload2 F dL_act_313 ?_
  refine jj_iload3 F dL_act_314 ?_
  refine jj_iload4 F dL_act_315 ?_
  refine jj_callFVi F hd (k := 2) (n := 12) (x8_play F.tr hR h.s hd1 hn1 hx1 ) lk_L_77 (hR.at (k := 0) (i := 0) cc_0) cs_8 rfl rfl ⟨Nat.le_of_ble_eq_true rfl, Nat.le_of_ble_eq_true rfl, Nat.le_of_ble_eq_true rfl, Nat.le_of_ble_eq_true rfl, Nat.le_of_ble_eq_true rfl⟩ ⟨Nat.le_of_ble_eq_true rfl, Nat.le_of_ble_eq_true rfl⟩ dL_act_317 (fun E hE => ?_) (fun r1 Gn hp hdn => ?_)
  · skip
    rcases hE with ⟨ht, rfl⟩ | ⟨ht, rfl⟩
    · skip
      refine jj_catch F B.tab [] 0 501 502 120 [(0, 501, 507, 123), (0, 501, 512, 126)] rfl (fun _ h => absurd h List.not_mem_nil) (by decide) (by decide) cl_L_120 ca_B (fun q => ?_)
      refine jj_astore7 F dL_act_502 (hN _ (by decide)) rfl ?_
      refine jj_ldc F (v := -1761000000) cn_L_122 (by decide) dL_act_504 ?_
      exact jj_iretH B dL_act_506 ⟨Nat.le_of_ble_eq_true rfl, Nat.le_of_ble_eq_true rfl⟩ ⟨_, rfl, Or.inr ⟨by omega, by rw [ht]; rfl, G1, G2, rfl, hd, ⟨ad, ha, hR⟩, hG⟩⟩
    · skip
      refine jj_catch F B.tab [(0, 501, 502, 120)] 0 501 507 123 [(0, 501, 512, 126)] rfl (List.forall_mem_cons.mpr ⟨⟨by decide, _, cl_L_120, nn_AB⟩, (fun _ h => absurd h List.not_mem_nil)⟩) (by decide) (by decide) cl_L_123 ca_A (fun q => ?_)
      refine jj_astore7 F dL_act_507 (hN _ (by decide)) rfl ?_
      refine jj_ldc F (v := -1762000000) cn_L_125 (by decide) dL_act_509 ?_
      exact jj_iretH B dL_act_511 ⟨Nat.le_of_ble_eq_true rfl, Nat.le_of_ble_eq_true rfl⟩ ⟨_, rfl, Or.inr ⟨by omega, by rw [ht]; rfl, G1, G2, rfl, hd, ⟨ad, ha, hR⟩, hG⟩⟩
  · skip
    obtain ⟨ht, rfl, ad', ha', hR'⟩ := hp
    refine jj_goto F (tgt := 501) dL_act_320 rfl ?_
    exact jj_iretH B dL_act_501 ⟨Nat.le_of_ble_eq_true rfl, Nat.le_of_ble_eq_true rfl⟩ ⟨_, rfl, Or.inl ⟨ht, rfl, Gn, G2, rfl, hdn, ⟨ad', ha'.trans ha, hR'⟩, hG⟩⟩
set_option maxRecDepth 100000 in
set_option maxHeartbeats 400000 in
theorem ka_scratch {l : Launch} {D : va_G} {ac : Nat → ClassId} (hl : l.stackTraces = false) {A : Nat → Nat} {s e : Sg} {mm gg rr : Int → Int} {G : jj_G} (hP : WP ac A s e mm gg rr G) {c : Int} (h : hInv s e c) {d p z0 z1 z2 : Int} (hd1 : jR d) (hp1 : jR p) : jj_C l D ac yL_act (.codeWith yL_act cL_act 8 (some .int) hh_act) rm_act [.ref (A 0), .int (jI 20), .int (jI d), .int (jI p), .int (jI z0), .int (jI z1), .int (jI z2)] G (jj_pi (AP ac A s e mm gg rr (t_scr s d p) (r_scratch s d p) (n_scratch s d p) (e) (xC3 (t_scr s d p) (-1761000000) (-1761000000) (-1761000000)))) jj_nx := by
  obtain ⟨G1, G2, rfl, hd, ⟨ad, ha, hR⟩, hG⟩ := hP
  rw [← ha]
  refine jj_ofH (own := RL) (lv0 := [some (.ref (ad 0 0)), some (.int (jI 20)), some (.int (jI d)), some (.int (jI p)), some (.int (jI z0)), some (.int (jI z1)), some (.int (jI z2)), none]) hl (by decide +kernel) rfl rfl (Nat.le_of_ble_eq_true rfl) rfl cwL_act ?_
  intro X B hN hl0 hdg hac
  subst hl0; subst hdg; subst hac
  have F := B.F
  refine ach_20 F (by omega) ?_
  refine jj_iload1 F dL_act_323 ?_
  refine jj_bipush F (by decide) dL_act_324 ?_
  refine jj_icmp_ne F (tgt := 338) dL_act_326 rfl (by omega) (fun hz => by exfalso; omega) (fun _ => ?_)
  refine jj_aload0 F dL_act_329 ?_
  refine jj_iload2 F dL_act_330 ?_
  refine jj_iload3 F dL_act_331 ?_
  refine jj_callFVi F hd (k := 3) (n := 18) (x8_scratch F.tr hR h.s hd1 hp1 ) lk_L_80 (hR.at (k := 0) (i := 0) cc_0) cs_8 rfl rfl ⟨Nat.le_of_ble_eq_true rfl, Nat.le_of_ble_eq_true rfl, Nat.le_of_ble_eq_true rfl, Nat.le_of_ble_eq_true rfl, Nat.le_of_ble_eq_true rfl⟩ ⟨Nat.le_of_ble_eq_true rfl, Nat.le_of_ble_eq_true rfl⟩ dL_act_332 (fun E hE => ?_) (fun r1 Gn hp hdn => ?_)
  · skip
    obtain ⟨ht, rfl⟩ := hE
    refine jj_catch F B.tab [] 0 501 502 120 [(0, 501, 507, 123), (0, 501, 512, 126)] rfl (fun _ h => absurd h List.not_mem_nil) (by decide) (by decide) cl_L_120 ca_B (fun q => ?_)
    refine jj_astore7 F dL_act_502 (hN _ (by decide)) rfl ?_
    refine jj_ldc F (v := -1761000000) cn_L_122 (by decide) dL_act_504 ?_
    exact jj_iretH B dL_act_506 ⟨Nat.le_of_ble_eq_true rfl, Nat.le_of_ble_eq_true rfl⟩ ⟨_, rfl, Or.inr ⟨by omega, by rw [ht]; rfl, G1, G2, rfl, hd, ⟨ad, ha, hR⟩, hG⟩⟩
  · skip
    obtain ⟨ht, rfl, ad', ha', hR'⟩ := hp
    refine jj_goto F (tgt := 501) dL_act_335 rfl ?_
    exact jj_iretH B dL_act_501 ⟨Nat.le_of_ble_eq_true rfl, Nat.le_of_ble_eq_true rfl⟩ ⟨_, rfl, Or.inl ⟨ht, rfl, Gn, G2, rfl, hdn, ⟨ad', ha'.trans ha, hR'⟩, hG⟩⟩
set_option maxRecDepth 100000 in
set_option maxHeartbeats 400000 in
theorem ka_noise {l : Launch} {D : va_G} {ac : Nat → ClassId} (hl : l.stackTraces = false) {A : Nat → Nat} {s e : Sg} {mm gg rr : Int → Int} {G : jj_G} (hP : WP ac A s e mm gg rr G) {c : Int} (h : hInv s e c) {d p z0 z1 z2 : Int} (hd1 : jR d) (hp1 : jR p) : jj_C l D ac yL_act (.codeWith yL_act cL_act 8 (some .int) hh_act) rm_act [.ref (A 0), .int (jI 21), .int (jI d), .int (jI p), .int (jI z0), .int (jI z1), .int (jI z2)] G (jj_pi (AP ac A s e mm gg rr (t_scr s d p) (r_noise s d p) (s) (e) (xC3 (t_scr s d p) (-1761000000) (-1761000000) (-1761000000)))) jj_nx := by
  obtain ⟨G1, G2, rfl, hd, ⟨ad, ha, hR⟩, hG⟩ := hP
  rw [← ha]
  refine jj_ofH (own := RL) (lv0 := [some (.ref (ad 0 0)), some (.int (jI 21)), some (.int (jI d)), some (.int (jI p)), some (.int (jI z0)), some (.int (jI z1)), some (.int (jI z2)), none]) hl (by decide +kernel) rfl rfl (Nat.le_of_ble_eq_true rfl) rfl cwL_act ?_
  intro X B hN hl0 hdg hac
  subst hl0; subst hdg; subst hac
  have F := B.F
  refine ach_21 F (by omega) ?_
  refine jj_iload1 F dL_act_338 ?_
  refine jj_bipush F (by decide) dL_act_339 ?_
  refine jj_icmp_ne F (tgt := 353) dL_act_341 rfl (by omega) (fun hz => by exfalso; omega) (fun _ => ?_)
  refine jj_aload0 F dL_act_344 ?_
  refine jj_iload2 F dL_act_345 ?_
  refine jj_iload3 F dL_act_346 ?_
  refine jj_callFVi F hd (k := 3) (n := 18) (x8_noise F.tr hR h.s hd1 hp1 ) lk_L_83 (hR.at (k := 0) (i := 0) cc_0) cs_8 rfl rfl ⟨Nat.le_of_ble_eq_true rfl, Nat.le_of_ble_eq_true rfl, Nat.le_of_ble_eq_true rfl, Nat.le_of_ble_eq_true rfl, Nat.le_of_ble_eq_true rfl⟩ ⟨Nat.le_of_ble_eq_true rfl, Nat.le_of_ble_eq_true rfl⟩ dL_act_347 (fun E hE => ?_) (fun r1 Gn hp hdn => ?_)
  · skip
    obtain ⟨ht, rfl⟩ := hE
    refine jj_catch F B.tab [] 0 501 502 120 [(0, 501, 507, 123), (0, 501, 512, 126)] rfl (fun _ h => absurd h List.not_mem_nil) (by decide) (by decide) cl_L_120 ca_B (fun q => ?_)
    refine jj_astore7 F dL_act_502 (hN _ (by decide)) rfl ?_
    refine jj_ldc F (v := -1761000000) cn_L_122 (by decide) dL_act_504 ?_
    exact jj_iretH B dL_act_506 ⟨Nat.le_of_ble_eq_true rfl, Nat.le_of_ble_eq_true rfl⟩ ⟨_, rfl, Or.inr ⟨by omega, by rw [ht]; rfl, G1, G2, rfl, hd, ⟨ad, ha, hR⟩, hG⟩⟩
  · skip
    obtain ⟨ht, rfl, ad', ha', hR'⟩ := hp
    refine jj_goto F (tgt := 501) dL_act_350 rfl ?_
    exact jj_iretH B dL_act_501 ⟨Nat.le_of_ble_eq_true rfl, Nat.le_of_ble_eq_true rfl⟩ ⟨_, rfl, Or.inl ⟨ht, rfl, Gn, G2, rfl, hdn, HG.u37 ⟨ad', ha'.trans ha, hR'⟩, hG⟩⟩
set_option maxRecDepth 100000 in
set_option maxHeartbeats 400000 in
theorem ka_grade {l : Launch} {D : va_G} {ac : Nat → ClassId} (hl : l.stackTraces = false) {A : Nat → Nat} {s e : Sg} {mm gg rr : Int → Int} {G : jj_G} (hP : WP ac A s e mm gg rr G) {c : Int} (h : hInv s e c) {d z0 z1 z2 z3 : Int} (hd1 : jR d) : jj_C l D ac yL_act (.codeWith yL_act cL_act 8 (some .int) hh_act) rm_act [.ref (A 0), .int (jI 22), .int (jI d), .int (jI z0), .int (jI z1), .int (jI z2), .int (jI z3)] G (jj_pi (AP ac A s e mm gg rr (t_grade s d) (r_grade s d) (s) (e) (xC3 (t_grade s d) (-1761000000) (-1761000000) (-1761000000)))) jj_nx := by
  obtain ⟨G1, G2, rfl, hd, ⟨ad, ha, hR⟩, hG⟩ := hP
  rw [← ha]
  refine jj_ofH (own := RL) (lv0 := [some (.ref (ad 0 0)), some (.int (jI 22)), some (.int (jI d)), some (.int (jI z0)), some (.int (jI z1)), some (.int (jI z2)), some (.int (jI z3)), none]) hl (by decide +kernel) rfl rfl (Nat.le_of_ble_eq_true rfl) rfl cwL_act ?_
  intro X B hN hl0 hdg hac
  subst hl0; subst hdg; subst hac
  have F := B.F
  refine ach_22 F (by omega) ?_
  refine jj_iload1 F dL_act_353 ?_
  refine jj_bipush F (by decide) dL_act_354 ?_
  refine jj_icmp_ne F (tgt := 367) dL_act_356 rfl (by omega) (fun hz => by exfalso; omega) (fun _ => ?_)
  refine jj_aload0 F dL_act_359 ?_
  refine jj_iload2 F dL_act_360 ?_
  refine jj_callFVi F hd (k := 2) (n := 12) (x8_grade F.tr hR h.s hd1 ) lk_L_86 (hR.at (k := 0) (i := 0) cc_0) cs_8 rfl rfl ⟨Nat.le_of_ble_eq_true rfl, Nat.le_of_ble_eq_true rfl, Nat.le_of_ble_eq_true rfl, Nat.le_of_ble_eq_true rfl, Nat.le_of_ble_eq_true rfl⟩ ⟨Nat.le_of_ble_eq_true rfl, Nat.le_of_ble_eq_true rfl⟩ dL_act_361 (fun E hE => ?_) (fun r1 Gn hp hdn => ?_)
  · skip
    obtain ⟨ht, rfl⟩ := hE
    refine jj_catch F B.tab [] 0 501 502 120 [(0, 501, 507, 123), (0, 501, 512, 126)] rfl (fun _ h => absurd h List.not_mem_nil) (by decide) (by decide) cl_L_120 ca_B (fun q => ?_)
    refine jj_astore7 F dL_act_502 (hN _ (by decide)) rfl ?_
    refine jj_ldc F (v := -1761000000) cn_L_122 (by decide) dL_act_504 ?_
    exact jj_iretH B dL_act_506 ⟨Nat.le_of_ble_eq_true rfl, Nat.le_of_ble_eq_true rfl⟩ ⟨_, rfl, Or.inr ⟨by omega, by rw [ht]; rfl, G1, G2, rfl, hd, ⟨ad, ha, hR⟩, hG⟩⟩
  · skip
    obtain ⟨ht, rfl, ad', ha', hR'⟩ := hp
    refine jj_goto F (tgt := 501) dL_act_364 rfl ?_
    exact jj_iretH B dL_act_501 ⟨Nat.le_of_ble_eq_true rfl, Nat.le_of_ble_eq_true rfl⟩ ⟨_, rfl, Or.inl ⟨ht, rfl, Gn, G2, rfl, hdn, HG.u37 ⟨ad', ha'.trans ha, hR'⟩, hG⟩⟩
set_option maxRecDepth 100000 in
set_option maxHeartbeats 400000 in
theorem ka_join {l : Launch} {D : va_G} {ac : Nat → ClassId} (hl : l.stackTraces = false) {A : Nat → Nat} {s e : Sg} {mm gg rr : Int → Int} {G : jj_G} (hP : WP ac A s e mm gg rr G) {c : Int} (h : hInv s e c) {q p z0 z1 z2 : Int} (hq1 : jR q) (hp1 : jR p) : jj_C l D ac yL_act (.codeWith yL_act cL_act 8 (some .int) hh_act) rm_act [.ref (A 0), .int (jI 23), .int (jI q), .int (jI p), .int (jI z0), .int (jI z1), .int (jI z2)] G (jj_pi (AP ac A s e mm gg rr (t_join s q p) (r_join s q p) (s) (e) (xC3 (t_join s q p) (-1761000000) (-1762000000) (-1763000000)))) jj_nx := by
  obtain ⟨G1, G2, rfl, hd, ⟨ad, ha, hR⟩, hG⟩ := hP
  rw [← ha]
  refine jj_ofH (own := RL) (lv0 := [some (.ref (ad 0 0)), some (.int (jI 23)), some (.int (jI q)), some (.int (jI p)), some (.int (jI z0)), some (.int (jI z1)), some (.int (jI z2)), none]) hl (by decide +kernel) rfl rfl (Nat.le_of_ble_eq_true rfl) rfl cwL_act ?_
  intro X B hN hl0 hdg hac
  subst hl0; subst hdg; subst hac
  have F := B.F
  refine ach_23 F (by omega) ?_
  refine jj_iload1 F dL_act_367 ?_
  refine jj_bipush F (by decide) dL_act_368 ?_
  refine jj_icmp_ne F (tgt := 382) dL_act_370 rfl (by omega) (fun hz => by exfalso; omega) (fun _ => ?_)
  refine jj_aload0 F dL_act_373 ?_
  refine jj_iload2 F dL_act_374 ?_
  refine jj_iload3 F dL_act_375 ?_
  refine jj_callFVi F hd (k := 3) (n := 18) (x8_join F.tr hR h.s hq1 hp1 ) lk_L_89 (hR.at (k := 0) (i := 0) cc_0) cs_8 rfl rfl ⟨Nat.le_of_ble_eq_true rfl, Nat.le_of_ble_eq_true rfl, Nat.le_of_ble_eq_true rfl, Nat.le_of_ble_eq_true rfl, Nat.le_of_ble_eq_true rfl⟩ ⟨Nat.le_of_ble_eq_true rfl, Nat.le_of_ble_eq_true rfl⟩ dL_act_376 (fun E hE => ?_) (fun r1 Gn hp hdn => ?_)
  · skip
    rcases hE with ⟨ht, rfl⟩ | ⟨ht, rfl⟩ | ⟨ht, rfl⟩
    · skip
      refine jj_catch F B.tab [] 0 501 502 120 [(0, 501, 507, 123), (0, 501, 512, 126)] rfl (fun _ h => absurd h List.not_mem_nil) (by decide) (by decide) cl_L_120 ca_B (fun q => ?_)
      refine jj_astore7 F dL_act_502 (hN _ (by decide)) rfl ?_
      refine jj_ldc F (v := -1761000000) cn_L_122 (by decide) dL_act_504 ?_
      exact jj_iretH B dL_act_506 ⟨Nat.le_of_ble_eq_true rfl, Nat.le_of_ble_eq_true rfl⟩ ⟨_, rfl, Or.inr ⟨by omega, by rw [ht]; rfl, G1, G2, rfl, hd, ⟨ad, ha, hR⟩, hG⟩⟩
    · skip
      refine jj_catch F B.tab [(0, 501, 502, 120)] 0 501 507 123 [(0, 501, 512, 126)] rfl (List.forall_mem_cons.mpr ⟨⟨by decide, _, cl_L_120, nn_AB⟩, (fun _ h => absurd h List.not_mem_nil)⟩) (by decide) (by decide) cl_L_123 ca_A (fun q => ?_)
      refine jj_astore7 F dL_act_507 (hN _ (by decide)) rfl ?_
      refine jj_ldc F (v := -1762000000) cn_L_125 (by decide) dL_act_509 ?_
      exact jj_iretH B dL_act_511 ⟨Nat.le_of_ble_eq_true rfl, Nat.le_of_ble_eq_true rfl⟩ ⟨_, rfl, Or.inr ⟨by omega, by rw [ht]; rfl, G1, G2, rfl, hd, ⟨ad, ha, hR⟩, hG⟩⟩
    · skip
      refine jj_catch F B.tab [(0, 501, 502, 120), (0, 501, 507, 123)] 0 501 512 126 [] rfl (List.forall_mem_cons.mpr ⟨⟨by decide, _, cl_L_120, nn_SB⟩, (List.forall_mem_cons.mpr ⟨⟨by decide, _, cl_L_123, nn_SA⟩, (fun _ h => absurd h List.not_mem_nil)⟩)⟩) (by decide) (by decide) cl_L_126 ca_S (fun q => ?_)
      refine jj_astore7 F dL_act_512 (hN _ (by decide)) rfl ?_
      refine jj_ldc F (v := -1763000000) cn_L_128 (by decide) dL_act_514 ?_
      exact jj_iretH B dL_act_516 ⟨Nat.le_of_ble_eq_true rfl, Nat.le_of_ble_eq_true rfl⟩ ⟨_, rfl, Or.inr ⟨by omega, by rw [ht]; rfl, G1, G2, rfl, hd, ⟨ad, ha, hR⟩, hG⟩⟩
  · skip
    obtain ⟨ht, rfl, ad', ha', hR'⟩ := hp
    refine jj_goto F (tgt := 501) dL_act_379 rfl ?_
    exact jj_iretH B dL_act_501 ⟨Nat.le_of_ble_eq_true rfl, Nat.le_of_ble_eq_true rfl⟩ ⟨_, rfl, Or.inl ⟨ht, rfl, Gn, G2, rfl, hdn, HG.u37 ⟨ad', ha'.trans ha, hR'⟩, hG⟩⟩
set_option maxRecDepth 100000 in
set_option maxHeartbeats 400000 in
theorem ka_file {l : Launch} {D : va_G} {ac : Nat → ClassId} (hl : l.stackTraces = false) {A : Nat → Nat} {s e : Sg} {mm gg rr : Int → Int} {G : jj_G} (hP : WP ac A s e mm gg rr G) {c : Int} (h : hInv s e c) {q z0 z1 z2 z3 : Int} (hq1 : jR q) : jj_C l D ac yL_act (.codeWith yL_act cL_act 8 (some .int) hh_act) rm_act [.ref (A 0), .int (jI 24), .int (jI q), .int (jI z0), .int (jI z1), .int (jI z2), .int (jI z3)] G (jj_pi (AP ac A s e mm gg rr (t_file s q) (r_file s q) (n_file s q) (e) (xC3 (t_file s q) (-1762000000) (-1763000000) (-1763000000)))) jj_nx := by
  obtain ⟨G1, G2, rfl, hd, ⟨ad, ha, hR⟩, hG⟩ := hP
  rw [← ha]
  refine jj_ofH (own := RL) (lv0 := [some (.ref (ad 0 0)), some (.int (jI 24)), some (.int (jI q)), some (.int (jI z0)), some (.int (jI z1)), some (.int (jI z2)), some (.int (jI z3)), none]) hl (by decide +kernel) rfl rfl (Nat.le_of_ble_eq_true rfl) rfl cwL_act ?_
  intro X B hN hl0 hdg hac
  subst hl0; subst hdg; subst hac
  have F := B.F
  refine ach_24 F (by omega) ?_
  refine jj_iload1 F dL_act_382 ?_
  refine jj_bipush F (by decide) dL_act_383 ?_
  refine jj_icmp_ne F (tgt := 396) dL_act_385 rfl (by omega) (fun hz => by exfalso; omega) (fun _ => ?_)
  refine jj_aload0 F dL_act_388 ?_
  refine jj_iload2 F dL_act_389 ?_
  refine jj_callFVi F hd (k := 2) (n := 12) (x8_file F.tr hR h.s hq1 ) lk_L_92 (hR.at (k := 0) (i := 0) cc_0) cs_8 rfl rfl ⟨Nat.le_of_ble_eq_true rfl, Nat.le_of_ble_eq_true rfl, Nat.le_of_ble_eq_true rfl, Nat.le_of_ble_eq_true rfl, Nat.le_of_ble_eq_true rfl⟩ ⟨Nat.le_of_ble_eq_true rfl, Nat.le_of_ble_eq_true rfl⟩ dL_act_390 (fun E hE => ?_) (fun r1 Gn hp hdn => ?_)
  · skip
    rcases hE with ⟨ht, rfl⟩ | ⟨ht, rfl⟩
    · skip
      refine jj_catch F B.tab [(0, 501, 502, 120)] 0 501 507 123 [(0, 501, 512, 126)] rfl (List.forall_mem_cons.mpr ⟨⟨by decide, _, cl_L_120, nn_AB⟩, (fun _ h => absurd h List.not_mem_nil)⟩) (by decide) (by decide) cl_L_123 ca_A (fun q => ?_)
      refine jj_astore7 F dL_act_507 (hN _ (by decide)) rfl ?_
      refine jj_ldc F (v := -1762000000) cn_L_125 (by decide) dL_act_509 ?_
      exact jj_iretH B dL_act_511 ⟨Nat.le_of_ble_eq_true rfl, Nat.le_of_ble_eq_true rfl⟩ ⟨_, rfl, Or.inr ⟨by omega, by rw [ht]; rfl, G1, G2, rfl, hd, ⟨ad, ha, hR⟩, hG⟩⟩
    · skip
      refine jj_catch F B.tab [(0, 501, 502, 120), (0, 501, 507, 123)] 0 501 512 126 [] rfl (List.forall_mem_cons.mpr ⟨⟨by decide, _, cl_L_120, nn_SB⟩, (List.forall_mem_cons.mpr ⟨⟨by decide, _, cl_L_123, nn_SA⟩, (fun _ h => absurd h List.not_mem_nil)⟩)⟩) (by decide) (by decide) cl_L_126 ca_S (fun q => ?_)
      refine jj_astore7 F dL_act_512 (hN _ (by decide)) rfl ?_
      refine jj_ldc F (v := -1763000000) cn_L_128 (by decide) dL_act_514 ?_
      exact jj_iretH B dL_act_516 ⟨Nat.le_of_ble_eq_true rfl, Nat.le_of_ble_eq_true rfl⟩ ⟨_, rfl, Or.inr ⟨by omega, by rw [ht]; rfl, G1, G2, rfl, hd, ⟨ad, ha, hR⟩, hG⟩⟩
  · skip
    obtain ⟨ht, rfl, ad', ha', hR'⟩ := hp
    refine jj_goto F (tgt := 501) dL_act_393 rfl ?_
    exact jj_iretH B dL_act_501 ⟨Nat.le_of_ble_eq_true rfl, Nat.le_of_ble_eq_true rfl⟩ ⟨_, rfl, Or.inl ⟨ht, rfl, Gn, G2, rfl, hdn, ⟨ad', ha'.trans ha, hR'⟩, hG⟩⟩
set_option maxRecDepth 100000 in
set_option maxHeartbeats 400000 in
theorem ka_repair {l : Launch} {D : va_G} {ac : Nat → ClassId} (hl : l.stackTraces = false) {A : Nat → Nat} {s e : Sg} {mm gg rr : Int → Int} {G : jj_G} (hP : WP ac A s e mm gg rr G) {c : Int} (h : hInv s e c) {p z0 z1 z2 z3 : Int} (hp1 : jR p) : jj_C l D ac yL_act (.codeWith yL_act cL_act 8 (some .int) hh_act) rm_act [.ref (A 0), .int (jI 25), .int (jI p), .int (jI z0), .int (jI z1), .int (jI z2), .int (jI z3)] G (jj_pi (AP ac A s e mm gg rr (t_repair s p) (r_repair s p) (n_repair s p) (e) (xC3 (t_repair s p) (-1761000000) (-1763000000) (-1763000000)))) jj_nx := by
  obtain ⟨G1, G2, rfl, hd, ⟨ad, ha, hR⟩, hG⟩ := hP
  rw [← ha]
  refine jj_ofH (own := RL) (lv0 := [some (.ref (ad 0 0)), some (.int (jI 25)), some (.int (jI p)), some (.int (jI z0)), some (.int (jI z1)), some (.int (jI z2)), some (.int (jI z3)), none]) hl (by decide +kernel) rfl rfl (Nat.le_of_ble_eq_true rfl) rfl cwL_act ?_
  intro X B hN hl0 hdg hac
  subst hl0; subst hdg; subst hac
  have F := B.F
  refine ach_25 F (by omega) ?_
  refine jj_iload1 F dL_act_396 ?_
  refine jj_bipush F (by decide) dL_act_397 ?_
  refine jj_icmp_ne F (tgt := 410) dL_act_399 rfl (by omega) (fun hz => by exfalso; omega) (fun _ => ?_)
  refine jj_aload0 F dL_act_402 ?_
  refine jj_iload2 F dL_act_403 ?_
  refine jj_callFVi F hd (k := 2) (n := 12) (x8_repair F.tr hR h.s hp1 ) lk_L_95 (hR.at (k := 0) (i := 0) cc_0) cs_8 rfl rfl ⟨Nat.le_of_ble_eq_true rfl, Nat.le_of_ble_eq_true rfl, Nat.le_of_ble_eq_true rfl, Nat.le_of_ble_eq_true rfl, Nat.le_of_ble_eq_true rfl⟩ ⟨Nat.le_of_ble_eq_true rfl, Nat.le_of_ble_eq_true rfl⟩ dL_act_404 (fun E hE => ?_) (fun r1 Gn hp hdn => ?_)
  · skip
    rcases hE with ⟨ht, rfl⟩ | ⟨ht, rfl⟩
    · skip
      refine jj_catch F B.tab [] 0 501 502 120 [(0, 501, 507, 123), (0, 501, 512, 126)] rfl (fun _ h => absurd h List.not_mem_nil) (by decide) (by decide) cl_L_120 ca_B (fun q => ?_)
      refine jj_astore7 F dL_act_502 (hN _ (by decide)) rfl ?_
      refine jj_ldc F (v := -1761000000) cn_L_122 (by decide) dL_act_504 ?_
      exact jj_iretH B dL_act_506 ⟨Nat.le_of_ble_eq_true rfl, Nat.le_of_ble_eq_true rfl⟩ ⟨_, rfl, Or.inr ⟨by omega, by rw [ht]; rfl, G1, G2, rfl, hd, ⟨ad, ha, hR⟩, hG⟩⟩
    · skip
      refine jj_catch F B.tab [(0, 501, 502, 120), (0, 501, 507, 123)] 0 501 512 126 [] rfl (List.forall_mem_cons.mpr ⟨⟨by decide, _, cl_L_120, nn_SB⟩, (List.forall_mem_cons.mpr ⟨⟨by decide, _, cl_L_123, nn_SA⟩, (fun _ h => absurd h List.not_mem_nil)⟩)⟩) (by decide) (by decide) cl_L_126 ca_S (fun q => ?_)
      refine jj_astore7 F dL_act_512 (hN _ (by decide)) rfl ?_
      refine jj_ldc F (v := -1763000000) cn_L_128 (by decide) dL_act_514 ?_
      exact jj_iretH B dL_act_516 ⟨Nat.le_of_ble_eq_true rfl, Nat.le_of_ble_eq_true rfl⟩ ⟨_, rfl, Or.inr ⟨by omega, by rw [ht]; rfl, G1, G2, rfl, hd, ⟨ad, ha, hR⟩, hG⟩⟩
  · skip
    obtain ⟨ht, rfl, ad', ha', hR'⟩ := hp
    refine jj_goto F (tgt := 501) dL_act_407 rfl ?_
    exact jj_iretH B dL_act_501 ⟨Nat.le_of_ble_eq_true rfl, Nat.le_of_ble_eq_true rfl⟩ ⟨_, rfl, Or.inl ⟨ht, rfl, Gn, G2, rfl, hdn, ⟨ad', ha'.trans ha, hR'⟩, hG⟩⟩
set_option maxRecDepth 100000 in
set_option maxHeartbeats 400000 in
theorem ka_undo {l : Launch} {D : va_G} {ac : Nat → ClassId} (hl : l.stackTraces = false) {A : Nat → Nat} {s e : Sg} {mm gg rr : Int → Int} {G : jj_G} (hP : WP ac A s e mm gg rr G) {c : Int} (h : hInv s e c) {z0 z1 z2 z3 z4 : Int}  : jj_C l D ac yL_act (.codeWith yL_act cL_act 8 (some .int) hh_act) rm_act [.ref (A 0), .int (jI 26), .int (jI z0), .int (jI z1), .int (jI z2), .int (jI z3), .int (jI z4)] G (jj_pi (AP ac A s e mm gg rr (t_undo s) (r_undo s) (n_undo s) (e) (xC3 (t_undo s) (-1763000000) (-1763000000) (-1763000000)))) jj_nx := by
  obtain ⟨G1, G2, rfl, hd, ⟨ad, ha, hR⟩, hG⟩ := hP
  rw [← ha]
  refine jj_ofH (own := RL) (lv0 := [some (.ref (ad 0 0)), some (.int (jI 26)), some (.int (jI z0)), some (.int (jI z1)), some (.int (jI z2)), some (.int (jI z3)), some (.int (jI z4)), none]) hl (by decide +kernel) rfl rfl (Nat.le_of_ble_eq_true rfl) rfl cwL_act ?_
  intro X B hN hl0 hdg hac
  subst hl0; subst hdg; subst hac
  have F := B.F
  refine ach_26 F (by omega) ?_
  refine jj_iload1 F dL_act_410 ?_
  refine jj_bipush F (by decide) dL_act_411 ?_
  refine jj_icmp_ne F (tgt := 423) dL_act_413 rfl (by omega) (fun hz => by exfalso; omega) (fun _ => ?_)
  refine jj_aload0 F dL_act_416 ?_
  refine jj_callFVi F hd (k := 1) (n := 6) (x8_undo F.tr hR h.s ) lk_L_98 (hR.at (k := 0) (i := 0) cc_0) cs_8 rfl rfl ⟨Nat.le_of_ble_eq_true rfl, Nat.le_of_ble_eq_true rfl, Nat.le_of_ble_eq_true rfl, Nat.le_of_ble_eq_true rfl, Nat.le_of_ble_eq_true rfl⟩ ⟨Nat.le_of_ble_eq_true rfl, Nat.le_of_ble_eq_true rfl⟩ dL_act_417 (fun E hE => ?_) (fun r1 Gn hp hdn => ?_)
  · skip
    obtain ⟨ht, rfl⟩ := hE
    refine jj_catch F B.tab [(0, 501, 502, 120), (0, 501, 507, 123)] 0 501 512 126 [] rfl (List.forall_mem_cons.mpr ⟨⟨by decide, _, cl_L_120, nn_SB⟩, (List.forall_mem_cons.mpr ⟨⟨by decide, _, cl_L_123, nn_SA⟩, (fun _ h => absurd h List.not_mem_nil)⟩)⟩) (by decide) (by decide) cl_L_126 ca_S (fun q => ?_)
    refine jj_astore7 F dL_act_512 (hN _ (by decide)) rfl ?_
    refine jj_ldc F (v := -1763000000) cn_L_128 (by decide) dL_act_514 ?_
    exact jj_iretH B dL_act_516 ⟨Nat.le_of_ble_eq_true rfl, Nat.le_of_ble_eq_true rfl⟩ ⟨_, rfl, Or.inr ⟨by omega, by rw [ht]; rfl, G1, G2, rfl, hd, ⟨ad, ha, hR⟩, hG⟩⟩
  · skip
    obtain ⟨ht, rfl, ad', ha', hR'⟩ := hp
    refine jj_goto F (tgt := 501) dL_act_420 rfl ?_
    exact jj_iretH B dL_act_501 ⟨Nat.le_of_ble_eq_true rfl, Nat.le_of_ble_eq_true rfl⟩ ⟨_, rfl, Or.inl ⟨ht, rfl, Gn, G2, rfl, hdn, ⟨ad', ha'.trans ha, hR'⟩, hG⟩⟩
set_option maxRecDepth 100000 in
set_option maxHeartbeats 400000 in
theorem ka_fileIs {l : Launch} {D : va_G} {ac : Nat → ClassId} (hl : l.stackTraces = false) {A : Nat → Nat} {s e : Sg} {mm gg rr : Int → Int} {G : jj_G} (hP : WP ac A s e mm gg rr G) {c : Int} (h : hInv s e c) {p z0 z1 z2 z3 : Int} (hp1 : jR p) : jj_C l D ac yL_act (.codeWith yL_act cL_act 8 (some .int) hh_act) rm_act [.ref (A 0), .int (jI 27), .int (jI p), .int (jI z0), .int (jI z1), .int (jI z2), .int (jI z3)] G (jj_pi (AP ac A s e mm gg rr (t_part p) (r_fileIs s p) (s) (e) (xC3 (t_part p) (-1761000000) (-1761000000) (-1761000000)))) jj_nx := by
  obtain ⟨G1, G2, rfl, hd, ⟨ad, ha, hR⟩, hG⟩ := hP
  rw [← ha]
  refine jj_ofH (own := RL) (lv0 := [some (.ref (ad 0 0)), some (.int (jI 27)), some (.int (jI p)), some (.int (jI z0)), some (.int (jI z1)), some (.int (jI z2)), some (.int (jI z3)), none]) hl (by decide +kernel) rfl rfl (Nat.le_of_ble_eq_true rfl) rfl cwL_act ?_
  intro X B hN hl0 hdg hac
  subst hl0; subst hdg; subst hac
  have F := B.F
  refine ach_27 F (by omega) ?_
  refine jj_iload1 F dL_act_423 ?_
  refine jj_bipush F (by decide) dL_act_424 ?_
  refine jj_icmp_ne F (tgt := 437) dL_act_426 rfl (by omega) (fun hz => by exfalso; omega) (fun _ => ?_)
  refine jj_aload0 F dL_act_429 ?_
  refine jj_iload2 F dL_act_430 ?_
  refine jj_callFVi F hd (k := 2) (n := 12) (x8_fileIs F.tr hR h.s hp1 ) lk_L_102 (hR.at (k := 0) (i := 0) cc_0) cs_8 rfl rfl ⟨Nat.le_of_ble_eq_true rfl, Nat.le_of_ble_eq_true rfl, Nat.le_of_ble_eq_true rfl, Nat.le_of_ble_eq_true rfl, Nat.le_of_ble_eq_true rfl⟩ ⟨Nat.le_of_ble_eq_true rfl, Nat.le_of_ble_eq_true rfl⟩ dL_act_431 (fun E hE => ?_) (fun r1 Gn hp hdn => ?_)
  · skip
    obtain ⟨ht, rfl⟩ := hE
    refine jj_catch F B.tab [] 0 501 502 120 [(0, 501, 507, 123), (0, 501, 512, 126)] rfl (fun _ h => absurd h List.not_mem_nil) (by decide) (by decide) cl_L_120 ca_B (fun q => ?_)
    refine jj_astore7 F dL_act_502 (hN _ (by decide)) rfl ?_
    refine jj_ldc F (v := -1761000000) cn_L_122 (by decide) dL_act_504 ?_
    exact jj_iretH B dL_act_506 ⟨Nat.le_of_ble_eq_true rfl, Nat.le_of_ble_eq_true rfl⟩ ⟨_, rfl, Or.inr ⟨by omega, by rw [ht]; rfl, G1, G2, rfl, hd, ⟨ad, ha, hR⟩, hG⟩⟩
  · skip
    obtain ⟨ht, rfl, ad', ha', hR'⟩ := hp
    refine jj_goto F (tgt := 501) dL_act_434 rfl ?_
    exact jj_iretH B dL_act_501 ⟨Nat.le_of_ble_eq_true rfl, Nat.le_of_ble_eq_true rfl⟩ ⟨_, rfl, Or.inl ⟨ht, rfl, Gn, G2, rfl, hdn, HG.u37 ⟨ad', ha'.trans ha, hR'⟩, hG⟩⟩
set_option maxRecDepth 100000 in
set_option maxHeartbeats 400000 in
theorem ka_contract {l : Launch} {D : va_G} {ac : Nat → ClassId} (hl : l.stackTraces = false) {A : Nat → Nat} {s e : Sg} {mm gg rr : Int → Int} {G : jj_G} (hP : WP ac A s e mm gg rr G) {c : Int} (h : hInv s e c) {a x y z0 z1 : Int} (ha1 : jR a) (hx1 : jR x) (hy1 : jR y) : jj_C l D ac yL_act (.codeWith yL_act cL_act 8 (some .int) hh_act) rm_act [.ref (A 0), .int (jI 28), .int (jI a), .int (jI x), .int (jI y), .int (jI z0), .int (jI z1)] G (jj_pi (AP ac A s e mm gg rr (t_contract a x y) (r_contract s a x y) (n_contract s a x y) (sU e 0 a (e 0 a + y)) (xC3 (t_contract a x y) (-1761000000) (-1762000000) (-1762000000)))) jj_nx := by
  obtain ⟨G1, G2, rfl, hd, ⟨ad, ha, hR⟩, hG⟩ := hP
  rw [← ha]
  refine jj_ofH (own := RL) (lv0 := [some (.ref (ad 0 0)), some (.int (jI 28)), some (.int (jI a)), some (.int (jI x)), some (.int (jI y)), some (.int (jI z0)), some (.int (jI z1)), none]) hl (by decide +kernel) rfl rfl (Nat.le_of_ble_eq_true rfl) rfl cwL_act ?_
  intro X B hN hl0 hdg hac
  subst hl0; subst hdg; subst hac
  have F := B.F
  refine ach_28 F (by omega) ?_
  refine jj_iload1 F dL_act_437 ?_
  refine jj_bipush F (by decide) dL_act_438 ?_
  refine jj_icmp_ne F (tgt := 454) dL_act_440 rfl (by omega) (fun hz => by exfalso; omega) (fun _ => ?_)
  refine jj_aload0 F dL_act_443 ?_
  refine jj_iload2 F dL_act_444 ?_
  refine jj_iload3 F dL_act_445 ?_
  refine jj_iload4 F dL_act_446 ?_
  refine jj_callFVi F hd (k := 2) (n := 12) (x8_contract F.tr hR h.s ha1 hx1 hy1 ) lk_L_105 (hR.at (k := 0) (i := 0) cc_0) cs_8 rfl rfl ⟨Nat.le_of_ble_eq_true rfl, Nat.le_of_ble_eq_true rfl, Nat.le_of_ble_eq_true rfl, Nat.le_of_ble_eq_true rfl, Nat.le_of_ble_eq_true rfl⟩ ⟨Nat.le_of_ble_eq_true rfl, Nat.le_of_ble_eq_true rfl⟩ dL_act_448 (fun E hE => ?_) (fun r1 Gn hp hdn => ?_)
  · skip
    rcases hE with ⟨ht, rfl⟩ | ⟨ht, rfl⟩
    · skip
      refine jj_catch F B.tab [] 0 501 502 120 [(0, 501, 507, 123), (0, 501, 512, 126)] rfl (fun _ h => absurd h List.not_mem_nil) (by decide) (by decide) cl_L_120 ca_B (fun q => ?_)
      refine jj_astore7 F dL_act_502 (hN _ (by decide)) rfl ?_
      refine jj_ldc F (v := -1761000000) cn_L_122 (by decide) dL_act_504 ?_
      exact jj_iretH B dL_act_506 ⟨Nat.le_of_ble_eq_true rfl, Nat.le_of_ble_eq_true rfl⟩ ⟨_, rfl, Or.inr ⟨by omega, by rw [ht]; rfl, G1, G2, rfl, hd, ⟨ad, ha, hR⟩, hG⟩⟩
    · skip
      refine jj_catch F B.tab [(0, 501, 502, 120)] 0 501 507 123 [(0, 501, 512, 126)] rfl (List.forall_mem_cons.mpr ⟨⟨by decide, _, cl_L_120, nn_AB⟩, (fun _ h => absurd h List.not_mem_nil)⟩) (by decide) (by decide) cl_L_123 ca_A (fun q => ?_)
      refine jj_astore7 F dL_act_507 (hN _ (by decide)) rfl ?_
      refine jj_ldc F (v := -1762000000) cn_L_125 (by decide) dL_act_509 ?_
      exact jj_iretH B dL_act_511 ⟨Nat.le_of_ble_eq_true rfl, Nat.le_of_ble_eq_true rfl⟩ ⟨_, rfl, Or.inr ⟨by omega, by rw [ht]; rfl, G1, G2, rfl, hd, ⟨ad, ha, hR⟩, hG⟩⟩
  · skip
    obtain ⟨ht, rfl, ad', ha', hR'⟩ := hp
    refine jj_goto F (tgt := 501) dL_act_451 rfl ?_
    exact jj_iretH B dL_act_501 ⟨Nat.le_of_ble_eq_true rfl, Nat.le_of_ble_eq_true rfl⟩ ⟨_, rfl, Or.inl ⟨ht, rfl, Gn, G2, rfl, hdn, ⟨ad', ha'.trans ha, hR'⟩, hG⟩⟩
set_option maxRecDepth 100000 in
set_option maxHeartbeats 400000 in
theorem ka_account {l : Launch} {D : va_G} {ac : Nat → ClassId} (hl : l.stackTraces = false) {A : Nat → Nat} {s e : Sg} {mm gg rr : Int → Int} {G : jj_G} (hP : WP ac A s e mm gg rr G) {c : Int} (h : hInv s e c) {a z0 z1 z2 z3 : Int} (ha1 : jR a) : jj_C l D ac yL_act (.codeWith yL_act cL_act 8 (some .int) hh_act) rm_act [.ref (A 0), .int (jI 29), .int (jI a), .int (jI z0), .int (jI z1), .int (jI z2), .int (jI z3)] G (jj_pi (AP ac A s e mm gg rr (t_artist a) (r_account s a) (s) (e) (xC3 (t_artist a) (-1761000000) (-1761000000) (-1761000000)))) jj_nx := by
  obtain ⟨G1, G2, rfl, hd, ⟨ad, ha, hR⟩, hG⟩ := hP
  rw [← ha]
  refine jj_ofH (own := RL) (lv0 := [some (.ref (ad 0 0)), some (.int (jI 29)), some (.int (jI a)), some (.int (jI z0)), some (.int (jI z1)), some (.int (jI z2)), some (.int (jI z3)), none]) hl (by decide +kernel) rfl rfl (Nat.le_of_ble_eq_true rfl) rfl cwL_act ?_
  intro X B hN hl0 hdg hac
  subst hl0; subst hdg; subst hac
  have F := B.F
  refine ach_29 F (by omega) ?_
  refine jj_iload1 F dL_act_454 ?_
  refine jj_bipush F (by decide) dL_act_455 ?_
  refine jj_icmp_ne F (tgt := 468) dL_act_457 rfl (by omega) (fun hz => by exfalso; omega) (fun _ => ?_)
  refine jj_aload0 F dL_act_460 ?_
  refine jj_iload2 F dL_act_461 ?_
  refine jj_callFVi F hd (k := 2) (n := 12) (x8_account F.tr hR h.s ha1 ) lk_L_108 (hR.at (k := 0) (i := 0) cc_0) cs_8 rfl rfl ⟨Nat.le_of_ble_eq_true rfl, Nat.le_of_ble_eq_true rfl, Nat.le_of_ble_eq_true rfl, Nat.le_of_ble_eq_true rfl, Nat.le_of_ble_eq_true rfl⟩ ⟨Nat.le_of_ble_eq_true rfl, Nat.le_of_ble_eq_true rfl⟩ dL_act_462 (fun E hE => ?_) (fun r1 Gn hp hdn => ?_)
  · skip
    obtain ⟨ht, rfl⟩ := hE
    refine jj_catch F B.tab [] 0 501 502 120 [(0, 501, 507, 123), (0, 501, 512, 126)] rfl (fun _ h => absurd h List.not_mem_nil) (by decide) (by decide) cl_L_120 ca_B (fun q => ?_)
    refine jj_astore7 F dL_act_502 (hN _ (by decide)) rfl ?_
    refine jj_ldc F (v := -1761000000) cn_L_122 (by decide) dL_act_504 ?_
    exact jj_iretH B dL_act_506 ⟨Nat.le_of_ble_eq_true rfl, Nat.le_of_ble_eq_true rfl⟩ ⟨_, rfl, Or.inr ⟨by omega, by rw [ht]; rfl, G1, G2, rfl, hd, ⟨ad, ha, hR⟩, hG⟩⟩
  · skip
    obtain ⟨ht, rfl, ad', ha', hR'⟩ := hp
    refine jj_goto F (tgt := 501) dL_act_465 rfl ?_
    exact jj_iretH B dL_act_501 ⟨Nat.le_of_ble_eq_true rfl, Nat.le_of_ble_eq_true rfl⟩ ⟨_, rfl, Or.inl ⟨ht, rfl, Gn, G2, rfl, hdn, HG.u37 ⟨ad', ha'.trans ha, hR'⟩, hG⟩⟩
set_option maxRecDepth 100000 in
set_option maxHeartbeats 400000 in
theorem ka_accountAnew {l : Launch} {D : va_G} {ac : Nat → ClassId} (hl : l.stackTraces = false) {A : Nat → Nat} {s e : Sg} {mm gg rr : Int → Int} {G : jj_G} (hP : WP ac A s e mm gg rr G) {c : Int} (h : hInv s e c) {a z0 z1 z2 z3 : Int} (ha1 : jR a) : jj_C l D ac yL_act (.codeWith yL_act cL_act 8 (some .int) hh_act) rm_act [.ref (A 0), .int (jI 30), .int (jI a), .int (jI z0), .int (jI z1), .int (jI z2), .int (jI z3)] G (jj_pi (AP ac A s e mm gg rr (t_artist a) (r_account s a) (s) (e) (xC3 (t_artist a) (-1761000000) (-1761000000) (-1761000000)))) jj_nx := by
  obtain ⟨G1, G2, rfl, hd, ⟨ad, ha, hR⟩, hG⟩ := hP
  rw [← ha]
  refine jj_ofH (own := RL) (lv0 := [some (.ref (ad 0 0)), some (.int (jI 30)), some (.int (jI a)), some (.int (jI z0)), some (.int (jI z1)), some (.int (jI z2)), some (.int (jI z3)), none]) hl (by decide +kernel) rfl rfl (Nat.le_of_ble_eq_true rfl) rfl cwL_act ?_
  intro X B hN hl0 hdg hac
  subst hl0; subst hdg; subst hac
  have F := B.F
  refine ach_30 F (by omega) ?_
  refine jj_iload1 F dL_act_468 ?_
  refine jj_bipush F (by decide) dL_act_469 ?_
  refine jj_icmp_ne F (tgt := 482) dL_act_471 rfl (by omega) (fun hz => by exfalso; omega) (fun _ => ?_)
  refine jj_aload0 F dL_act_474 ?_
  refine jj_iload2 F dL_act_475 ?_
  refine jj_callFVi F hd (k := 2) (n := 12) (x8_accountAnew F.tr hR h.s ha1 h.A) lk_L_111 (hR.at (k := 0) (i := 0) cc_0) cs_8 rfl rfl ⟨Nat.le_of_ble_eq_true rfl, Nat.le_of_ble_eq_true rfl, Nat.le_of_ble_eq_true rfl, Nat.le_of_ble_eq_true rfl, Nat.le_of_ble_eq_true rfl⟩ ⟨Nat.le_of_ble_eq_true rfl, Nat.le_of_ble_eq_true rfl⟩ dL_act_476 (fun E hE => ?_) (fun r1 Gn hp hdn => ?_)
  · skip
    obtain ⟨ht, rfl⟩ := hE
    refine jj_catch F B.tab [] 0 501 502 120 [(0, 501, 507, 123), (0, 501, 512, 126)] rfl (fun _ h => absurd h List.not_mem_nil) (by decide) (by decide) cl_L_120 ca_B (fun q => ?_)
    refine jj_astore7 F dL_act_502 (hN _ (by decide)) rfl ?_
    refine jj_ldc F (v := -1761000000) cn_L_122 (by decide) dL_act_504 ?_
    exact jj_iretH B dL_act_506 ⟨Nat.le_of_ble_eq_true rfl, Nat.le_of_ble_eq_true rfl⟩ ⟨_, rfl, Or.inr ⟨by omega, by rw [ht]; rfl, G1, G2, rfl, hd, ⟨ad, ha, hR⟩, hG⟩⟩
  · skip
    obtain ⟨ht, rfl, ad', ha', hR'⟩ := hp
    refine jj_goto F (tgt := 501) dL_act_479 rfl ?_
    exact jj_iretH B dL_act_501 ⟨Nat.le_of_ble_eq_true rfl, Nat.le_of_ble_eq_true rfl⟩ ⟨_, rfl, Or.inl ⟨ht, rfl, Gn, G2, rfl, hdn, HG.u37 ⟨ad', ha'.trans ha, hR'⟩, hG⟩⟩
set_option maxRecDepth 100000 in
set_option maxHeartbeats 400000 in
theorem ka_payOut {l : Launch} {D : va_G} {ac : Nat → ClassId} (hl : l.stackTraces = false) {A : Nat → Nat} {s e : Sg} {mm gg rr : Int → Int} {G : jj_G} (hP : WP ac A s e mm gg rr G) {c : Int} (h : hInv s e c) {a z0 z1 z2 z3 : Int} (ha1 : jR a) (hj : ∀ i, jR (s 36 i)) : jj_C l D ac yL_act (.codeWith yL_act cL_act 8 (some .int) hh_act) rm_act [.ref (A 0), .int (jI 31), .int (jI a), .int (jI z0), .int (jI z1), .int (jI z2), .int (jI z3)] G (jj_pi (AP ac A s e mm gg rr (t_artist a) (r_payOut s a) (n_payOut s a) (sU e 1 a (e 1 a + (if 0 < s 36 a then s 36 a else 0))) (xC3 (t_artist a) (-1761000000) (-1761000000) (-1761000000)))) jj_nx := by
  obtain ⟨G1, G2, rfl, hd, ⟨ad, ha, hR⟩, hG⟩ := hP
  rw [← ha]
  refine jj_ofH (own := RL) (lv0 := [some (.ref (ad 0 0)), some (.int (jI 31)), some (.int (jI a)), some (.int (jI z0)), some (.int (jI z1)), some (.int (jI z2)), some (.int (jI z3)), none]) hl (by decide +kernel) rfl rfl (Nat.le_of_ble_eq_true rfl) rfl cwL_act ?_
  intro X B hN hl0 hdg hac
  subst hl0; subst hdg; subst hac
  have F := B.F
  refine ach_31 F (by omega) ?_
  refine jj_iload1 F dL_act_482 ?_
  refine jj_bipush F (by decide) dL_act_483 ?_
  refine jj_icmp_ne F (tgt := 496) dL_act_485 rfl (by omega) (fun hz => by exfalso; omega) (fun _ => ?_)
  refine jj_aload0 F dL_act_488 ?_
  refine jj_iload2 F dL_act_489 ?_
  refine jj_callFVi F hd (k := 2) (n := 12) (x8_payOut F.tr hR h.s ha1 hj) lk_L_114 (hR.at (k := 0) (i := 0) cc_0) cs_8 rfl rfl ⟨Nat.le_of_ble_eq_true rfl, Nat.le_of_ble_eq_true rfl, Nat.le_of_ble_eq_true rfl, Nat.le_of_ble_eq_true rfl, Nat.le_of_ble_eq_true rfl⟩ ⟨Nat.le_of_ble_eq_true rfl, Nat.le_of_ble_eq_true rfl⟩ dL_act_490 (fun E hE => ?_) (fun r1 Gn hp hdn => ?_)
  · skip
    obtain ⟨ht, rfl⟩ := hE
    refine jj_catch F B.tab [] 0 501 502 120 [(0, 501, 507, 123), (0, 501, 512, 126)] rfl (fun _ h => absurd h List.not_mem_nil) (by decide) (by decide) cl_L_120 ca_B (fun q => ?_)
    refine jj_astore7 F dL_act_502 (hN _ (by decide)) rfl ?_
    refine jj_ldc F (v := -1761000000) cn_L_122 (by decide) dL_act_504 ?_
    exact jj_iretH B dL_act_506 ⟨Nat.le_of_ble_eq_true rfl, Nat.le_of_ble_eq_true rfl⟩ ⟨_, rfl, Or.inr ⟨by omega, by rw [ht]; rfl, G1, G2, rfl, hd, ⟨ad, ha, hR⟩, hG⟩⟩
  · skip
    obtain ⟨ht, rfl, ad', ha', hR'⟩ := hp
    refine jj_goto F (tgt := 501) dL_act_493 rfl ?_
    exact jj_iretH B dL_act_501 ⟨Nat.le_of_ble_eq_true rfl, Nat.le_of_ble_eq_true rfl⟩ ⟨_, rfl, Or.inl ⟨ht, rfl, Gn, G2, rfl, hdn, ⟨ad', ha'.trans ha, hR'⟩, hG⟩⟩
set_option maxRecDepth 100000 in
set_option maxHeartbeats 400000 in
theorem ka_pass {l : Launch} {D : va_G} {ac : Nat → ClassId} (hl : l.stackTraces = false) {A : Nat → Nat} {s e : Sg} {mm gg rr : Int → Int} {G : jj_G} (hP : WP ac A s e mm gg rr G) {c : Int} (h : hInv s e c) {x z0 z1 z2 z3 : Int} (hx1 : jR x) : jj_C l D ac yL_act (.codeWith yL_act cL_act 8 (some .int) hh_act) rm_act [.ref (A 0), .int (jI 32), .int (jI x), .int (jI z0), .int (jI z1), .int (jI z2), .int (jI z3)] G (jj_pi (AP ac A s e mm gg rr (t_pass s x) (r_pass s x) (n_pass s x) (e) (xC3 (t_pass s x) (-1762000000) (-1763000000) (-1763000000)))) jj_nx := by
  obtain ⟨G1, G2, rfl, hd, ⟨ad, ha, hR⟩, hG⟩ := hP
  rw [← ha]
  refine jj_ofH (own := RL) (lv0 := [some (.ref (ad 0 0)), some (.int (jI 32)), some (.int (jI x)), some (.int (jI z0)), some (.int (jI z1)), some (.int (jI z2)), some (.int (jI z3)), none]) hl (by decide +kernel) rfl rfl (Nat.le_of_ble_eq_true rfl) rfl cwL_act ?_
  intro X B hN hl0 hdg hac
  subst hl0; subst hdg; subst hac
  have F := B.F
  refine ach_32 F (by omega) ?_
  refine jj_aload0 F dL_act_496 ?_
  refine jj_iload2 F dL_act_497 ?_
  refine jj_callFVi F hd (k := 1) (n := 6) (x8_pass F.tr hR h.s hx1 ) lk_L_117 (hR.at (k := 0) (i := 0) cc_0) cs_8 rfl rfl ⟨Nat.le_of_ble_eq_true rfl, Nat.le_of_ble_eq_true rfl, Nat.le_of_ble_eq_true rfl, Nat.le_of_ble_eq_true rfl, Nat.le_of_ble_eq_true rfl⟩ ⟨Nat.le_of_ble_eq_true rfl, Nat.le_of_ble_eq_true rfl⟩ dL_act_498 (fun E hE => ?_) (fun r1 Gn hp hdn => ?_)
  · skip
    rcases hE with ⟨ht, rfl⟩ | ⟨ht, rfl⟩
    · skip
      refine jj_catch F B.tab [(0, 501, 502, 120)] 0 501 507 123 [(0, 501, 512, 126)] rfl (List.forall_mem_cons.mpr ⟨⟨by decide, _, cl_L_120, nn_AB⟩, (fun _ h => absurd h List.not_mem_nil)⟩) (by decide) (by decide) cl_L_123 ca_A (fun q => ?_)
      refine jj_astore7 F dL_act_507 (hN _ (by decide)) rfl ?_
      refine jj_ldc F (v := -1762000000) cn_L_125 (by decide) dL_act_509 ?_
      exact jj_iretH B dL_act_511 ⟨Nat.le_of_ble_eq_true rfl, Nat.le_of_ble_eq_true rfl⟩ ⟨_, rfl, Or.inr ⟨by omega, by rw [ht]; rfl, G1, G2, rfl, hd, ⟨ad, ha, hR⟩, hG⟩⟩
    · skip
      refine jj_catch F B.tab [(0, 501, 502, 120), (0, 501, 507, 123)] 0 501 512 126 [] rfl (List.forall_mem_cons.mpr ⟨⟨by decide, _, cl_L_120, nn_SB⟩, (List.forall_mem_cons.mpr ⟨⟨by decide, _, cl_L_123, nn_SA⟩, (fun _ h => absurd h List.not_mem_nil)⟩)⟩) (by decide) (by decide) cl_L_126 ca_S (fun q => ?_)
      refine jj_astore7 F dL_act_512 (hN _ (by decide)) rfl ?_
      refine jj_ldc F (v := -1763000000) cn_L_128 (by decide) dL_act_514 ?_
      exact jj_iretH B dL_act_516 ⟨Nat.le_of_ble_eq_true rfl, Nat.le_of_ble_eq_true rfl⟩ ⟨_, rfl, Or.inr ⟨by omega, by rw [ht]; rfl, G1, G2, rfl, hd, ⟨ad, ha, hR⟩, hG⟩⟩
  · skip
    obtain ⟨ht, rfl, ad', ha', hR'⟩ := hp
    exact jj_iretH B dL_act_501 ⟨Nat.le_of_ble_eq_true rfl, Nat.le_of_ble_eq_true rfl⟩ ⟨_, rfl, Or.inl ⟨ht, rfl, Gn, G2, rfl, hdn, ⟨ad', ha'.trans ha, hR'⟩, hG⟩⟩
abbrev rm_no : Room := { frames := 10, cells := 12, slots := 130, locals := 200 }
set_option maxRecDepth 100000 in
set_option maxHeartbeats 400000 in
theorem kn_no {l : Launch} {D : va_G} {ac : Nat → ClassId} (hl : l.stackTraces = false) {A : Nat → Nat} {s e : Sg} {m g r : Int → Int} {G : jj_G} {w a b x y t rv code : Int} {n e2 : Sg} (hC : jj_C l D ac yL_act (.codeWith yL_act cL_act 8 (some .int) hh_act) rm_act [.ref (A 0), .int (jI w), .int (jI a), .int (jI b), .int (jI x), .int (jI y), .int (jI 0)] G (jj_pi (AP ac A s e m g r t rv n e2 code)) jj_nx) (ht : ¬ t = 0) (hc : code = (-1761000000)) : jj_C l D ac yL_no (.code yL_no cL_no 6 (some .boolean)) rm_no [.ref (A 0), .int (jI w), .int (jI a), .int (jI b), .int (jI x), .int (jI y)] G (jj_pi (fun v G' => v = 1 ∧ WP ac A s e m g r G')) jj_nx := by
  refine jj_ofx (own := RL) (lv0 := [some (.ref (A 0)), some (.int (jI w)), some (.int (jI a)), some (.int (jI b)), some (.int (jI x)), some (.int (jI y))]) hl (by decide +kernel) rfl rfl (Nat.le_of_ble_eq_true rfl) rfl ?_
  intro X B hN hl0 hdg hac hin
  subst hl0; subst hdg; subst hac
  have F := B.F
  refine jj_aload0 F dL_no_0 ?_
  refine jj_iload1 F dL_no_1 ?_
  refine jj_iload2 F dL_no_2 ?_
  refine jj_iload3 F dL_no_3 ?_
  refine jj_iload4 F dL_no_4 ?_
  refine jj_iload5 F dL_no_6 ?_
  refine jj_iconst F dL_no_8 ?_
  refine jj_callFSi F (k := 12) (n := 130) hC lkw_act rfl ⟨Nat.le_of_ble_eq_true rfl, Nat.le_of_ble_eq_true rfl, Nat.le_of_ble_eq_true rfl, Nat.le_of_ble_eq_true rfl, Nat.le_of_ble_eq_true rfl⟩ ⟨Nat.le_of_ble_eq_true rfl, Nat.le_of_ble_eq_true rfl⟩ dL_no_9 (fun r1 Gw hw => ?_)
  rcases hw with ⟨h0, -⟩ | ⟨-, rfl, hP⟩
  · exact absurd h0 ht
  subst hc
  refine jj_ldc F (v := -1761000000) cn_L_122 (by decide) dL_no_12 ?_
  refine jj_icmp_ne F (tgt := 21) dL_no_14 rfl (by decide) (fun hz => absurd rfl hz) (fun _ => ?_)
  refine jj_iconst F dL_no_17 ?_
  refine jj_goto F (tgt := 22) dL_no_18 rfl ?_
  exact jj_zret B dL_no_22 ⟨Nat.le_of_ble_eq_true rfl, Nat.le_of_ble_eq_true rfl⟩ (Or.inr rfl) ⟨1, rfl, rfl, hP⟩
abbrev rm_off : Room := { frames := 10, cells := 12, slots := 130, locals := 200 }
set_option maxRecDepth 100000 in
set_option maxHeartbeats 400000 in
theorem kn_off {l : Launch} {D : va_G} {ac : Nat → ClassId} (hl : l.stackTraces = false) {A : Nat → Nat} {s e : Sg} {m g r : Int → Int} {G : jj_G} {w a b x y t rv code : Int} {n e2 : Sg} (hC : jj_C l D ac yL_act (.codeWith yL_act cL_act 8 (some .int) hh_act) rm_act [.ref (A 0), .int (jI w), .int (jI a), .int (jI b), .int (jI x), .int (jI y), .int (jI 0)] G (jj_pi (AP ac A s e m g r t rv n e2 code)) jj_nx) (ht : ¬ t = 0) (hc : code = (-1762000000)) : jj_C l D ac yL_off (.code yL_off cL_off 6 (some .boolean)) rm_off [.ref (A 0), .int (jI w), .int (jI a), .int (jI b), .int (jI x), .int (jI y)] G (jj_pi (fun v G' => v = 1 ∧ WP ac A s e m g r G')) jj_nx := by
  refine jj_ofx (own := RL) (lv0 := [some (.ref (A 0)), some (.int (jI w)), some (.int (jI a)), some (.int (jI b)), some (.int (jI x)), some (.int (jI y))]) hl (by decide +kernel) rfl rfl (Nat.le_of_ble_eq_true rfl) rfl ?_
  intro X B hN hl0 hdg hac hin
  subst hl0; subst hdg; subst hac
  have F := B.F
  refine jj_aload0 F dL_off_0 ?_
  refine jj_iload1 F dL_off_1 ?_
  refine jj_iload2 F dL_off_2 ?_
  refine jj_iload3 F dL_off_3 ?_
  refine jj_iload4 F dL_off_4 ?_
  refine jj_iload5 F dL_off_6 ?_
  refine jj_iconst F dL_off_8 ?_
  refine jj_callFSi F (k := 12) (n := 130) hC lkw_act rfl ⟨Nat.le_of_ble_eq_true rfl, Nat.le_of_ble_eq_true rfl, Nat.le_of_ble_eq_true rfl, Nat.le_of_ble_eq_true rfl, Nat.le_of_ble_eq_true rfl⟩ ⟨Nat.le_of_ble_eq_true rfl, Nat.le_of_ble_eq_true rfl⟩ dL_off_9 (fun r1 Gw hw => ?_)
  rcases hw with ⟨h0, -⟩ | ⟨-, rfl, hP⟩
  · exact absurd h0 ht
  subst hc
  refine jj_ldc F (v := -1762000000) cn_L_125 (by decide) dL_off_12 ?_
  refine jj_icmp_ne F (tgt := 21) dL_off_14 rfl (by decide) (fun hz => absurd rfl hz) (fun _ => ?_)
  refine jj_iconst F dL_off_17 ?_
  refine jj_goto F (tgt := 22) dL_off_18 rfl ?_
  exact jj_zret B dL_off_22 ⟨Nat.le_of_ble_eq_true rfl, Nat.le_of_ble_eq_true rfl⟩ (Or.inr rfl) ⟨1, rfl, rfl, hP⟩
