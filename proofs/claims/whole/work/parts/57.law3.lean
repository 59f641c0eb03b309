/-! ===== the law's own static methods: a call of the class, its exception told as a number ===== -/
section JL3
variable {X : jj_X} {own : String} {cc : ByteArray} {rm : Room} {Ga Gb G : jj_G} {kc kn pc nx : Nat} {lv lr : List (Option Value)} {st rest : List Value}
theorem jj_callFVi (F : jj_F X own cc rm) (hdj : jDj Ga Gb) {index b ci N maxL k n : Nat} {y : MethodName} {bytes : ByteArray} {rt : Option FieldType} {rmy : Room} {As : List Value} {fs : List Value} {C : String} {T : u_T} {ty : Nat → FieldType} {P : Int → jj_G → Prop} {px' : String → Prop} (hC : jj_C (jj_l0 X) (jj_dg X) (jj_ac X) y (.code y bytes maxL rt) rmy (.ref b :: As) Ga (jj_pi P) px') (hk : jj_lkV own index y bytes maxL rt As.length) (hb : Ga b = some (jj_o ci fs)) (hc : jj_cls ci C T N ty) (hyc : y.cls = C) (hst : st = As.reverse ++ .ref b :: rest) (hr : rmy.frames + 1 ≤ rm.frames ∧ 8 + (maxL + 11) + rmy.locals ≤ rm.locals ∧ kc + rmy.cells ≤ rm.cells ∧ kn + rmy.slots ≤ rm.slots ∧ (rest.map fun v => v.category).sum ≤ 8) (hkn : kc + rmy.cells ≤ k ∧ kn + rmy.slots ≤ n) (d : jj_D cc pc (.invokevirtual index) 3 nx) (kx : ∀ E, px' E → jj_JX X (jj_j Ga Gb) k n pc lv rest E) (kk : ∀ (r : Int) (G1 : jj_G), P r G1 → jDj G1 Gb → jj_J X (jj_j G1 Gb) k n nx lv (.int (jI r) :: rest)) : jj_J X (jj_j Ga Gb) kc kn pc lv st := by
  refine jj_runF F hdj (jj_runV F hC hk hb hc hyc hst hr d) hkn d.1 kx ?_
  rintro v G1 ⟨r, rfl, hP⟩ h
  exact kk r G1 hP h
theorem jj_callFVv (F : jj_F X own cc rm) (hdj : jDj Ga Gb) {index b ci N maxL k n : Nat} {y : MethodName} {bytes : ByteArray} {rt : Option FieldType} {rmy : Room} {As : List Value} {fs : List Value} {C : String} {T : u_T} {ty : Nat → FieldType} {P : jj_G → Prop} {px' : String → Prop} (hC : jj_C (jj_l0 X) (jj_dg X) (jj_ac X) y (.code y bytes maxL rt) rmy (.ref b :: As) Ga (jj_pv P) px') (hk : jj_lkV own index y bytes maxL rt As.length) (hb : Ga b = some (jj_o ci fs)) (hc : jj_cls ci C T N ty) (hyc : y.cls = C) (hst : st = As.reverse ++ .ref b :: rest) (hr : rmy.frames + 1 ≤ rm.frames ∧ 8 + (maxL + 11) + rmy.locals ≤ rm.locals ∧ kc + rmy.cells ≤ rm.cells ∧ kn + rmy.slots ≤ rm.slots ∧ (rest.map fun v => v.category).sum ≤ 8) (hkn : kc + rmy.cells ≤ k ∧ kn + rmy.slots ≤ n) (d : jj_D cc pc (.invokevirtual index) 3 nx) (kx : ∀ E, px' E → jj_JX X (jj_j Ga Gb) k n pc lv rest E) (kk : ∀ (G1 : jj_G), P G1 → jDj G1 Gb → jj_J X (jj_j G1 Gb) k n nx lv rest) : jj_J X (jj_j Ga Gb) kc kn pc lv st := by
  refine jj_runF F hdj (jj_runV F hC hk hb hc hyc hst hr d) hkn d.1 kx ?_
  rintro v G1 ⟨rfl, hP⟩ h
  exact kk G1 hP h
theorem jj_callFSi (F : jj_F X own cc rm) {index maxL k n : Nat} {y : MethodName} {bytes : ByteArray} {rt : Option FieldType} {hh : List (Nat × Nat × Nat × Nat)} {rmy : Room} {As : List Value} {P : Int → jj_G → Prop} (hC : jj_C (jj_l0 X) (jj_dg X) (jj_ac X) y (.codeWith y bytes maxL rt hh) rmy As G (jj_pi P) jj_nx) (hk : jj_lkW own index y bytes maxL rt hh As.length) (hst : st = As.reverse ++ rest) (hr : rmy.frames + 1 ≤ rm.frames ∧ 8 + (maxL + 11) + rmy.locals ≤ rm.locals ∧ kc + rmy.cells ≤ rm.cells ∧ kn + rmy.slots ≤ rm.slots ∧ (rest.map fun v => v.category).sum ≤ 8) (hkn : kc + rmy.cells ≤ k ∧ kn + rmy.slots ≤ n) (d : jj_D cc pc (.invokestatic index) 3 nx) (kk : ∀ (r : Int) (G1 : jj_G), P r G1 → jj_J X G1 k n nx lv (.int (jI r) :: rest)) : jj_J X G kc kn pc lv st := by
  refine jj_run F (jj_runSX F hC hk hst hr d) hkn d.1 (fun E hE => hE.elim) ?_
  rintro v G1 ⟨r, rfl, hP⟩
  exact kk r G1 hP
end JL3
theorem jj_u_id {G : jj_G} {a : Nat} {x : va_E} (h : G a = some x) : jj_u G a x = G := by
  funext q
  by_cases e : q = a
  · subst e; rw [jj_us, h]
  · rw [jj_un e]
theorem jj_ur {A B : jj_G} {a : Nat} {x : va_E} (h : A a = none) : jj_u (jj_j A B) a x = jj_j A (jj_u B a x) := by
  funext q
  by_cases e : q = a
  · subst e; rw [jj_us, jj_jr h, jj_us]
  · rw [jj_un e]
    cases hq : A q with
    | none => rw [jj_jr hq, jj_jr hq, jj_un e]
    | some y => rw [jj_jl (jj_sn hq), jj_jl (jj_sn hq)]
theorem ca_B : Cond.castable eB eB ∈ jj_T := jj_tw_mem 191 (by decide +kernel) rfl
theorem ca_A : Cond.castable eA eA ∈ jj_T := jj_tw_mem 263 (by decide +kernel) rfl
theorem ca_S : Cond.castable eS eS ∈ jj_T := jj_tw_mem 283 (by decide +kernel) rfl
theorem nn_AB : (eA, eB) ∈ jj_N := List.mem_of_getElem? (i := 0) rfl
theorem nn_SB : (eS, eB) ∈ jj_N := List.mem_of_getElem? (i := 1) rfl
theorem nn_SA : (eS, eA) ∈ jj_N := List.mem_of_getElem? (i := 2) rfl
/-- behind a call of the class: the exception's number, the class's world, and what was written into the row o -/
def wPost (ac : Nat → ClassId) (G2 : jj_G) (o a0 : Nat) (t r : Int) (N e : Sg) : Int → jj_G → Prop := fun k G' => k = t ∧ ∃ (G1 : jj_G) (ad : Ad) (g : Int → Int), jDj G1 G2 ∧ G' = jj_j G1 (jj_u G2 o (jj_al (ac 1) 1 g)) ∧ ad 0 0 = a0 ∧ Rep ad (cC ac ad N e) G1 ∧ (t = 0 → g 0 = r)
abbrev hh_session : List (Nat × Nat × Nat × Nat) := [(0, 12, 15, 13), (0, 12, 19, 15), (0, 12, 23, 17)]
theorem cwL_session : Cond.codeWith yL_session cL_session 6 (some .int) hh_session ∈ jj_GW := jj_gw 178 (by decide +kernel) rfl
theorem lkw_session : jj_lkW RL 126 yL_session cL_session 6 (some .int) hh_session 5 := ⟨jj_nm_of (by decide +kernel), jj_gw 176 (by decide +kernel) rfl, jj_gw 177 (by decide +kernel) rfl, jj_gw 33 (by decide +kernel) rfl, cwL_session⟩
abbrev rm_L_session : Room := { frames := 8, cells := 10, slots := 110, locals := 134 }
set_option maxRecDepth 100000 in
set_option maxHeartbeats 400000 in
theorem w_session {l : Launch} {D : va_G} {ac : Nat → ClassId} (hl : l.stackTraces = false) {ad : Ad} {s e : Sg} {x y z : Int} {G1 G2 : jj_G} (hR : Rep ad (cC ac ad s e) G1) (hd : jDj G1 G2) {o : Nat} {g : Int → Int} (ho : G2 o = some (jj_al (ac 1) 1 g)) {c : Int} (h : hInv s e c) (hx1 : jR x) (hy1 : jR y) (hz1 : jR z) (hj : ∀ k i, jR (s k i)) : jj_C l D ac yL_session (.codeWith yL_session cL_session 6 (some .int) hh_session) rm_L_session [.ref (ad 0 0), .int (jI x), .int (jI y), .int (jI z), .ref o] (jj_j G1 G2) (jj_pi (wPost ac G2 o (ad 0 0) (t_session s x y z) (jW (r_session s x y z)) (n_session s x y z) (if t_session s x y z = 0 then eT e (s 1 0) (-1) 0 0 (-1) else e))) jj_nx := by
  refine jj_ofH (own := RL) (lv0 := [some (.ref (ad 0 0)), some (.int (jI x)), some (.int (jI y)), some (.int (jI z)), some (.ref o), none]) hl (by decide +kernel) rfl rfl (Nat.le_of_ble_eq_true rfl) rfl cwL_session ?_
  intro X B hN hl0 hdg hac
  subst hl0; subst hdg; subst hac
  have F := B.F
  refine jj_aload4 F dL_session_0 ?_
  refine jj_iconst F dL_session_2 ?_
  refine jj_aload0 F dL_session_3 ?_
  refine jj_iload1 F dL_session_4 ?_
  refine jj_iload2 F dL_session_5 ?_
  refine jj_iload3 F dL_session_6 ?_
  refine jj_callFVi F hd (k := 10) (n := 110) (x8_session F.tr hR h.s hx1 hy1 hz1 h.E h.Z) lk_L_7 (hR.at (k := 0) (i := 0) cc_0) cs_8 rfl rfl ⟨Nat.le_of_ble_eq_true rfl, Nat.le_of_ble_eq_true rfl, Nat.le_of_ble_eq_true rfl, Nat.le_of_ble_eq_true rfl, Nat.le_of_ble_eq_true rfl⟩ ⟨Nat.le_of_ble_eq_true rfl, Nat.le_of_ble_eq_true rfl⟩ dL_session_7 (fun E hE => ?_) (fun r Gn hp hdn => ?_)
  · skip
    rcases hE with ⟨ht, rfl⟩ | ⟨ht, rfl⟩ | ⟨ht, rfl⟩
    · skip
      refine jj_catch F B.tab [] 0 12 15 13 [(0, 12, 19, 15), (0, 12, 23, 17)] rfl (fun _ h => absurd h List.not_mem_nil) (by decide) (by decide) cl_L_13 ca_B (fun q => ?_)
      refine jj_astore5 F dL_session_15 (hN _ (by decide)) rfl ?_
      refine jj_iconst F dL_session_17 ?_
      exact jj_iretH B dL_session_18 ⟨Nat.le_of_ble_eq_true rfl, Nat.le_of_ble_eq_true rfl⟩ ⟨_, rfl, ht.symm, G1, ad, g, hd, by rw [jj_u_id ho], rfl, (by rw [no_session (by omega), if_neg (by omega)]; exact hR.c37), fun hz => absurd hz (by omega)⟩
    · skip
      refine jj_catch F B.tab [(0, 12, 15, 13)] 0 12 19 15 [(0, 12, 23, 17)] rfl (List.forall_mem_cons.mpr ⟨⟨by decide, _, cl_L_13, nn_AB⟩, (fun _ h => absurd h List.not_mem_nil)⟩) (by decide) (by decide) cl_L_15 ca_A (fun q => ?_)
      refine jj_astore5 F dL_session_19 (hN _ (by decide)) rfl ?_
      refine jj_iconst F dL_session_21 ?_
      exact jj_iretH B dL_session_22 ⟨Nat.le_of_ble_eq_true rfl, Nat.le_of_ble_eq_true rfl⟩ ⟨_, rfl, ht.symm, G1, ad, g, hd, by rw [jj_u_id ho], rfl, (by rw [no_session (by omega), if_neg (by omega)]; exact hR.c37), fun hz => absurd hz (by omega)⟩
    · skip
      refine jj_catch F B.tab [(0, 12, 15, 13), (0, 12, 19, 15)] 0 12 23 17 [] rfl (List.forall_mem_cons.mpr ⟨⟨by decide, _, cl_L_13, nn_SB⟩, (List.forall_mem_cons.mpr ⟨⟨by decide, _, cl_L_15, nn_SA⟩, (fun _ h => absurd h List.not_mem_nil)⟩)⟩) (by decide) (by decide) cl_L_17 ca_S (fun q => ?_)
      refine jj_astore5 F dL_session_23 (hN _ (by decide)) rfl ?_
      refine jj_iconst F dL_session_25 ?_
      exact jj_iretH B dL_session_26 ⟨Nat.le_of_ble_eq_true rfl, Nat.le_of_ble_eq_true rfl⟩ ⟨_, rfl, ht.symm, G1, ad, g, hd, by rw [jj_u_id ho], rfl, (by rw [no_session (by omega), if_neg (by omega)]; exact hR.c37), fun hz => absurd hz (by omega)⟩
  · skip
    obtain ⟨ht, rfl, ad', ha, hR'⟩ := hp
    have hno : Gn o = none := hdn.symm o (jj_sn ho)
    refine jj_jw ?_
    refine jj_i2l F (jI_rng _) dL_session_10 ?_
    refine jj_last F (n := 1) (g := g) ((jj_jr hno).trans ho) (by decide) (by decide) dL_session_11 ?_
    refine jj_goto F (tgt := 27) dL_session_12 rfl ?_
    refine jj_iconst F dL_session_27 ?_
    exact jj_iretH B dL_session_28 ⟨Nat.le_of_ble_eq_true rfl, Nat.le_of_ble_eq_true rfl⟩ ⟨_, rfl, ht.symm, Gn, ad', _, hdn, jj_ur hno, ha, (by rw [if_pos ht]; exact hR'), fun _ => ju_s⟩
abbrev hh_splice : List (Nat × Nat × Nat × Nat) := [(0, 16, 19, 13), (0, 16, 23, 15), (0, 16, 27, 17)]
theorem cwL_splice : Cond.codeWith yL_splice cL_splice 8 (some .int) hh_splice ∈ jj_GW := jj_gw 370 (by decide +kernel) rfl
theorem lkw_splice : jj_lkW RL 135 yL_splice cL_splice 8 (some .int) hh_splice 7 := ⟨jj_nm_of (by decide +kernel), jj_gw 368 (by decide +kernel) rfl, jj_gw 369 (by decide +kernel) rfl, jj_gw 33 (by decide +kernel) rfl, cwL_splice⟩
abbrev rm_L_splice : Room := { frames := 8, cells := 12, slots := 130, locals := 141 }
set_option maxRecDepth 100000 in
set_option maxHeartbeats 400000 in
theorem w_splice {l : Launch} {D : va_G} {ac : Nat → ClassId} (hl : l.stackTraces = false) {ad : Ad} {s e : Sg} {t f u v w : Int} {G1 G2 : jj_G} (hR : Rep ad (cC ac ad s e) G1) (hd : jDj G1 G2) {o : Nat} {g : Int → Int} (ho : G2 o = some (jj_al (ac 1) 1 g)) {c : Int} (h : hInv s e c) (ht1 : jR t) (hf1 : jR f) (hu1 : jR u) (hv1 : jR v) (hw1 : jR w) (hj : ∀ k i, jR (s k i)) : jj_C l D ac yL_splice (.codeWith yL_splice cL_splice 8 (some .int) hh_splice) rm_L_splice [.ref (ad 0 0), .int (jI t), .int (jI f), .int (jI u), .int (jI v), .int (jI w), .ref o] (jj_j G1 G2) (jj_pi (wPost ac G2 o (ad 0 0) (t_splice s t f u v w) (jW (r_splice s t f u v w)) (n_splice s t f u v w) (if t_splice s t f u v w = 0 then eT e (s 1 0) t f u v else e))) jj_nx := by
  refine jj_ofH (own := RL) (lv0 := [some (.ref (ad 0 0)), some (.int (jI t)), some (.int (jI f)), some (.int (jI u)), some (.int (jI v)), some (.int (jI w)), some (.ref o), none]) hl (by decide +kernel) rfl rfl (Nat.le_of_ble_eq_true rfl) rfl cwL_splice ?_
  intro X B hN hl0 hdg hac
  subst hl0; subst hdg; subst hac
  have F := B.F
  refine jj_aload6 F dL_splice_0 ?_
  refine jj_iconst F dL_splice_2 ?_
  refine jj_aload0 F dL_splice_3 ?_
  refine jj_iload1 F dL_splice_4 ?_
  refine jj_iload2 F dL_splice_5 ?_
  refine jj_iload3 F dL_splice_6 ?_
  refine jj_iload4 F dL_splice_7 ?_
  refine jj_iload5 F dL_splice_9 ?_
  refine jj_callFVi F hd (k := 12) (n := 130) (x8_splice F.tr hR h.s ht1 hf1 hu1 hv1 hw1 h.E h.Z) lk_L_19 (hR.at (k := 0) (i := 0) cc_0) cs_8 rfl rfl ⟨Nat.le_of_ble_eq_true rfl, Nat.le_of_ble_eq_true rfl, Nat.le_of_ble_eq_true rfl, Nat.le_of_ble_eq_true rfl, Nat.le_of_ble_eq_true rfl⟩ ⟨Nat.le_of_ble_eq_true rfl, Nat.le_of_ble_eq_true rfl⟩ dL_splice_11 (fun E hE => ?_) (fun r Gn hp hdn => ?_)
  · skip
    rcases hE with ⟨ht, rfl⟩ | ⟨ht, rfl⟩ | ⟨ht, rfl⟩
    · skip
      refine jj_catch F B.tab [] 0 16 19 13 [(0, 16, 23, 15), (0, 16, 27, 17)] rfl (fun _ h => absurd h List.not_mem_nil) (by decide) (by decide) cl_L_13 ca_B (fun q => ?_)
      refine jj_astore7 F dL_splice_19 (hN _ (by decide)) rfl ?_
      refine jj_iconst F dL_splice_21 ?_
      exact jj_iretH B dL_splice_22 ⟨Nat.le_of_ble_eq_true rfl, Nat.le_of_ble_eq_true rfl⟩ ⟨_, rfl, ht.symm, G1, ad, g, hd, by rw [jj_u_id ho], rfl, (by rw [no_splice (by omega), if_neg (by omega)]; exact hR.c37), fun hz => absurd hz (by omega)⟩
    · skip
      refine jj_catch F B.tab [(0, 16, 19, 13)] 0 16 23 15 [(0, 16, 27, 17)] rfl (List.forall_mem_cons.mpr ⟨⟨by decide, _, cl_L_13, nn_AB⟩, (fun _ h => absurd h List.not_mem_nil)⟩) (by decide) (by decide) cl_L_15 ca_A (fun q => ?_)
      refine jj_astore7 F dL_splice_23 (hN _ (by decide)) rfl ?_
      refine jj_iconst F dL_splice_25 ?_
      exact jj_iretH B dL_splice_26 ⟨Nat.le_of_ble_eq_true rfl, Nat.le_of_ble_eq_true rfl⟩ ⟨_, rfl, ht.symm, G1, ad, g, hd, by rw [jj_u_id ho], rfl, (by rw [no_splice (by omega), if_neg (by omega)]; exact hR.c37), fun hz => absurd hz (by omega)⟩
    · skip
      refine jj_catch F B.tab [(0, 16, 19, 13), (0, 16, 23, 15)] 0 16 27 17 [] rfl (List.forall_mem_cons.mpr ⟨⟨by decide, _, cl_L_13, nn_SB⟩, (List.forall_mem_cons.mpr ⟨⟨by decide, _, cl_L_15, nn_SA⟩, (fun _ h => absurd h List.not_mem_nil)⟩)⟩) (by decide) (by decide) cl_L_17 ca_S (fun q => ?_)
      refine jj_astore7 F dL_splice_27 (hN _ (by decide)) rfl ?_
      refine jj_iconst F dL_splice_29 ?_
      exact jj_iretH B dL_splice_30 ⟨Nat.le_of_ble_eq_true rfl, Nat.le_of_ble_eq_true rfl⟩ ⟨_, rfl, ht.symm, G1, ad, g, hd, by rw [jj_u_id ho], rfl, (by rw [no_splice (by omega), if_neg (by omega)]; exact hR.c37), fun hz => absurd hz (by omega)⟩
  · skip
    obtain ⟨ht, rfl, ad', ha, hR'⟩ := hp
    have hno : Gn o = none := hdn.symm o (jj_sn ho)
    refine jj_jw ?_
    refine jj_i2l F (jI_rng _) dL_splice_14 ?_
    refine jj_last F (n := 1) (g := g) ((jj_jr hno).trans ho) (by decide) (by decide) dL_splice_15 ?_
    refine jj_goto F (tgt := 31) dL_splice_16 rfl ?_
    refine jj_iconst F dL_splice_31 ?_
    exact jj_iretH B dL_splice_32 ⟨Nat.le_of_ble_eq_true rfl, Nat.le_of_ble_eq_true rfl⟩ ⟨_, rfl, ht.symm, Gn, ad', _, hdn, jj_ur hno, ha, (by rw [if_pos ht]; exact hR'), fun _ => ju_s⟩
abbrev hh_shed : List (Nat × Nat × Nat × Nat) := [(0, 5, 8, 13), (0, 5, 11, 17)]
theorem cwL_shed : Cond.codeWith yL_shed cL_shed 3 (some .int) hh_shed ∈ jj_GW := jj_gw 422 (by decide +kernel) rfl
theorem lkw_shed : jj_lkW RL 139 yL_shed cL_shed 3 (some .int) hh_shed 2 := ⟨jj_nm_of (by decide +kernel), jj_gw 420 (by decide +kernel) rfl, jj_gw 421 (by decide +kernel) rfl, jj_gw 33 (by decide +kernel) rfl, cwL_shed⟩
abbrev rm_L_shed : Room := { frames := 8, cells := 2, slots := 12, locals := 134 }
set_option maxRecDepth 100000 in
set_option maxHeartbeats 400000 in
theorem w_shed {l : Launch} {D : va_G} {ac : Nat → ClassId} (hl : l.stackTraces = false) {ad : Ad} {s e : Sg} {t : Int} {G1 G2 : jj_G} (hR : Rep ad (cC ac ad s e) G1) (hd : jDj G1 G2) {o : Nat} {g : Int → Int} (ho : G2 o = some (jj_al (ac 1) 1 g)) {c : Int} (h : hInv s e c) (ht1 : jR t) (hj : ∀ k i, jR (s k i)) : jj_C l D ac yL_shed (.codeWith yL_shed cL_shed 3 (some .int) hh_shed) rm_L_shed [.ref (ad 0 0), .int (jI t)] (jj_j G1 G2) (jj_pi (wPost ac G2 o (ad 0 0) (t_tape s t 0) (g 0) (n_shed s t) e)) jj_nx := by
  refine jj_ofH (own := RL) (lv0 := [some (.ref (ad 0 0)), some (.int (jI t)), none]) hl (by decide +kernel) rfl rfl (Nat.le_of_ble_eq_true rfl) rfl cwL_shed ?_
  intro X B hN hl0 hdg hac
  subst hl0; subst hdg; subst hac
  have F := B.F
  refine jj_aload0 F dL_shed_0 ?_
  refine jj_iload1 F dL_shed_1 ?_
  refine jj_callFVv F hd (k := 2) (n := 12) (x8_shed F.tr hR h.s ht1 ) lk_L_23 (hR.at (k := 0) (i := 0) cc_0) cs_8 rfl rfl ⟨Nat.le_of_ble_eq_true rfl, Nat.le_of_ble_eq_true rfl, Nat.le_of_ble_eq_true rfl, Nat.le_of_ble_eq_true rfl, Nat.le_of_ble_eq_true rfl⟩ ⟨Nat.le_of_ble_eq_true rfl, Nat.le_of_ble_eq_true rfl⟩ dL_shed_2 (fun E hE => ?_) (fun Gn hp hdn => ?_)
  · skip
    rcases hE with ⟨ht, rfl⟩ | ⟨ht, rfl⟩
    · skip
      refine jj_catch F B.tab [] 0 5 8 13 [(0, 5, 11, 17)] rfl (fun _ h => absurd h List.not_mem_nil) (by decide) (by decide) cl_L_13 ca_B (fun q => ?_)
      refine jj_astore2 F dL_shed_8 (hN _ (by decide)) rfl ?_
      refine jj_iconst F dL_shed_9 ?_
      exact jj_iretH B dL_shed_10 ⟨Nat.le_of_ble_eq_true rfl, Nat.le_of_ble_eq_true rfl⟩ ⟨_, rfl, ht.symm, G1, ad, g, hd, by rw [jj_u_id ho], rfl, (by rw [no_shed (by omega)]; exact hR.c37), fun hz => absurd hz (by omega)⟩
    · skip
      refine jj_catch F B.tab [(0, 5, 8, 13)] 0 5 11 17 [] rfl (List.forall_mem_cons.mpr ⟨⟨by decide, _, cl_L_13, nn_SB⟩, (fun _ h => absurd h List.not_mem_nil)⟩) (by decide) (by decide) cl_L_17 ca_S (fun q => ?_)
      refine jj_astore2 F dL_shed_11 (hN _ (by decide)) rfl ?_
      refine jj_iconst F dL_shed_12 ?_
      exact jj_iretH B dL_shed_13 ⟨Nat.le_of_ble_eq_true rfl, Nat.le_of_ble_eq_true rfl⟩ ⟨_, rfl, ht.symm, G1, ad, g, hd, by rw [jj_u_id ho], rfl, (by rw [no_shed (by omega)]; exact hR.c37), fun hz => absurd hz (by omega)⟩
  · skip
    obtain ⟨ht, ad', ha, hR'⟩ := hp
    refine jj_goto F (tgt := 14) dL_shed_5 rfl ?_
    refine jj_iconst F dL_shed_14 ?_
    exact jj_iretH B dL_shed_15 ⟨Nat.le_of_ble_eq_true rfl, Nat.le_of_ble_eq_true rfl⟩ ⟨_, rfl, ht.symm, Gn, ad', g, hdn, by rw [jj_u_id ho], ha, hR', fun _ => rfl⟩
abbrev hh_bake : List (Nat × Nat × Nat × Nat) := [(0, 9, 12, 13), (0, 9, 15, 17)]
theorem cwL_bake : Cond.codeWith yL_bake cL_bake 4 (some .int) hh_bake ∈ jj_GW := jj_gw 430 (by decide +kernel) rfl
theorem lkw_bake : jj_lkW RL 143 yL_bake cL_bake 4 (some .int) hh_bake 3 := ⟨jj_nm_of (by decide +kernel), jj_gw 428 (by decide +kernel) rfl, jj_gw 429 (by decide +kernel) rfl, jj_gw 33 (by decide +kernel) rfl, cwL_bake⟩
abbrev rm_L_bake : Room := { frames := 8, cells := 2, slots := 12, locals := 134 }
set_option maxRecDepth 100000 in
set_option maxHeartbeats 400000 in
theorem w_bake {l : Launch} {D : va_G} {ac : Nat → ClassId} (hl : l.stackTraces = false) {ad : Ad} {s e : Sg} {t : Int} {G1 G2 : jj_G} (hR : Rep ad (cC ac ad s e) G1) (hd : jDj G1 G2) {o : Nat} {g : Int → Int} (ho : G2 o = some (jj_al (ac 1) 1 g)) {c : Int} (h : hInv s e c) (ht1 : jR t) (hj : ∀ k i, jR (s k i)) : jj_C l D ac yL_bake (.codeWith yL_bake cL_bake 4 (some .int) hh_bake) rm_L_bake [.ref (ad 0 0), .int (jI t), .ref o] (jj_j G1 G2) (jj_pi (wPost ac G2 o (ad 0 0) (t_tape s t 1) (jW (r_bake s t)) (n_bake s t) e)) jj_nx := by
  refine jj_ofH (own := RL) (lv0 := [some (.ref (ad 0 0)), some (.int (jI t)), some (.ref o), none]) hl (by decide +kernel) rfl rfl (Nat.le_of_ble_eq_true rfl) rfl cwL_bake ?_
  intro X B hN hl0 hdg hac
  subst hl0; subst hdg; subst hac
  have F := B.F
  refine jj_aload2 F dL_bake_0 ?_
  refine jj_iconst F dL_bake_1 ?_
  refine jj_aload0 F dL_bake_2 ?_
  refine jj_iload1 F dL_bake_3 ?_
  refine jj_callFVi F hd (k := 2) (n := 12) (x8_bake F.tr hR h.s ht1 ) lk_L_27 (hR.at (k := 0) (i := 0) cc_0) cs_8 rfl rfl ⟨Nat.le_of_ble_eq_true rfl, Nat.le_of_ble_eq_true rfl, Nat.le_of_ble_eq_true rfl, Nat.le_of_ble_eq_true rfl, Nat.le_of_ble_eq_true rfl⟩ ⟨Nat.le_of_ble_eq_true rfl, Nat.le_of_ble_eq_true rfl⟩ dL_bake_4 (fun E hE => ?_) (fun r Gn hp hdn => ?_)
  · skip
    rcases hE with ⟨ht, rfl⟩ | ⟨ht, rfl⟩
    · skip
      refine jj_catch F B.tab [] 0 9 12 13 [(0, 9, 15, 17)] rfl (fun _ h => absurd h List.not_mem_nil) (by decide) (by decide) cl_L_13 ca_B (fun q => ?_)
      refine jj_astore3 F dL_bake_12 (hN _ (by decide)) rfl ?_
      refine jj_iconst F dL_bake_13 ?_
      exact jj_iretH B dL_bake_14 ⟨Nat.le_of_ble_eq_true rfl, Nat.le_of_ble_eq_true rfl⟩ ⟨_, rfl, ht.symm, G1, ad, g, hd, by rw [jj_u_id ho], rfl, (by rw [no_bake (by omega)]; exact hR.c37), fun hz => absurd hz (by omega)⟩
    · skip
      refine jj_catch F B.tab [(0, 9, 12, 13)] 0 9 15 17 [] rfl (List.forall_mem_cons.mpr ⟨⟨by decide, _, cl_L_13, nn_SB⟩, (fun _ h => absurd h List.not_mem_nil)⟩) (by decide) (by decide) cl_L_17 ca_S (fun q => ?_)
      refine jj_astore3 F dL_bake_15 (hN _ (by decide)) rfl ?_
      refine jj_iconst F dL_bake_16 ?_
      exact jj_iretH B dL_bake_17 ⟨Nat.le_of_ble_eq_true rfl, Nat.le_of_ble_eq_true rfl⟩ ⟨_, rfl, ht.symm, G1, ad, g, hd, by rw [jj_u_id ho], rfl, (by rw [no_bake (by omega)]; exact hR.c37), fun hz => absurd hz (by omega)⟩
  · skip
    obtain ⟨ht, rfl, ad', ha, hR'⟩ := hp
    have hno : Gn o = none := hdn.symm o (jj_sn ho)
    refine jj_jw ?_
    refine jj_i2l F (jI_rng _) dL_bake_7 ?_
    refine jj_last F (n := 1) (g := g) ((jj_jr hno).trans ho) (by decide) (by decide) dL_bake_8 ?_
    refine jj_goto F (tgt := 18) dL_bake_9 rfl ?_
    refine jj_iconst F dL_bake_18 ?_
    exact jj_iretH B dL_bake_19 ⟨Nat.le_of_ble_eq_true rfl, Nat.le_of_ble_eq_true rfl⟩ ⟨_, rfl, ht.symm, Gn, ad', _, hdn, jj_ur hno, ha, hR', fun _ => ju_s⟩
abbrev hh_fire : List (Nat × Nat × Nat × Nat) := [(0, 9, 12, 13)]
theorem cwL_fire : Cond.codeWith yL_fire cL_fire 4 (some .int) hh_fire ∈ jj_GW := jj_gw 438 (by decide +kernel) rfl
theorem lkw_fire : jj_lkW RL 147 yL_fire cL_fire 4 (some .int) hh_fire 3 := ⟨jj_nm_of (by decide +kernel), jj_gw 436 (by decide +kernel) rfl, jj_gw 437 (by decide +kernel) rfl, jj_gw 33 (by decide +kernel) rfl, cwL_fire⟩
abbrev rm_L_fire : Room := { frames := 8, cells := 2, slots := 12, locals := 136 }
set_option maxRecDepth 100000 in
set_option maxHeartbeats 400000 in
theorem w_fire {l : Launch} {D : va_G} {ac : Nat → ClassId} (hl : l.stackTraces = false) {ad : Ad} {s e : Sg} {v : Int} {G1 G2 : jj_G} (hR : Rep ad (cC ac ad s e) G1) (hd : jDj G1 G2) {o : Nat} {g : Int → Int} (ho : G2 o = some (jj_al (ac 1) 1 g)) {c : Int} (h : hInv s e c) (hv1 : jR v) (hj : ∀ k i, jR (s k i)) : jj_C l D ac yL_fire (.codeWith yL_fire cL_fire 4 (some .int) hh_fire) rm_L_fire [.ref (ad 0 0), .int (jI v), .ref o] (jj_j G1 G2) (jj_pi (wPost ac G2 o (ad 0 0) (t_vault v) (jW (r_fire s v)) (n_fire s v) e)) jj_nx := by
  refine jj_ofH (own := RL) (lv0 := [some (.ref (ad 0 0)), some (.int (jI v)), some (.ref o), none]) hl (by decide +kernel) rfl rfl (Nat.le_of_ble_eq_true rfl) rfl cwL_fire ?_
  intro X B hN hl0 hdg hac
  subst hl0; subst hdg; subst hac
  have F := B.F
  refine jj_aload2 F dL_fire_0 ?_
  refine jj_iconst F dL_fire_1 ?_
  refine jj_aload0 F dL_fire_2 ?_
  refine jj_iload1 F dL_fire_3 ?_
  refine jj_callFVi F hd (k := 2) (n := 12) (x8_fire F.tr hR h.s hv1 ) lk_L_31 (hR.at (k := 0) (i := 0) cc_0) cs_8 rfl rfl ⟨Nat.le_of_ble_eq_true rfl, Nat.le_of_ble_eq_true rfl, Nat.le_of_ble_eq_true rfl, Nat.le_of_ble_eq_true rfl, Nat.le_of_ble_eq_true rfl⟩ ⟨Nat.le_of_ble_eq_true rfl, Nat.le_of_ble_eq_true rfl⟩ dL_fire_4 (fun E hE => ?_) (fun r Gn hp hdn => ?_)
  · skip
    obtain ⟨ht, rfl⟩ := hE
    refine jj_catch F B.tab [] 0 9 12 13 [] rfl (fun _ h => absurd h List.not_mem_nil) (by decide) (by decide) cl_L_13 ca_B (fun q => ?_)
    refine jj_astore3 F dL_fire_12 (hN _ (by decide)) rfl ?_
    refine jj_iconst F dL_fire_13 ?_
    exact jj_iretH B dL_fire_14 ⟨Nat.le_of_ble_eq_true rfl, Nat.le_of_ble_eq_true rfl⟩ ⟨_, rfl, ht.symm, G1, ad, g, hd, by rw [jj_u_id ho], rfl, (by rw [no_fire (by omega)]; exact hR.c37), fun hz => absurd hz (by omega)⟩
  · skip
    obtain ⟨ht, rfl, ad', ha, hR'⟩ := hp
    have hno : Gn o = none := hdn.symm o (jj_sn ho)
    refine jj_jw ?_
    refine jj_i2l F (jI_rng _) dL_fire_7 ?_
    refine jj_last F (n := 1) (g := g) ((jj_jr hno).trans ho) (by decide) (by decide) dL_fire_8 ?_
    refine jj_goto F (tgt := 15) dL_fire_9 rfl ?_
    refine jj_iconst F dL_fire_15 ?_
    exact jj_iretH B dL_fire_16 ⟨Nat.le_of_ble_eq_true rfl, Nat.le_of_ble_eq_true rfl⟩ ⟨_, rfl, ht.symm, Gn, ad', _, hdn, jj_ur hno, ha, hR', fun _ => ju_s⟩
abbrev hh_tapeIs : List (Nat × Nat × Nat × Nat) := [(0, 10, 13, 13), (0, 10, 17, 15)]
theorem cwL_tapeIs : Cond.codeWith yL_tapeIs cL_tapeIs 5 (some .int) hh_tapeIs ∈ jj_GW := jj_gw 445 (by decide +kernel) rfl
theorem lkw_tapeIs : jj_lkW RL 150 yL_tapeIs cL_tapeIs 5 (some .int) hh_tapeIs 4 := ⟨jj_nm_of (by decide +kernel), jj_gw 443 (by decide +kernel) rfl, jj_gw 444 (by decide +kernel) rfl, jj_gw 33 (by decide +kernel) rfl, cwL_tapeIs⟩
abbrev rm_L_tapeIs : Room := { frames := 8, cells := 2, slots := 12, locals := 135 }
set_option maxRecDepth 100000 in
set_option maxHeartbeats 400000 in
theorem w_tapeIs {l : Launch} {D : va_G} {ac : Nat → ClassId} (hl : l.stackTraces = false) {ad : Ad} {s e : Sg} {t x : Int} {G1 G2 : jj_G} (hR : Rep ad (cC ac ad s e) G1) (hd : jDj G1 G2) {o : Nat} {g : Int → Int} (ho : G2 o = some (jj_al (ac 1) 1 g)) {c : Int} (h : hInv s e c) (ht1 : jR t) (hx1 : jR x) (hj : ∀ k i, jR (s k i)) : jj_C l D ac yL_tapeIs (.codeWith yL_tapeIs cL_tapeIs 5 (some .int) hh_tapeIs) rm_L_tapeIs [.ref (ad 0 0), .int (jI t), .int (jI x), .ref o] (jj_j G1 G2) (jj_pi (wPost ac G2 o (ad 0 0) (t_tapeIs s t x) (jW (r_tapeIs s t x)) (n_tapeIs s t x) e)) jj_nx := by
  refine jj_ofH (own := RL) (lv0 := [some (.ref (ad 0 0)), some (.int (jI t)), some (.int (jI x)), some (.ref o), none]) hl (by decide +kernel) rfl rfl (Nat.le_of_ble_eq_true rfl) rfl cwL_tapeIs ?_
  intro X B hN hl0 hdg hac
  subst hl0; subst hdg; subst hac
  have F := B.F
  refine jj_aload3 F dL_tapeIs_0 ?_
  refine jj_iconst F dL_tapeIs_1 ?_
  refine jj_aload0 F dL_tapeIs_2 ?_
  refine jj_iload1 F dL_tapeIs_3 ?_
  refine jj_iload2 F dL_tapeIs_4 ?_
  refine jj_callFVi F hd (k := 2) (n := 12) (x8_tapeIs F.tr hR h.s ht1 hx1 ) lk_L_34 (hR.at (k := 0) (i := 0) cc_0) cs_8 rfl rfl ⟨Nat.le_of_ble_eq_true rfl, Nat.le_of_ble_eq_true rfl, Nat.le_of_ble_eq_true rfl, Nat.le_of_ble_eq_true rfl, Nat.le_of_ble_eq_true rfl⟩ ⟨Nat.le_of_ble_eq_true rfl, Nat.le_of_ble_eq_true rfl⟩ dL_tapeIs_5 (fun E hE => ?_) (fun r Gn hp hdn => ?_)
  · skip
    rcases hE with ⟨ht, rfl⟩ | ⟨ht, rfl⟩
    · skip
      refine jj_catch F B.tab [] 0 10 13 13 [(0, 10, 17, 15)] rfl (fun _ h => absurd h List.not_mem_nil) (by decide) (by decide) cl_L_13 ca_B (fun q => ?_)
      refine jj_astore4 F dL_tapeIs_13 (hN _ (by decide)) rfl ?_
      refine jj_iconst F dL_tapeIs_15 ?_
      exact jj_iretH B dL_tapeIs_16 ⟨Nat.le_of_ble_eq_true rfl, Nat.le_of_ble_eq_true rfl⟩ ⟨_, rfl, ht.symm, G1, ad, g, hd, by rw [jj_u_id ho], rfl, (by rw [no_tapeIs]; exact hR.c37), fun hz => absurd hz (by omega)⟩
    · skip
      refine jj_catch F B.tab [(0, 10, 13, 13)] 0 10 17 15 [] rfl (List.forall_mem_cons.mpr ⟨⟨by decide, _, cl_L_13, nn_AB⟩, (fun _ h => absurd h List.not_mem_nil)⟩) (by decide) (by decide) cl_L_15 ca_A (fun q => ?_)
      refine jj_astore4 F dL_tapeIs_17 (hN _ (by decide)) rfl ?_
      refine jj_iconst F dL_tapeIs_19 ?_
      exact jj_iretH B dL_tapeIs_20 ⟨Nat.le_of_ble_eq_true rfl, Nat.le_of_ble_eq_true rfl⟩ ⟨_, rfl, ht.symm, G1, ad, g, hd, by rw [jj_u_id ho], rfl, (by rw [no_tapeIs]; exact hR.c37), fun hz => absurd hz (by omega)⟩
  · skip
    obtain ⟨ht, rfl, ad', ha, hR'⟩ := hp
    have hno : Gn o = none := hdn.symm o (jj_sn ho)
    refine jj_jw ?_
    refine jj_i2l F (jI_rng _) dL_tapeIs_8 ?_
    refine jj_last F (n := 1) (g := g) ((jj_jr hno).trans ho) (by decide) (by decide) dL_tapeIs_9 ?_
    refine jj_goto F (tgt := 21) dL_tapeIs_10 rfl ?_
    refine jj_iconst F dL_tapeIs_21 ?_
    exact jj_iretH B dL_tapeIs_22 ⟨Nat.le_of_ble_eq_true rfl, Nat.le_of_ble_eq_true rfl⟩ ⟨_, rfl, ht.symm, Gn, ad', _, hdn, jj_ur hno, ha, hR', fun _ => ju_s⟩
abbrev hh_heard : List (Nat × Nat × Nat × Nat) := [(0, 10, 13, 13), (0, 10, 17, 15)]
theorem cwL_heard : Cond.codeWith yL_heard cL_heard 5 (some .int) hh_heard ∈ jj_GW := jj_gw 453 (by decide +kernel) rfl
theorem lkw_heard : jj_lkW RL 154 yL_heard cL_heard 5 (some .int) hh_heard 4 := ⟨jj_nm_of (by decide +kernel), jj_gw 451 (by decide +kernel) rfl, jj_gw 452 (by decide +kernel) rfl, jj_gw 33 (by decide +kernel) rfl, cwL_heard⟩
abbrev rm_L_heard : Room := { frames := 8, cells := 2, slots := 12, locals := 135 }
set_option maxRecDepth 100000 in
set_option maxHeartbeats 400000 in
theorem w_heard {l : Launch} {D : va_G} {ac : Nat → ClassId} (hl : l.stackTraces = false) {ad : Ad} {s e : Sg} {t x : Int} {G1 G2 : jj_G} (hR : Rep ad (cC ac ad s e) G1) (hd : jDj G1 G2) {o : Nat} {g : Int → Int} (ho : G2 o = some (jj_al (ac 1) 1 g)) {c : Int} (h : hInv s e c) (ht1 : jR t) (hx1 : jR x) (hj : ∀ k i, jR (s k i)) : jj_C l D ac yL_heard (.codeWith yL_heard cL_heard 5 (some .int) hh_heard) rm_L_heard [.ref (ad 0 0), .int (jI t), .int (jI x), .ref o] (jj_j G1 G2) (jj_pi (wPost ac G2 o (ad 0 0) (t_heard s t x) (jW (r_heard s t x)) (n_heard s t x) e)) jj_nx := by
  refine jj_ofH (own := RL) (lv0 := [some (.ref (ad 0 0)), some (.int (jI t)), some (.int (jI x)), some (.ref o), none]) hl (by decide +kernel) rfl rfl (Nat.le_of_ble_eq_true rfl) rfl cwL_heard ?_
  intro X B hN hl0 hdg hac
  subst hl0; subst hdg; subst hac
  have F := B.F
  refine jj_aload3 F dL_heard_0 ?_
  refine jj_iconst F dL_heard_1 ?_
  refine jj_aload0 F dL_heard_2 ?_
  refine jj_iload1 F dL_heard_3 ?_
  refine jj_iload2 F dL_heard_4 ?_
  refine jj_callFVi F hd (k := 2) (n := 12) (x8_heard F.tr hR h.s ht1 hx1 ) lk_L_38 (hR.at (k := 0) (i := 0) cc_0) cs_8 rfl rfl ⟨Nat.le_of_ble_eq_true rfl, Nat.le_of_ble_eq_true rfl, Nat.le_of_ble_eq_true rfl, Nat.le_of_ble_eq_true rfl, Nat.le_of_ble_eq_true rfl⟩ ⟨Nat.le_of_ble_eq_true rfl, Nat.le_of_ble_eq_true rfl⟩ dL_heard_5 (fun E hE => ?_) (fun r Gn hp hdn => ?_)
  · skip
    rcases hE with ⟨ht, rfl⟩ | ⟨ht, rfl⟩
    · skip
      refine jj_catch F B.tab [] 0 10 13 13 [(0, 10, 17, 15)] rfl (fun _ h => absurd h List.not_mem_nil) (by decide) (by decide) cl_L_13 ca_B (fun q => ?_)
      refine jj_astore4 F dL_heard_13 (hN _ (by decide)) rfl ?_
      refine jj_iconst F dL_heard_15 ?_
      exact jj_iretH B dL_heard_16 ⟨Nat.le_of_ble_eq_true rfl, Nat.le_of_ble_eq_true rfl⟩ ⟨_, rfl, ht.symm, G1, ad, g, hd, by rw [jj_u_id ho], rfl, (by rw [no_heard]; exact hR.c37), fun hz => absurd hz (by omega)⟩
    · skip
      refine jj_catch F B.tab [(0, 10, 13, 13)] 0 10 17 15 [] rfl (List.forall_mem_cons.mpr ⟨⟨by decide, _, cl_L_13, nn_AB⟩, (fun _ h => absurd h List.not_mem_nil)⟩) (by decide) (by decide) cl_L_15 ca_A (fun q => ?_)
      refine jj_astore4 F dL_heard_17 (hN _ (by decide)) rfl ?_
      refine jj_iconst F dL_heard_19 ?_
      exact jj_iretH B dL_heard_20 ⟨Nat.le_of_ble_eq_true rfl, Nat.le_of_ble_eq_true rfl⟩ ⟨_, rfl, ht.symm, G1, ad, g, hd, by rw [jj_u_id ho], rfl, (by rw [no_heard]; exact hR.c37), fun hz => absurd hz (by omega)⟩
  · skip
    obtain ⟨ht, rfl, ad', ha, hR'⟩ := hp
    have hno : Gn o = none := hdn.symm o (jj_sn ho)
    refine jj_jw ?_
    refine jj_i2l F (jI_rng _) dL_heard_8 ?_
    refine jj_last F (n := 1) (g := g) ((jj_jr hno).trans ho) (by decide) (by decide) dL_heard_9 ?_
    refine jj_goto F (tgt := 21) dL_heard_10 rfl ?_
    refine jj_iconst F dL_heard_21 ?_
    exact jj_iretH B dL_heard_22 ⟨Nat.le_of_ble_eq_true rfl, Nat.le_of_ble_eq_true rfl⟩ ⟨_, rfl, ht.symm, Gn, ad', _, hdn, jj_ur hno, ha, hR', fun _ => ju_s⟩
abbrev hh_takes : List (Nat × Nat × Nat × Nat) := [(0, 9, 12, 13)]
theorem cwL_takes : Cond.codeWith yL_takes cL_takes 4 (some .int) hh_takes ∈ jj_GW := jj_gw 465 (by decide +kernel) rfl
theorem lkw_takes : jj_lkW RL 157 yL_takes cL_takes 4 (some .int) hh_takes 3 := ⟨jj_nm_of (by decide +kernel), jj_gw 463 (by decide +kernel) rfl, jj_gw 464 (by decide +kernel) rfl, jj_gw 33 (by decide +kernel) rfl, cwL_takes⟩
abbrev rm_L_takes : Room := { frames := 8, cells := 2, slots := 12, locals := 133 }
set_option maxRecDepth 100000 in
set_option maxHeartbeats 400000 in
theorem w_takes {l : Launch} {D : va_G} {ac : Nat → ClassId} (hl : l.stackTraces = false) {ad : Ad} {s e : Sg} {t : Int} {G1 G2 : jj_G} (hR : Rep ad (cC ac ad s e) G1) (hd : jDj G1 G2) {o : Nat} {g : Int → Int} (ho : G2 o = some (jj_al (ac 1) 1 g)) {c : Int} (h : hInv s e c) (ht1 : jR t) (hj : ∀ k i, jR (s k i)) : jj_C l D ac yL_takes (.codeWith yL_takes cL_takes 4 (some .int) hh_takes) rm_L_takes [.ref (ad 0 0), .int (jI t), .ref o] (jj_j G1 G2) (jj_pi (wPost ac G2 o (ad 0 0) (t_is s t) (jW (r_takes s t)) (n_takes s t) e)) jj_nx := by
  refine jj_ofH (own := RL) (lv0 := [some (.ref (ad 0 0)), some (.int (jI t)), some (.ref o), none]) hl (by decide +kernel) rfl rfl (Nat.le_of_ble_eq_true rfl) rfl cwL_takes ?_
  intro X B hN hl0 hdg hac
  subst hl0; subst hdg; subst hac
  have F := B.F
  refine jj_aload2 F dL_takes_0 ?_
  refine jj_iconst F dL_takes_1 ?_
  refine jj_aload0 F dL_takes_2 ?_
  refine jj_iload1 F dL_takes_3 ?_
  refine jj_callFVi F hd (k := 2) (n := 12) (x8_takes F.tr hR h.s ht1 ) lk_L_41 (hR.at (k := 0) (i := 0) cc_0) cs_8 rfl rfl ⟨Nat.le_of_ble_eq_true rfl, Nat.le_of_ble_eq_true rfl, Nat.le_of_ble_eq_true rfl, Nat.le_of_ble_eq_true rfl, Nat.le_of_ble_eq_true rfl⟩ ⟨Nat.le_of_ble_eq_true rfl, Nat.le_of_ble_eq_true rfl⟩ dL_takes_4 (fun E hE => ?_) (fun r Gn hp hdn => ?_)
  · skip
    obtain ⟨ht, rfl⟩ := hE
    refine jj_catch F B.tab [] 0 9 12 13 [] rfl (fun _ h => absurd h List.not_mem_nil) (by decide) (by decide) cl_L_13 ca_B (fun q => ?_)
    refine jj_astore3 F dL_takes_12 (hN _ (by decide)) rfl ?_
    refine jj_iconst F dL_takes_13 ?_
    exact jj_iretH B dL_takes_14 ⟨Nat.le_of_ble_eq_true rfl, Nat.le_of_ble_eq_true rfl⟩ ⟨_, rfl, ht.symm, G1, ad, g, hd, by rw [jj_u_id ho], rfl, (by rw [no_takes]; exact hR.c37), fun hz => absurd hz (by omega)⟩
  · skip
    obtain ⟨ht, rfl, ad', ha, hR'⟩ := hp
    have hno : Gn o = none := hdn.symm o (jj_sn ho)
    refine jj_jw ?_
    refine jj_i2l F (jI_rng _) dL_takes_7 ?_
    refine jj_last F (n := 1) (g := g) ((jj_jr hno).trans ho) (by decide) (by decide) dL_takes_8 ?_
    refine jj_goto F (tgt := 15) dL_takes_9 rfl ?_
    refine jj_iconst F dL_takes_15 ?_
    exact jj_iretH B dL_takes_16 ⟨Nat.le_of_ble_eq_true rfl, Nat.le_of_ble_eq_true rfl⟩ ⟨_, rfl, ht.symm, Gn, ad', _, hdn, jj_ur hno, ha, hR', fun _ => ju_s⟩
abbrev hh_takesAnew : List (Nat × Nat × Nat × Nat) := [(0, 9, 12, 13)]
theorem cwL_takesAnew : Cond.codeWith yL_takesAnew cL_takesAnew 4 (some .int) hh_takesAnew ∈ jj_GW := jj_gw 476 (by decide +kernel) rfl
theorem lkw_takesAnew : jj_lkW RL 160 yL_takesAnew cL_takesAnew 4 (some .int) hh_takesAnew 3 := ⟨jj_nm_of (by decide +kernel), jj_gw 474 (by decide +kernel) rfl, jj_gw 475 (by decide +kernel) rfl, jj_gw 33 (by decide +kernel) rfl, cwL_takesAnew⟩
abbrev rm_L_takesAnew : Room := { frames := 8, cells := 2, slots := 12, locals := 133 }
set_option maxRecDepth 100000 in
set_option maxHeartbeats 400000 in
theorem w_takesAnew {l : Launch} {D : va_G} {ac : Nat → ClassId} (hl : l.stackTraces = false) {ad : Ad} {s e : Sg} {t : Int} {G1 G2 : jj_G} (hR : Rep ad (cC ac ad s e) G1) (hd : jDj G1 G2) {o : Nat} {g : Int → Int} (ho : G2 o = some (jj_al (ac 1) 1 g)) {c : Int} (h : hInv s e c) (ht1 : jR t) (hj : ∀ k i, jR (s k i)) : jj_C l D ac yL_takesAnew (.codeWith yL_takesAnew cL_takesAnew 4 (some .int) hh_takesAnew) rm_L_takesAnew [.ref (ad 0 0), .int (jI t), .ref o] (jj_j G1 G2) (jj_pi (wPost ac G2 o (ad 0 0) (t_is s t) (jW (r_takes s t)) (n_takes s t) e)) jj_nx := by
  refine jj_ofH (own := RL) (lv0 := [some (.ref (ad 0 0)), some (.int (jI t)), some (.ref o), none]) hl (by decide +kernel) rfl rfl (Nat.le_of_ble_eq_true rfl) rfl cwL_takesAnew ?_
  intro X B hN hl0 hdg hac
  subst hl0; subst hdg; subst hac
  have F := B.F
  refine jj_aload2 F dL_takesAnew_0 ?_
  refine jj_iconst F dL_takesAnew_1 ?_
  refine jj_aload0 F dL_takesAnew_2 ?_
  refine jj_iload1 F dL_takesAnew_3 ?_
  refine jj_callFVi F hd (k := 2) (n := 12) (x8_takesAnew F.tr hR h.s ht1 h.T) lk_L_44 (hR.at (k := 0) (i := 0) cc_0) cs_8 rfl rfl ⟨Nat.le_of_ble_eq_true rfl, Nat.le_of_ble_eq_true rfl, Nat.le_of_ble_eq_true rfl, Nat.le_of_ble_eq_true rfl, Nat.le_of_ble_eq_true rfl⟩ ⟨Nat.le_of_ble_eq_true rfl, Nat.le_of_ble_eq_true rfl⟩ dL_takesAnew_4 (fun E hE => ?_) (fun r Gn hp hdn => ?_)
  · skip
    obtain ⟨ht, rfl⟩ := hE
    refine jj_catch F B.tab [] 0 9 12 13 [] rfl (fun _ h => absurd h List.not_mem_nil) (by decide) (by decide) cl_L_13 ca_B (fun q => ?_)
    refine jj_astore3 F dL_takesAnew_12 (hN _ (by decide)) rfl ?_
    refine jj_iconst F dL_takesAnew_13 ?_
    exact jj_iretH B dL_takesAnew_14 ⟨Nat.le_of_ble_eq_true rfl, Nat.le_of_ble_eq_true rfl⟩ ⟨_, rfl, ht.symm, G1, ad, g, hd, by rw [jj_u_id ho], rfl, (by rw [no_takes]; exact hR.c37), fun hz => absurd hz (by omega)⟩
  · skip
    obtain ⟨ht, rfl, ad', ha, hR'⟩ := hp
    have hno : Gn o = none := hdn.symm o (jj_sn ho)
    refine jj_jw ?_
    refine jj_i2l F (jI_rng _) dL_takesAnew_7 ?_
    refine jj_last F (n := 1) (g := g) ((jj_jr hno).trans ho) (by decide) (by decide) dL_takesAnew_8 ?_
    refine jj_goto F (tgt := 15) dL_takesAnew_9 rfl ?_
    refine jj_iconst F dL_takesAnew_15 ?_
    exact jj_iretH B dL_takesAnew_16 ⟨Nat.le_of_ble_eq_true rfl, Nat.le_of_ble_eq_true rfl⟩ ⟨_, rfl, ht.symm, Gn, ad', _, hdn, jj_ur hno, ha, hR', fun _ => ju_s⟩
abbrev hh_isLost : List (Nat × Nat × Nat × Nat) := [(0, 16, 19, 13)]
theorem cwL_isLost : Cond.codeWith yL_isLost cL_isLost 4 (some .int) hh_isLost ∈ jj_GW := jj_gw 488 (by decide +kernel) rfl
theorem lkw_isLost : jj_lkW RL 163 yL_isLost cL_isLost 4 (some .int) hh_isLost 3 := ⟨jj_nm_of (by decide +kernel), jj_gw 486 (by decide +kernel) rfl, jj_gw 487 (by decide +kernel) rfl, jj_gw 33 (by decide +kernel) rfl, cwL_isLost⟩
abbrev rm_L_isLost : Room := { frames := 8, cells := 2, slots := 12, locals := 137 }
set_option maxRecDepth 100000 in
set_option maxHeartbeats 400000 in
theorem w_isLost {l : Launch} {D : va_G} {ac : Nat → ClassId} (hl : l.stackTraces = false) {ad : Ad} {s e : Sg} {t : Int} {G1 G2 : jj_G} (hR : Rep ad (cC ac ad s e) G1) (hd : jDj G1 G2) {o : Nat} {g : Int → Int} (ho : G2 o = some (jj_al (ac 1) 1 g)) {c : Int} (h : hInv s e c) (ht1 : jR t) (hj : ∀ k i, jR (s k i)) : jj_C l D ac yL_isLost (.codeWith yL_isLost cL_isLost 4 (some .int) hh_isLost) rm_L_isLost [.ref (ad 0 0), .int (jI t), .ref o] (jj_j G1 G2) (jj_pi (wPost ac G2 o (ad 0 0) (t_isLost s t) (if jI (r_isLost s t) = 0 then 0 else 1) (n_isLost s t) e)) jj_nx := by
  refine jj_ofH (own := RL) (lv0 := [some (.ref (ad 0 0)), some (.int (jI t)), some (.ref o), none]) hl (by decide +kernel) rfl rfl (Nat.le_of_ble_eq_true rfl) rfl cwL_isLost ?_
  intro X B hN hl0 hdg hac
  subst hl0; subst hdg; subst hac
  have F := B.F
  refine jj_aload2 F dL_isLost_0 ?_
  refine jj_iconst F dL_isLost_1 ?_
  refine jj_aload0 F dL_isLost_2 ?_
  refine jj_iload1 F dL_isLost_3 ?_
  refine jj_callFVi F hd (k := 2) (n := 12) (x8_isLost F.tr hR h.s ht1 h.lost) lk_L_47 (hR.at (k := 0) (i := 0) cc_0) cs_8 rfl rfl ⟨Nat.le_of_ble_eq_true rfl, Nat.le_of_ble_eq_true rfl, Nat.le_of_ble_eq_true rfl, Nat.le_of_ble_eq_true rfl, Nat.le_of_ble_eq_true rfl⟩ ⟨Nat.le_of_ble_eq_true rfl, Nat.le_of_ble_eq_true rfl⟩ dL_isLost_4 (fun E hE => ?_) (fun r Gn hp hdn => ?_)
  · skip
    obtain ⟨ht, rfl⟩ := hE
    refine jj_catch F B.tab [] 0 16 19 13 [] rfl (fun _ h => absurd h List.not_mem_nil) (by decide) (by decide) cl_L_13 ca_B (fun q => ?_)
    refine jj_astore3 F dL_isLost_19 (hN _ (by decide)) rfl ?_
    refine jj_iconst F dL_isLost_20 ?_
    exact jj_iretH B dL_isLost_21 ⟨Nat.le_of_ble_eq_true rfl, Nat.le_of_ble_eq_true rfl⟩ ⟨_, rfl, ht.symm, G1, ad, g, hd, by rw [jj_u_id ho], rfl, (by rw [no_isLost]; exact hR.c37), fun hz => absurd hz (by omega)⟩
  · skip
    obtain ⟨ht, rfl, ad', ha, hR'⟩ := hp
    have hno : Gn o = none := hdn.symm o (jj_sn ho)
    refine jj_ifx_eq F (tgt := 14) dL_isLost_7 rfl (fun hz => ?_) (fun hz => ?_)
    · skip
      refine jj_lconst F (v := 0) (by decide) dL_isLost_14 ?_
      refine jj_last F (n := 1) (g := g) ((jj_jr hno).trans ho) (by decide) (by decide) dL_isLost_15 ?_
      refine jj_goto F (tgt := 22) dL_isLost_16 rfl ?_
      refine jj_iconst F dL_isLost_22 ?_
      exact jj_iretH B dL_isLost_23 ⟨Nat.le_of_ble_eq_true rfl, Nat.le_of_ble_eq_true rfl⟩ ⟨_, rfl, ht.symm, Gn, ad', _, hdn, jj_ur hno, ha, hR', fun _ => ju_s.trans (if_pos hz).symm⟩
    · skip
      refine jj_lconst F (v := 1) (by decide) dL_isLost_10 ?_
      refine jj_goto F (tgt := 15) dL_isLost_11 rfl ?_
      refine jj_last F (n := 1) (g := g) ((jj_jr hno).trans ho) (by decide) (by decide) dL_isLost_15 ?_
      refine jj_goto F (tgt := 22) dL_isLost_16 rfl ?_
      refine jj_iconst F dL_isLost_22 ?_
      exact jj_iretH B dL_isLost_23 ⟨Nat.le_of_ble_eq_true rfl, Nat.le_of_ble_eq_true rfl⟩ ⟨_, rfl, ht.symm, Gn, ad', _, hdn, jj_ur hno, ha, hR', fun _ => ju_s.trans (if_neg hz).symm⟩
abbrev hh_add : List (Nat × Nat × Nat × Nat) := [(0, 9, 12, 13), (0, 9, 15, 17)]
theorem cwL_add : Cond.codeWith yL_add cL_add 4 (some .int) hh_add ∈ jj_GW := jj_gw 507 (by decide +kernel) rfl
theorem lkw_add : jj_lkW RL 166 yL_add cL_add 4 (some .int) hh_add 3 := ⟨jj_nm_of (by decide +kernel), jj_gw 505 (by decide +kernel) rfl, jj_gw 506 (by decide +kernel) rfl, jj_gw 33 (by decide +kernel) rfl, cwL_add⟩
abbrev rm_L_add : Room := { frames := 8, cells := 3, slots := 18, locals := 134 }
set_option maxRecDepth 100000 in
set_option maxHeartbeats 400000 in
theorem w_add {l : Launch} {D : va_G} {ac : Nat → ClassId} (hl : l.stackTraces = false) {ad : Ad} {s e : Sg} {t : Int} {G1 G2 : jj_G} (hR : Rep ad (cC ac ad s e) G1) (hd : jDj G1 G2) {o : Nat} {g : Int → Int} (ho : G2 o = some (jj_al (ac 1) 1 g)) {c : Int} (h : hInv s e c) (ht1 : jR t) (hj : ∀ k i, jR (s k i)) : jj_C l D ac yL_add (.codeWith yL_add cL_add 4 (some .int) hh_add) rm_L_add [.ref (ad 0 0), .int (jI t), .ref o] (jj_j G1 G2) (jj_pi (wPost ac G2 o (ad 0 0) (t_add s t) (jW (r_add s t)) (n_add s t) e)) jj_nx := by
  refine jj_ofH (own := RL) (lv0 := [some (.ref (ad 0 0)), some (.int (jI t)), some (.ref o), none]) hl (by decide +kernel) rfl rfl (Nat.le_of_ble_eq_true rfl) rfl cwL_add ?_
  intro X B hN hl0 hdg hac
  subst hl0; subst hdg; subst hac
  have F := B.F
  refine jj_aload2 F dL_add_0 ?_
  refine jj_iconst F dL_add_1 ?_
  refine jj_aload0 F dL_add_2 ?_
  refine jj_iload1 F dL_add_3 ?_
  refine jj_callFVi F hd (k := 3) (n := 18) (x8_add F.tr hR h.s ht1 ) lk_L_51 (hR.at (k := 0) (i := 0) cc_0) cs_8 rfl rfl ⟨Nat.le_of_ble_eq_true rfl, Nat.le_of_ble_eq_true rfl, Nat.le_of_ble_eq_true rfl, Nat.le_of_ble_eq_true rfl, Nat.le_of_ble_eq_true rfl⟩ ⟨Nat.le_of_ble_eq_true rfl, Nat.le_of_ble_eq_true rfl⟩ dL_add_4 (fun E hE => ?_) (fun r Gn hp hdn => ?_)
  · skip
    rcases hE with ⟨ht, rfl⟩ | ⟨ht, rfl⟩
    · skip
      refine jj_catch F B.tab [] 0 9 12 13 [(0, 9, 15, 17)] rfl (fun _ h => absurd h List.not_mem_nil) (by decide) (by decide) cl_L_13 ca_B (fun q => ?_)
      refine jj_astore3 F dL_add_12 (hN _ (by decide)) rfl ?_
      refine jj_iconst F dL_add_13 ?_
      exact jj_iretH B dL_add_14 ⟨Nat.le_of_ble_eq_true rfl, Nat.le_of_ble_eq_true rfl⟩ ⟨_, rfl, ht.symm, G1, ad, g, hd, by rw [jj_u_id ho], rfl, (by rw [no_add (by omega)]; exact hR.c37), fun hz => absurd hz (by omega)⟩
    · skip
      refine jj_catch F B.tab [(0, 9, 12, 13)] 0 9 15 17 [] rfl (List.forall_mem_cons.mpr ⟨⟨by decide, _, cl_L_13, nn_SB⟩, (fun _ h => absurd h List.not_mem_nil)⟩) (by decide) (by decide) cl_L_17 ca_S (fun q => ?_)
      refine jj_astore3 F dL_add_15 (hN _ (by decide)) rfl ?_
      refine jj_iconst F dL_add_16 ?_
      exact jj_iretH B dL_add_17 ⟨Nat.le_of_ble_eq_true rfl, Nat.le_of_ble_eq_true rfl⟩ ⟨_, rfl, ht.symm, G1, ad, g, hd, by rw [jj_u_id ho], rfl, (by rw [no_add (by omega)]; exact hR.c37), fun hz => absurd hz (by omega)⟩
  · skip
    obtain ⟨ht, rfl, ad', ha, hR'⟩ := hp
    have hno : Gn o = none := hdn.symm o (jj_sn ho)
    refine jj_jw ?_
    refine jj_i2l F (jI_rng _) dL_add_7 ?_
    refine jj_last F (n := 1) (g := g) ((jj_jr hno).trans ho) (by decide) (by decide) dL_add_8 ?_
    refine jj_goto F (tgt := 18) dL_add_9 rfl ?_
    refine jj_iconst F dL_add_18 ?_
    exact jj_iretH B dL_add_19 ⟨Nat.le_of_ble_eq_true rfl, Nat.le_of_ble_eq_true rfl⟩ ⟨_, rfl, ht.symm, Gn, ad', _, hdn, jj_ur hno, ha, hR', fun _ => ju_s⟩
abbrev hh_cut : List (Nat × Nat × Nat × Nat) := [(0, 9, 12, 15), (0, 9, 15, 17)]
theorem cwL_cut : Cond.codeWith yL_cut cL_cut 4 (some .int) hh_cut ∈ jj_GW := jj_gw 519 (by decide +kernel) rfl
theorem lkw_cut : jj_lkW RL 173 yL_cut cL_cut 4 (some .int) hh_cut 3 := ⟨jj_nm_of (by decide +kernel), jj_gw 517 (by decide +kernel) rfl, jj_gw 518 (by decide +kernel) rfl, jj_gw 33 (by decide +kernel) rfl, cwL_cut⟩
abbrev rm_L_cut : Room := { frames := 9, cells := 5, slots := 40, locals := 161 }
set_option maxRecDepth 100000 in
set_option maxHeartbeats 400000 in
theorem w_cut {l : Launch} {D : va_G} {ac : Nat → ClassId} (hl : l.stackTraces = false) {ad : Ad} {s e : Sg} {y : Int} {G1 G2 : jj_G} (hR : Rep ad (cC ac ad s e) G1) (hd : jDj G1 G2) {o : Nat} {g : Int → Int} (ho : G2 o = some (jj_al (ac 1) 1 g)) {c : Int} (h : hInv s e c) (hy1 : jR y) (hj : ∀ k i, jR (s k i)) : jj_C l D ac yL_cut (.codeWith yL_cut cL_cut 4 (some .int) hh_cut) rm_L_cut [.ref (ad 0 0), .int (jI y), .ref o] (jj_j G1 G2) (jj_pi (wPost ac G2 o (ad 0 0) (t_cut s y) (jW (r_cut s y)) (n_cut s y) e)) jj_nx := by
  refine jj_ofH (own := RL) (lv0 := [some (.ref (ad 0 0)), some (.int (jI y)), some (.ref o), none]) hl (by decide +kernel) rfl rfl (Nat.le_of_ble_eq_true rfl) rfl cwL_cut ?_
  intro X B hN hl0 hdg hac
  subst hl0; subst hdg; subst hac
  have F := B.F
  refine jj_aload2 F dL_cut_0 ?_
  refine jj_iconst F dL_cut_1 ?_
  refine jj_aload0 F dL_cut_2 ?_
  refine jj_iload1 F dL_cut_3 ?_
  refine jj_callFVi F hd (k := 5) (n := 40) (x8_cut F.tr hR h.s hy1 ) lk_L_54 (hR.at (k := 0) (i := 0) cc_0) cs_8 rfl rfl ⟨Nat.le_of_ble_eq_true rfl, Nat.le_of_ble_eq_true rfl, Nat.le_of_ble_eq_true rfl, Nat.le_of_ble_eq_true rfl, Nat.le_of_ble_eq_true rfl⟩ ⟨Nat.le_of_ble_eq_true rfl, Nat.le_of_ble_eq_true rfl⟩ dL_cut_4 (fun E hE => ?_) (fun r Gn hp hdn => ?_)
  · skip
    rcases hE with ⟨ht, rfl⟩ | ⟨ht, rfl⟩
    · skip
      refine jj_catch F B.tab [] 0 9 12 15 [(0, 9, 15, 17)] rfl (fun _ h => absurd h List.not_mem_nil) (by decide) (by decide) cl_L_15 ca_A (fun q => ?_)
      refine jj_astore3 F dL_cut_12 (hN _ (by decide)) rfl ?_
      refine jj_iconst F dL_cut_13 ?_
      exact jj_iretH B dL_cut_14 ⟨Nat.le_of_ble_eq_true rfl, Nat.le_of_ble_eq_true rfl⟩ ⟨_, rfl, ht.symm, G1, ad, g, hd, by rw [jj_u_id ho], rfl, (by rw [no_cut (by omega)]; exact hR.c37), fun hz => absurd hz (by omega)⟩
    · skip
      refine jj_catch F B.tab [(0, 9, 12, 15)] 0 9 15 17 [] rfl (List.forall_mem_cons.mpr ⟨⟨by decide, _, cl_L_15, nn_SA⟩, (fun _ h => absurd h List.not_mem_nil)⟩) (by decide) (by decide) cl_L_17 ca_S (fun q => ?_)
      refine jj_astore3 F dL_cut_15 (hN _ (by decide)) rfl ?_
      refine jj_iconst F dL_cut_16 ?_
      exact jj_iretH B dL_cut_17 ⟨Nat.le_of_ble_eq_true rfl, Nat.le_of_ble_eq_true rfl⟩ ⟨_, rfl, ht.symm, G1, ad, g, hd, by rw [jj_u_id ho], rfl, (by rw [no_cut (by omega)]; exact hR.c37), fun hz => absurd hz (by omega)⟩
  · skip
    obtain ⟨ht, rfl, ad', ha, hR'⟩ := hp
    have hno : Gn o = none := hdn.symm o (jj_sn ho)
    refine jj_jw ?_
    refine jj_i2l F (jI_rng _) dL_cut_7 ?_
    refine jj_last F (n := 1) (g := g) ((jj_jr hno).trans ho) (by decide) (by decide) dL_cut_8 ?_
    refine jj_goto F (tgt := 18) dL_cut_9 rfl ?_
    refine jj_iconst F dL_cut_18 ?_
    exact jj_iretH B dL_cut_19 ⟨Nat.le_of_ble_eq_true rfl, Nat.le_of_ble_eq_true rfl⟩ ⟨_, rfl, ht.symm, Gn, ad', _, hdn, jj_ur hno, ha, hR', fun _ => ju_s⟩
abbrev hh_seconds : List (Nat × Nat × Nat × Nat) := [(0, 10, 13, 13)]
theorem cwL_seconds : Cond.codeWith yL_seconds cL_seconds 5 (some .int) hh_seconds ∈ jj_GW := jj_gw 577 (by decide +kernel) rfl
theorem lkw_seconds : jj_lkW RL 176 yL_seconds cL_seconds 5 (some .int) hh_seconds 4 := ⟨jj_nm_of (by decide +kernel), jj_gw 575 (by decide +kernel) rfl, jj_gw 576 (by decide +kernel) rfl, jj_gw 33 (by decide +kernel) rfl, cwL_seconds⟩
abbrev rm_L_seconds : Room := { frames := 8, cells := 3, slots := 18, locals := 135 }
set_option maxRecDepth 100000 in
set_option maxHeartbeats 400000 in
theorem w_seconds {l : Launch} {D : va_G} {ac : Nat → ClassId} (hl : l.stackTraces = false) {ad : Ad} {s e : Sg} {d q : Int} {G1 G2 : jj_G} (hR : Rep ad (cC ac ad s e) G1) (hd : jDj G1 G2) {o : Nat} {g : Int → Int} (ho : G2 o = some (jj_al (ac 1) 1 g)) {c : Int} (h : hInv s e c) (hd1 : jR d) (hq1 : jR q) (hj : ∀ k i, jR (s k i)) : jj_C l D ac yL_seconds (.codeWith yL_seconds cL_seconds 5 (some .int) hh_seconds) rm_L_seconds [.ref (ad 0 0), .int (jI d), .int (jI q), .ref o] (jj_j G1 G2) (jj_pi (wPost ac G2 o (ad 0 0) (t_seconds s d q) (jW (r_seconds s d q)) (n_seconds s d q) e)) jj_nx := by
  refine jj_ofH (own := RL) (lv0 := [some (.ref (ad 0 0)), some (.int (jI d)), some (.int (jI q)), some (.ref o), none]) hl (by decide +kernel) rfl rfl (Nat.le_of_ble_eq_true rfl) rfl cwL_seconds ?_
  intro X B hN hl0 hdg hac
  subst hl0; subst hdg; subst hac
  have F := B.F
  refine jj_aload3 F dL_seconds_0 ?_
  refine jj_iconst F dL_seconds_1 ?_
  refine jj_aload0 F dL_seconds_2 ?_
  refine jj_iload1 F dL_seconds_3 ?_
  refine jj_iload2 F dL_seconds_4 ?_
  refine jj_callFVi F hd (k := 3) (n := 18) (x8_seconds F.tr hR h.s hd1 hq1 ) lk_L_57 (hR.at (k := 0) (i := 0) cc_0) cs_8 rfl rfl ⟨Nat.le_of_ble_eq_true rfl, Nat.le_of_ble_eq_true rfl, Nat.le_of_ble_eq_true rfl, Nat.le_of_ble_eq_true rfl, Nat.le_of_ble_eq_true rfl⟩ ⟨Nat.le_of_ble_eq_true rfl, Nat.le_of_ble_eq_true rfl⟩ dL_seconds_5 (fun E hE => ?_) (fun r Gn hp hdn => ?_)
  · skip
    obtain ⟨ht, rfl⟩ := hE
    refine jj_catch F B.tab [] 0 10 13 13 [] rfl (fun _ h => absurd h List.not_mem_nil) (by decide) (by decide) cl_L_13 ca_B (fun q => ?_)
    refine jj_astore4 F dL_seconds_13 (hN _ (by decide)) rfl ?_
    refine jj_iconst F dL_seconds_15 ?_
    exact jj_iretH B dL_seconds_16 ⟨Nat.le_of_ble_eq_true rfl, Nat.le_of_ble_eq_true rfl⟩ ⟨_, rfl, ht.symm, G1, ad, g, hd, by rw [jj_u_id ho], rfl, (by rw [no_seconds]; exact hR.c37), fun hz => absurd hz (by omega)⟩
  · skip
    obtain ⟨ht, rfl, ad', ha, hR'⟩ := hp
    have hno : Gn o = none := hdn.symm o (jj_sn ho)
    refine jj_jw ?_
    refine jj_i2l F (jI_rng _) dL_seconds_8 ?_
    refine jj_last F (n := 1) (g := g) ((jj_jr hno).trans ho) (by decide) (by decide) dL_seconds_9 ?_
    refine jj_goto F (tgt := 17) dL_seconds_10 rfl ?_
    refine jj_iconst F dL_seconds_17 ?_
    exact jj_iretH B dL_seconds_18 ⟨Nat.le_of_ble_eq_true rfl, Nat.le_of_ble_eq_true rfl⟩ ⟨_, rfl, ht.symm, Gn, ad', _, hdn, jj_ur hno, ha, hR', fun _ => ju_s⟩
abbrev hh_stamper : List (Nat × Nat × Nat × Nat) := [(0, 12, 15, 13), (0, 12, 19, 17)]
theorem cwL_stamper : Cond.codeWith yL_stamper cL_stamper 6 (some .int) hh_stamper ∈ jj_GW := jj_gw 593 (by decide +kernel) rfl
theorem lkw_stamper : jj_lkW RL 179 yL_stamper cL_stamper 6 (some .int) hh_stamper 5 := ⟨jj_nm_of (by decide +kernel), jj_gw 591 (by decide +kernel) rfl, jj_gw 592 (by decide +kernel) rfl, jj_gw 33 (by decide +kernel) rfl, cwL_stamper⟩
abbrev rm_L_stamper : Room := { frames := 8, cells := 4, slots := 25, locals := 137 }
set_option maxRecDepth 100000 in
set_option maxHeartbeats 400000 in
theorem w_stamper {l : Launch} {D : va_G} {ac : Nat → ClassId} (hl : l.stackTraces = false) {ad : Ad} {s e : Sg} {d m n : Int} {G1 G2 : jj_G} (hR : Rep ad (cC ac ad s e) G1) (hd : jDj G1 G2) {o : Nat} {g : Int → Int} (ho : G2 o = some (jj_al (ac 1) 1 g)) {c : Int} (h : hInv s e c) (hd1 : jR d) (hm1 : jR m) (hn1 : jR n) (hj : ∀ k i, jR (s k i)) : jj_C l D ac yL_stamper (.codeWith yL_stamper cL_stamper 6 (some .int) hh_stamper) rm_L_stamper [.ref (ad 0 0), .int (jI d), .int (jI m), .int (jI n), .ref o] (jj_j G1 G2) (jj_pi (wPost ac G2 o (ad 0 0) (t_stamper s d m n) (jW (r_stamper s d m n)) (n_stamper s d m n) e)) jj_nx := by
  refine jj_ofH (own := RL) (lv0 := [some (.ref (ad 0 0)), some (.int (jI d)), some (.int (jI m)), some (.int (jI n)), some (.ref o), none]) hl (by decide +kernel) rfl rfl (Nat.le_of_ble_eq_true rfl) rfl cwL_stamper ?_
  intro X B hN hl0 hdg hac
  subst hl0; subst hdg; subst hac
  have F := B.F
  refine jj_aload4 F dL_stamper_0 ?_
  refine jj_iconst F dL_stamper_2 ?_
  refine jj_aload0 F dL_stamper_3 ?_
  refine jj_iload1 F dL_stamper_4 ?_
  refine jj_iload2 F dL_stamper_5 ?_
  refine jj_iload3 F dL_stamper_6 ?_
  refine jj_callFVi F hd (k := 4) (n := 25) (x8_stamper F.tr hR h.s hd1 hm1 hn1 h.K) lk_L_60 (hR.at (k := 0) (i := 0) cc_0) cs_8 rfl rfl ⟨Nat.le_of_ble_eq_true rfl, Nat.le_of_ble_eq_true rfl, Nat.le_of_ble_eq_true rfl, Nat.le_of_ble_eq_true rfl, Nat.le_of_ble_eq_true rfl⟩ ⟨Nat.le_of_ble_eq_true rfl, Nat.le_of_ble_eq_true rfl⟩ dL_stamper_7 (fun E hE => ?_) (fun r Gn hp hdn => ?_)
  · skip
    rcases hE with ⟨ht, rfl⟩ | ⟨ht, rfl⟩
    · skip
      refine jj_catch F B.tab [] 0 12 15 13 [(0, 12, 19, 17)] rfl (fun _ h => absurd h List.not_mem_nil) (by decide) (by decide) cl_L_13 ca_B (fun q => ?_)
      refine jj_astore5 F dL_stamper_15 (hN _ (by decide)) rfl ?_
      refine jj_iconst F dL_stamper_17 ?_
      exact jj_iretH B dL_stamper_18 ⟨Nat.le_of_ble_eq_true rfl, Nat.le_of_ble_eq_true rfl⟩ ⟨_, rfl, ht.symm, G1, ad, g, hd, by rw [jj_u_id ho], rfl, (by rw [no_stamper (by omega)]; exact hR.c37), fun hz => absurd hz (by omega)⟩
    · skip
      refine jj_catch F B.tab [(0, 12, 15, 13)] 0 12 19 17 [] rfl (List.forall_mem_cons.mpr ⟨⟨by decide, _, cl_L_13, nn_SB⟩, (fun _ h => absurd h List.not_mem_nil)⟩) (by decide) (by decide) cl_L_17 ca_S (fun q => ?_)
      refine jj_astore5 F dL_stamper_19 (hN _ (by decide)) rfl ?_
      refine jj_iconst F dL_stamper_21 ?_
      exact jj_iretH B dL_stamper_22 ⟨Nat.le_of_ble_eq_true rfl, Nat.le_of_ble_eq_true rfl⟩ ⟨_, rfl, ht.symm, G1, ad, g, hd, by rw [jj_u_id ho], rfl, (by rw [no_stamper (by omega)]; exact hR.c37), fun hz => absurd hz (by omega)⟩
  · skip
    obtain ⟨ht, rfl, ad', ha, hR'⟩ := hp
    have hno : Gn o = none := hdn.symm o (jj_sn ho)
    refine jj_jw ?_
    refine jj_i2l F (jI_rng _) dL_stamper_10 ?_
    refine jj_last F (n := 1) (g := g) ((jj_jr hno).trans ho) (by decide) (by decide) dL_stamper_11 ?_
    refine jj_goto F (tgt := 23) dL_stamper_12 rfl ?_
    refine jj_iconst F dL_stamper_23 ?_
    exact jj_iretH B dL_stamper_24 ⟨Nat.le_of_ble_eq_true rfl, Nat.le_of_ble_eq_true rfl⟩ ⟨_, rfl, ht.symm, Gn, ad', _, hdn, jj_ur hno, ha, hR', fun _ => ju_s⟩
abbrev hh_press : List (Nat × Nat × Nat × Nat) := [(0, 14, 17, 13), (0, 14, 21, 15), (0, 14, 25, 17)]
theorem cwL_press : Cond.codeWith yL_press cL_press 7 (some .int) hh_press ∈ jj_GW := jj_gw 651 (by decide +kernel) rfl
theorem lkw_press : jj_lkW RL 182 yL_press cL_press 7 (some .int) hh_press 6 := ⟨jj_nm_of (by decide +kernel), jj_gw 649 (by decide +kernel) rfl, jj_gw 650 (by decide +kernel) rfl, jj_gw 33 (by decide +kernel) rfl, cwL_press⟩
abbrev rm_L_press : Room := { frames := 8, cells := 4, slots := 24, locals := 137 }
set_option maxRecDepth 100000 in
set_option maxHeartbeats 400000 in
theorem w_press {l : Launch} {D : va_G} {ac : Nat → ClassId} (hl : l.stackTraces = false) {ad : Ad} {s e : Sg} {d m n x : Int} {G1 G2 : jj_G} (hR : Rep ad (cC ac ad s e) G1) (hd : jDj G1 G2) {o : Nat} {g : Int → Int} (ho : G2 o = some (jj_al (ac 1) 1 g)) {c : Int} (h : hInv s e c) (hd1 : jR d) (hm1 : jR m) (hn1 : jR n) (hx1 : jR x) (hj : ∀ k i, jR (s k i)) : jj_C l D ac yL_press (.codeWith yL_press cL_press 7 (some .int) hh_press) rm_L_press [.ref (ad 0 0), .int (jI d), .int (jI m), .int (jI n), .int (jI x), .ref o] (jj_j G1 G2) (jj_pi (wPost ac G2 o (ad 0 0) (t_press s d m n x) (jW (r_press s d m n x)) (n_press s d m n x) e)) jj_nx := by
  refine jj_ofH (own := RL) (lv0 := [some (.ref (ad 0 0)), some (.int (jI d)), some (.int (jI m)), some (.int (jI n)), some (.int (jI x)), some (.ref o), none]) hl (by decide +kernel) rfl rfl (Nat.le_of_ble_eq_true rfl) rfl cwL_press ?_
  intro X B hN hl0 hdg hac
  subst hl0; subst hdg; subst hac
  have F := B.F
  refine jj_aload5 F dL_press_0 ?_
  refine jj_iconst F dL_press_2 ?_
  refine jj_aload0 F dL_press_3 ?_
  refine jj_iload1 F dL_press_4 ?_
  refine jj_iload2 F dL_press_5 ?_
  refine jj_iload3 F dL_press_6 ?_
  refine jj_iload4 F dL_press_7 ?_
  refine jj_callFVi F hd (k := 4) (n := 24) (x8_press F.tr hR h.s hd1 hm1 hn1 hx1 ) lk_L_63 (hR.at (k := 0) (i := 0) cc_0) cs_8 rfl rfl ⟨Nat.le_of_ble_eq_true rfl, Nat.le_of_ble_eq_true rfl, Nat.le_of_ble_eq_true rfl, Nat.le_of_ble_eq_true rfl, Nat.le_of_ble_eq_true rfl⟩ ⟨Nat.le_of_ble_eq_true rfl, Nat.le_of_ble_eq_true rfl⟩ dL_press_9 (fun E hE => ?_) (fun r Gn hp hdn => ?_)
  · skip
    rcases hE with ⟨ht, rfl⟩ | ⟨ht, rfl⟩ | ⟨ht, rfl⟩
    · skip
      refine jj_catch F B.tab [] 0 14 17 13 [(0, 14, 21, 15), (0, 14, 25, 17)] rfl (fun _ h => absurd h List.not_mem_nil) (by decide) (by decide) cl_L_13 ca_B (fun q => ?_)
      refine jj_astore6 F dL_press_17 (hN _ (by decide)) rfl ?_
      refine jj_iconst F dL_press_19 ?_
      exact jj_iretH B dL_press_20 ⟨Nat.le_of_ble_eq_true rfl, Nat.le_of_ble_eq_true rfl⟩ ⟨_, rfl, ht.symm, G1, ad, g, hd, by rw [jj_u_id ho], rfl, (by rw [no_press (by omega)]; exact hR.c37), fun hz => absurd hz (by omega)⟩
    · skip
      refine jj_catch F B.tab [(0, 14, 17, 13)] 0 14 21 15 [(0, 14, 25, 17)] rfl (List.forall_mem_cons.mpr ⟨⟨by decide, _, cl_L_13, nn_AB⟩, (fun _ h => absurd h List.not_mem_nil)⟩) (by decide) (by decide) cl_L_15 ca_A (fun q => ?_)
      refine jj_astore6 F dL_press_21 (hN _ (by decide)) rfl ?_
      refine jj_iconst F dL_press_23 ?_
      exact jj_iretH B dL_press_24 ⟨Nat.le_of_ble_eq_true rfl, Nat.le_of_ble_eq_true rfl⟩ ⟨_, rfl, ht.symm, G1, ad, g, hd, by rw [jj_u_id ho], rfl, (by rw [no_press (by omega)]; exact hR.c37), fun hz => absurd hz (by omega)⟩
    · skip
      refine jj_catch F B.tab [(0, 14, 17, 13), (0, 14, 21, 15)] 0 14 25 17 [] rfl (List.forall_mem_cons.mpr ⟨⟨by decide, _, cl_L_13, nn_SB⟩, (List.forall_mem_cons.mpr ⟨⟨by decide, _, cl_L_15, nn_SA⟩, (fun _ h => absurd h List.not_mem_nil)⟩)⟩) (by decide) (by decide) cl_L_17 ca_S (fun q => ?_)
      refine jj_astore6 F dL_press_25 (hN _ (by decide)) rfl ?_
      refine jj_iconst F dL_press_27 ?_
      exact jj_iretH B dL_press_28 ⟨Nat.le_of_ble_eq_true rfl, Nat.le_of_ble_eq_true rfl⟩ ⟨_, rfl, ht.symm, G1, ad, g, hd, by rw [jj_u_id ho], rfl, (by rw [no_press (by omega)]; exact hR.c37), fun hz => absurd hz (by omega)⟩
  · skip
    obtain ⟨ht, rfl, ad', ha, hR'⟩ := hp
    have hno : Gn o = none := hdn.symm o (jj_sn ho)
    refine jj_jw ?_
    refine jj_i2l F (jI_rng _) dL_press_12 ?_
    refine jj_last F (n := 1) (g := g) ((jj_jr hno).trans ho) (by decide) (by decide) dL_press_13 ?_
    refine jj_goto F (tgt := 29) dL_press_14 rfl ?_
    refine jj_iconst F dL_press_29 ?_
    exact jj_iretH B dL_press_30 ⟨Nat.le_of_ble_eq_true rfl, Nat.le_of_ble_eq_true rfl⟩ ⟨_, rfl, ht.symm, Gn, ad', _, hdn, jj_ur hno, ha, hR', fun _ => ju_s⟩
abbrev hh_stamperIs : List (Nat × Nat × Nat × Nat) := [(0, 14, 17, 13), (0, 14, 21, 15)]
theorem cwL_stamperIs : Cond.codeWith yL_stamperIs cL_stamperIs 7 (some .int) hh_stamperIs ∈ jj_GW := jj_gw 663 (by decide +kernel) rfl
theorem lkw_stamperIs : jj_lkW RL 186 yL_stamperIs cL_stamperIs 7 (some .int) hh_stamperIs 6 := ⟨jj_nm_of (by decide +kernel), jj_gw 661 (by decide +kernel) rfl, jj_gw 662 (by decide +kernel) rfl, jj_gw 33 (by decide +kernel) rfl, cwL_stamperIs⟩
abbrev rm_L_stamperIs : Room := { frames := 8, cells := 3, slots := 18, locals := 137 }
set_option maxRecDepth 100000 in
set_option maxHeartbeats 400000 in
theorem w_stamperIs {l : Launch} {D : va_G} {ac : Nat → ClassId} (hl : l.stackTraces = false) {ad : Ad} {s e : Sg} {d m n x : Int} {G1 G2 : jj_G} (hR : Rep ad (cC ac ad s e) G1) (hd : jDj G1 G2) {o : Nat} {g : Int → Int} (ho : G2 o = some (jj_al (ac 1) 1 g)) {c : Int} (h : hInv s e c) (hd1 : jR d) (hm1 : jR m) (hn1 : jR n) (hx1 : jR x) (hj : ∀ k i, jR (s k i)) : jj_C l D ac yL_stamperIs (.codeWith yL_stamperIs cL_stamperIs 7 (some .int) hh_stamperIs) rm_L_stamperIs [.ref (ad 0 0), .int (jI d), .int (jI m), .int (jI n), .int (jI x), .ref o] (jj_j G1 G2) (jj_pi (wPost ac G2 o (ad 0 0) (t_stamperIs s d m n x) (jW (r_stamperIs s d m n x)) (n_stamperIs s d m n x) e)) jj_nx := by
  refine jj_ofH (own := RL) (lv0 := [some (.ref (ad 0 0)), some (.int (jI d)), some (.int (jI m)), some (.int (jI n)), some (.int (jI x)), some (.ref o), none]) hl (by decide +kernel) rfl rfl (Nat.le_of_ble_eq_true rfl) rfl cwL_stamperIs ?_
  intro X B hN hl0 hdg hac
  subst hl0; subst hdg; subst hac
  have F := B.F
  refine jj_aload5 F dL_stamperIs_0 ?_
  refine jj_iconst F dL_stamperIs_2 ?_
  refine jj_aload0 F dL_stamperIs_3 ?_
  refine jj_iload1 F dL_stamperIs_4 ?_
  refine jj_iload2 F dL_stamperIs_5 ?_
  refine jj_iload3 F dL_stamperIs_6 ?_
  refine jj_iload4 F dL_stamperIs_7 ?_
  refine jj_callFVi F hd (k := 3) (n := 18) (x8_stamperIs F.tr hR h.s hd1 hm1 hn1 hx1 ) lk_L_67 (hR.at (k := 0) (i := 0) cc_0) cs_8 rfl rfl ⟨Nat.le_of_ble_eq_true rfl, Nat.le_of_ble_eq_true rfl, Nat.le_of_ble_eq_true rfl, Nat.le_of_ble_eq_true rfl, Nat.le_of_ble_eq_true rfl⟩ ⟨Nat.le_of_ble_eq_true rfl, Nat.le_of_ble_eq_true rfl⟩ dL_stamperIs_9 (fun E hE => ?_) (fun r Gn hp hdn => ?_)
  · skip
    rcases hE with ⟨ht, rfl⟩ | ⟨ht, rfl⟩
    · skip
      refine jj_catch F B.tab [] 0 14 17 13 [(0, 14, 21, 15)] rfl (fun _ h => absurd h List.not_mem_nil) (by decide) (by decide) cl_L_13 ca_B (fun q => ?_)
      refine jj_astore6 F dL_stamperIs_17 (hN _ (by decide)) rfl ?_
      refine jj_iconst F dL_stamperIs_19 ?_
      exact jj_iretH B dL_stamperIs_20 ⟨Nat.le_of_ble_eq_true rfl, Nat.le_of_ble_eq_true rfl⟩ ⟨_, rfl, ht.symm, G1, ad, g, hd, by rw [jj_u_id ho], rfl, (by rw [no_stamperIs]; exact hR.c37), fun hz => absurd hz (by omega)⟩
    · skip
      refine jj_catch F B.tab [(0, 14, 17, 13)] 0 14 21 15 [] rfl (List.forall_mem_cons.mpr ⟨⟨by decide, _, cl_L_13, nn_AB⟩, (fun _ h => absurd h List.not_mem_nil)⟩) (by decide) (by decide) cl_L_15 ca_A (fun q => ?_)
      refine jj_astore6 F dL_stamperIs_21 (hN _ (by decide)) rfl ?_
      refine jj_iconst F dL_stamperIs_23 ?_
      exact jj_iretH B dL_stamperIs_24 ⟨Nat.le_of_ble_eq_true rfl, Nat.le_of_ble_eq_true rfl⟩ ⟨_, rfl, ht.symm, G1, ad, g, hd, by rw [jj_u_id ho], rfl, (by rw [no_stamperIs]; exact hR.c37), fun hz => absurd hz (by omega)⟩
  · skip
    obtain ⟨ht, rfl, ad', ha, hR'⟩ := hp
    have hno : Gn o = none := hdn.symm o (jj_sn ho)
    refine jj_jw ?_
    refine jj_i2l F (jI_rng _) dL_stamperIs_12 ?_
    refine jj_last F (n := 1) (g := g) ((jj_jr hno).trans ho) (by decide) (by decide) dL_stamperIs_13 ?_
    refine jj_goto F (tgt := 25) dL_stamperIs_14 rfl ?_
    refine jj_iconst F dL_stamperIs_25 ?_
    exact jj_iretH B dL_stamperIs_26 ⟨Nat.le_of_ble_eq_true rfl, Nat.le_of_ble_eq_true rfl⟩ ⟨_, rfl, ht.symm, Gn, ad', _, hdn, jj_ur hno, ha, hR', fun _ => ju_s⟩
abbrev hh_sell : List (Nat × Nat × Nat × Nat) := [(0, 14, 17, 13), (0, 14, 21, 15), (0, 14, 25, 17)]
theorem cwL_sell : Cond.codeWith yL_sell cL_sell 7 (some .int) hh_sell ∈ jj_GW := jj_gw 671 (by decide +kernel) rfl
theorem lkw_sell : jj_lkW RL 189 yL_sell cL_sell 7 (some .int) hh_sell 6 := ⟨jj_nm_of (by decide +kernel), jj_gw 669 (by decide +kernel) rfl, jj_gw 670 (by decide +kernel) rfl, jj_gw 33 (by decide +kernel) rfl, cwL_sell⟩
abbrev rm_L_sell : Room := { frames := 8, cells := 12, slots := 90, locals := 138 }
set_option maxRecDepth 100000 in
set_option maxHeartbeats 400000 in
theorem w_sell {l : Launch} {D : va_G} {ac : Nat → ClassId} (hl : l.stackTraces = false) {ad : Ad} {s e : Sg} {d m n x : Int} {G1 G2 : jj_G} (hR : Rep ad (cC ac ad s e) G1) (hd : jDj G1 G2) {o : Nat} {g : Int → Int} (ho : G2 o = some (jj_al (ac 1) 1 g)) {c : Int} (h : hInv s e c) (hd1 : jR d) (hm1 : jR m) (hn1 : jR n) (hx1 : jR x) (hj : ∀ k i, jR (s k i)) : jj_C l D ac yL_sell (.codeWith yL_sell cL_sell 7 (some .int) hh_sell) rm_L_sell [.ref (ad 0 0), .int (jI d), .int (jI m), .int (jI n), .int (jI x), .ref o] (jj_j G1 G2) (jj_pi (wPost ac G2 o (ad 0 0) (t_sell s d m n x) (jW (r_sell s d m n x)) (n_sell s d m n x) e)) jj_nx := by
  refine jj_ofH (own := RL) (lv0 := [some (.ref (ad 0 0)), some (.int (jI d)), some (.int (jI m)), some (.int (jI n)), some (.int (jI x)), some (.ref o), none]) hl (by decide +kernel) rfl rfl (Nat.le_of_ble_eq_true rfl) rfl cwL_sell ?_
  intro X B hN hl0 hdg hac
  subst hl0; subst hdg; subst hac
  have F := B.F
  refine jj_aload5 F dL_sell_0 ?_
  refine jj_iconst F dL_sell_2 ?_
  refine jj_aload0 F dL_sell_3 ?_
  refine jj_iload1 F dL_sell_4 ?_
  refine jj_iload2 F dL_sell_5 ?_
  refine jj_iload3 F dL_sell_6 ?_
  refine jj_iload4 F dL_sell_7 ?_
  refine jj_callFVi F hd (k := 12) (n := 90) (x8_sell F.tr hR h.s hd1 hm1 hn1 hx1 ) lk_L_70 (hR.at (k := 0) (i := 0) cc_0) cs_8 rfl rfl ⟨Nat.le_of_ble_eq_true rfl, Nat.le_of_ble_eq_true rfl, Nat.le_of_ble_eq_true rfl, Nat.le_of_ble_eq_true rfl, Nat.le_of_ble_eq_true rfl⟩ ⟨Nat.le_of_ble_eq_true rfl, Nat.le_of_ble_eq_true rfl⟩ dL_sell_9 (fun E hE => ?_) (fun r Gn hp hdn => ?_)
  · skip
    rcases hE with ⟨ht, rfl⟩ | ⟨ht, rfl⟩ | ⟨ht, rfl⟩
    · skip
      refine jj_catch F B.tab [] 0 14 17 13 [(0, 14, 21, 15), (0, 14, 25, 17)] rfl (fun _ h => absurd h List.not_mem_nil) (by decide) (by decide) cl_L_13 ca_B (fun q => ?_)
      refine jj_astore6 F dL_sell_17 (hN _ (by decide)) rfl ?_
      refine jj_iconst F dL_sell_19 ?_
      exact jj_iretH B dL_sell_20 ⟨Nat.le_of_ble_eq_true rfl, Nat.le_of_ble_eq_true rfl⟩ ⟨_, rfl, ht.symm, G1, ad, g, hd, by rw [jj_u_id ho], rfl, (by rw [no_sell (by omega)]; exact hR.c37), fun hz => absurd hz (by omega)⟩
    · skip
      refine jj_catch F B.tab [(0, 14, 17, 13)] 0 14 21 15 [(0, 14, 25, 17)] rfl (List.forall_mem_cons.mpr ⟨⟨by decide, _, cl_L_13, nn_AB⟩, (fun _ h => absurd h List.not_mem_nil)⟩) (by decide) (by decide) cl_L_15 ca_A (fun q => ?_)
      refine jj_astore6 F dL_sell_21 (hN _ (by decide)) rfl ?_
      refine jj_iconst F dL_sell_23 ?_
      exact jj_iretH B dL_sell_24 ⟨Nat.le_of_ble_eq_true rfl, Nat.le_of_ble_eq_true rfl⟩ ⟨_, rfl, ht.symm, G1, ad, g, hd, by rw [jj_u_id ho], rfl, (by rw [no_sell (by omega)]; exact hR.c37), fun hz => absurd hz (by omega)⟩
    · skip
      refine jj_catch F B.tab [(0, 14, 17, 13), (0, 14, 21, 15)] 0 14 25 17 [] rfl (List.forall_mem_cons.mpr ⟨⟨by decide, _, cl_L_13, nn_SB⟩, (List.forall_mem_cons.mpr ⟨⟨by decide, _, cl_L_15, nn_SA⟩, (fun _ h => absurd h List.not_mem_nil)⟩)⟩) (by decide) (by decide) cl_L_17 ca_S (fun q => ?_)
      refine jj_astore6 F dL_sell_25 (hN _ (by decide)) rfl ?_
      refine jj_iconst F dL_sell_27 ?_
      exact jj_iretH B dL_sell_28 ⟨Nat.le_of_ble_eq_true rfl, Nat.le_of_ble_eq_true rfl⟩ ⟨_, rfl, ht.symm, G1, ad, g, hd, by rw [jj_u_id ho], rfl, (by rw [no_sell (by omega)]; exact hR.c37), fun hz => absurd hz (by omega)⟩
  · skip
    obtain ⟨ht, rfl, ad', ha, hR'⟩ := hp
    have hno : Gn o = none := hdn.symm o (jj_sn ho)
    refine jj_jw ?_
    refine jj_i2l F (jI_rng _) dL_sell_12 ?_
    refine jj_last F (n := 1) (g := g) ((jj_jr hno).trans ho) (by decide) (by decide) dL_sell_13 ?_
    refine jj_goto F (tgt := 29) dL_sell_14 rfl ?_
    refine jj_iconst F dL_sell_29 ?_
    exact jj_iretH B dL_sell_30 ⟨Nat.le_of_ble_eq_true rfl, Nat.le_of_ble_eq_true rfl⟩ ⟨_, rfl, ht.symm, Gn, ad', _, hdn, jj_ur hno, ha, hR', fun _ => ju_s⟩
abbrev hh_back : List (Nat × Nat × Nat × Nat) := [(0, 14, 17, 13), (0, 14, 21, 15), (0, 14, 25, 17)]
theorem cwL_back : Cond.codeWith yL_back cL_back 7 (some .int) hh_back ∈ jj_GW := jj_gw 726 (by decide +kernel) rfl
theorem lkw_back : jj_lkW RL 192 yL_back cL_back 7 (some .int) hh_back 6 := ⟨jj_nm_of (by decide +kernel), jj_gw 724 (by decide +kernel) rfl, jj_gw 725 (by decide +kernel) rfl, jj_gw 33 (by decide +kernel) rfl, cwL_back⟩
abbrev rm_L_back : Room := { frames := 8, cells := 4, slots := 24, locals := 137 }
set_option maxRecDepth 100000 in
set_option maxHeartbeats 400000 in
theorem w_back {l : Launch} {D : va_G} {ac : Nat → ClassId} (hl : l.stackTraces = false) {ad : Ad} {s e : Sg} {d m n x : Int} {G1 G2 : jj_G} (hR : Rep ad (cC ac ad s e) G1) (hd : jDj G1 G2) {o : Nat} {g : Int → Int} (ho : G2 o = some (jj_al (ac 1) 1 g)) {c : Int} (h : hInv s e c) (hd1 : jR d) (hm1 : jR m) (hn1 : jR n) (hx1 : jR x) (hj : ∀ k i, jR (s k i)) : jj_C l D ac yL_back (.codeWith yL_back cL_back 7 (some .int) hh_back) rm_L_back [.ref (ad 0 0), .int (jI d), .int (jI m), .int (jI n), .int (jI x), .ref o] (jj_j G1 G2) (jj_pi (wPost ac G2 o (ad 0 0) (t_back s d m n x) (jW (r_back s d m n x)) (n_back s d m n x) e)) jj_nx := by
  refine jj_ofH (own := RL) (lv0 := [some (.ref (ad 0 0)), some (.int (jI d)), some (.int (jI m)), some (.int (jI n)), some (.int (jI x)), some (.ref o), none]) hl (by decide +kernel) rfl rfl (Nat.le_of_ble_eq_true rfl) rfl cwL_back ?_
  intro X B hN hl0 hdg hac
  subst hl0; subst hdg; subst hac
  have F := B.F
  refine jj_aload5 F dL_back_0 ?_
  refine jj_iconst F dL_back_2 ?_
  refine jj_aload0 F dL_back_3 ?_
  refine jj_iload1 F dL_back_4 ?_
  refine jj_iload2 F dL_back_5 ?_
  refine jj_iload3 F dL_back_6 ?_
  refine jj_iload4 F dL_back_7 ?_
  refine jj_callFVi F hd (k := 4) (n := 24) (x8_back F.tr hR h.s hd1 hm1 hn1 hx1 hj h.K) lk_L_73 (hR.at (k := 0) (i := 0) cc_0) cs_8 rfl rfl ⟨Nat.le_of_ble_eq_true rfl, Nat.le_of_ble_eq_true rfl, Nat.le_of_ble_eq_true rfl, Nat.le_of_ble_eq_true rfl, Nat.le_of_ble_eq_true rfl⟩ ⟨Nat.le_of_ble_eq_true rfl, Nat.le_of_ble_eq_true rfl⟩ dL_back_9 (fun E hE => ?_) (fun r Gn hp hdn => ?_)
  · skip
    rcases hE with ⟨ht, rfl⟩ | ⟨ht, rfl⟩ | ⟨ht, rfl⟩
    · skip
      refine jj_catch F B.tab [] 0 14 17 13 [(0, 14, 21, 15), (0, 14, 25, 17)] rfl (fun _ h => absurd h List.not_mem_nil) (by decide) (by decide) cl_L_13 ca_B (fun q => ?_)
      refine jj_astore6 F dL_back_17 (hN _ (by decide)) rfl ?_
      refine jj_iconst F dL_back_19 ?_
      exact jj_iretH B dL_back_20 ⟨Nat.le_of_ble_eq_true rfl, Nat.le_of_ble_eq_true rfl⟩ ⟨_, rfl, ht.symm, G1, ad, g, hd, by rw [jj_u_id ho], rfl, (by rw [no_back (by omega)]; exact hR.c37), fun hz => absurd hz (by omega)⟩
    · skip
      refine jj_catch F B.tab [(0, 14, 17, 13)] 0 14 21 15 [(0, 14, 25, 17)] rfl (List.forall_mem_cons.mpr ⟨⟨by decide, _, cl_L_13, nn_AB⟩, (fun _ h => absurd h List.not_mem_nil)⟩) (by decide) (by decide) cl_L_15 ca_A (fun q => ?_)
      refine jj_astore6 F dL_back_21 (hN _ (by decide)) rfl ?_
      refine jj_iconst F dL_back_23 ?_
      exact jj_iretH B dL_back_24 ⟨Nat.le_of_ble_eq_true rfl, Nat.le_of_ble_eq_true rfl⟩ ⟨_, rfl, ht.symm, G1, ad, g, hd, by rw [jj_u_id ho], rfl, (by rw [no_back (by omega)]; exact hR.c37), fun hz => absurd hz (by omega)⟩
    · skip
      refine jj_catch F B.tab [(0, 14, 17, 13), (0, 14, 21, 15)] 0 14 25 17 [] rfl (List.forall_mem_cons.mpr ⟨⟨by decide, _, cl_L_13, nn_SB⟩, (List.forall_mem_cons.mpr ⟨⟨by decide, _, cl_L_15, nn_SA⟩, (fun _ h => absurd h List.not_mem_nil)⟩)⟩) (by decide) (by decide) cl_L_17 ca_S (fun q => ?_)
      refine jj_astore6 F dL_back_25 (hN _ (by decide)) rfl ?_
      refine jj_iconst F dL_back_27 ?_
      exact jj_iretH B dL_back_28 ⟨Nat.le_of_ble_eq_true rfl, Nat.le_of_ble_eq_true rfl⟩ ⟨_, rfl, ht.symm, G1, ad, g, hd, by rw [jj_u_id ho], rfl, (by rw [no_back (by omega)]; exact hR.c37), fun hz => absurd hz (by omega)⟩
  · skip
    obtain ⟨ht, rfl, ad', ha, hR'⟩ := hp
    have hno : Gn o = none := hdn.symm o (jj_sn ho)
    refine jj_jw ?_
    refine jj_i2l F (jI_rng _) dL_back_12 ?_
    refine jj_last F (n := 1) (g := g) ((jj_jr hno).trans ho) (by decide) (by decide) dL_back_13 ?_
    refine jj_goto F (tgt := 29) dL_back_14 rfl ?_
    refine jj_iconst F dL_back_29 ?_
    exact jj_iretH B dL_back_30 ⟨Nat.le_of_ble_eq_true rfl, Nat.le_of_ble_eq_true rfl⟩ ⟨_, rfl, ht.symm, Gn, ad', _, hdn, jj_ur hno, ha, hR', fun _ => ju_s⟩
abbrev hh_disc : List (Nat × Nat × Nat × Nat) := [(0, 12, 15, 13), (0, 12, 19, 17)]
theorem cwL_disc : Cond.codeWith yL_disc cL_disc 6 (some .int) hh_disc ∈ jj_GW := jj_gw 748 (by decide +kernel) rfl
theorem lkw_disc : jj_lkW RL 195 yL_disc cL_disc 6 (some .int) hh_disc 5 := ⟨jj_nm_of (by decide +kernel), jj_gw 746 (by decide +kernel) rfl, jj_gw 747 (by decide +kernel) rfl, jj_gw 33 (by decide +kernel) rfl, cwL_disc⟩
abbrev rm_L_disc : Room := { frames := 8, cells := 5, slots := 40, locals := 138 }
set_option maxRecDepth 100000 in
set_option maxHeartbeats 400000 in
theorem w_disc {l : Launch} {D : va_G} {ac : Nat → ClassId} (hl : l.stackTraces = false) {ad : Ad} {s e : Sg} {d m n : Int} {G1 G2 : jj_G} (hR : Rep ad (cC ac ad s e) G1) (hd : jDj G1 G2) {o : Nat} {g : Int → Int} (ho : G2 o = some (jj_al (ac 1) 1 g)) {c : Int} (h : hInv s e c) (hd1 : jR d) (hm1 : jR m) (hn1 : jR n) (hj : ∀ k i, jR (s k i)) : jj_C l D ac yL_disc (.codeWith yL_disc cL_disc 6 (some .int) hh_disc) rm_L_disc [.ref (ad 0 0), .int (jI d), .int (jI m), .int (jI n), .ref o] (jj_j G1 G2) (jj_pi (wPost ac G2 o (ad 0 0) (t_disc s d m n) (jW (r_disc s d m n)) (n_disc s d m n) e)) jj_nx := by
  refine jj_ofH (own := RL) (lv0 := [some (.ref (ad 0 0)), some (.int (jI d)), some (.int (jI m)), some (.int (jI n)), some (.ref o), none]) hl (by decide +kernel) rfl rfl (Nat.le_of_ble_eq_true rfl) rfl cwL_disc ?_
  intro X B hN hl0 hdg hac
  subst hl0; subst hdg; subst hac
  have F := B.F
  refine jj_aload4 F dL_disc_0 ?_
  refine jj_iconst F dL_disc_2 ?_
  refine jj_aload0 F dL_disc_3 ?_
  refine jj_iload1 F dL_disc_4 ?_
  refine jj_iload2 F dL_disc_5 ?_
  refine jj_iload3 F dL_disc_6 ?_
  refine jj_callFVi F hd (k := 5) (n := 40) (x8_disc F.tr hR h.s hd1 hm1 hn1 ) lk_L_76 (hR.at (k := 0) (i := 0) cc_0) cs_8 rfl rfl ⟨Nat.le_of_ble_eq_true rfl, Nat.le_of_ble_eq_true rfl, Nat.le_of_ble_eq_true rfl, Nat.le_of_ble_eq_true rfl, Nat.le_of_ble_eq_true rfl⟩ ⟨Nat.le_of_ble_eq_true rfl, Nat.le_of_ble_eq_true rfl⟩ dL_disc_7 (fun E hE => ?_) (fun r Gn hp hdn => ?_)
  · skip
    rcases hE with ⟨ht, rfl⟩ | ⟨ht, rfl⟩
    · skip
      refine jj_catch F B.tab [] 0 12 15 13 [(0, 12, 19, 17)] rfl (fun _ h => absurd h List.not_mem_nil) (by decide) (by decide) cl_L_13 ca_B (fun q => ?_)
      refine jj_astore5 F dL_disc_15 (hN _ (by decide)) rfl ?_
      refine jj_iconst F dL_disc_17 ?_
      exact jj_iretH B dL_disc_18 ⟨Nat.le_of_ble_eq_true rfl, Nat.le_of_ble_eq_true rfl⟩ ⟨_, rfl, ht.symm, G1, ad, g, hd, by rw [jj_u_id ho], rfl, (by rw [no_disc (by omega)]; exact hR.c37), fun hz => absurd hz (by omega)⟩
    · skip
      refine jj_catch F B.tab [(0, 12, 15, 13)] 0 12 19 17 [] rfl (List.forall_mem_cons.mpr ⟨⟨by decide, _, cl_L_13, nn_SB⟩, (fun _ h => absurd h List.not_mem_nil)⟩) (by decide) (by decide) cl_L_17 ca_S (fun q => ?_)
      refine jj_astore5 F dL_disc_19 (hN _ (by decide)) rfl ?_
      refine jj_iconst F dL_disc_21 ?_
      exact jj_iretH B dL_disc_22 ⟨Nat.le_of_ble_eq_true rfl, Nat.le_of_ble_eq_true rfl⟩ ⟨_, rfl, ht.symm, G1, ad, g, hd, by rw [jj_u_id ho], rfl, (by rw [no_disc (by omega)]; exact hR.c37), fun hz => absurd hz (by omega)⟩
  · skip
    obtain ⟨ht, rfl, ad', ha, hR'⟩ := hp
    have hno : Gn o = none := hdn.symm o (jj_sn ho)
    refine jj_jw ?_
    refine jj_i2l F (jI_rng _) dL_disc_10 ?_
    refine jj_last F (n := 1) (g := g) ((jj_jr hno).trans ho) (by decide) (by decide) dL_disc_11 ?_
    refine jj_goto F (tgt := 23) dL_disc_12 rfl ?_
    refine jj_iconst F dL_disc_23 ?_
    exact jj_iretH B dL_disc_24 ⟨Nat.le_of_ble_eq_true rfl, Nat.le_of_ble_eq_true rfl⟩ ⟨_, rfl, ht.symm, Gn, ad', _, hdn, jj_ur hno, ha, hR', fun _ => ju_s⟩
abbrev hh_play : List (Nat × Nat × Nat × Nat) := [(0, 12, 15, 13), (0, 12, 19, 15)]
theorem cwL_play : Cond.codeWith yL_play cL_play 6 (some .int) hh_play ∈ jj_GW := jj_gw 774 (by decide +kernel) rfl
theorem lkw_play : jj_lkW RL 198 yL_play cL_play 6 (some .int) hh_play 5 := ⟨jj_nm_of (by decide +kernel), jj_gw 772 (by decide +kernel) rfl, jj_gw 773 (by decide +kernel) rfl, jj_gw 33 (by decide +kernel) rfl, cwL_play⟩
abbrev rm_L_play : Room := { frames := 8, cells := 2, slots := 12, locals := 136 }
set_option maxRecDepth 100000 in
set_option maxHeartbeats 400000 in
theorem w_play {l : Launch} {D : va_G} {ac : Nat → ClassId} (hl : l.stackTraces = false) {ad : Ad} {s e : Sg} {d n x : Int} {G1 G2 : jj_G} (hR : Rep ad (cC ac ad s e) G1) (hd : jDj G1 G2) {o : Nat} {g : Int → Int} (ho : G2 o = some (jj_al (ac 1) 1 g)) {c : Int} (h : hInv s e c) (hd1 : jR d) (hn1 : jR n) (hx1 : jR x) (hj : ∀ k i, jR (s k i)) : jj_C l D ac yL_play (.codeWith yL_play cL_play 6 (some .int) hh_play) rm_L_play [.ref (ad 0 0), .int (jI d), .int (jI n), .int (jI x), .ref o] (jj_j G1 G2) (jj_pi (wPost ac G2 o (ad 0 0) (t_play s d n x) (jW (r_play s d n x)) (n_play s d n x) e)) jj_nx := by
  refine jj_ofH (own := RL) (lv0 := [some (.ref (ad 0 0)), some (.int (jI d)), some (.int (jI n)), some (.int (jI x)), some (.ref o), none]) hl (by decide +kernel) rfl rfl (Nat.le_of_ble_eq_true rfl) rfl cwL_play ?_
  intro X B hN hl0 hdg hac
  subst hl0; subst hdg; subst hac
  have F := B.F
  refine jj_aload4 F dL_play_0 ?_
  refine jj_iconst F dL_play_2 ?_
  refine jj_aload0 F dL_play_3 ?_
  refine jj_iload1 F dL_play_4 ?_
  refine jj_iload2 F dL_play_5 ?_
  refine jj_iload3 F dL_play_6 ?_
  refine jj_callFVi F hd (k := 2) (n := 12) (x8_play F.tr hR h.s hd1 hn1 hx1 ) lk_L_79 (hR.at (k := 0) (i := 0) cc_0) cs_8 rfl rfl ⟨Nat.le_of_ble_eq_true rfl, Nat.le_of_ble_eq_true rfl, Nat.le_of_ble_eq_true rfl, Nat.le_of_ble_eq_true rfl, Nat.le_of_ble_eq_true rfl⟩ ⟨Nat.le_of_ble_eq_true rfl, Nat.le_of_ble_eq_true rfl⟩ dL_play_7 (fun E hE => ?_) (fun r Gn hp hdn => ?_)
  · skip
    rcases hE with ⟨ht, rfl⟩ | ⟨ht, rfl⟩
    · skip
      refine jj_catch F B.tab [] 0 12 15 13 [(0, 12, 19, 15)] rfl (fun _ h => absurd h List.not_mem_nil) (by decide) (by decide) cl_L_13 ca_B (fun q => ?_)
      refine jj_astore5 F dL_play_15 (hN _ (by decide)) rfl ?_
      refine jj_iconst F dL_play_17 ?_
      exact jj_iretH B dL_play_18 ⟨Nat.le_of_ble_eq_true rfl, Nat.le_of_ble_eq_true rfl⟩ ⟨_, rfl, ht.symm, G1, ad, g, hd, by rw [jj_u_id ho], rfl, (by rw [no_play (by omega)]; exact hR.c37), fun hz => absurd hz (by omega)⟩
    · skip
      refine jj_catch F B.tab [(0, 12, 15, 13)] 0 12 19 15 [] rfl (List.forall_mem_cons.mpr ⟨⟨by decide, _, cl_L_13, nn_AB⟩, (fun _ h => absurd h List.not_mem_nil)⟩) (by decide) (by decide) cl_L_15 ca_A (fun q => ?_)
      refine jj_astore5 F dL_play_19 (hN _ (by decide)) rfl ?_
      refine jj_iconst F dL_play_21 ?_
      exact jj_iretH B dL_play_22 ⟨Nat.le_of_ble_eq_true rfl, Nat.le_of_ble_eq_true rfl⟩ ⟨_, rfl, ht.symm, G1, ad, g, hd, by rw [jj_u_id ho], rfl, (by rw [no_play (by omega)]; exact hR.c37), fun hz => absurd hz (by omega)⟩
  · skip
    obtain ⟨ht, rfl, ad', ha, hR'⟩ := hp
    have hno : Gn o = none := hdn.symm o (jj_sn ho)
    refine jj_jw ?_
    refine jj_i2l F (jI_rng _) dL_play_10 ?_
    refine jj_last F (n := 1) (g := g) ((jj_jr hno).trans ho) (by decide) (by decide) dL_play_11 ?_
    refine jj_goto F (tgt := 23) dL_play_12 rfl ?_
    refine jj_iconst F dL_play_23 ?_
    exact jj_iretH B dL_play_24 ⟨Nat.le_of_ble_eq_true rfl, Nat.le_of_ble_eq_true rfl⟩ ⟨_, rfl, ht.symm, Gn, ad', _, hdn, jj_ur hno, ha, hR', fun _ => ju_s⟩
abbrev hh_scratch : List (Nat × Nat × Nat × Nat) := [(0, 10, 13, 13)]
theorem cwL_scratch : Cond.codeWith yL_scratch cL_scratch 5 (some .int) hh_scratch ∈ jj_GW := jj_gw 787 (by decide +kernel) rfl
theorem lkw_scratch : jj_lkW RL 201 yL_scratch cL_scratch 5 (some .int) hh_scratch 4 := ⟨jj_nm_of (by decide +kernel), jj_gw 785 (by decide +kernel) rfl, jj_gw 786 (by decide +kernel) rfl, jj_gw 33 (by decide +kernel) rfl, cwL_scratch⟩
abbrev rm_L_scratch : Room := { frames := 8, cells := 3, slots := 18, locals := 135 }
set_option maxRecDepth 100000 in
set_option maxHeartbeats 400000 in
theorem w_scratch {l : Launch} {D : va_G} {ac : Nat → ClassId} (hl : l.stackTraces = false) {ad : Ad} {s e : Sg} {d p : Int} {G1 G2 : jj_G} (hR : Rep ad (cC ac ad s e) G1) (hd : jDj G1 G2) {o : Nat} {g : Int → Int} (ho : G2 o = some (jj_al (ac 1) 1 g)) {c : Int} (h : hInv s e c) (hd1 : jR d) (hp1 : jR p) (hj : ∀ k i, jR (s k i)) : jj_C l D ac yL_scratch (.codeWith yL_scratch cL_scratch 5 (some .int) hh_scratch) rm_L_scratch [.ref (ad 0 0), .int (jI d), .int (jI p), .ref o] (jj_j G1 G2) (jj_pi (wPost ac G2 o (ad 0 0) (t_scr s d p) (jW (r_scratch s d p)) (n_scratch s d p) e)) jj_nx := by
  refine jj_ofH (own := RL) (lv0 := [some (.ref (ad 0 0)), some (.int (jI d)), some (.int (jI p)), some (.ref o), none]) hl (by decide +kernel) rfl rfl (Nat.le_of_ble_eq_true rfl) rfl cwL_scratch ?_
  intro X B hN hl0 hdg hac
  subst hl0; subst hdg; subst hac
  have F := B.F
  refine jj_aload3 F dL_scratch_0 ?_
  refine jj_iconst F dL_scratch_1 ?_
  refine jj_aload0 F dL_scratch_2 ?_
  refine jj_iload1 F dL_scratch_3 ?_
  refine jj_iload2 F dL_scratch_4 ?_
  refine jj_callFVi F hd (k := 3) (n := 18) (x8_scratch F.tr hR h.s hd1 hp1 ) lk_L_82 (hR.at (k := 0) (i := 0) cc_0) cs_8 rfl rfl ⟨Nat.le_of_ble_eq_true rfl, Nat.le_of_ble_eq_true rfl, Nat.le_of_ble_eq_true rfl, Nat.le_of_ble_eq_true rfl, Nat.le_of_ble_eq_true rfl⟩ ⟨Nat.le_of_ble_eq_true rfl, Nat.le_of_ble_eq_true rfl⟩ dL_scratch_5 (fun E hE => ?_) (fun r Gn hp hdn => ?_)
  · skip
    obtain ⟨ht, rfl⟩ := hE
    refine jj_catch F B.tab [] 0 10 13 13 [] rfl (fun _ h => absurd h List.not_mem_nil) (by decide) (by decide) cl_L_13 ca_B (fun q => ?_)
    refine jj_astore4 F dL_scratch_13 (hN _ (by decide)) rfl ?_
    refine jj_iconst F dL_scratch_15 ?_
    exact jj_iretH B dL_scratch_16 ⟨Nat.le_of_ble_eq_true rfl, Nat.le_of_ble_eq_true rfl⟩ ⟨_, rfl, ht.symm, G1, ad, g, hd, by rw [jj_u_id ho], rfl, (by rw [no_scratch (by omega)]; exact hR.c37), fun hz => absurd hz (by omega)⟩
  · skip
    obtain ⟨ht, rfl, ad', ha, hR'⟩ := hp
    have hno : Gn o = none := hdn.symm o (jj_sn ho)
    refine jj_jw ?_
    refine jj_i2l F (jI_rng _) dL_scratch_8 ?_
    refine jj_last F (n := 1) (g := g) ((jj_jr hno).trans ho) (by decide) (by decide) dL_scratch_9 ?_
    refine jj_goto F (tgt := 17) dL_scratch_10 rfl ?_
    refine jj_iconst F dL_scratch_17 ?_
    exact jj_iretH B dL_scratch_18 ⟨Nat.le_of_ble_eq_true rfl, Nat.le_of_ble_eq_true rfl⟩ ⟨_, rfl, ht.symm, Gn, ad', _, hdn, jj_ur hno, ha, hR', fun _ => ju_s⟩
abbrev hh_noise : List (Nat × Nat × Nat × Nat) := [(0, 10, 13, 13)]
theorem cwL_noise : Cond.codeWith yL_noise cL_noise 5 (some .int) hh_noise ∈ jj_GW := jj_gw 806 (by decide +kernel) rfl
theorem lkw_noise : jj_lkW RL 204 yL_noise cL_noise 5 (some .int) hh_noise 4 := ⟨jj_nm_of (by decide +kernel), jj_gw 804 (by decide +kernel) rfl, jj_gw 805 (by decide +kernel) rfl, jj_gw 33 (by decide +kernel) rfl, cwL_noise⟩
abbrev rm_L_noise : Room := { frames := 8, cells := 3, slots := 18, locals := 135 }
set_option maxRecDepth 100000 in
set_option maxHeartbeats 400000 in
theorem w_noise {l : Launch} {D : va_G} {ac : Nat → ClassId} (hl : l.stackTraces = false) {ad : Ad} {s e : Sg} {d p : Int} {G1 G2 : jj_G} (hR : Rep ad (cC ac ad s e) G1) (hd : jDj G1 G2) {o : Nat} {g : Int → Int} (ho : G2 o = some (jj_al (ac 1) 1 g)) {c : Int} (h : hInv s e c) (hd1 : jR d) (hp1 : jR p) (hj : ∀ k i, jR (s k i)) : jj_C l D ac yL_noise (.codeWith yL_noise cL_noise 5 (some .int) hh_noise) rm_L_noise [.ref (ad 0 0), .int (jI d), .int (jI p), .ref o] (jj_j G1 G2) (jj_pi (wPost ac G2 o (ad 0 0) (t_scr s d p) (jW (r_noise s d p)) (n_noise s d p) e)) jj_nx := by
  refine jj_ofH (own := RL) (lv0 := [some (.ref (ad 0 0)), some (.int (jI d)), some (.int (jI p)), some (.ref o), none]) hl (by decide +kernel) rfl rfl (Nat.le_of_ble_eq_true rfl) rfl cwL_noise ?_
  intro X B hN hl0 hdg hac
  subst hl0; subst hdg; subst hac
  have F := B.F
  refine jj_aload3 F dL_noise_0 ?_
  refine jj_iconst F dL_noise_1 ?_
  refine jj_aload0 F dL_noise_2 ?_
  refine jj_iload1 F dL_noise_3 ?_
  refine jj_iload2 F dL_noise_4 ?_
  refine jj_callFVi F hd (k := 3) (n := 18) (x8_noise F.tr hR h.s hd1 hp1 ) lk_L_85 (hR.at (k := 0) (i := 0) cc_0) cs_8 rfl rfl ⟨Nat.le_of_ble_eq_true rfl, Nat.le_of_ble_eq_true rfl, Nat.le_of_ble_eq_true rfl, Nat.le_of_ble_eq_true rfl, Nat.le_of_ble_eq_true rfl⟩ ⟨Nat.le_of_ble_eq_true rfl, Nat.le_of_ble_eq_true rfl⟩ dL_noise_5 (fun E hE => ?_) (fun r Gn hp hdn => ?_)
  · skip
    obtain ⟨ht, rfl⟩ := hE
    refine jj_catch F B.tab [] 0 10 13 13 [] rfl (fun _ h => absurd h List.not_mem_nil) (by decide) (by decide) cl_L_13 ca_B (fun q => ?_)
    refine jj_astore4 F dL_noise_13 (hN _ (by decide)) rfl ?_
    refine jj_iconst F dL_noise_15 ?_
    exact jj_iretH B dL_noise_16 ⟨Nat.le_of_ble_eq_true rfl, Nat.le_of_ble_eq_true rfl⟩ ⟨_, rfl, ht.symm, G1, ad, g, hd, by rw [jj_u_id ho], rfl, (by rw [no_noise]; exact hR.c37), fun hz => absurd hz (by omega)⟩
  · skip
    obtain ⟨ht, rfl, ad', ha, hR'⟩ := hp
    have hno : Gn o = none := hdn.symm o (jj_sn ho)
    refine jj_jw ?_
    refine jj_i2l F (jI_rng _) dL_noise_8 ?_
    refine jj_last F (n := 1) (g := g) ((jj_jr hno).trans ho) (by decide) (by decide) dL_noise_9 ?_
    refine jj_goto F (tgt := 17) dL_noise_10 rfl ?_
    refine jj_iconst F dL_noise_17 ?_
    exact jj_iretH B dL_noise_18 ⟨Nat.le_of_ble_eq_true rfl, Nat.le_of_ble_eq_true rfl⟩ ⟨_, rfl, ht.symm, Gn, ad', _, hdn, jj_ur hno, ha, hR', fun _ => ju_s⟩
abbrev hh_grade : List (Nat × Nat × Nat × Nat) := [(0, 9, 12, 13)]
theorem cwL_grade : Cond.codeWith yL_grade cL_grade 4 (some .int) hh_grade ∈ jj_GW := jj_gw 813 (by decide +kernel) rfl
theorem lkw_grade : jj_lkW RL 207 yL_grade cL_grade 4 (some .int) hh_grade 3 := ⟨jj_nm_of (by decide +kernel), jj_gw 811 (by decide +kernel) rfl, jj_gw 812 (by decide +kernel) rfl, jj_gw 33 (by decide +kernel) rfl, cwL_grade⟩
abbrev rm_L_grade : Room := { frames := 8, cells := 2, slots := 12, locals := 134 }
set_option maxRecDepth 100000 in
set_option maxHeartbeats 400000 in
theorem w_grade {l : Launch} {D : va_G} {ac : Nat → ClassId} (hl : l.stackTraces = false) {ad : Ad} {s e : Sg} {d : Int} {G1 G2 : jj_G} (hR : Rep ad (cC ac ad s e) G1) (hd : jDj G1 G2) {o : Nat} {g : Int → Int} (ho : G2 o = some (jj_al (ac 1) 1 g)) {c : Int} (h : hInv s e c) (hd1 : jR d) (hj : ∀ k i, jR (s k i)) : jj_C l D ac yL_grade (.codeWith yL_grade cL_grade 4 (some .int) hh_grade) rm_L_grade [.ref (ad 0 0), .int (jI d), .ref o] (jj_j G1 G2) (jj_pi (wPost ac G2 o (ad 0 0) (t_grade s d) (jW (r_grade s d)) (n_grade s d) e)) jj_nx := by
  refine jj_ofH (own := RL) (lv0 := [some (.ref (ad 0 0)), some (.int (jI d)), some (.ref o), none]) hl (by decide +kernel) rfl rfl (Nat.le_of_ble_eq_true rfl) rfl cwL_grade ?_
  intro X B hN hl0 hdg hac
  subst hl0; subst hdg; subst hac
  have F := B.F
  refine jj_aload2 F dL_grade_0 ?_
  refine jj_iconst F dL_grade_1 ?_
  refine jj_aload0 F dL_grade_2 ?_
  refine jj_iload1 F dL_grade_3 ?_
  refine jj_callFVi F hd (k := 2) (n := 12) (x8_grade F.tr hR h.s hd1 ) lk_L_88 (hR.at (k := 0) (i := 0) cc_0) cs_8 rfl rfl ⟨Nat.le_of_ble_eq_true rfl, Nat.le_of_ble_eq_true rfl, Nat.le_of_ble_eq_true rfl, Nat.le_of_ble_eq_true rfl, Nat.le_of_ble_eq_true rfl⟩ ⟨Nat.le_of_ble_eq_true rfl, Nat.le_of_ble_eq_true rfl⟩ dL_grade_4 (fun E hE => ?_) (fun r Gn hp hdn => ?_)
  · skip
    obtain ⟨ht, rfl⟩ := hE
    refine jj_catch F B.tab [] 0 9 12 13 [] rfl (fun _ h => absurd h List.not_mem_nil) (by decide) (by decide) cl_L_13 ca_B (fun q => ?_)
    refine jj_astore3 F dL_grade_12 (hN _ (by decide)) rfl ?_
    refine jj_iconst F dL_grade_13 ?_
    exact jj_iretH B dL_grade_14 ⟨Nat.le_of_ble_eq_true rfl, Nat.le_of_ble_eq_true rfl⟩ ⟨_, rfl, ht.symm, G1, ad, g, hd, by rw [jj_u_id ho], rfl, (by rw [no_grade]; exact hR.c37), fun hz => absurd hz (by omega)⟩
  · skip
    obtain ⟨ht, rfl, ad', ha, hR'⟩ := hp
    have hno : Gn o = none := hdn.symm o (jj_sn ho)
    refine jj_jw ?_
    refine jj_i2l F (jI_rng _) dL_grade_7 ?_
    refine jj_last F (n := 1) (g := g) ((jj_jr hno).trans ho) (by decide) (by decide) dL_grade_8 ?_
    refine jj_goto F (tgt := 15) dL_grade_9 rfl ?_
    refine jj_iconst F dL_grade_15 ?_
    exact jj_iretH B dL_grade_16 ⟨Nat.le_of_ble_eq_true rfl, Nat.le_of_ble_eq_true rfl⟩ ⟨_, rfl, ht.symm, Gn, ad', _, hdn, jj_ur hno, ha, hR', fun _ => ju_s⟩
abbrev hh_join : List (Nat × Nat × Nat × Nat) := [(0, 10, 13, 13), (0, 10, 17, 15), (0, 10, 21, 17)]
theorem cwL_join : Cond.codeWith yL_join cL_join 5 (some .int) hh_join ∈ jj_GW := jj_gw 825 (by decide +kernel) rfl
theorem lkw_join : jj_lkW RL 210 yL_join cL_join 5 (some .int) hh_join 4 := ⟨jj_nm_of (by decide +kernel), jj_gw 823 (by decide +kernel) rfl, jj_gw 824 (by decide +kernel) rfl, jj_gw 33 (by decide +kernel) rfl, cwL_join⟩
abbrev rm_L_join : Room := { frames := 9, cells := 3, slots := 18, locals := 160 }
set_option maxRecDepth 100000 in
set_option maxHeartbeats 400000 in
theorem w_join {l : Launch} {D : va_G} {ac : Nat → ClassId} (hl : l.stackTraces = false) {ad : Ad} {s e : Sg} {q p : Int} {G1 G2 : jj_G} (hR : Rep ad (cC ac ad s e) G1) (hd : jDj G1 G2) {o : Nat} {g : Int → Int} (ho : G2 o = some (jj_al (ac 1) 1 g)) {c : Int} (h : hInv s e c) (hq1 : jR q) (hp1 : jR p) (hj : ∀ k i, jR (s k i)) : jj_C l D ac yL_join (.codeWith yL_join cL_join 5 (some .int) hh_join) rm_L_join [.ref (ad 0 0), .int (jI q), .int (jI p), .ref o] (jj_j G1 G2) (jj_pi (wPost ac G2 o (ad 0 0) (t_join s q p) (jW (r_join s q p)) (n_join s q p) e)) jj_nx := by
  refine jj_ofH (own := RL) (lv0 := [some (.ref (ad 0 0)), some (.int (jI q)), some (.int (jI p)), some (.ref o), none]) hl (by decide +kernel) rfl rfl (Nat.le_of_ble_eq_true rfl) rfl cwL_join ?_
  intro X B hN hl0 hdg hac
  subst hl0; subst hdg; subst hac
  have F := B.F
  refine jj_aload3 F dL_join_0 ?_
  refine jj_iconst F dL_join_1 ?_
  refine jj_aload0 F dL_join_2 ?_
  refine jj_iload1 F dL_join_3 ?_
  refine jj_iload2 F dL_join_4 ?_
  refine jj_callFVi F hd (k := 3) (n := 18) (x8_join F.tr hR h.s hq1 hp1 ) lk_L_91 (hR.at (k := 0) (i := 0) cc_0) cs_8 rfl rfl ⟨Nat.le_of_ble_eq_true rfl, Nat.le_of_ble_eq_true rfl, Nat.le_of_ble_eq_true rfl, Nat.le_of_ble_eq_true rfl, Nat.le_of_ble_eq_true rfl⟩ ⟨Nat.le_of_ble_eq_true rfl, Nat.le_of_ble_eq_true rfl⟩ dL_join_5 (fun E hE => ?_) (fun r Gn hp hdn => ?_)
  · skip
    rcases hE with ⟨ht, rfl⟩ | ⟨ht, rfl⟩ | ⟨ht, rfl⟩
    · skip
      refine jj_catch F B.tab [] 0 10 13 13 [(0, 10, 17, 15), (0, 10, 21, 17)] rfl (fun _ h => absurd h List.not_mem_nil) (by decide) (by decide) cl_L_13 ca_B (fun q => ?_)
      refine jj_astore4 F dL_join_13 (hN _ (by decide)) rfl ?_
      refine jj_iconst F dL_join_15 ?_
      exact jj_iretH B dL_join_16 ⟨Nat.le_of_ble_eq_true rfl, Nat.le_of_ble_eq_true rfl⟩ ⟨_, rfl, ht.symm, G1, ad, g, hd, by rw [jj_u_id ho], rfl, (by rw [no_join]; exact hR.c37), fun hz => absurd hz (by omega)⟩
    · skip
      refine jj_catch F B.tab [(0, 10, 13, 13)] 0 10 17 15 [(0, 10, 21, 17)] rfl (List.forall_mem_cons.mpr ⟨⟨by decide, _, cl_L_13, nn_AB⟩, (fun _ h => absurd h List.not_mem_nil)⟩) (by decide) (by decide) cl_L_15 ca_A (fun q => ?_)
      refine jj_astore4 F dL_join_17 (hN _ (by decide)) rfl ?_
      refine jj_iconst F dL_join_19 ?_
      exact jj_iretH B dL_join_20 ⟨Nat.le_of_ble_eq_true rfl, Nat.le_of_ble_eq_true rfl⟩ ⟨_, rfl, ht.symm, G1, ad, g, hd, by rw [jj_u_id ho], rfl, (by rw [no_join]; exact hR.c37), fun hz => absurd hz (by omega)⟩
    · skip
      refine jj_catch F B.tab [(0, 10, 13, 13), (0, 10, 17, 15)] 0 10 21 17 [] rfl (List.forall_mem_cons.mpr ⟨⟨by decide, _, cl_L_13, nn_SB⟩, (List.forall_mem_cons.mpr ⟨⟨by decide, _, cl_L_15, nn_SA⟩, (fun _ h => absurd h List.not_mem_nil)⟩)⟩) (by decide) (by decide) cl_L_17 ca_S (fun q => ?_)
      refine jj_astore4 F dL_join_21 (hN _ (by decide)) rfl ?_
      refine jj_iconst F dL_join_23 ?_
      exact jj_iretH B dL_join_24 ⟨Nat.le_of_ble_eq_true rfl, Nat.le_of_ble_eq_true rfl⟩ ⟨_, rfl, ht.symm, G1, ad, g, hd, by rw [jj_u_id ho], rfl, (by rw [no_join]; exact hR.c37), fun hz => absurd hz (by omega)⟩
  · skip
    obtain ⟨ht, rfl, ad', ha, hR'⟩ := hp
    have hno : Gn o = none := hdn.symm o (jj_sn ho)
    refine jj_jw ?_
    refine jj_i2l F (jI_rng _) dL_join_8 ?_
    refine jj_last F (n := 1) (g := g) ((jj_jr hno).trans ho) (by decide) (by decide) dL_join_9 ?_
    refine jj_goto F (tgt := 25) dL_join_10 rfl ?_
    refine jj_iconst F dL_join_25 ?_
    exact jj_iretH B dL_join_26 ⟨Nat.le_of_ble_eq_true rfl, Nat.le_of_ble_eq_true rfl⟩ ⟨_, rfl, ht.symm, Gn, ad', _, hdn, jj_ur hno, ha, hR', fun _ => ju_s⟩
abbrev hh_file : List (Nat × Nat × Nat × Nat) := [(0, 9, 12, 15), (0, 9, 15, 17)]
theorem cwL_file : Cond.codeWith yL_file cL_file 4 (some .int) hh_file ∈ jj_GW := jj_gw 842 (by decide +kernel) rfl
theorem lkw_file : jj_lkW RL 213 yL_file cL_file 4 (some .int) hh_file 3 := ⟨jj_nm_of (by decide +kernel), jj_gw 840 (by decide +kernel) rfl, jj_gw 841 (by decide +kernel) rfl, jj_gw 33 (by decide +kernel) rfl, cwL_file⟩
abbrev rm_L_file : Room := { frames := 9, cells := 2, slots := 12, locals := 162 }
set_option maxRecDepth 100000 in
set_option maxHeartbeats 400000 in
theorem w_file {l : Launch} {D : va_G} {ac : Nat → ClassId} (hl : l.stackTraces = false) {ad : Ad} {s e : Sg} {q : Int} {G1 G2 : jj_G} (hR : Rep ad (cC ac ad s e) G1) (hd : jDj G1 G2) {o : Nat} {g : Int → Int} (ho : G2 o = some (jj_al (ac 1) 1 g)) {c : Int} (h : hInv s e c) (hq1 : jR q) (hj : ∀ k i, jR (s k i)) : jj_C l D ac yL_file (.codeWith yL_file cL_file 4 (some .int) hh_file) rm_L_file [.ref (ad 0 0), .int (jI q), .ref o] (jj_j G1 G2) (jj_pi (wPost ac G2 o (ad 0 0) (t_file s q) (jW (r_file s q)) (n_file s q) e)) jj_nx := by
  refine jj_ofH (own := RL) (lv0 := [some (.ref (ad 0 0)), some (.int (jI q)), some (.ref o), none]) hl (by decide +kernel) rfl rfl (Nat.le_of_ble_eq_true rfl) rfl cwL_file ?_
  intro X B hN hl0 hdg hac
  subst hl0; subst hdg; subst hac
  have F := B.F
  refine jj_aload2 F dL_file_0 ?_
  refine jj_iconst F dL_file_1 ?_
  refine jj_aload0 F dL_file_2 ?_
  refine jj_iload1 F dL_file_3 ?_
  refine jj_callFVi F hd (k := 2) (n := 12) (x8_file F.tr hR h.s hq1 ) lk_L_94 (hR.at (k := 0) (i := 0) cc_0) cs_8 rfl rfl ⟨Nat.le_of_ble_eq_true rfl, Nat.le_of_ble_eq_true rfl, Nat.le_of_ble_eq_true rfl, Nat.le_of_ble_eq_true rfl, Nat.le_of_ble_eq_true rfl⟩ ⟨Nat.le_of_ble_eq_true rfl, Nat.le_of_ble_eq_true rfl⟩ dL_file_4 (fun E hE => ?_) (fun r Gn hp hdn => ?_)
  · skip
    rcases hE with ⟨ht, rfl⟩ | ⟨ht, rfl⟩
    · skip
      refine jj_catch F B.tab [] 0 9 12 15 [(0, 9, 15, 17)] rfl (fun _ h => absurd h List.not_mem_nil) (by decide) (by decide) cl_L_15 ca_A (fun q => ?_)
      refine jj_astore3 F dL_file_12 (hN _ (by decide)) rfl ?_
      refine jj_iconst F dL_file_13 ?_
      exact jj_iretH B dL_file_14 ⟨Nat.le_of_ble_eq_true rfl, Nat.le_of_ble_eq_true rfl⟩ ⟨_, rfl, ht.symm, G1, ad, g, hd, by rw [jj_u_id ho], rfl, (by rw [no_file (by omega)]; exact hR.c37), fun hz => absurd hz (by omega)⟩
    · skip
      refine jj_catch F B.tab [(0, 9, 12, 15)] 0 9 15 17 [] rfl (List.forall_mem_cons.mpr ⟨⟨by decide, _, cl_L_15, nn_SA⟩, (fun _ h => absurd h List.not_mem_nil)⟩) (by decide) (by decide) cl_L_17 ca_S (fun q => ?_)
      refine jj_astore3 F dL_file_15 (hN _ (by decide)) rfl ?_
      refine jj_iconst F dL_file_16 ?_
      exact jj_iretH B dL_file_17 ⟨Nat.le_of_ble_eq_true rfl, Nat.le_of_ble_eq_true rfl⟩ ⟨_, rfl, ht.symm, G1, ad, g, hd, by rw [jj_u_id ho], rfl, (by rw [no_file (by omega)]; exact hR.c37), fun hz => absurd hz (by omega)⟩
  · skip
    obtain ⟨ht, rfl, ad', ha, hR'⟩ := hp
    have hno : Gn o = none := hdn.symm o (jj_sn ho)
    refine jj_jw ?_
    refine jj_i2l F (jI_rng _) dL_file_7 ?_
    refine jj_last F (n := 1) (g := g) ((jj_jr hno).trans ho) (by decide) (by decide) dL_file_8 ?_
    refine jj_goto F (tgt := 18) dL_file_9 rfl ?_
    refine jj_iconst F dL_file_18 ?_
    exact jj_iretH B dL_file_19 ⟨Nat.le_of_ble_eq_true rfl, Nat.le_of_ble_eq_true rfl⟩ ⟨_, rfl, ht.symm, Gn, ad', _, hdn, jj_ur hno, ha, hR', fun _ => ju_s⟩
abbrev hh_repair : List (Nat × Nat × Nat × Nat) := [(0, 9, 12, 13), (0, 9, 15, 17)]
theorem cwL_repair : Cond.codeWith yL_repair cL_repair 4 (some .int) hh_repair ∈ jj_GW := jj_gw 857 (by decide +kernel) rfl
theorem lkw_repair : jj_lkW RL 216 yL_repair cL_repair 4 (some .int) hh_repair 3 := ⟨jj_nm_of (by decide +kernel), jj_gw 855 (by decide +kernel) rfl, jj_gw 856 (by decide +kernel) rfl, jj_gw 33 (by decide +kernel) rfl, cwL_repair⟩
abbrev rm_L_repair : Room := { frames := 8, cells := 2, slots := 12, locals := 131 }
set_option maxRecDepth 100000 in
set_option maxHeartbeats 400000 in
theorem w_repair {l : Launch} {D : va_G} {ac : Nat → ClassId} (hl : l.stackTraces = false) {ad : Ad} {s e : Sg} {p : Int} {G1 G2 : jj_G} (hR : Rep ad (cC ac ad s e) G1) (hd : jDj G1 G2) {o : Nat} {g : Int → Int} (ho : G2 o = some (jj_al (ac 1) 1 g)) {c : Int} (h : hInv s e c) (hp1 : jR p) (hj : ∀ k i, jR (s k i)) : jj_C l D ac yL_repair (.codeWith yL_repair cL_repair 4 (some .int) hh_repair) rm_L_repair [.ref (ad 0 0), .int (jI p), .ref o] (jj_j G1 G2) (jj_pi (wPost ac G2 o (ad 0 0) (t_repair s p) (jW (r_repair s p)) (n_repair s p) e)) jj_nx := by
  refine jj_ofH (own := RL) (lv0 := [some (.ref (ad 0 0)), some (.int (jI p)), some (.ref o), none]) hl (by decide +kernel) rfl rfl (Nat.le_of_ble_eq_true rfl) rfl cwL_repair ?_
  intro X B hN hl0 hdg hac
  subst hl0; subst hdg; subst hac
  have F := B.F
  refine jj_aload2 F dL_repair_0 ?_
  refine jj_iconst F dL_repair_1 ?_
  refine jj_aload0 F dL_repair_2 ?_
  refine jj_iload1 F dL_repair_3 ?_
  refine jj_callFVi F hd (k := 2) (n := 12) (x8_repair F.tr hR h.s hp1 ) lk_L_97 (hR.at (k := 0) (i := 0) cc_0) cs_8 rfl rfl ⟨Nat.le_of_ble_eq_true rfl, Nat.le_of_ble_eq_true rfl, Nat.le_of_ble_eq_true rfl, Nat.le_of_ble_eq_true rfl, Nat.le_of_ble_eq_true rfl⟩ ⟨Nat.le_of_ble_eq_true rfl, Nat.le_of_ble_eq_true rfl⟩ dL_repair_4 (fun E hE => ?_) (fun r Gn hp hdn => ?_)
  · skip
    rcases hE with ⟨ht, rfl⟩ | ⟨ht, rfl⟩
    · skip
      refine jj_catch F B.tab [] 0 9 12 13 [(0, 9, 15, 17)] rfl (fun _ h => absurd h List.not_mem_nil) (by decide) (by decide) cl_L_13 ca_B (fun q => ?_)
      refine jj_astore3 F dL_repair_12 (hN _ (by decide)) rfl ?_
      refine jj_iconst F dL_repair_13 ?_
      exact jj_iretH B dL_repair_14 ⟨Nat.le_of_ble_eq_true rfl, Nat.le_of_ble_eq_true rfl⟩ ⟨_, rfl, ht.symm, G1, ad, g, hd, by rw [jj_u_id ho], rfl, (by rw [no_repair (by omega)]; exact hR.c37), fun hz => absurd hz (by omega)⟩
    · skip
      refine jj_catch F B.tab [(0, 9, 12, 13)] 0 9 15 17 [] rfl (List.forall_mem_cons.mpr ⟨⟨by decide, _, cl_L_13, nn_SB⟩, (fun _ h => absurd h List.not_mem_nil)⟩) (by decide) (by decide) cl_L_17 ca_S (fun q => ?_)
      refine jj_astore3 F dL_repair_15 (hN _ (by decide)) rfl ?_
      refine jj_iconst F dL_repair_16 ?_
      exact jj_iretH B dL_repair_17 ⟨Nat.le_of_ble_eq_true rfl, Nat.le_of_ble_eq_true rfl⟩ ⟨_, rfl, ht.symm, G1, ad, g, hd, by rw [jj_u_id ho], rfl, (by rw [no_repair (by omega)]; exact hR.c37), fun hz => absurd hz (by omega)⟩
  · skip
    obtain ⟨ht, rfl, ad', ha, hR'⟩ := hp
    have hno : Gn o = none := hdn.symm o (jj_sn ho)
    refine jj_jw ?_
    refine jj_i2l F (jI_rng _) dL_repair_7 ?_
    refine jj_last F (n := 1) (g := g) ((jj_jr hno).trans ho) (by decide) (by decide) dL_repair_8 ?_
    refine jj_goto F (tgt := 18) dL_repair_9 rfl ?_
    refine jj_iconst F dL_repair_18 ?_
    exact jj_iretH B dL_repair_19 ⟨Nat.le_of_ble_eq_true rfl, Nat.le_of_ble_eq_true rfl⟩ ⟨_, rfl, ht.symm, Gn, ad', _, hdn, jj_ur hno, ha, hR', fun _ => ju_s⟩
abbrev hh_undo : List (Nat × Nat × Nat × Nat) := [(0, 8, 11, 17)]
theorem cwL_undo : Cond.codeWith yL_undo cL_undo 3 (some .int) hh_undo ∈ jj_GW := jj_gw 874 (by decide +kernel) rfl
theorem lkw_undo : jj_lkW RL 219 yL_undo cL_undo 3 (some .int) hh_undo 2 := ⟨jj_nm_of (by decide +kernel), jj_gw 872 (by decide +kernel) rfl, jj_gw 873 (by decide +kernel) rfl, jj_gw 33 (by decide +kernel) rfl, cwL_undo⟩
abbrev rm_L_undo : Room := { frames := 7, cells := 1, slots := 6, locals := 110 }
set_option maxRecDepth 100000 in
set_option maxHeartbeats 400000 in
theorem w_undo {l : Launch} {D : va_G} {ac : Nat → ClassId} (hl : l.stackTraces = false) {ad : Ad} {s e : Sg} {G1 G2 : jj_G} (hR : Rep ad (cC ac ad s e) G1) (hd : jDj G1 G2) {o : Nat} {g : Int → Int} (ho : G2 o = some (jj_al (ac 1) 1 g)) {c : Int} (h : hInv s e c)  (hj : ∀ k i, jR (s k i)) : jj_C l D ac yL_undo (.codeWith yL_undo cL_undo 3 (some .int) hh_undo) rm_L_undo [.ref (ad 0 0), .ref o] (jj_j G1 G2) (jj_pi (wPost ac G2 o (ad 0 0) (t_undo s) (jW (r_undo s)) (n_undo s) e)) jj_nx := by
  refine jj_ofH (own := RL) (lv0 := [some (.ref (ad 0 0)), some (.ref o), none]) hl (by decide +kernel) rfl rfl (Nat.le_of_ble_eq_true rfl) rfl cwL_undo ?_
  intro X B hN hl0 hdg hac
  subst hl0; subst hdg; subst hac
  have F := B.F
  refine jj_aload1 F dL_undo_0 ?_
  refine jj_iconst F dL_undo_1 ?_
  refine jj_aload0 F dL_undo_2 ?_
  refine jj_callFVi F hd (k := 1) (n := 6) (x8_undo F.tr hR h.s ) lk_L_100 (hR.at (k := 0) (i := 0) cc_0) cs_8 rfl rfl ⟨Nat.le_of_ble_eq_true rfl, Nat.le_of_ble_eq_true rfl, Nat.le_of_ble_eq_true rfl, Nat.le_of_ble_eq_true rfl, Nat.le_of_ble_eq_true rfl⟩ ⟨Nat.le_of_ble_eq_true rfl, Nat.le_of_ble_eq_true rfl⟩ dL_undo_3 (fun E hE => ?_) (fun r Gn hp hdn => ?_)
  · skip
    obtain ⟨ht, rfl⟩ := hE
    refine jj_catch F B.tab [] 0 8 11 17 [] rfl (fun _ h => absurd h List.not_mem_nil) (by decide) (by decide) cl_L_17 ca_S (fun q => ?_)
    refine jj_astore2 F dL_undo_11 (hN _ (by decide)) rfl ?_
    refine jj_iconst F dL_undo_12 ?_
    exact jj_iretH B dL_undo_13 ⟨Nat.le_of_ble_eq_true rfl, Nat.le_of_ble_eq_true rfl⟩ ⟨_, rfl, ht.symm, G1, ad, g, hd, by rw [jj_u_id ho], rfl, (by rw [no_undo (by omega)]; exact hR.c37), fun hz => absurd hz (by omega)⟩
  · skip
    obtain ⟨ht, rfl, ad', ha, hR'⟩ := hp
    have hno : Gn o = none := hdn.symm o (jj_sn ho)
    refine jj_jw ?_
    refine jj_i2l F (jI_rng _) dL_undo_6 ?_
    refine jj_last F (n := 1) (g := g) ((jj_jr hno).trans ho) (by decide) (by decide) dL_undo_7 ?_
    refine jj_goto F (tgt := 14) dL_undo_8 rfl ?_
    refine jj_iconst F dL_undo_14 ?_
    exact jj_iretH B dL_undo_15 ⟨Nat.le_of_ble_eq_true rfl, Nat.le_of_ble_eq_true rfl⟩ ⟨_, rfl, ht.symm, Gn, ad', _, hdn, jj_ur hno, ha, hR', fun _ => ju_s⟩
abbrev hh_fileIs : List (Nat × Nat × Nat × Nat) := [(0, 9, 12, 13)]
theorem cwL_fileIs : Cond.codeWith yL_fileIs cL_fileIs 4 (some .int) hh_fileIs ∈ jj_GW := jj_gw 886 (by decide +kernel) rfl
theorem lkw_fileIs : jj_lkW RL 223 yL_fileIs cL_fileIs 4 (some .int) hh_fileIs 3 := ⟨jj_nm_of (by decide +kernel), jj_gw 884 (by decide +kernel) rfl, jj_gw 885 (by decide +kernel) rfl, jj_gw 33 (by decide +kernel) rfl, cwL_fileIs⟩
abbrev rm_L_fileIs : Room := { frames := 8, cells := 2, slots := 12, locals := 131 }
set_option maxRecDepth 100000 in
set_option maxHeartbeats 400000 in
theorem w_fileIs {l : Launch} {D : va_G} {ac : Nat → ClassId} (hl : l.stackTraces = false) {ad : Ad} {s e : Sg} {p : Int} {G1 G2 : jj_G} (hR : Rep ad (cC ac ad s e) G1) (hd : jDj G1 G2) {o : Nat} {g : Int → Int} (ho : G2 o = some (jj_al (ac 1) 1 g)) {c : Int} (h : hInv s e c) (hp1 : jR p) (hj : ∀ k i, jR (s k i)) : jj_C l D ac yL_fileIs (.codeWith yL_fileIs cL_fileIs 4 (some .int) hh_fileIs) rm_L_fileIs [.ref (ad 0 0), .int (jI p), .ref o] (jj_j G1 G2) (jj_pi (wPost ac G2 o (ad 0 0) (t_part p) (jW (r_fileIs s p)) (n_fileIs s p) e)) jj_nx := by
  refine jj_ofH (own := RL) (lv0 := [some (.ref (ad 0 0)), some (.int (jI p)), some (.ref o), none]) hl (by decide +kernel) rfl rfl (Nat.le_of_ble_eq_true rfl) rfl cwL_fileIs ?_
  intro X B hN hl0 hdg hac
  subst hl0; subst hdg; subst hac
  have F := B.F
  refine jj_aload2 F dL_fileIs_0 ?_
  refine jj_iconst F dL_fileIs_1 ?_
  refine jj_aload0 F dL_fileIs_2 ?_
  refine jj_iload1 F dL_fileIs_3 ?_
  refine jj_callFVi F hd (k := 2) (n := 12) (x8_fileIs F.tr hR h.s hp1 ) lk_L_104 (hR.at (k := 0) (i := 0) cc_0) cs_8 rfl rfl ⟨Nat.le_of_ble_eq_true rfl, Nat.le_of_ble_eq_true rfl, Nat.le_of_ble_eq_true rfl, Nat.le_of_ble_eq_true rfl, Nat.le_of_ble_eq_true rfl⟩ ⟨Nat.le_of_ble_eq_true rfl, Nat.le_of_ble_eq_true rfl⟩ dL_fileIs_4 (fun E hE => ?_) (fun r Gn hp hdn => ?_)
  · skip
    obtain ⟨ht, rfl⟩ := hE
    refine jj_catch F B.tab [] 0 9 12 13 [] rfl (fun _ h => absurd h List.not_mem_nil) (by decide) (by decide) cl_L_13 ca_B (fun q => ?_)
    refine jj_astore3 F dL_fileIs_12 (hN _ (by decide)) rfl ?_
    refine jj_iconst F dL_fileIs_13 ?_
    exact jj_iretH B dL_fileIs_14 ⟨Nat.le_of_ble_eq_true rfl, Nat.le_of_ble_eq_true rfl⟩ ⟨_, rfl, ht.symm, G1, ad, g, hd, by rw [jj_u_id ho], rfl, (by rw [no_fileIs]; exact hR.c37), fun hz => absurd hz (by omega)⟩
  · skip
    obtain ⟨ht, rfl, ad', ha, hR'⟩ := hp
    have hno : Gn o = none := hdn.symm o (jj_sn ho)
    refine jj_jw ?_
    refine jj_i2l F (jI_rng _) dL_fileIs_7 ?_
    refine jj_last F (n := 1) (g := g) ((jj_jr hno).trans ho) (by decide) (by decide) dL_fileIs_8 ?_
    refine jj_goto F (tgt := 15) dL_fileIs_9 rfl ?_
    refine jj_iconst F dL_fileIs_15 ?_
    exact jj_iretH B dL_fileIs_16 ⟨Nat.le_of_ble_eq_true rfl, Nat.le_of_ble_eq_true rfl⟩ ⟨_, rfl, ht.symm, Gn, ad', _, hdn, jj_ur hno, ha, hR', fun _ => ju_s⟩
abbrev hh_contract : List (Nat × Nat × Nat × Nat) := [(0, 12, 15, 13), (0, 12, 19, 15)]
theorem cwL_contract : Cond.codeWith yL_contract cL_contract 6 (some .int) hh_contract ∈ jj_GW := jj_gw 894 (by decide +kernel) rfl
theorem lkw_contract : jj_lkW RL 226 yL_contract cL_contract 6 (some .int) hh_contract 5 := ⟨jj_nm_of (by decide +kernel), jj_gw 892 (by decide +kernel) rfl, jj_gw 893 (by decide +kernel) rfl, jj_gw 33 (by decide +kernel) rfl, cwL_contract⟩
abbrev rm_L_contract : Room := { frames := 8, cells := 2, slots := 12, locals := 133 }
set_option maxRecDepth 100000 in
set_option maxHeartbeats 400000 in
theorem w_contract {l : Launch} {D : va_G} {ac : Nat → ClassId} (hl : l.stackTraces = false) {ad : Ad} {s e : Sg} {a x y : Int} {G1 G2 : jj_G} (hR : Rep ad (cC ac ad s e) G1) (hd : jDj G1 G2) {o : Nat} {g : Int → Int} (ho : G2 o = some (jj_al (ac 1) 1 g)) {c : Int} (h : hInv s e c) (ha1 : jR a) (hx1 : jR x) (hy1 : jR y) (hj : ∀ k i, jR (s k i)) : jj_C l D ac yL_contract (.codeWith yL_contract cL_contract 6 (some .int) hh_contract) rm_L_contract [.ref (ad 0 0), .int (jI a), .int (jI x), .int (jI y), .ref o] (jj_j G1 G2) (jj_pi (wPost ac G2 o (ad 0 0) (t_contract a x y) (jW (r_contract s a x y)) (n_contract s a x y) (if t_contract a x y = 0 then sU e 0 a (e 0 a + y) else e))) jj_nx := by
  refine jj_ofH (own := RL) (lv0 := [some (.ref (ad 0 0)), some (.int (jI a)), some (.int (jI x)), some (.int (jI y)), some (.ref o), none]) hl (by decide +kernel) rfl rfl (Nat.le_of_ble_eq_true rfl) rfl cwL_contract ?_
  intro X B hN hl0 hdg hac
  subst hl0; subst hdg; subst hac
  have F := B.F
  refine jj_aload4 F dL_contract_0 ?_
  refine jj_iconst F dL_contract_2 ?_
  refine jj_aload0 F dL_contract_3 ?_
  refine jj_iload1 F dL_contract_4 ?_
  refine jj_iload2 F dL_contract_5 ?_
  refine jj_iload3 F dL_contract_6 ?_
  refine jj_callFVi F hd (k := 2) (n := 12) (x8_contract F.tr hR h.s ha1 hx1 hy1 ) lk_L_107 (hR.at (k := 0) (i := 0) cc_0) cs_8 rfl rfl ⟨Nat.le_of_ble_eq_true rfl, Nat.le_of_ble_eq_true rfl, Nat.le_of_ble_eq_true rfl, Nat.le_of_ble_eq_true rfl, Nat.le_of_ble_eq_true rfl⟩ ⟨Nat.le_of_ble_eq_true rfl, Nat.le_of_ble_eq_true rfl⟩ dL_contract_7 (fun E hE => ?_) (fun r Gn hp hdn => ?_)
  · skip
    rcases hE with ⟨ht, rfl⟩ | ⟨ht, rfl⟩
    · skip
      refine jj_catch F B.tab [] 0 12 15 13 [(0, 12, 19, 15)] rfl (fun _ h => absurd h List.not_mem_nil) (by decide) (by decide) cl_L_13 ca_B (fun q => ?_)
      refine jj_astore5 F dL_contract_15 (hN _ (by decide)) rfl ?_
      refine jj_iconst F dL_contract_17 ?_
      exact jj_iretH B dL_contract_18 ⟨Nat.le_of_ble_eq_true rfl, Nat.le_of_ble_eq_true rfl⟩ ⟨_, rfl, ht.symm, G1, ad, g, hd, by rw [jj_u_id ho], rfl, (by rw [no_contract (by omega), if_neg (by omega)]; exact hR.c37), fun hz => absurd hz (by omega)⟩
    · skip
      refine jj_catch F B.tab [(0, 12, 15, 13)] 0 12 19 15 [] rfl (List.forall_mem_cons.mpr ⟨⟨by decide, _, cl_L_13, nn_AB⟩, (fun _ h => absurd h List.not_mem_nil)⟩) (by decide) (by decide) cl_L_15 ca_A (fun q => ?_)
      refine jj_astore5 F dL_contract_19 (hN _ (by decide)) rfl ?_
      refine jj_iconst F dL_contract_21 ?_
      exact jj_iretH B dL_contract_22 ⟨Nat.le_of_ble_eq_true rfl, Nat.le_of_ble_eq_true rfl⟩ ⟨_, rfl, ht.symm, G1, ad, g, hd, by rw [jj_u_id ho], rfl, (by rw [no_contract (by omega), if_neg (by omega)]; exact hR.c37), fun hz => absurd hz (by omega)⟩
  · skip
    obtain ⟨ht, rfl, ad', ha, hR'⟩ := hp
    have hno : Gn o = none := hdn.symm o (jj_sn ho)
    refine jj_jw ?_
    refine jj_i2l F (jI_rng _) dL_contract_10 ?_
    refine jj_last F (n := 1) (g := g) ((jj_jr hno).trans ho) (by decide) (by decide) dL_contract_11 ?_
    refine jj_goto F (tgt := 23) dL_contract_12 rfl ?_
    refine jj_iconst F dL_contract_23 ?_
    exact jj_iretH B dL_contract_24 ⟨Nat.le_of_ble_eq_true rfl, Nat.le_of_ble_eq_true rfl⟩ ⟨_, rfl, ht.symm, Gn, ad', _, hdn, jj_ur hno, ha, (by rw [if_pos ht]; exact hR'), fun _ => ju_s⟩
abbrev hh_account : List (Nat × Nat × Nat × Nat) := [(0, 9, 12, 13)]
theorem cwL_account : Cond.codeWith yL_account cL_account 4 (some .int) hh_account ∈ jj_GW := jj_gw 903 (by decide +kernel) rfl
theorem lkw_account : jj_lkW RL 229 yL_account cL_account 4 (some .int) hh_account 3 := ⟨jj_nm_of (by decide +kernel), jj_gw 901 (by decide +kernel) rfl, jj_gw 902 (by decide +kernel) rfl, jj_gw 33 (by decide +kernel) rfl, cwL_account⟩
abbrev rm_L_account : Room := { frames := 8, cells := 2, slots := 12, locals := 131 }
set_option maxRecDepth 100000 in
set_option maxHeartbeats 400000 in
theorem w_account {l : Launch} {D : va_G} {ac : Nat → ClassId} (hl : l.stackTraces = false) {ad : Ad} {s e : Sg} {a : Int} {G1 G2 : jj_G} (hR : Rep ad (cC ac ad s e) G1) (hd : jDj G1 G2) {o : Nat} {g : Int → Int} (ho : G2 o = some (jj_al (ac 1) 1 g)) {c : Int} (h : hInv s e c) (ha1 : jR a) (hj : ∀ k i, jR (s k i)) : jj_C l D ac yL_account (.codeWith yL_account cL_account 4 (some .int) hh_account) rm_L_account [.ref (ad 0 0), .int (jI a), .ref o] (jj_j G1 G2) (jj_pi (wPost ac G2 o (ad 0 0) (t_artist a) (jW (r_account s a)) (n_account s a) e)) jj_nx := by
  refine jj_ofH (own := RL) (lv0 := [some (.ref (ad 0 0)), some (.int (jI a)), some (.ref o), none]) hl (by decide +kernel) rfl rfl (Nat.le_of_ble_eq_true rfl) rfl cwL_account ?_
  intro X B hN hl0 hdg hac
  subst hl0; subst hdg; subst hac
  have F := B.F
  refine jj_aload2 F dL_account_0 ?_
  refine jj_iconst F dL_account_1 ?_
  refine jj_aload0 F dL_account_2 ?_
  refine jj_iload1 F dL_account_3 ?_
  refine jj_callFVi F hd (k := 2) (n := 12) (x8_account F.tr hR h.s ha1 ) lk_L_110 (hR.at (k := 0) (i := 0) cc_0) cs_8 rfl rfl ⟨Nat.le_of_ble_eq_true rfl, Nat.le_of_ble_eq_true rfl, Nat.le_of_ble_eq_true rfl, Nat.le_of_ble_eq_true rfl, Nat.le_of_ble_eq_true rfl⟩ ⟨Nat.le_of_ble_eq_true rfl, Nat.le_of_ble_eq_true rfl⟩ dL_account_4 (fun E hE => ?_) (fun r Gn hp hdn => ?_)
  · skip
    obtain ⟨ht, rfl⟩ := hE
    refine jj_catch F B.tab [] 0 9 12 13 [] rfl (fun _ h => absurd h List.not_mem_nil) (by decide) (by decide) cl_L_13 ca_B (fun q => ?_)
    refine jj_astore3 F dL_account_12 (hN _ (by decide)) rfl ?_
    refine jj_iconst F dL_account_13 ?_
    exact jj_iretH B dL_account_14 ⟨Nat.le_of_ble_eq_true rfl, Nat.le_of_ble_eq_true rfl⟩ ⟨_, rfl, ht.symm, G1, ad, g, hd, by rw [jj_u_id ho], rfl, (by rw [no_account]; exact hR.c37), fun hz => absurd hz (by omega)⟩
  · skip
    obtain ⟨ht, rfl, ad', ha, hR'⟩ := hp
    have hno : Gn o = none := hdn.symm o (jj_sn ho)
    refine jj_jw ?_
    refine jj_i2l F (jI_rng _) dL_account_7 ?_
    refine jj_last F (n := 1) (g := g) ((jj_jr hno).trans ho) (by decide) (by decide) dL_account_8 ?_
    refine jj_goto F (tgt := 15) dL_account_9 rfl ?_
    refine jj_iconst F dL_account_15 ?_
    exact jj_iretH B dL_account_16 ⟨Nat.le_of_ble_eq_true rfl, Nat.le_of_ble_eq_true rfl⟩ ⟨_, rfl, ht.symm, Gn, ad', _, hdn, jj_ur hno, ha, hR', fun _ => ju_s⟩
abbrev hh_accountAnew : List (Nat × Nat × Nat × Nat) := [(0, 9, 12, 13)]
theorem cwL_accountAnew : Cond.codeWith yL_accountAnew cL_accountAnew 4 (some .int) hh_accountAnew ∈ jj_GW := jj_gw 910 (by decide +kernel) rfl
theorem lkw_accountAnew : jj_lkW RL 232 yL_accountAnew cL_accountAnew 4 (some .int) hh_accountAnew 3 := ⟨jj_nm_of (by decide +kernel), jj_gw 908 (by decide +kernel) rfl, jj_gw 909 (by decide +kernel) rfl, jj_gw 33 (by decide +kernel) rfl, cwL_accountAnew⟩
abbrev rm_L_accountAnew : Room := { frames := 8, cells := 2, slots := 12, locals := 131 }
set_option maxRecDepth 100000 in
set_option maxHeartbeats 400000 in
theorem w_accountAnew {l : Launch} {D : va_G} {ac : Nat → ClassId} (hl : l.stackTraces = false) {ad : Ad} {s e : Sg} {a : Int} {G1 G2 : jj_G} (hR : Rep ad (cC ac ad s e) G1) (hd : jDj G1 G2) {o : Nat} {g : Int → Int} (ho : G2 o = some (jj_al (ac 1) 1 g)) {c : Int} (h : hInv s e c) (ha1 : jR a) (hj : ∀ k i, jR (s k i)) : jj_C l D ac yL_accountAnew (.codeWith yL_accountAnew cL_accountAnew 4 (some .int) hh_accountAnew) rm_L_accountAnew [.ref (ad 0 0), .int (jI a), .ref o] (jj_j G1 G2) (jj_pi (wPost ac G2 o (ad 0 0) (t_artist a) (jW (r_account s a)) (n_account s a) e)) jj_nx := by
  refine jj_ofH (own := RL) (lv0 := [some (.ref (ad 0 0)), some (.int (jI a)), some (.ref o), none]) hl (by decide +kernel) rfl rfl (Nat.le_of_ble_eq_true rfl) rfl cwL_accountAnew ?_
  intro X B hN hl0 hdg hac
  subst hl0; subst hdg; subst hac
  have F := B.F
  refine jj_aload2 F dL_accountAnew_0 ?_
  refine jj_iconst F dL_accountAnew_1 ?_
  refine jj_aload0 F dL_accountAnew_2 ?_
  refine jj_iload1 F dL_accountAnew_3 ?_
  refine jj_callFVi F hd (k := 2) (n := 12) (x8_accountAnew F.tr hR h.s ha1 h.A) lk_L_113 (hR.at (k := 0) (i := 0) cc_0) cs_8 rfl rfl ⟨Nat.le_of_ble_eq_true rfl, Nat.le_of_ble_eq_true rfl, Nat.le_of_ble_eq_true rfl, Nat.le_of_ble_eq_true rfl, Nat.le_of_ble_eq_true rfl⟩ ⟨Nat.le_of_ble_eq_true rfl, Nat.le_of_ble_eq_true rfl⟩ dL_accountAnew_4 (fun E hE => ?_) (fun r Gn hp hdn => ?_)
  · skip
    obtain ⟨ht, rfl⟩ := hE
    refine jj_catch F B.tab [] 0 9 12 13 [] rfl (fun _ h => absurd h List.not_mem_nil) (by decide) (by decide) cl_L_13 ca_B (fun q => ?_)
    refine jj_astore3 F dL_accountAnew_12 (hN _ (by decide)) rfl ?_
    refine jj_iconst F dL_accountAnew_13 ?_
    exact jj_iretH B dL_accountAnew_14 ⟨Nat.le_of_ble_eq_true rfl, Nat.le_of_ble_eq_true rfl⟩ ⟨_, rfl, ht.symm, G1, ad, g, hd, by rw [jj_u_id ho], rfl, (by rw [no_account]; exact hR.c37), fun hz => absurd hz (by omega)⟩
  · skip
    obtain ⟨ht, rfl, ad', ha, hR'⟩ := hp
    have hno : Gn o = none := hdn.symm o (jj_sn ho)
    refine jj_jw ?_
    refine jj_i2l F (jI_rng _) dL_accountAnew_7 ?_
    refine jj_last F (n := 1) (g := g) ((jj_jr hno).trans ho) (by decide) (by decide) dL_accountAnew_8 ?_
    refine jj_goto F (tgt := 15) dL_accountAnew_9 rfl ?_
    refine jj_iconst F dL_accountAnew_15 ?_
    exact jj_iretH B dL_accountAnew_16 ⟨Nat.le_of_ble_eq_true rfl, Nat.le_of_ble_eq_true rfl⟩ ⟨_, rfl, ht.symm, Gn, ad', _, hdn, jj_ur hno, ha, hR', fun _ => ju_s⟩
abbrev hh_payOut : List (Nat × Nat × Nat × Nat) := [(0, 9, 12, 13)]
theorem cwL_payOut : Cond.codeWith yL_payOut cL_payOut 4 (some .int) hh_payOut ∈ jj_GW := jj_gw 921 (by decide +kernel) rfl
theorem lkw_payOut : jj_lkW RL 235 yL_payOut cL_payOut 4 (some .int) hh_payOut 3 := ⟨jj_nm_of (by decide +kernel), jj_gw 919 (by decide +kernel) rfl, jj_gw 920 (by decide +kernel) rfl, jj_gw 33 (by decide +kernel) rfl, cwL_payOut⟩
abbrev rm_L_payOut : Room := { frames := 8, cells := 2, slots := 12, locals := 132 }
set_option maxRecDepth 100000 in
set_option maxHeartbeats 400000 in
theorem w_payOut {l : Launch} {D : va_G} {ac : Nat → ClassId} (hl : l.stackTraces = false) {ad : Ad} {s e : Sg} {a : Int} {G1 G2 : jj_G} (hR : Rep ad (cC ac ad s e) G1) (hd : jDj G1 G2) {o : Nat} {g : Int → Int} (ho : G2 o = some (jj_al (ac 1) 1 g)) {c : Int} (h : hInv s e c) (ha1 : jR a) (hj : ∀ k i, jR (s k i)) : jj_C l D ac yL_payOut (.codeWith yL_payOut cL_payOut 4 (some .int) hh_payOut) rm_L_payOut [.ref (ad 0 0), .int (jI a), .ref o] (jj_j G1 G2) (jj_pi (wPost ac G2 o (ad 0 0) (t_artist a) (jW (r_payOut s a)) (n_payOut s a) (if t_artist a = 0 then sU e 1 a (e 1 a + (if 0 < s 36 a then s 36 a else 0)) else e))) jj_nx := by
  refine jj_ofH (own := RL) (lv0 := [some (.ref (ad 0 0)), some (.int (jI a)), some (.ref o), none]) hl (by decide +kernel) rfl rfl (Nat.le_of_ble_eq_true rfl) rfl cwL_payOut ?_
  intro X B hN hl0 hdg hac
  subst hl0; subst hdg; subst hac
  have F := B.F
  refine jj_aload2 F dL_payOut_0 ?_
  refine jj_iconst F dL_payOut_1 ?_
  refine jj_aload0 F dL_payOut_2 ?_
  refine jj_iload1 F dL_payOut_3 ?_
  refine jj_callFVi F hd (k := 2) (n := 12) (x8_payOut F.tr hR h.s ha1 hj) lk_L_116 (hR.at (k := 0) (i := 0) cc_0) cs_8 rfl rfl ⟨Nat.le_of_ble_eq_true rfl, Nat.le_of_ble_eq_true rfl, Nat.le_of_ble_eq_true rfl, Nat.le_of_ble_eq_true rfl, Nat.le_of_ble_eq_true rfl⟩ ⟨Nat.le_of_ble_eq_true rfl, Nat.le_of_ble_eq_true rfl⟩ dL_payOut_4 (fun E hE => ?_) (fun r Gn hp hdn => ?_)
  · skip
    obtain ⟨ht, rfl⟩ := hE
    refine jj_catch F B.tab [] 0 9 12 13 [] rfl (fun _ h => absurd h List.not_mem_nil) (by decide) (by decide) cl_L_13 ca_B (fun q => ?_)
    refine jj_astore3 F dL_payOut_12 (hN _ (by decide)) rfl ?_
    refine jj_iconst F dL_payOut_13 ?_
    exact jj_iretH B dL_payOut_14 ⟨Nat.le_of_ble_eq_true rfl, Nat.le_of_ble_eq_true rfl⟩ ⟨_, rfl, ht.symm, G1, ad, g, hd, by rw [jj_u_id ho], rfl, (by rw [no_payOut (by omega), if_neg (by omega)]; exact hR.c37), fun hz => absurd hz (by omega)⟩
  · skip
    obtain ⟨ht, rfl, ad', ha, hR'⟩ := hp
    have hno : Gn o = none := hdn.symm o (jj_sn ho)
    refine jj_jw ?_
    refine jj_i2l F (jI_rng _) dL_payOut_7 ?_
    refine jj_last F (n := 1) (g := g) ((jj_jr hno).trans ho) (by decide) (by decide) dL_payOut_8 ?_
    refine jj_goto F (tgt := 15) dL_payOut_9 rfl ?_
    refine jj_iconst F dL_payOut_15 ?_
    exact jj_iretH B dL_payOut_16 ⟨Nat.le_of_ble_eq_true rfl, Nat.le_of_ble_eq_true rfl⟩ ⟨_, rfl, ht.symm, Gn, ad', _, hdn, jj_ur hno, ha, (by rw [if_pos ht]; exact hR'), fun _ => ju_s⟩
abbrev hh_pass : List (Nat × Nat × Nat × Nat) := [(0, 9, 12, 15), (0, 9, 15, 17)]
theorem cwL_pass : Cond.codeWith yL_pass cL_pass 4 (some .int) hh_pass ∈ jj_GW := jj_gw 928 (by decide +kernel) rfl
theorem lkw_pass : jj_lkW RL 238 yL_pass cL_pass 4 (some .int) hh_pass 3 := ⟨jj_nm_of (by decide +kernel), jj_gw 926 (by decide +kernel) rfl, jj_gw 927 (by decide +kernel) rfl, jj_gw 33 (by decide +kernel) rfl, cwL_pass⟩
abbrev rm_L_pass : Room := { frames := 7, cells := 1, slots := 6, locals := 111 }
set_option maxRecDepth 100000 in
set_option maxHeartbeats 400000 in
theorem w_pass {l : Launch} {D : va_G} {ac : Nat → ClassId} (hl : l.stackTraces = false) {ad : Ad} {s e : Sg} {x : Int} {G1 G2 : jj_G} (hR : Rep ad (cC ac ad s e) G1) (hd : jDj G1 G2) {o : Nat} {g : Int → Int} (ho : G2 o = some (jj_al (ac 1) 1 g)) {c : Int} (h : hInv s e c) (hx1 : jR x) (hj : ∀ k i, jR (s k i)) : jj_C l D ac yL_pass (.codeWith yL_pass cL_pass 4 (some .int) hh_pass) rm_L_pass [.ref (ad 0 0), .int (jI x), .ref o] (jj_j G1 G2) (jj_pi (wPost ac G2 o (ad 0 0) (t_pass s x) (jW (r_pass s x)) (n_pass s x) e)) jj_nx := by
  refine jj_ofH (own := RL) (lv0 := [some (.ref (ad 0 0)), some (.int (jI x)), some (.ref o), none]) hl (by decide +kernel) rfl rfl (Nat.le_of_ble_eq_true rfl) rfl cwL_pass ?_
  intro X B hN hl0 hdg hac
  subst hl0; subst hdg; subst hac
  have F := B.F
  refine jj_aload2 F dL_pass_0 ?_
  refine jj_iconst F dL_pass_1 ?_
  refine jj_aload0 F dL_pass_2 ?_
  refine jj_iload1 F dL_pass_3 ?_
  refine jj_callFVi F hd (k := 1) (n := 6) (x8_pass F.tr hR h.s hx1 ) lk_L_119 (hR.at (k := 0) (i := 0) cc_0) cs_8 rfl rfl ⟨Nat.le_of_ble_eq_true rfl, Nat.le_of_ble_eq_true rfl, Nat.le_of_ble_eq_true rfl, Nat.le_of_ble_eq_true rfl, Nat.le_of_ble_eq_true rfl⟩ ⟨Nat.le_of_ble_eq_true rfl, Nat.le_of_ble_eq_true rfl⟩ dL_pass_4 (fun E hE => ?_) (fun r Gn hp hdn => ?_)
  · skip
    rcases hE with ⟨ht, rfl⟩ | ⟨ht, rfl⟩
    · skip
      refine jj_catch F B.tab [] 0 9 12 15 [(0, 9, 15, 17)] rfl (fun _ h => absurd h List.not_mem_nil) (by decide) (by decide) cl_L_15 ca_A (fun q => ?_)
      refine jj_astore3 F dL_pass_12 (hN _ (by decide)) rfl ?_
      refine jj_iconst F dL_pass_13 ?_
      exact jj_iretH B dL_pass_14 ⟨Nat.le_of_ble_eq_true rfl, Nat.le_of_ble_eq_true rfl⟩ ⟨_, rfl, ht.symm, G1, ad, g, hd, by rw [jj_u_id ho], rfl, (by rw [no_pass (by omega)]; exact hR.c37), fun hz => absurd hz (by omega)⟩
    · skip
      refine jj_catch F B.tab [(0, 9, 12, 15)] 0 9 15 17 [] rfl (List.forall_mem_cons.mpr ⟨⟨by decide, _, cl_L_15, nn_SA⟩, (fun _ h => absurd h List.not_mem_nil)⟩) (by decide) (by decide) cl_L_17 ca_S (fun q => ?_)
      refine jj_astore3 F dL_pass_15 (hN _ (by decide)) rfl ?_
      refine jj_iconst F dL_pass_16 ?_
      exact jj_iretH B dL_pass_17 ⟨Nat.le_of_ble_eq_true rfl, Nat.le_of_ble_eq_true rfl⟩ ⟨_, rfl, ht.symm, G1, ad, g, hd, by rw [jj_u_id ho], rfl, (by rw [no_pass (by omega)]; exact hR.c37), fun hz => absurd hz (by omega)⟩
  · skip
    obtain ⟨ht, rfl, ad', ha, hR'⟩ := hp
    have hno : Gn o = none := hdn.symm o (jj_sn ho)
    refine jj_jw ?_
    refine jj_i2l F (jI_rng _) dL_pass_7 ?_
    refine jj_last F (n := 1) (g := g) ((jj_jr hno).trans ho) (by decide) (by decide) dL_pass_8 ?_
    refine jj_goto F (tgt := 18) dL_pass_9 rfl ?_
    refine jj_iconst F dL_pass_18 ?_
    exact jj_iretH B dL_pass_19 ⟨Nat.le_of_ble_eq_true rfl, Nat.le_of_ble_eq_true rfl⟩ ⟨_, rfl, ht.symm, Gn, ad', _, hdn, jj_ur hno, ha, hR', fun _ => ju_s⟩
