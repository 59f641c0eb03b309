/-! ===== the law's own static methods: a call of the class, its exception told as a number ===== -/
section JL3
variable {X : jj_X} {own : String} {cc : ByteArray} {rm : Room} {Ga Gb G : jj_G} {kc kn pc nx : Nat} {lv lr : List (Option Value)} {st rest : List Value}
theorem jj_callFVi (F : jj_F X own cc rm) (hdj : jDj Ga Gb) {index b ci N maxL k n : Nat} {y : MethodName} {bytes : ByteArray} {rt : Option FieldType} {rmy : Room} {As : List Value} {fs : List Value} {C : String} {T : u_T} {ty : Nat → FieldType} {P : Int → jj_G → Prop} {px' : String → Prop} (hC : jj_C (jj_l0 X) (jj_dg X) (jj_ac X) y (.code y bytes maxL rt) rmy (.ref b :: As) Ga (jj_pi P) px') (hk : jj_lkV own index y bytes maxL rt As.length) (hb : Ga b = some (jj_o ci fs)) (hc : jj_cls ci C T N ty) (hyc : y.cls = C) (hst : st = As.reverse ++ .ref b :: rest) (hr : rmy.frames + 1 ≤ rm.frames ∧ 8 + (maxL + 11) + rmy.locals ≤ rm.locals ∧ kc + rmy.cells ≤ rm.cells ∧ kn + rmy.slots ≤ rm.slots ∧ (rest.map fun v => v.category).sum ≤ 8) (hkn : kc + rmy.cells ≤ k ∧ kn + rmy.slots ≤ n) (d : jj_D cc pc (.invokevirtual index) 3 nx) (kx : ∀ E, px' E → jj_JX X (jj_j Ga Gb) k n pc lv rest E) (kk : ∀ (r : Int) (G1 : jj_G), P r G1 → jDj G1 Gb → jj_J X (jj_j G1 Gb) k n nx lv (.int (jI r) :: rest)) : jj_J X (jj_j Ga Gb) kc kn pc lv st := by
  refine jj_runF F hdj (jj_runV F hC hk hb hc hyc hst hr d) hkn d.1 kx ?_
  rintro v G1 ⟨r, rfl, hP⟩ h
  exact kk r G1 hP h
theorem jj_callFVv (F : jj_F X own cc rm) (hdj : jDj Ga Gb) {index b ci N maxL k n : Nat} {y : MethodName} {bytes : ByteArray} {rt : Option FieldType} {rmy : Room} {As : List Value} {fs : List Value} {C : String} {T : u_T} {ty : Nat → FieldType} {P : jj_G → Prop} {px' : String → Prop} (hC : jj_C (jj_l0 X) (jj_dg X) (jj_ac X) y (.code y bytes maxL rt) rmy (.ref b :: As) Ga (jj_pv P) px') (hk : jj_lkV own index y bytes maxL rt As.length) (hb : Ga b = some (jj_o ci fs)) (hc : jj_cls ci C T N ty) (hyc : y.cls = C) (hst : st = As.reverse ++ .ref b :: rest) (hr : rmy.frames + 1 ≤ rm.frames ∧ 8 + (maxL + 11) + rmy.locals ≤ rm.locals ∧ kc + rmy.cells ≤ rm.cells ∧ kn + rmy.slots ≤ rm.slots ∧ (rest.map fun v => v.category).sum ≤ 8) (hkn : kc + rmy.cells ≤ k ∧ kn + rmy.slots ≤ n) (d : jj_D cc pc (.invokevirtual index) 3 nx) (kx : ∀ E, px' E → jj_JX X (jj_j Ga Gb) k n pc lv rest E) (kk : ∀ (G1 : jj_G), P G1 → jDj G1 Gb → jj_J X (jj_j G1 Gb) k n nx lv rest) : jj_J X (jj_j Ga Gb) kc kn pc lv st := by
  refine jj_runF F hdj (jj_runV F hC hk hb hc hyc hst hr d) hkn d.1 kx ?_
  rintro v G1 ⟨rfl, hP⟩ h
  exact kk G1 hP h
theorem jj_callFSi (F : jj_F X own cc rm) {index maxL k n : Nat} {y : MethodName} {bytes : ByteArray} {rt : Option FieldType} {hh : List (Nat × Nat × Nat × Nat)} {rmy : Room} {As : List Value} {P : Int → jj_G → Prop} (hC : jj_C (jj_l0 X) (jj_dg X) (jj_ac X) y (.codeWith y bytes maxL rt hh) rmy As G (jj_pi P) jj_nx) (hk : jj_lkW own index y bytes maxL rt hh As.length) (hst : st = As.reverse ++ rest) (hr : rmy.frames + 1 ≤ rm.frames ∧ 8 + (maxL + 11) + rmy.locals ≤ rm.locals ∧ kc + rmy.cells ≤ rm.cells ∧ kn + rmy.slots ≤ rm.slots ∧ (rest.map fun v => v.category).sum ≤ 8) (hkn : kc + rmy.cells ≤ k ∧ kn + rmy.slots ≤ n) (d : jj_D cc pc (.invokestatic index) 3 nx) (kk : ∀ (r : Int) (G1 : jj_G), P r G1 → jj_J X G1 k n nx lv (.int (jI r) :: rest)) : jj_J X G kc kn pc lv st := by
  refine jj_run F (jj_runSX F hC hk hst hr d) hkn d.1 (fun E hE => hE.elim) ?_
  rintro v G1 ⟨r, rfl, hP⟩
  exact kk r G1 hP
end JL3
theorem jj_u_id {G : jj_G} {a : Nat} {x : va_E} (h : G a = some x) : jj_u G a x = G := by
  funext q
  by_cases e : q = a
  · subst e; rw [jj_us, h]
  · rw [jj_un e]
theorem jj_ur {A B : jj_G} {a : Nat} {x : va_E} (h : A a = none) : jj_u (jj_j A B) a x = jj_j A (jj_u B a x) := by
  funext q
  by_cases e : q = a
  · subst e; rw [jj_us, jj_jr h, jj_us]
  · rw [jj_un e]
    cases hq : A q with
    | none => rw [jj_jr hq, jj_jr hq, jj_un e]
    | some y => rw [jj_jl (jj_sn hq), jj_jl (jj_sn hq)]
theorem ca_B : Cond.castable eB eB ∈ jj_T := jj_tw_mem 169 (by decide +kernel) rfl
theorem ca_A : Cond.castable eA eA ∈ jj_T := jj_tw_mem 241 (by decide +kernel) rfl
theorem ca_S : Cond.castable eS eS ∈ jj_T := jj_tw_mem 351 (by decide +kernel) rfl
theorem nn_AB : (eA, eB) ∈ jj_N := List.mem_of_getElem? (i := 0) rfl
theorem nn_SB : (eS, eB) ∈ jj_N := List.mem_of_getElem? (i := 1) rfl
theorem nn_SA : (eS, eA) ∈ jj_N := List.mem_of_getElem? (i := 2) rfl
/-! ===== the law's world: the house at the cell A 0, the law's own rows at A 1 (m), A 2 (g), A 3 (r) ===== -/
theorem sU_37b {s : Sg} {x : Int} : sU (sU s 37 0 x) 37 0 (s 37 0) = s := by
  funext k' j
  unfold sU
  by_cases h : k' = 37
  · subst h
    rw [if_pos rfl, if_pos rfl]
    unfold ju
    by_cases h2 : j = 0
    · subst h2; rw [if_pos rfl]
    · rw [if_neg h2, if_neg h2]
  · rw [if_neg h, if_neg h]
def HG (ac : Nat → ClassId) (a0 : Nat) (s e : Sg) (G : jj_G) : Prop := ∃ ad : Ad, ad 0 0 = a0 ∧ Rep ad (cC ac ad s e) G
theorem HG.u37 {ac : Nat → ClassId} {a0 : Nat} {s e : Sg} {G : jj_G} {x : Int} (h : HG ac a0 (sU s 37 0 x) e G) : HG ac a0 s e G := by
  obtain ⟨ad, ha, hR⟩ := h
  have h2 := hR.c37 (x := s 37 0)
  rw [sU_37b] at h2
  exact ⟨ad, ha, h2⟩
def WP (ac : Nat → ClassId) (A : Nat → Nat) (s e : Sg) (m g r : Int → Int) (G : jj_G) : Prop := ∃ G1 G2 : jj_G, G = jj_j G1 G2 ∧ jDj G1 G2 ∧ HG ac (A 0) s e G1 ∧ (G2 (A 1) = some (jj_ai (ac 0) 7 m) ∧ G2 (A 2) = some (jj_ai (ac 0) 31 g) ∧ G2 (A 3) = some (jj_ai (ac 0) 40 r)) ∧ A 1 ≠ A 2 ∧ A 1 ≠ A 3 ∧ A 2 ≠ A 3
theorem WP.m {ac : Nat → ClassId} {A : Nat → Nat} {s e : Sg} {m g r : Int → Int} {G : jj_G} (h : WP ac A s e m g r G) : G (A 1) = some (jj_ai (ac 0) 7 m) := by
  obtain ⟨G1, G2, rfl, hd, -, h1, -⟩ := h
  rw [jj_jr (hd.symm _ (jj_sn h1.1))]
  exact h1.1
theorem WP.g {ac : Nat → ClassId} {A : Nat → Nat} {s e : Sg} {m g r : Int → Int} {G : jj_G} (h : WP ac A s e m g r G) : G (A 2) = some (jj_ai (ac 0) 31 g) := by
  obtain ⟨G1, G2, rfl, hd, -, h1, -⟩ := h
  rw [jj_jr (hd.symm _ (jj_sn h1.2.1))]
  exact h1.2.1
theorem WP.r {ac : Nat → ClassId} {A : Nat → Nat} {s e : Sg} {m g r : Int → Int} {G : jj_G} (h : WP ac A s e m g r G) : G (A 3) = some (jj_ai (ac 0) 40 r) := by
  obtain ⟨G1, G2, rfl, hd, -, h1, -⟩ := h
  rw [jj_jr (hd.symm _ (jj_sn h1.2.2))]
  exact h1.2.2
theorem jDj.set {G1 G2 : jj_G} (h : jDj G1 G2) {a : Nat} {x y : va_E} (ha : G2 a = some y) : jDj G1 (jj_u G2 a x) := fun q hq => by
  by_cases e : q = a
  · subst e
    exact absurd (h.symm _ (jj_sn ha)) hq
  · rw [jj_un e]; exact h q hq
theorem WP.setm {ac : Nat → ClassId} {A : Nat → Nat} {s e : Sg} {m g r : Int → Int} {G : jj_G} (h : WP ac A s e m g r G) {m' : Int → Int} : WP ac A s e m' g r (jj_u G (A 1) (jj_ai (ac 0) 7 m')) := by
  obtain ⟨G1, G2, rfl, hd, hH, ⟨h1, h2, h3⟩, n1, n2, n3⟩ := h
  exact ⟨G1, jj_u G2 (A 1) (jj_ai (ac 0) 7 m'), jj_ur (hd.symm _ (jj_sn h1)), hd.set h1, hH, ⟨jj_us, by rw [jj_un (Ne.symm n1)]; exact h2, by rw [jj_un (Ne.symm n2)]; exact h3⟩, n1, n2, n3⟩
theorem WP.setg {ac : Nat → ClassId} {A : Nat → Nat} {s e : Sg} {m g r : Int → Int} {G : jj_G} (h : WP ac A s e m g r G) {g' : Int → Int} : WP ac A s e m g' r (jj_u G (A 2) (jj_ai (ac 0) 31 g')) := by
  obtain ⟨G1, G2, rfl, hd, hH, ⟨h1, h2, h3⟩, n1, n2, n3⟩ := h
  exact ⟨G1, jj_u G2 (A 2) (jj_ai (ac 0) 31 g'), jj_ur (hd.symm _ (jj_sn h2)), hd.set h2, hH, ⟨by rw [jj_un n1]; exact h1, jj_us, by rw [jj_un (Ne.symm n3)]; exact h3⟩, n1, n2, n3⟩
theorem WP.setr {ac : Nat → ClassId} {A : Nat → Nat} {s e : Sg} {m g r : Int → Int} {G : jj_G} (h : WP ac A s e m g r G) {r' : Int → Int} : WP ac A s e m g r' (jj_u G (A 3) (jj_ai (ac 0) 40 r')) := by
  obtain ⟨G1, G2, rfl, hd, hH, ⟨h1, h2, h3⟩, n1, n2, n3⟩ := h
  exact ⟨G1, jj_u G2 (A 3) (jj_ai (ac 0) 40 r'), jj_ur (hd.symm _ (jj_sn h3)), hd.set h3, hH, ⟨by rw [jj_un n2]; exact h1, by rw [jj_un n3]; exact h2, jj_us⟩, n1, n2, n3⟩
/-- room for a question: at most 3 cells of 18 slots -/
abbrev jQ (rm : Room) (kc kn k n : Nat) (rest : List Value) : Prop := 9 ≤ rm.frames ∧ 170 ≤ rm.locals ∧ kc + 3 ≤ k ∧ kn + 18 ≤ n ∧ k ≤ rm.cells ∧ n ≤ rm.slots ∧ (rest.map fun v => v.category).sum ≤ 8
/-- a question of the class: the answer, the same world -/
theorem jq_call {X : jj_X} {cc : ByteArray} {rm : Room} {G : jj_G} {kc kn pc nx : Nat} {lv : List (Option Value)} {st rest : List Value} (F : jj_F X RL cc rm) {A : Nat → Nat} {s e : Sg} {m g r : Int → Int} (hP : WP (jj_ac X) A s e m g r G) {index maxL k n : Nat} {y : MethodName} {bytes : ByteArray} {rmy : Room} {As : List Value} {t rv x : Int} {px' : String → Prop}
    (hC : ∀ (ad : Ad) (G1 : jj_G), Rep ad (cC (jj_ac X) ad s e) G1 → jj_C (jj_l0 X) (jj_dg X) (jj_ac X) y (.code y bytes maxL (some .int)) rmy (.ref (ad 0 0) :: As) G1 (jj_pi (fun r' G' => t = 0 ∧ r' = rv ∧ ∃ ad' : Ad, ad' 0 0 = ad 0 0 ∧ Rep ad' (cC (jj_ac X) ad' (sU s 37 0 x) e) G')) px')
    (hpx : ∀ E, px' E → False) (hk : jj_lkV RL index y bytes maxL (some .int) As.length) (hyc : y.cls = RX8) (hst : st = As.reverse ++ .ref (A 0) :: rest)
    (hr : rmy.frames + 1 ≤ rm.frames ∧ 8 + (maxL + 11) + rmy.locals ≤ rm.locals ∧ kc + rmy.cells ≤ rm.cells ∧ kn + rmy.slots ≤ rm.slots ∧ (rest.map fun v => v.category).sum ≤ 8) (hkn : kc + rmy.cells ≤ k ∧ kn + rmy.slots ≤ n) (d : jj_D cc pc (.invokevirtual index) 3 nx)
    (kk : ∀ G', WP (jj_ac X) A s e m g r G' → jj_J X G' k n nx lv (.int (jI rv) :: rest)) : jj_J X G kc kn pc lv st := by
  obtain ⟨G1, G2, rfl, hd, ⟨ad, ha, hR⟩, hG⟩ := hP
  rw [← ha] at hst
  refine jj_callFVi F hd (hC ad G1 hR) hk (hR.at (k := 0) (i := 0) cc_0) cs_8 hyc hst hr hkn d (fun E hE => (hpx E hE).elim) ?_
  rintro r' Gn ⟨-, rfl, ad', ha', hR'⟩ hdn
  exact kk _ ⟨Gn, G2, rfl, hdn, HG.u37 ⟨ad', ha'.trans ha, hR'⟩, hG⟩
section LQ
variable {X : jj_X} {cc : ByteArray} {rm : Room} {G : jj_G} {kc kn k n0 pc nx : Nat} {lv : List (Option Value)} {rest : List Value}
set_option maxHeartbeats 1000000 in
theorem lq_tapeIs (F : jj_F X RL cc rm) {A : Nat → Nat} {s e : Sg} {m g r : Int → Int} (hP : WP (jj_ac X) A s e m g r G) {c : Int} (h : hInv s e c) {t x : Int} (ht : 0 ≤ t ∧ t < s 1 0) (hx : 0 ≤ x ∧ x ≤ 5) (hr : jQ rm kc kn k n0 rest) (d0 : jj_D cc pc (.invokevirtual 32) 3 nx) (kk : ∀ G', WP (jj_ac X) A s e m g r G' → jj_J X G' k n0 nx lv (.int (jI (r_tapeIs s t x)) :: rest)) : jj_J X G kc kn pc lv (.int (jI x) :: .int (jI t) :: .ref (A 0) :: rest) := by
  have b1 := h.1.2.1
  have b2 := h.2.2.1.1
  have b3 := h.2.2.2.2.1.1
  have h0 : t_tapeIs s t x = 0 := by first | assumption | (unfold t_tapeIs; first | rw [if_pos (by omega)] | (rw [if_neg (by omega), if_pos (by omega)]) | (rw [if_neg (by omega), if_neg (by omega)]))
  have he : r_tapeIs s t x = r_tapeIs s t x := by
    rfl
  refine jq_call F hP (k := k) (n := n0) (fun ad G1 hR => x8_tapeIs F.tr hR h.s (by omega) (by omega)) (fun E hE => by rcases hE with ⟨h1, -⟩ | ⟨h1, -⟩ <;> omega) lk_L_32 rfl rfl ⟨by have := hr.1; show 7 + 1 ≤ _; omega, by have := hr.2.1; show 8 + (4 + 11) + 112 ≤ _; omega, by have := hr.2.2; show kc + 2 ≤ _; omega, by have := hr.2.2; show kn + 12 ≤ _; omega, hr.2.2.2.2.2.2⟩ ⟨by have := hr.2.2; show kc + 2 ≤ _; omega, by have := hr.2.2; show kn + 12 ≤ _; omega⟩ d0 ?_
  rw [he]
  exact kk
set_option maxHeartbeats 1000000 in
theorem lq_t0 (F : jj_F X RL cc rm) {A : Nat → Nat} {s e : Sg} {m g r : Int → Int} (hP : WP (jj_ac X) A s e m g r G) {c : Int} (h : hInv s e c) {t : Int} (ht : 0 ≤ t ∧ t < s 1 0) (hr : jQ rm kc kn k n0 rest) (d0 : jj_D cc pc (.invokevirtual 32) 3 nx) (kk : ∀ G', WP (jj_ac X) A s e m g r G' → jj_J X G' k n0 nx lv (.int (jI (s 2 t)) :: rest)) : jj_J X G kc kn pc lv (.int (jI 0) :: .int (jI t) :: .ref (A 0) :: rest) := by
  have b1 := h.1.2.1
  have b2 := h.2.2.1.1
  have b3 := h.2.2.2.2.1.1
  have h0 : t_tapeIs s t 0 = 0 := by first | assumption | (unfold t_tapeIs; first | rw [if_pos (by omega)] | (rw [if_neg (by omega), if_pos (by omega)]) | (rw [if_neg (by omega), if_neg (by omega)]))
  have he : r_tapeIs s t 0 = s 2 t := by
    unfold r_tapeIs; rw [if_pos h0]; rfl
  refine jq_call F hP (k := k) (n := n0) (fun ad G1 hR => x8_tapeIs F.tr hR h.s (by omega) (by omega)) (fun E hE => by rcases hE with ⟨h1, -⟩ | ⟨h1, -⟩ <;> omega) lk_L_32 rfl rfl ⟨by have := hr.1; show 7 + 1 ≤ _; omega, by have := hr.2.1; show 8 + (4 + 11) + 112 ≤ _; omega, by have := hr.2.2; show kc + 2 ≤ _; omega, by have := hr.2.2; show kn + 12 ≤ _; omega, hr.2.2.2.2.2.2⟩ ⟨by have := hr.2.2; show kc + 2 ≤ _; omega, by have := hr.2.2; show kn + 12 ≤ _; omega⟩ d0 ?_
  rw [he]
  exact kk
set_option maxHeartbeats 1000000 in
theorem lq_t1 (F : jj_F X RL cc rm) {A : Nat → Nat} {s e : Sg} {m g r : Int → Int} (hP : WP (jj_ac X) A s e m g r G) {c : Int} (h : hInv s e c) {t : Int} (ht : 0 ≤ t ∧ t < s 1 0) (hr : jQ rm kc kn k n0 rest) (d0 : jj_D cc pc (.invokevirtual 32) 3 nx) (kk : ∀ G', WP (jj_ac X) A s e m g r G' → jj_J X G' k n0 nx lv (.int (jI (sPlay s t)) :: rest)) : jj_J X G kc kn pc lv (.int (jI 1) :: .int (jI t) :: .ref (A 0) :: rest) := by
  have b1 := h.1.2.1
  have b2 := h.2.2.1.1
  have b3 := h.2.2.2.2.1.1
  have h0 : t_tapeIs s t 1 = 0 := by first | assumption | (unfold t_tapeIs; first | rw [if_pos (by omega)] | (rw [if_neg (by omega), if_pos (by omega)]) | (rw [if_neg (by omega), if_neg (by omega)]))
  have he : r_tapeIs s t 1 = sPlay s t := by
    unfold r_tapeIs; rw [if_pos h0]; rfl
  refine jq_call F hP (k := k) (n := n0) (fun ad G1 hR => x8_tapeIs F.tr hR h.s (by omega) (by omega)) (fun E hE => by rcases hE with ⟨h1, -⟩ | ⟨h1, -⟩ <;> omega) lk_L_32 rfl rfl ⟨by have := hr.1; show 7 + 1 ≤ _; omega, by have := hr.2.1; show 8 + (4 + 11) + 112 ≤ _; omega, by have := hr.2.2; show kc + 2 ≤ _; omega, by have := hr.2.2; show kn + 12 ≤ _; omega, hr.2.2.2.2.2.2⟩ ⟨by have := hr.2.2; show kc + 2 ≤ _; omega, by have := hr.2.2; show kn + 12 ≤ _; omega⟩ d0 ?_
  rw [he]
  exact kk
set_option maxHeartbeats 1000000 in
theorem lq_t2 (F : jj_F X RL cc rm) {A : Nat → Nat} {s e : Sg} {m g r : Int → Int} (hP : WP (jj_ac X) A s e m g r G) {c : Int} (h : hInv s e c) {t : Int} (ht : 0 ≤ t ∧ t < s 1 0) (hr : jQ rm kc kn k n0 rest) (d0 : jj_D cc pc (.invokevirtual 32) 3 nx) (kk : ∀ G', WP (jj_ac X) A s e m g r G' → jj_J X G' k n0 nx lv (.int (jI (sLen s t)) :: rest)) : jj_J X G kc kn pc lv (.int (jI 2) :: .int (jI t) :: .ref (A 0) :: rest) := by
  have b1 := h.1.2.1
  have b2 := h.2.2.1.1
  have b3 := h.2.2.2.2.1.1
  have h0 : t_tapeIs s t 2 = 0 := by first | assumption | (unfold t_tapeIs; first | rw [if_pos (by omega)] | (rw [if_neg (by omega), if_pos (by omega)]) | (rw [if_neg (by omega), if_neg (by omega)]))
  have he : r_tapeIs s t 2 = sLen s t := by
    unfold r_tapeIs; rw [if_pos h0]; rfl
  refine jq_call F hP (k := k) (n := n0) (fun ad G1 hR => x8_tapeIs F.tr hR h.s (by omega) (by omega)) (fun E hE => by rcases hE with ⟨h1, -⟩ | ⟨h1, -⟩ <;> omega) lk_L_32 rfl rfl ⟨by have := hr.1; show 7 + 1 ≤ _; omega, by have := hr.2.1; show 8 + (4 + 11) + 112 ≤ _; omega, by have := hr.2.2; show kc + 2 ≤ _; omega, by have := hr.2.2; show kn + 12 ≤ _; omega, hr.2.2.2.2.2.2⟩ ⟨by have := hr.2.2; show kc + 2 ≤ _; omega, by have := hr.2.2; show kn + 12 ≤ _; omega⟩ d0 ?_
  rw [he]
  exact kk
set_option maxHeartbeats 1000000 in
theorem lq_t3 (F : jj_F X RL cc rm) {A : Nat → Nat} {s e : Sg} {m g r : Int → Int} (hP : WP (jj_ac X) A s e m g r G) {c : Int} (h : hInv s e c) {t : Int} (ht : 0 ≤ t ∧ t < s 1 0) (hr : jQ rm kc kn k n0 rest) (d0 : jj_D cc pc (.invokevirtual 32) 3 nx) (kk : ∀ G', WP (jj_ac X) A s e m g r G' → jj_J X G' k n0 nx lv (.int (jI (s 4 t)) :: rest)) : jj_J X G kc kn pc lv (.int (jI 3) :: .int (jI t) :: .ref (A 0) :: rest) := by
  have b1 := h.1.2.1
  have b2 := h.2.2.1.1
  have b3 := h.2.2.2.2.1.1
  have h0 : t_tapeIs s t 3 = 0 := by first | assumption | (unfold t_tapeIs; first | rw [if_pos (by omega)] | (rw [if_neg (by omega), if_pos (by omega)]) | (rw [if_neg (by omega), if_neg (by omega)]))
  have he : r_tapeIs s t 3 = s 4 t := by
    unfold r_tapeIs; rw [if_pos h0]; rfl
  refine jq_call F hP (k := k) (n := n0) (fun ad G1 hR => x8_tapeIs F.tr hR h.s (by omega) (by omega)) (fun E hE => by rcases hE with ⟨h1, -⟩ | ⟨h1, -⟩ <;> omega) lk_L_32 rfl rfl ⟨by have := hr.1; show 7 + 1 ≤ _; omega, by have := hr.2.1; show 8 + (4 + 11) + 112 ≤ _; omega, by have := hr.2.2; show kc + 2 ≤ _; omega, by have := hr.2.2; show kn + 12 ≤ _; omega, hr.2.2.2.2.2.2⟩ ⟨by have := hr.2.2; show kc + 2 ≤ _; omega, by have := hr.2.2; show kn + 12 ≤ _; omega⟩ d0 ?_
  rw [he]
  exact kk
set_option maxHeartbeats 1000000 in
theorem lq_t4 (F : jj_F X RL cc rm) {A : Nat → Nat} {s e : Sg} {m g r : Int → Int} (hP : WP (jj_ac X) A s e m g r G) {c : Int} (h : hInv s e c) {t : Int} (ht : 0 ≤ t ∧ t < s 1 0) (hr : jQ rm kc kn k n0 rest) (d0 : jj_D cc pc (.invokevirtual 32) 3 nx) (kk : ∀ G', WP (jj_ac X) A s e m g r G' → jj_J X G' k n0 nx lv (.int (jI (s 5 t)) :: rest)) : jj_J X G kc kn pc lv (.int (jI 4) :: .int (jI t) :: .ref (A 0) :: rest) := by
  have b1 := h.1.2.1
  have b2 := h.2.2.1.1
  have b3 := h.2.2.2.2.1.1
  have h0 : t_tapeIs s t 4 = 0 := by first | assumption | (unfold t_tapeIs; first | rw [if_pos (by omega)] | (rw [if_neg (by omega), if_pos (by omega)]) | (rw [if_neg (by omega), if_neg (by omega)]))
  have he : r_tapeIs s t 4 = s 5 t := by
    unfold r_tapeIs; rw [if_pos h0]; rfl
  refine jq_call F hP (k := k) (n := n0) (fun ad G1 hR => x8_tapeIs F.tr hR h.s (by omega) (by omega)) (fun E hE => by rcases hE with ⟨h1, -⟩ | ⟨h1, -⟩ <;> omega) lk_L_32 rfl rfl ⟨by have := hr.1; show 7 + 1 ≤ _; omega, by have := hr.2.1; show 8 + (4 + 11) + 112 ≤ _; omega, by have := hr.2.2; show kc + 2 ≤ _; omega, by have := hr.2.2; show kn + 12 ≤ _; omega, hr.2.2.2.2.2.2⟩ ⟨by have := hr.2.2; show kc + 2 ≤ _; omega, by have := hr.2.2; show kn + 12 ≤ _; omega⟩ d0 ?_
  rw [he]
  exact kk
set_option maxHeartbeats 1000000 in
theorem lq_t5 (F : jj_F X RL cc rm) {A : Nat → Nat} {s e : Sg} {m g r : Int → Int} (hP : WP (jj_ac X) A s e m g r G) {c : Int} (h : hInv s e c) {t : Int} (ht : 0 ≤ t ∧ t < s 1 0) (hr : jQ rm kc kn k n0 rest) (d0 : jj_D cc pc (.invokevirtual 32) 3 nx) (kk : ∀ G', WP (jj_ac X) A s e m g r G' → jj_J X G' k n0 nx lv (.int (jI (s 7 t)) :: rest)) : jj_J X G kc kn pc lv (.int (jI 5) :: .int (jI t) :: .ref (A 0) :: rest) := by
  have b1 := h.1.2.1
  have b2 := h.2.2.1.1
  have b3 := h.2.2.2.2.1.1
  have h0 : t_tapeIs s t 5 = 0 := by first | assumption | (unfold t_tapeIs; first | rw [if_pos (by omega)] | (rw [if_neg (by omega), if_pos (by omega)]) | (rw [if_neg (by omega), if_neg (by omega)]))
  have he : r_tapeIs s t 5 = s 7 t := by
    unfold r_tapeIs; rw [if_pos h0]; rfl
  refine jq_call F hP (k := k) (n := n0) (fun ad G1 hR => x8_tapeIs F.tr hR h.s (by omega) (by omega)) (fun E hE => by rcases hE with ⟨h1, -⟩ | ⟨h1, -⟩ <;> omega) lk_L_32 rfl rfl ⟨by have := hr.1; show 7 + 1 ≤ _; omega, by have := hr.2.1; show 8 + (4 + 11) + 112 ≤ _; omega, by have := hr.2.2; show kc + 2 ≤ _; omega, by have := hr.2.2; show kn + 12 ≤ _; omega, hr.2.2.2.2.2.2⟩ ⟨by have := hr.2.2; show kc + 2 ≤ _; omega, by have := hr.2.2; show kn + 12 ≤ _; omega⟩ d0 ?_
  rw [he]
  exact kk
set_option maxHeartbeats 1000000 in
theorem lq_he (F : jj_F X RL cc rm) {A : Nat → Nat} {s e : Sg} {m g r : Int → Int} (hP : WP (jj_ac X) A s e m g r G) {c : Int} (h : hInv s e c) {t x : Int} (ht : 0 ≤ t ∧ t < s 1 0) (hx : 0 ≤ x ∧ jR x) (hr : jQ rm kc kn k n0 rest) (d0 : jj_D cc pc (.invokevirtual 36) 3 nx) (kk : ∀ G', WP (jj_ac X) A s e m g r G' → jj_J X G' k n0 nx lv (.int (jI (sHeard s t x (s 7 t).toNat 0)) :: rest)) : jj_J X G kc kn pc lv (.int (jI x) :: .int (jI t) :: .ref (A 0) :: rest) := by
  have b1 := h.1.2.1
  have b2 := h.2.2.1.1
  have b3 := h.2.2.2.2.1.1
  have h0 : t_heard s t x = 0 := by first | assumption | (unfold t_heard; first | rw [if_pos (by omega)] | (rw [if_neg (by omega), if_pos (by omega)]) | (rw [if_neg (by omega), if_neg (by omega)]))
  have he : r_heard s t x = sHeard s t x (s 7 t).toNat 0 := by
    unfold r_heard; rw [if_pos h0]
  refine jq_call F hP (k := k) (n := n0) (fun ad G1 hR => x8_heard F.tr hR h.s (by omega) (by omega)) (fun E hE => by rcases hE with ⟨h1, -⟩ | ⟨h1, -⟩ <;> omega) lk_L_36 rfl rfl ⟨by have := hr.1; show 7 + 1 ≤ _; omega, by have := hr.2.1; show 8 + (4 + 11) + 112 ≤ _; omega, by have := hr.2.2; show kc + 2 ≤ _; omega, by have := hr.2.2; show kn + 12 ≤ _; omega, hr.2.2.2.2.2.2⟩ ⟨by have := hr.2.2; show kc + 2 ≤ _; omega, by have := hr.2.2; show kn + 12 ≤ _; omega⟩ d0 ?_
  rw [he]
  exact kk
set_option maxHeartbeats 1000000 in
theorem lq_tk (F : jj_F X RL cc rm) {A : Nat → Nat} {s e : Sg} {m g r : Int → Int} (hP : WP (jj_ac X) A s e m g r G) {c : Int} (h : hInv s e c) {t : Int} (ht : 0 ≤ t ∧ t < s 1 0) (hr : jQ rm kc kn k n0 rest) (d0 : jj_D cc pc (.invokevirtual 39) 3 nx) (kk : ∀ G', WP (jj_ac X) A s e m g r G' → jj_J X G' k n0 nx lv (.int (jI (sTakes s t)) :: rest)) : jj_J X G kc kn pc lv (.int (jI t) :: .ref (A 0) :: rest) := by
  have b1 := h.1.2.1
  have b2 := h.2.2.1.1
  have b3 := h.2.2.2.2.1.1
  have h0 : t_is s t = 0 := by first | assumption | (unfold t_is; first | rw [if_pos (by omega)] | (rw [if_neg (by omega), if_pos (by omega)]) | (rw [if_neg (by omega), if_neg (by omega)]))
  have he : r_takes s t = sTakes s t := by
    unfold r_takes; rw [if_pos h0]
  refine jq_call F hP (k := k) (n := n0) (fun ad G1 hR => x8_takes F.tr hR h.s (by omega)) (fun E hE => by have := hE.1; omega) lk_L_39 rfl rfl ⟨by have := hr.1; show 7 + 1 ≤ _; omega, by have := hr.2.1; show 8 + (2 + 11) + 112 ≤ _; omega, by have := hr.2.2; show kc + 2 ≤ _; omega, by have := hr.2.2; show kn + 12 ≤ _; omega, hr.2.2.2.2.2.2⟩ ⟨by have := hr.2.2; show kc + 2 ≤ _; omega, by have := hr.2.2; show kn + 12 ≤ _; omega⟩ d0 ?_
  rw [he]
  exact kk
set_option maxHeartbeats 1000000 in
theorem lq_ta (F : jj_F X RL cc rm) {A : Nat → Nat} {s e : Sg} {m g r : Int → Int} (hP : WP (jj_ac X) A s e m g r G) {c : Int} (h : hInv s e c) {t : Int} (ht : 0 ≤ t ∧ t < s 1 0) (hr : jQ rm kc kn k n0 rest) (d0 : jj_D cc pc (.invokevirtual 42) 3 nx) (kk : ∀ G', WP (jj_ac X) A s e m g r G' → jj_J X G' k n0 nx lv (.int (jI (sTakes s t)) :: rest)) : jj_J X G kc kn pc lv (.int (jI t) :: .ref (A 0) :: rest) := by
  have b1 := h.1.2.1
  have b2 := h.2.2.1.1
  have b3 := h.2.2.2.2.1.1
  have h0 : t_is s t = 0 := by first | assumption | (unfold t_is; first | rw [if_pos (by omega)] | (rw [if_neg (by omega), if_pos (by omega)]) | (rw [if_neg (by omega), if_neg (by omega)]))
  have he : r_takes s t = sTakes s t := by
    unfold r_takes; rw [if_pos h0]
  refine jq_call F hP (k := k) (n := n0) (fun ad G1 hR => x8_takesAnew F.tr hR h.s (by omega) h.T) (fun E hE => by have := hE.1; omega) lk_L_42 rfl rfl ⟨by have := hr.1; show 7 + 1 ≤ _; omega, by have := hr.2.1; show 8 + (2 + 11) + 112 ≤ _; omega, by have := hr.2.2; show kc + 2 ≤ _; omega, by have := hr.2.2; show kn + 12 ≤ _; omega, hr.2.2.2.2.2.2⟩ ⟨by have := hr.2.2; show kc + 2 ≤ _; omega, by have := hr.2.2; show kn + 12 ≤ _; omega⟩ d0 ?_
  rw [he]
  exact kk
set_option maxHeartbeats 1000000 in
theorem lq_se (F : jj_F X RL cc rm) {A : Nat → Nat} {s e : Sg} {m g r : Int → Int} (hP : WP (jj_ac X) A s e m g r G) {c : Int} (h : hInv s e c) {d q : Int} (hd : 0 ≤ d ∧ d < s 13 0) (hq : -1 ≤ q ∧ q ≤ 5) (hr : jQ rm kc kn k n0 rest) (d0 : jj_D cc pc (.invokevirtual 55) 3 nx) (kk : ∀ G', WP (jj_ac X) A s e m g r G' → jj_J X G' k n0 nx lv (.int (jI (sSec s d q)) :: rest)) : jj_J X G kc kn pc lv (.int (jI q) :: .int (jI d) :: .ref (A 0) :: rest) := by
  have b1 := h.1.2.1
  have b2 := h.2.2.1.1
  have b3 := h.2.2.2.2.1.1
  have h0 : t_seconds s d q = 0 := by first | assumption | (unfold t_seconds; first | rw [if_pos (by omega)] | (rw [if_neg (by omega), if_pos (by omega)]) | (rw [if_neg (by omega), if_neg (by omega)]))
  have he : r_seconds s d q = sSec s d q := by
    unfold r_seconds; rw [if_pos h0]
  refine jq_call F hP (k := k) (n := n0) (fun ad G1 hR => x8_seconds F.tr hR h.s (by omega) (by omega)) (fun E hE => by have := hE.1; omega) lk_L_55 rfl rfl ⟨by have := hr.1; show 7 + 1 ≤ _; omega, by have := hr.2.1; show 8 + (4 + 11) + 112 ≤ _; omega, by have := hr.2.2; show kc + 3 ≤ _; omega, by have := hr.2.2; show kn + 18 ≤ _; omega, hr.2.2.2.2.2.2⟩ ⟨by have := hr.2.2; show kc + 3 ≤ _; omega, by have := hr.2.2; show kn + 18 ≤ _; omega⟩ d0 ?_
  rw [he]
  exact kk
set_option maxHeartbeats 1000000 in
theorem lq_stamperIs (F : jj_F X RL cc rm) {A : Nat → Nat} {s e : Sg} {m g r : Int → Int} (hP : WP (jj_ac X) A s e m g r G) {c : Int} (h : hInv s e c) {d y n x : Int} (hN : sNm s d y n) (hx : 0 ≤ x ∧ x ≤ 4) (hr : jQ rm kc kn k n0 rest) (d0 : jj_D cc pc (.invokevirtual 65) 3 nx) (kk : ∀ G', WP (jj_ac X) A s e m g r G' → jj_J X G' k n0 nx lv (.int (jI (r_stamperIs s d y n x)) :: rest)) : jj_J X G kc kn pc lv (.int (jI x) :: .int (jI n) :: .int (jI y) :: .int (jI d) :: .ref (A 0) :: rest) := by
  have b1 := h.1.2.1
  have b2 := h.2.2.1.1
  have b3 := h.2.2.2.2.1.1
  obtain ⟨w1, w2, w3⟩ := id hN
  have h0 : t_stamperIs s d y n x = 0 := by first | assumption | (unfold t_stamperIs; first | rw [if_pos (by omega)] | (rw [if_neg (by omega), if_pos (by omega)]) | (rw [if_neg (by omega), if_neg (by omega)]))
  have he : r_stamperIs s d y n x = r_stamperIs s d y n x := by
    rfl
  refine jq_call F hP (k := k) (n := n0) (fun ad G1 hR => x8_stamperIs F.tr hR h.s (by omega) (by omega) (by omega) (by omega)) (fun E hE => by rcases hE with ⟨h1, -⟩ | ⟨h1, -⟩ <;> omega) lk_L_65 rfl rfl ⟨by have := hr.1; show 7 + 1 ≤ _; omega, by have := hr.2.1; show 8 + (6 + 11) + 112 ≤ _; omega, by have := hr.2.2; show kc + 3 ≤ _; omega, by have := hr.2.2; show kn + 18 ≤ _; omega, hr.2.2.2.2.2.2⟩ ⟨by have := hr.2.2; show kc + 3 ≤ _; omega, by have := hr.2.2; show kn + 18 ≤ _; omega⟩ d0 ?_
  rw [he]
  exact kk
set_option maxHeartbeats 1000000 in
theorem lq_s0 (F : jj_F X RL cc rm) {A : Nat → Nat} {s e : Sg} {m g r : Int → Int} (hP : WP (jj_ac X) A s e m g r G) {c : Int} (h : hInv s e c) {d y n : Int} (hN : sNm s d y n) (hr : jQ rm kc kn k n0 rest) (d0 : jj_D cc pc (.invokevirtual 65) 3 nx) (kk : ∀ G', WP (jj_ac X) A s e m g r G' → jj_J X G' k n0 nx lv (.int (jI (s 16 (sSt d y n))) :: rest)) : jj_J X G kc kn pc lv (.int (jI 0) :: .int (jI n) :: .int (jI y) :: .int (jI d) :: .ref (A 0) :: rest) := by
  have b1 := h.1.2.1
  have b2 := h.2.2.1.1
  have b3 := h.2.2.2.2.1.1
  obtain ⟨w1, w2, w3⟩ := id hN
  have h0 : t_stamperIs s d y n 0 = 0 := by first | assumption | (unfold t_stamperIs; first | rw [if_pos (by omega)] | (rw [if_neg (by omega), if_pos (by omega)]) | (rw [if_neg (by omega), if_neg (by omega)]))
  have he : r_stamperIs s d y n 0 = s 16 (sSt d y n) := by
    unfold r_stamperIs; rw [if_pos h0]; rfl
  refine jq_call F hP (k := k) (n := n0) (fun ad G1 hR => x8_stamperIs F.tr hR h.s (by omega) (by omega) (by omega) (by omega)) (fun E hE => by rcases hE with ⟨h1, -⟩ | ⟨h1, -⟩ <;> omega) lk_L_65 rfl rfl ⟨by have := hr.1; show 7 + 1 ≤ _; omega, by have := hr.2.1; show 8 + (6 + 11) + 112 ≤ _; omega, by have := hr.2.2; show kc + 3 ≤ _; omega, by have := hr.2.2; show kn + 18 ≤ _; omega, hr.2.2.2.2.2.2⟩ ⟨by have := hr.2.2; show kc + 3 ≤ _; omega, by have := hr.2.2; show kn + 18 ≤ _; omega⟩ d0 ?_
  rw [he]
  exact kk
set_option maxHeartbeats 1000000 in
theorem lq_s1 (F : jj_F X RL cc rm) {A : Nat → Nat} {s e : Sg} {m g r : Int → Int} (hP : WP (jj_ac X) A s e m g r G) {c : Int} (h : hInv s e c) {d y n : Int} (hN : sNm s d y n) (hr : jQ rm kc kn k n0 rest) (d0 : jj_D cc pc (.invokevirtual 65) 3 nx) (kk : ∀ G', WP (jj_ac X) A s e m g r G' → jj_J X G' k n0 nx lv (.int (jI (s 17 (sSt d y n))) :: rest)) : jj_J X G kc kn pc lv (.int (jI 1) :: .int (jI n) :: .int (jI y) :: .int (jI d) :: .ref (A 0) :: rest) := by
  have b1 := h.1.2.1
  have b2 := h.2.2.1.1
  have b3 := h.2.2.2.2.1.1
  obtain ⟨w1, w2, w3⟩ := id hN
  have h0 : t_stamperIs s d y n 1 = 0 := by first | assumption | (unfold t_stamperIs; first | rw [if_pos (by omega)] | (rw [if_neg (by omega), if_pos (by omega)]) | (rw [if_neg (by omega), if_neg (by omega)]))
  have he : r_stamperIs s d y n 1 = s 17 (sSt d y n) := by
    unfold r_stamperIs; rw [if_pos h0]; rfl
  refine jq_call F hP (k := k) (n := n0) (fun ad G1 hR => x8_stamperIs F.tr hR h.s (by omega) (by omega) (by omega) (by omega)) (fun E hE => by rcases hE with ⟨h1, -⟩ | ⟨h1, -⟩ <;> omega) lk_L_65 rfl rfl ⟨by have := hr.1; show 7 + 1 ≤ _; omega, by have := hr.2.1; show 8 + (6 + 11) + 112 ≤ _; omega, by have := hr.2.2; show kc + 3 ≤ _; omega, by have := hr.2.2; show kn + 18 ≤ _; omega, hr.2.2.2.2.2.2⟩ ⟨by have := hr.2.2; show kc + 3 ≤ _; omega, by have := hr.2.2; show kn + 18 ≤ _; omega⟩ d0 ?_
  rw [he]
  exact kk
set_option maxHeartbeats 1000000 in
theorem lq_s2 (F : jj_F X RL cc rm) {A : Nat → Nat} {s e : Sg} {m g r : Int → Int} (hP : WP (jj_ac X) A s e m g r G) {c : Int} (h : hInv s e c) {d y n : Int} (hN : sNm s d y n) (hr : jQ rm kc kn k n0 rest) (d0 : jj_D cc pc (.invokevirtual 65) 3 nx) (kk : ∀ G', WP (jj_ac X) A s e m g r G' → jj_J X G' k n0 nx lv (.int (jI (s 18 (sSt d y n) - s 19 (sSt d y n))) :: rest)) : jj_J X G kc kn pc lv (.int (jI 2) :: .int (jI n) :: .int (jI y) :: .int (jI d) :: .ref (A 0) :: rest) := by
  have b1 := h.1.2.1
  have b2 := h.2.2.1.1
  have b3 := h.2.2.2.2.1.1
  obtain ⟨w1, w2, w3⟩ := id hN
  have h0 : t_stamperIs s d y n 2 = 0 := by first | assumption | (unfold t_stamperIs; first | rw [if_pos (by omega)] | (rw [if_neg (by omega), if_pos (by omega)]) | (rw [if_neg (by omega), if_neg (by omega)]))
  have he : r_stamperIs s d y n 2 = s 18 (sSt d y n) - s 19 (sSt d y n) := by
    unfold r_stamperIs; rw [if_pos h0]; rfl
  refine jq_call F hP (k := k) (n := n0) (fun ad G1 hR => x8_stamperIs F.tr hR h.s (by omega) (by omega) (by omega) (by omega)) (fun E hE => by rcases hE with ⟨h1, -⟩ | ⟨h1, -⟩ <;> omega) lk_L_65 rfl rfl ⟨by have := hr.1; show 7 + 1 ≤ _; omega, by have := hr.2.1; show 8 + (6 + 11) + 112 ≤ _; omega, by have := hr.2.2; show kc + 3 ≤ _; omega, by have := hr.2.2; show kn + 18 ≤ _; omega, hr.2.2.2.2.2.2⟩ ⟨by have := hr.2.2; show kc + 3 ≤ _; omega, by have := hr.2.2; show kn + 18 ≤ _; omega⟩ d0 ?_
  rw [he]
  exact kk
set_option maxHeartbeats 1000000 in
theorem lq_s3 (F : jj_F X RL cc rm) {A : Nat → Nat} {s e : Sg} {m g r : Int → Int} (hP : WP (jj_ac X) A s e m g r G) {c : Int} (h : hInv s e c) {d y n : Int} (hN : sNm s d y n) (hr : jQ rm kc kn k n0 rest) (d0 : jj_D cc pc (.invokevirtual 65) 3 nx) (kk : ∀ G', WP (jj_ac X) A s e m g r G' → jj_J X G' k n0 nx lv (.int (jI (s 20 (sSt d y n))) :: rest)) : jj_J X G kc kn pc lv (.int (jI 3) :: .int (jI n) :: .int (jI y) :: .int (jI d) :: .ref (A 0) :: rest) := by
  have b1 := h.1.2.1
  have b2 := h.2.2.1.1
  have b3 := h.2.2.2.2.1.1
  obtain ⟨w1, w2, w3⟩ := id hN
  have h0 : t_stamperIs s d y n 3 = 0 := by first | assumption | (unfold t_stamperIs; first | rw [if_pos (by omega)] | (rw [if_neg (by omega), if_pos (by omega)]) | (rw [if_neg (by omega), if_neg (by omega)]))
  have he : r_stamperIs s d y n 3 = s 20 (sSt d y n) := by
    unfold r_stamperIs; rw [if_pos h0]; rfl
  refine jq_call F hP (k := k) (n := n0) (fun ad G1 hR => x8_stamperIs F.tr hR h.s (by omega) (by omega) (by omega) (by omega)) (fun E hE => by rcases hE with ⟨h1, -⟩ | ⟨h1, -⟩ <;> omega) lk_L_65 rfl rfl ⟨by have := hr.1; show 7 + 1 ≤ _; omega, by have := hr.2.1; show 8 + (6 + 11) + 112 ≤ _; omega, by have := hr.2.2; show kc + 3 ≤ _; omega, by have := hr.2.2; show kn + 18 ≤ _; omega, hr.2.2.2.2.2.2⟩ ⟨by have := hr.2.2; show kc + 3 ≤ _; omega, by have := hr.2.2; show kn + 18 ≤ _; omega⟩ d0 ?_
  rw [he]
  exact kk
set_option maxHeartbeats 1000000 in
theorem lq_s4 (F : jj_F X RL cc rm) {A : Nat → Nat} {s e : Sg} {m g r : Int → Int} (hP : WP (jj_ac X) A s e m g r G) {c : Int} (h : hInv s e c) {d y n : Int} (hN : sNm s d y n) (hr : jQ rm kc kn k n0 rest) (d0 : jj_D cc pc (.invokevirtual 65) 3 nx) (kk : ∀ G', WP (jj_ac X) A s e m g r G' → jj_J X G' k n0 nx lv (.int (jI (s 21 (sSt d y n))) :: rest)) : jj_J X G kc kn pc lv (.int (jI 4) :: .int (jI n) :: .int (jI y) :: .int (jI d) :: .ref (A 0) :: rest) := by
  have b1 := h.1.2.1
  have b2 := h.2.2.1.1
  have b3 := h.2.2.2.2.1.1
  obtain ⟨w1, w2, w3⟩ := id hN
  have h0 : t_stamperIs s d y n 4 = 0 := by first | assumption | (unfold t_stamperIs; first | rw [if_pos (by omega)] | (rw [if_neg (by omega), if_pos (by omega)]) | (rw [if_neg (by omega), if_neg (by omega)]))
  have he : r_stamperIs s d y n 4 = s 21 (sSt d y n) := by
    unfold r_stamperIs; rw [if_pos h0]; rfl
  refine jq_call F hP (k := k) (n := n0) (fun ad G1 hR => x8_stamperIs F.tr hR h.s (by omega) (by omega) (by omega) (by omega)) (fun E hE => by rcases hE with ⟨h1, -⟩ | ⟨h1, -⟩ <;> omega) lk_L_65 rfl rfl ⟨by have := hr.1; show 7 + 1 ≤ _; omega, by have := hr.2.1; show 8 + (6 + 11) + 112 ≤ _; omega, by have := hr.2.2; show kc + 3 ≤ _; omega, by have := hr.2.2; show kn + 18 ≤ _; omega, hr.2.2.2.2.2.2⟩ ⟨by have := hr.2.2; show kc + 3 ≤ _; omega, by have := hr.2.2; show kn + 18 ≤ _; omega⟩ d0 ?_
  rw [he]
  exact kk
set_option maxHeartbeats 1000000 in
theorem lq_no (F : jj_F X RL cc rm) {A : Nat → Nat} {s e : Sg} {m g r : Int → Int} (hP : WP (jj_ac X) A s e m g r G) {c : Int} (h : hInv s e c) {d q : Int} (hd : 0 ≤ d ∧ d < s 22 0) (hq : 0 ≤ q ∧ q ≤ 7) (hr : jQ rm kc kn k n0 rest) (d0 : jj_D cc pc (.invokevirtual 83) 3 nx) (kk : ∀ G', WP (jj_ac X) A s e m g r G' → jj_J X G' k n0 nx lv (.int (jI (sNoise s d q)) :: rest)) : jj_J X G kc kn pc lv (.int (jI q) :: .int (jI d) :: .ref (A 0) :: rest) := by
  have b1 := h.1.2.1
  have b2 := h.2.2.1.1
  have b3 := h.2.2.2.2.1.1
  have h0 : t_scr s d q = 0 := by first | assumption | (unfold t_scr; first | rw [if_pos (by omega)] | (rw [if_neg (by omega), if_pos (by omega)]) | (rw [if_neg (by omega), if_neg (by omega)]))
  have he : r_noise s d q = sNoise s d q := by
    unfold r_noise; rw [if_pos h0]
  refine jq_call F hP (k := k) (n := n0) (fun ad G1 hR => x8_noise F.tr hR h.s (by omega) (by omega)) (fun E hE => by have := hE.1; omega) lk_L_83 rfl rfl ⟨by have := hr.1; show 7 + 1 ≤ _; omega, by have := hr.2.1; show 8 + (4 + 11) + 112 ≤ _; omega, by have := hr.2.2; show kc + 3 ≤ _; omega, by have := hr.2.2; show kn + 18 ≤ _; omega, hr.2.2.2.2.2.2⟩ ⟨by have := hr.2.2; show kc + 3 ≤ _; omega, by have := hr.2.2; show kn + 18 ≤ _; omega⟩ d0 ?_
  rw [he]
  exact kk
set_option maxHeartbeats 1000000 in
theorem lq_gr (F : jj_F X RL cc rm) {A : Nat → Nat} {s e : Sg} {m g r : Int → Int} (hP : WP (jj_ac X) A s e m g r G) {c : Int} (h : hInv s e c) {d : Int} (hd : 0 ≤ d ∧ d < s 22 0) (hr : jQ rm kc kn k n0 rest) (d0 : jj_D cc pc (.invokevirtual 86) 3 nx) (kk : ∀ G', WP (jj_ac X) A s e m g r G' → jj_J X G' k n0 nx lv (.int (jI (sGrade (sNoises s d 8))) :: rest)) : jj_J X G kc kn pc lv (.int (jI d) :: .ref (A 0) :: rest) := by
  have b1 := h.1.2.1
  have b2 := h.2.2.1.1
  have b3 := h.2.2.2.2.1.1
  have h0 : t_grade s d = 0 := by first | assumption | (unfold t_grade; first | rw [if_pos (by omega)] | (rw [if_neg (by omega), if_pos (by omega)]) | (rw [if_neg (by omega), if_neg (by omega)]))
  have he : r_grade s d = sGrade (sNoises s d 8) := by
    unfold r_grade; rw [if_pos h0]
  refine jq_call F hP (k := k) (n := n0) (fun ad G1 hR => x8_grade F.tr hR h.s (by omega)) (fun E hE => by have := hE.1; omega) lk_L_86 rfl rfl ⟨by have := hr.1; show 7 + 1 ≤ _; omega, by have := hr.2.1; show 8 + (3 + 11) + 112 ≤ _; omega, by have := hr.2.2; show kc + 2 ≤ _; omega, by have := hr.2.2; show kn + 12 ≤ _; omega, hr.2.2.2.2.2.2⟩ ⟨by have := hr.2.2; show kc + 2 ≤ _; omega, by have := hr.2.2; show kn + 12 ≤ _; omega⟩ d0 ?_
  rw [he]
  exact kk
set_option maxHeartbeats 1000000 in
theorem lq_jo (F : jj_F X RL cc rm) {A : Nat → Nat} {s e : Sg} {m g r : Int → Int} (hP : WP (jj_ac X) A s e m g r G) {c : Int} (h : hInv s e c) {q y : Int} (hq : jR q) (hy : jR y) (hj : t_join s q y = 0) (hr : jQ rm kc kn k n0 rest) (d0 : jj_D cc pc (.invokevirtual 89) 3 nx) (kk : ∀ G', WP (jj_ac X) A s e m g r G' → jj_J X G' k n0 nx lv (.int (jI (sJoin s q y)) :: rest)) : jj_J X G kc kn pc lv (.int (jI y) :: .int (jI q) :: .ref (A 0) :: rest) := by
  have b1 := h.1.2.1
  have b2 := h.2.2.1.1
  have b3 := h.2.2.2.2.1.1
  have h0 : t_join s q y = 0 := by first | assumption | (unfold t_join; first | rw [if_pos (by omega)] | (rw [if_neg (by omega), if_pos (by omega)]) | (rw [if_neg (by omega), if_neg (by omega)]))
  have he : r_join s q y = sJoin s q y := by
    unfold r_join; rw [if_pos h0]
  refine jq_call F hP (k := k) (n := n0) (fun ad G1 hR => x8_join F.tr hR h.s (by omega) (by omega)) (fun E hE => by rcases hE with ⟨h1, -⟩ | ⟨h1, -⟩ | ⟨h1, -⟩ <;> omega) lk_L_89 rfl rfl ⟨by have := hr.1; show 8 + 1 ≤ _; omega, by have := hr.2.1; show 8 + (3 + 11) + 138 ≤ _; omega, by have := hr.2.2; show kc + 3 ≤ _; omega, by have := hr.2.2; show kn + 18 ≤ _; omega, hr.2.2.2.2.2.2⟩ ⟨by have := hr.2.2; show kc + 3 ≤ _; omega, by have := hr.2.2; show kn + 18 ≤ _; omega⟩ d0 ?_
  rw [he]
  exact kk
set_option maxHeartbeats 1000000 in
theorem lq_fi (F : jj_F X RL cc rm) {A : Nat → Nat} {s e : Sg} {m g r : Int → Int} (hP : WP (jj_ac X) A s e m g r G) {c : Int} (h : hInv s e c) {q : Int} (hq : 0 ≤ q ∧ q ≤ 7) (hr : jQ rm kc kn k n0 rest) (d0 : jj_D cc pc (.invokevirtual 102) 3 nx) (kk : ∀ G', WP (jj_ac X) A s e m g r G' → jj_J X G' k n0 nx lv (.int (jI (if s 26 0 = 0 then -1 else s 27 q)) :: rest)) : jj_J X G kc kn pc lv (.int (jI q) :: .ref (A 0) :: rest) := by
  have b1 := h.1.2.1
  have b2 := h.2.2.1.1
  have b3 := h.2.2.2.2.1.1
  have h0 : t_part q = 0 := by first | assumption | (unfold t_part; first | rw [if_pos (by omega)] | (rw [if_neg (by omega), if_pos (by omega)]) | (rw [if_neg (by omega), if_neg (by omega)]))
  have he : r_fileIs s q = if s 26 0 = 0 then -1 else s 27 q := by
    unfold r_fileIs; rw [if_pos h0]
  refine jq_call F hP (k := k) (n := n0) (fun ad G1 hR => x8_fileIs F.tr hR h.s (by omega)) (fun E hE => by have := hE.1; omega) lk_L_102 rfl rfl ⟨by have := hr.1; show 7 + 1 ≤ _; omega, by have := hr.2.1; show 8 + (2 + 11) + 110 ≤ _; omega, by have := hr.2.2; show kc + 2 ≤ _; omega, by have := hr.2.2; show kn + 12 ≤ _; omega, hr.2.2.2.2.2.2⟩ ⟨by have := hr.2.2; show kc + 2 ≤ _; omega, by have := hr.2.2; show kn + 12 ≤ _; omega⟩ d0 ?_
  rw [he]
  exact kk
set_option maxHeartbeats 1000000 in
theorem lq_ac (F : jj_F X RL cc rm) {A : Nat → Nat} {s e : Sg} {m g r : Int → Int} (hP : WP (jj_ac X) A s e m g r G) {c : Int} (h : hInv s e c) {q : Int} (hq : 0 ≤ q ∧ q ≤ 5) (hr : jQ rm kc kn k n0 rest) (d0 : jj_D cc pc (.invokevirtual 108) 3 nx) (kk : ∀ G', WP (jj_ac X) A s e m g r G' → jj_J X G' k n0 nx lv (.int (jI (s 36 q)) :: rest)) : jj_J X G kc kn pc lv (.int (jI q) :: .ref (A 0) :: rest) := by
  have b1 := h.1.2.1
  have b2 := h.2.2.1.1
  have b3 := h.2.2.2.2.1.1
  have h0 : t_artist q = 0 := by first | assumption | (unfold t_artist; first | rw [if_pos (by omega)] | (rw [if_neg (by omega), if_pos (by omega)]) | (rw [if_neg (by omega), if_neg (by omega)]))
  have he : r_account s q = s 36 q := by
    unfold r_account; rw [if_pos h0]
  refine jq_call F hP (k := k) (n := n0) (fun ad G1 hR => x8_account F.tr hR h.s (by omega)) (fun E hE => by have := hE.1; omega) lk_L_108 rfl rfl ⟨by have := hr.1; show 7 + 1 ≤ _; omega, by have := hr.2.1; show 8 + (2 + 11) + 110 ≤ _; omega, by have := hr.2.2; show kc + 2 ≤ _; omega, by have := hr.2.2; show kn + 12 ≤ _; omega, hr.2.2.2.2.2.2⟩ ⟨by have := hr.2.2; show kc + 2 ≤ _; omega, by have := hr.2.2; show kn + 12 ≤ _; omega⟩ d0 ?_
  rw [he]
  exact kk
set_option maxHeartbeats 1000000 in
theorem lq_aa (F : jj_F X RL cc rm) {A : Nat → Nat} {s e : Sg} {m g r : Int → Int} (hP : WP (jj_ac X) A s e m g r G) {c : Int} (h : hInv s e c) {q : Int} (hq : 0 ≤ q ∧ q ≤ 5) (hr : jQ rm kc kn k n0 rest) (d0 : jj_D cc pc (.invokevirtual 111) 3 nx) (kk : ∀ G', WP (jj_ac X) A s e m g r G' → jj_J X G' k n0 nx lv (.int (jI (s 36 q)) :: rest)) : jj_J X G kc kn pc lv (.int (jI q) :: .ref (A 0) :: rest) := by
  have b1 := h.1.2.1
  have b2 := h.2.2.1.1
  have b3 := h.2.2.2.2.1.1
  have h0 : t_artist q = 0 := by first | assumption | (unfold t_artist; first | rw [if_pos (by omega)] | (rw [if_neg (by omega), if_pos (by omega)]) | (rw [if_neg (by omega), if_neg (by omega)]))
  have he : r_account s q = s 36 q := by
    unfold r_account; rw [if_pos h0]
  refine jq_call F hP (k := k) (n := n0) (fun ad G1 hR => x8_accountAnew F.tr hR h.s (by omega) h.A) (fun E hE => by have := hE.1; omega) lk_L_111 rfl rfl ⟨by have := hr.1; show 7 + 1 ≤ _; omega, by have := hr.2.1; show 8 + (2 + 11) + 110 ≤ _; omega, by have := hr.2.2; show kc + 2 ≤ _; omega, by have := hr.2.2; show kn + 12 ≤ _; omega, hr.2.2.2.2.2.2⟩ ⟨by have := hr.2.2; show kc + 2 ≤ _; omega, by have := hr.2.2; show kn + 12 ≤ _; omega⟩ d0 ?_
  rw [he]
  exact kk
end LQ
