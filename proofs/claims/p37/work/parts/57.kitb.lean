/-! ===== rows for the law's methods ===== -/
section LK
variable {X : jj_X} {own : String} {cc : ByteArray} {rm : Room} {G G0 : jj_G} {kc kn pc nx k n0 : Nat} {lv lr : List (Option Value)} {st rest : List Value} {post : Option Value → jj_G → Prop} {px : String → Prop}
theorem jL_add (a b : Int) : jL a + jL b = jL (a + b) := (Int64.ofInt_add a b).symm
theorem jj_ladd (F : jj_F X own cc rm) {a b : Int} (d : jj_D cc pc (.ladd) 1 nx) (kk : jj_J X G kc kn nx lv (.long (jL (a + b)) :: st)) : jj_J X G kc kn pc lv (.long (jL b) :: .long (jL a) :: st) := by
  obtain ⟨p, l, e, R, s, m, args, below, meth, c, nL, A, D, ac, Q⟩ := X
  obtain ⟨hx, hb, hml, hown, hR, hA, hE, hs, hk, hts, -⟩ := F
  obtain ⟨rfl, hd⟩ := d
  intro H locs ls hW hS hl
  refine lv_ladd hx hb hd ?_
  rw [jL_add]
  exact kk H locs ls hW hS hl
theorem jj_lret (B : jj_B X own cc rm (some .long) G0 post px) {x : Int64} (d : jj_D cc pc .lreturn 1 nx) (hr : kc ≤ rm.cells ∧ kn ≤ rm.slots) (hp : post (some (.long x)) G) : jj_J X G kc kn pc lv [.long x] := by
  obtain ⟨p, l, e, R, s, m, args, below, meth, c, nL, A, D, ac, Q⟩ := X
  obtain ⟨⟨hx, hb, hml, hown, hR, hA, hE, hs, hlk, hts, -⟩, hret, rfl, rfl, hno⟩ := B
  obtain ⟨rfl, hd⟩ := d
  intro H locs ls hW hS hl
  refine W.widen hr.1 hr.2 (vx_ret ?_)
  exact W.lret hx hb hret (fun t ht hWt => ⟨⟨_, G, rfl, hp, by rw [ht]; exact hW⟩, hS.F ht⟩) hS.2.2 hd hlk
theorem jj_lstore2 (F : jj_F X own cc rm) {x : Int64} {x0 x1 x2 x3 : Option Value} (d : jj_D cc pc (.lstore_n 2) 1 nx) (hn : 3 < jj_nL X) (hc : jj_ncv x1 = true) (kk : jj_J X G kc kn nx (x0 :: x1 :: some (.long x) :: none :: lr) st) : jj_J X G kc kn pc (x0 :: x1 :: x2 :: x3 :: lr) (.long x :: st) := jj_lstoreA F d hn (by cases x1 <;> first | rfl | exact hc) kk
theorem jj_lstore10 (F : jj_F X own cc rm) {x : Int64} {x0 x1 x2 x3 x4 x5 x6 x7 x8 x9 x10 x11 : Option Value} (d : jj_D cc pc (.lstore 10) 2 nx) (hn : 11 < jj_nL X) (hc : jj_ncv x9 = true) (kk : jj_J X G kc kn nx (x0 :: x1 :: x2 :: x3 :: x4 :: x5 :: x6 :: x7 :: x8 :: x9 :: some (.long x) :: none :: lr) st) : jj_J X G kc kn pc (x0 :: x1 :: x2 :: x3 :: x4 :: x5 :: x6 :: x7 :: x8 :: x9 :: x10 :: x11 :: lr) (.long x :: st) := jj_lstoreB F d hn (by cases x9 <;> first | rfl | exact hc) kk
theorem jj_eql {a b : Int} (h : a = b) (kk : jj_J X G kc kn pc lv (.long (jL b) :: st)) : jj_J X G kc kn pc lv (.long (jL a) :: st) := by rw [h]; exact kk
theorem lg_same (x : Int64) : lg_cmp x x = jI 0 := by unfold lg_cmp; simp; rfl
variable {A : Nat → Nat} {s e : Sg} {m g r : Int → Int}
theorem jm_ald (F : jj_F X own cc rm) (hP : WP (jj_ac X) A s e m g r G) {i : Int} (hi : 0 ≤ i ∧ i < 7) (d : jj_D cc pc .iaload 1 nx) (kk : jj_J X G kc kn nx lv (.int (jI (m i)) :: st)) : jj_J X G kc kn pc lv (.int (jI i) :: .ref (A 1) :: st) := jj_iald F hP.m (by omega) (by decide) d kk
theorem jg_ald (F : jj_F X own cc rm) (hP : WP (jj_ac X) A s e m g r G) {i : Int} (hi : 0 ≤ i ∧ i < 31) (d : jj_D cc pc .iaload 1 nx) (kk : jj_J X G kc kn nx lv (.int (jI (g i)) :: st)) : jj_J X G kc kn pc lv (.int (jI i) :: .ref (A 2) :: st) := jj_iald F hP.g (by omega) (by decide) d kk
theorem jr_ald (F : jj_F X own cc rm) (hP : WP (jj_ac X) A s e m g r G) {i : Int} (hi : 0 ≤ i ∧ i < 40) (d : jj_D cc pc .iaload 1 nx) (kk : jj_J X G kc kn nx lv (.int (jI (r i)) :: st)) : jj_J X G kc kn pc lv (.int (jI i) :: .ref (A 3) :: st) := jj_iald F hP.r (by omega) (by decide) d kk
theorem jm_ast (F : jj_F X own cc rm) (hP : WP (jj_ac X) A s e m g r G) {i x : Int} (hi : 0 ≤ i ∧ i < 7) (d : jj_D cc pc .iastore 1 nx) (kk : ∀ G', WP (jj_ac X) A s e (ju m i x) g r G' → jj_J X G' kc kn nx lv st) : jj_J X G kc kn pc lv (.int (jI x) :: .int (jI i) :: .ref (A 1) :: st) := jj_iast F hP.m (by omega) (by decide) d (kk _ hP.setm)
theorem jg_ast (F : jj_F X own cc rm) (hP : WP (jj_ac X) A s e m g r G) {i x : Int} (hi : 0 ≤ i ∧ i < 31) (d : jj_D cc pc .iastore 1 nx) (kk : ∀ G', WP (jj_ac X) A s e m (ju g i x) r G' → jj_J X G' kc kn nx lv st) : jj_J X G kc kn pc lv (.int (jI x) :: .int (jI i) :: .ref (A 2) :: st) := jj_iast F hP.g (by omega) (by decide) d (kk _ hP.setg)
theorem jr_ast (F : jj_F X own cc rm) (hP : WP (jj_ac X) A s e m g r G) {i x : Int} (hi : 0 ≤ i ∧ i < 40) (d : jj_D cc pc .iastore 1 nx) (kk : ∀ G', WP (jj_ac X) A s e m g (ju r i x) G' → jj_J X G' kc kn nx lv st) : jj_J X G kc kn pc lv (.int (jI x) :: .int (jI i) :: .ref (A 3) :: st) := jj_iast F hP.r (by omega) (by decide) d (kk _ hP.setr)
/-- the rest of a walk, said once for two ways that meet -/
theorem jj_meet (pc' k' n' : Nat) (P : jj_G → Prop) (J : ∀ G', P G' → jj_J X G' k' n' pc' lv []) (kk : (∀ G', P G' → jj_J X G' k' n' pc' lv []) → jj_J X G kc kn pc lv rest) : jj_J X G kc kn pc lv rest := kk J
theorem jj_meet1 (pc' k' n' : Nat) (P : jj_G → Prop) {v : Value} (J : ∀ G', P G' → jj_J X G' k' n' pc' lv rest) (kk : (∀ G', P G' → jj_J X G' k' n' pc' lv rest) → jj_J X G kc kn pc lv (v :: rest)) : jj_J X G kc kn pc lv (v :: rest) := kk J
/-- .. with a number told -/
theorem jj_meetb (pc' : Nat) (P : Int → Prop) {v : Value} (J : ∀ b : Int, P b → jj_J X G kc kn pc' lv (.int (jI b) :: rest)) (kk : (∀ b : Int, P b → jj_J X G kc kn pc' lv (.int (jI b) :: rest)) → jj_J X G kc kn pc lv (v :: rest)) : jj_J X G kc kn pc lv (v :: rest) := kk J
theorem jj_meetb2 (pc' : Nat) (P : Int → Prop) {v u : Value} (J : ∀ b : Int, P b → jj_J X G kc kn pc' lv (.int (jI b) :: rest)) (kk : (∀ b : Int, P b → jj_J X G kc kn pc' lv (.int (jI b) :: rest)) → jj_J X G kc kn pc lv (v :: u :: rest)) : jj_J X G kc kn pc lv (v :: u :: rest) := kk J
/-- room for a call by number -/
abbrev jN (rm : Room) (kc kn k n : Nat) (rest : List Value) : Prop := 11 ≤ rm.frames ∧ 225 ≤ rm.locals ∧ kc + 12 ≤ k ∧ kn + 130 ≤ n ∧ k ≤ rm.cells ∧ n ≤ rm.slots ∧ (rest.map fun v => v.category).sum ≤ 8
variable {w a b x y z t rv code : Int} {n e2 : Sg}
theorem la_any (F : jj_F X RL cc rm) {P : Int → jj_G → Prop} (hC : jj_C (jj_l0 X) (jj_dg X) (jj_ac X) yL_act (.codeWith yL_act cL_act 8 (some .int) hh_act) rm_act [.ref (A 0), .int (jI w), .int (jI a), .int (jI b), .int (jI x), .int (jI y), .int (jI z)] G (jj_pi P) jj_nx) (hr : jN rm kc kn k n0 rest) (d0 : jj_D cc pc (.invokestatic 133) 3 nx) (kk : ∀ v G', P v G' → jj_J X G' k n0 nx lv (.int (jI v) :: rest)) : jj_J X G kc kn pc lv (.int (jI z) :: .int (jI y) :: .int (jI x) :: .int (jI b) :: .int (jI a) :: .int (jI w) :: .ref (A 0) :: rest) := by
  obtain ⟨r1, r2, r3, r4, r5, r6, r7⟩ := hr
  exact jj_callFSi F hC lkw_act rfl ⟨by show 9 + 1 ≤ _; omega, by show 8 + (8 + 11) + 170 ≤ _; omega, by show kc + 12 ≤ _; omega, by show kn + 130 ≤ _; omega, r7⟩ ⟨r3, r4⟩ d0 kk
theorem la_no (F : jj_F X RL cc rm) (hC : jj_C (jj_l0 X) (jj_dg X) (jj_ac X) yL_act (.codeWith yL_act cL_act 8 (some .int) hh_act) rm_act [.ref (A 0), .int (jI w), .int (jI a), .int (jI b), .int (jI x), .int (jI y), .int (jI z)] G (jj_pi (AP (jj_ac X) A s e m g r t rv n e2 code)) jj_nx) (v c0 : Int) (ht : t = v) (hv : ¬ v = 0) (hc : t = v → code = c0) (hr : jN rm kc kn k n0 rest) (d0 : jj_D cc pc (.invokestatic 133) 3 nx) (kk : ∀ G', WP (jj_ac X) A s e m g r G' → jj_J X G' k n0 nx lv (.int (jI c0) :: rest)) : jj_J X G kc kn pc lv (.int (jI z) :: .int (jI y) :: .int (jI x) :: .int (jI b) :: .int (jI a) :: .int (jI w) :: .ref (A 0) :: rest) := by
  refine la_any F hC hr d0 ?_
  rintro v1 G' (⟨h0, -⟩ | ⟨-, rfl, hP⟩)
  · exact absurd (ht.symm.trans h0) hv
  · rw [hc ht]; exact kk G' hP
theorem la_ok (F : jj_F X RL cc rm) (hC : jj_C (jj_l0 X) (jj_dg X) (jj_ac X) yL_act (.codeWith yL_act cL_act 8 (some .int) hh_act) rm_act [.ref (A 0), .int (jI w), .int (jI a), .int (jI b), .int (jI x), .int (jI y), .int (jI z)] G (jj_pi (AP (jj_ac X) A s e m g r t rv n e2 code)) jj_nx) (ht : t = 0) (hr : jN rm kc kn k n0 rest) (d0 : jj_D cc pc (.invokestatic 133) 3 nx) (kk : ∀ G', WP (jj_ac X) A n e2 m g r G' → jj_J X G' k n0 nx lv (.int (jI rv) :: rest)) : jj_J X G kc kn pc lv (.int (jI z) :: .int (jI y) :: .int (jI x) :: .int (jI b) :: .int (jI a) :: .int (jI w) :: .ref (A 0) :: rest) := by
  refine la_any F hC hr d0 ?_
  rintro v1 G' (⟨-, rfl, hP⟩ | ⟨h0, -⟩)
  · exact kk G' hP
  · exact absurd ht h0
theorem ln_no (F : jj_F X RL cc rm) (hC : jj_C (jj_l0 X) (jj_dg X) (jj_ac X) yL_act (.codeWith yL_act cL_act 8 (some .int) hh_act) rm_act [.ref (A 0), .int (jI w), .int (jI a), .int (jI b), .int (jI x), .int (jI y), .int (jI 0)] G (jj_pi (AP (jj_ac X) A s e m g r t rv n e2 code)) jj_nx) (v : Int) (ht : t = v) (hv : ¬ v = 0) (hc : t = v → code = -1761000000) (hr : jN rm kc kn k n0 rest) (d0 : jj_D cc pc (.invokestatic 145) 3 nx) (kk : ∀ G', WP (jj_ac X) A s e m g r G' → jj_J X G' k n0 nx lv (.int (jI 1) :: rest)) : jj_J X G kc kn pc lv (.int (jI y) :: .int (jI x) :: .int (jI b) :: .int (jI a) :: .int (jI w) :: .ref (A 0) :: rest) := by
  obtain ⟨r1, r2, r3, r4, r5, r6, r7⟩ := hr
  refine jj_run F (jj_runS F (kn_no F.tr hC (fun h => hv (ht.symm.trans h)) (hc ht)) lk_L_145 rfl ⟨by show 10 + 1 ≤ _; omega, by show 8 + (6 + 11) + 200 ≤ _; omega, by show kc + 12 ≤ _; omega, by show kn + 130 ≤ _; omega, r7⟩ d0) ⟨r3, r4⟩ d0.1 (fun E hE => hE.elim) ?_
  rintro v1 G1 ⟨v2, rfl, rfl, hP⟩
  exact kk G1 hP
theorem ln_off (F : jj_F X RL cc rm) (hC : jj_C (jj_l0 X) (jj_dg X) (jj_ac X) yL_act (.codeWith yL_act cL_act 8 (some .int) hh_act) rm_act [.ref (A 0), .int (jI w), .int (jI a), .int (jI b), .int (jI x), .int (jI y), .int (jI 0)] G (jj_pi (AP (jj_ac X) A s e m g r t rv n e2 code)) jj_nx) (v : Int) (ht : t = v) (hv : ¬ v = 0) (hc : t = v → code = -1762000000) (hr : jN rm kc kn k n0 rest) (d0 : jj_D cc pc (.invokestatic 149) 3 nx) (kk : ∀ G', WP (jj_ac X) A s e m g r G' → jj_J X G' k n0 nx lv (.int (jI 1) :: rest)) : jj_J X G kc kn pc lv (.int (jI y) :: .int (jI x) :: .int (jI b) :: .int (jI a) :: .int (jI w) :: .ref (A 0) :: rest) := by
  obtain ⟨r1, r2, r3, r4, r5, r6, r7⟩ := hr
  refine jj_run F (jj_runS F (kn_off F.tr hC (fun h => hv (ht.symm.trans h)) (hc ht)) lk_L_149 rfl ⟨by show 10 + 1 ≤ _; omega, by show 8 + (6 + 11) + 200 ≤ _; omega, by show kc + 12 ≤ _; omega, by show kn + 130 ≤ _; omega, r7⟩ d0) ⟨r3, r4⟩ d0.1 (fun E hE => hE.elim) ?_
  rintro v1 G1 ⟨v2, rfl, rfl, hP⟩
  exact kk G1 hP
end LK
