/-! ===== roll: an int of the script, or one made of the place ===== -/
def jj_PcS (D : va_G) (ac : Nat → ClassId) (av : List Value) (G : jj_G) (sz b L : Nat) (xs : Nat → Int32) : Array Value → State → Prop := va_Pc av (fun U => (U.heap.size = sz ∧ jj_W D (jj_A G sz) G U.heap ∧ jj_E D ac (jj_A G sz) U U.heap) ∧ va_X b L xs U U.heap ∧ b < U.heap.size ∧ ¬ jj_A G sz b)
/-- a contract of a method that reads the script -/
def jj_CS (l : Launch) (D : va_G) (ac : Nat → ClassId) (y : MethodName) (cw : Cond) (rm : Room) (av : List Value) (G : jj_G) (b L : Nat) (xs : Nat → Int32) (post : Option Value → jj_G → Prop) (px : String → Prop) : Prop :=
  ∀ sz : Nat, vx_Met l y [cw] rm (jj_PcS D ac av G sz b L xs) (jj_Qc D G sz post) (jj_XC D G sz px) rm.cells rm.slots (jj_A G sz)
set_option maxHeartbeats 4000000 in
theorem jj_blindS {D : va_G} {ac : Nat → ClassId} {av : List Value} {G : jj_G} {sz b L : Nat} {xs : Nat → Int32} : FrameBlind (jj_PcS D ac av G sz b L xs) := by
  intro a U g mk h
  obtain ⟨h1, ⟨h2, h3, h4⟩, h5, h6, h7⟩ := h
  exact ⟨h1, ⟨h2, h3, h4.warm (U := U.calling g mk a) (State.WarmedH.refl U) (fun _ _ _ => rfl) (fun _ h => h)⟩, va_X.moved (u := U) (U := U.calling g mk a) (Vm.Alike.refl U.vm) h5, h6, h7⟩
theorem jj_preS {D : va_G} {ac : Nat → ClassId} {A : Nat → Prop} {G : jj_G} {s : State} {H : Heap} {locs : List Loc} {av : List Value} {b L : Nat} {xs : Nat → Int32} (hA : ∀ q, s.heap.size ≤ q → A q) (hE : jj_E D ac A s s.heap) (hW : jj_W D A G H) (hS : va_S A s.heap H locs) (hX : va_X b L xs s s.heap ∧ b < s.heap.size ∧ ¬ A b) : ∀ U : State, U.heap = H → s.WarmedH U.vm → jj_PcS D ac av G H.size b L xs av.toArray U := by
  intro U hU hWm
  obtain ⟨h1, h2⟩ := jj_pre (av := av) hA hE hW hS U hU hWm
  refine ⟨h1, h2, ?_, ?_, ?_⟩
  · rw [hU]
    exact va_X.moved hWm.alike (hX.1.kept (hS.2.1 b hX.2.1 hX.2.2))
  · rw [hU]; exact Nat.lt_of_lt_of_le hX.2.1 hS.1
  · intro h
    exact hX.2.2 (h.elim (fun h => (hW.dom h).1) (fun h => absurd h (by have := hS.1; omega)))
theorem jj_ofs {l : Launch} {D : va_G} {ac : Nat → ClassId} {y : MethodName} {own : String} {bytes : ByteArray} {maxL : Nat} {ret : Option FieldType} {rm : Room} {av : List Value} {G : jj_G} {post : Option Value → jj_G → Prop} {px : String → Prop} {lv0 : List (Option Value)} {b L : Nat} {xs : Nat → Int32}
    (hl : l.stackTraces = false) (hy : plainName y.cls = true) (ho : y.cls = own) (hc : av.all (fun v => v.category == 1) = true) (hlen : (lg_sl av).length ≤ maxL) (hlv : jj_en av maxL = lv0)
    (body : ∀ X : jj_X, jj_B X own bytes rm ret G post px → jj_scr X b L xs → jj_J X G 0 0 0 lv0 []) : jj_CS l D ac y (.code y bytes maxL ret) rm av G b L xs post px := by
  intro sz
  refine vx_ofW (cc := bytes) (maxL := maxL) (ret := ret) hy rfl ?_
  intro p e s m args below meth c s₁ B hml hno hv
  obtain ⟨rfl, ⟨rfl, hW, hE⟩, hX⟩ := hv
  subst ho
  have hE' : ∀ w ∈ jj_GW, w.before av.toArray s = true := fun w hw => word_at (State.WarmedH.refl s) (good_of_word (jj_gw_good hw)) (hE.1 w hw)
  have h0 := body (p, l, e, (headSpec [Cond.code y bytes maxL ret] rm).room, s, m, av.toArray, below, meth, c, maxL, jj_A G s.heap.size, D, ac, vx_MQ below (jj_Qc D G s.heap.size post) (jj_XC D G s.heap.size px) av.toArray s rm.cells rm.slots (jj_A G s.heap.size))
    ⟨⟨B.exec, B.bytes, hml, findClass_of_methodNamed B.named, rfl, fun q h => Or.inr h, hE, hl, B.notSynchronized, hE', fun _ _ _ => trivial⟩, B.returns, rfl, rfl, hno⟩ hX
  have hl1 := lv_entry av (n := maxL) hlen
  rw [lg_entry_eq]
  subst hlv
  exact h0 s.heap [] _ hW va_S.rf (jj_l.of hl1 (jj_en_mem hc))
theorem jj_runSs {X : jj_X} {own : String} {cc : ByteArray} {rm : Room} {G : jj_G} {kc kn pc nx : Nat} {lv : List (Option Value)} {st rest : List Value} (F : jj_F X own cc rm) {b L : Nat} {xs : Nat → Int32} (hX : jj_scr X b L xs) {index maxL : Nat} {y : MethodName} {bytes : ByteArray} {rt : Option FieldType} {rmy : Room} {As : List Value} {post' : Option Value → jj_G → Prop} {px' : String → Prop} (hC : jj_CS (jj_l0 X) (jj_dg X) (jj_ac X) y (.code y bytes maxL rt) rmy As G b L xs post' px') (hk : jj_lkS own index y bytes maxL rt As.length) (hst : st = As.reverse ++ rest) (hr : rmy.frames + 1 ≤ rm.frames ∧ 8 + (maxL + 11) + rmy.locals ≤ rm.locals ∧ kc + rmy.cells ≤ rm.cells ∧ kn + rmy.slots ≤ rm.slots ∧ (rest.map fun v => v.category).sum ≤ 8) (d : jj_D cc pc (.invokestatic index) 3 nx) : jj_Run X G kc kn pc lv st rest rmy.cells rmy.slots As.toArray post' px' := by
  obtain ⟨p, l, e, R, s, m, args, below, meth, c, nL, A, D, ac, Q⟩ := X
  obtain ⟨hx, hb0, hml, hown, hR, hA, hE, hs, hlk, hts, -⟩ := F
  obtain ⟨rfl, hd⟩ := d
  obtain ⟨hn, k1, k2, k4, k5⟩ := hk
  subst hR
  intro H locs ls hW hS hl
  exact vx_runS (As := As) (rest := rest) ⟨hx, hb0, hml, hown, hts⟩ (hC H.size) ⟨callB_of As.length hts (jj_one k5) rfl rfl rfl (hts _ k4) (hts _ k1) hn ⟨hr.1, hr.2.1⟩, hts _ k2⟩ ⟨jj_blindS, jj_preS hA hE hW hS hX⟩ rfl rfl hl.1 hst (lv_room hr.2.2.2.2) hd ⟨hr.2.2.1, hr.2.2.2.1⟩
theorem and_pos (x : Int32) : 0 ≤ (x &&& jI 2147483647).toInt := by
  refine BitVec.toInt_nonneg_of_msb_false ?_
  rw [BitVec.msb_eq_getLsbD_last]
  have h : bt (x &&& jI 2147483647) 31 = false := by
    rw [b_and, show bt (jI 2147483647) 31 = false by decide +kernel, Bool.and_false]
  exact h
abbrev rm_roll : Room := { frames := 1, cells := 0, slots := 0, locals := 21 }
set_option maxRecDepth 100000 in
set_option maxHeartbeats 400000 in
theorem kl_roll {l : Launch} {D : va_G} {ac : Nat → ClassId} (hl : l.stackTraces = false) {b L : Nat} {xs : Nat → Int32} (hL : L ≤ 260) {k : Int} (hk : 0 ≤ k ∧ k ≤ 1000) {G : jj_G} : jj_CS l D ac yL_roll (.code yL_roll cL_roll 2 (some .int)) rm_roll [.ref b, .int (jI k)] G b L xs (jj_pi (fun v G' => (0 ≤ v ∧ v ≤ 2147483647) ∧ G' = G)) jj_nx := by
  refine jj_ofs (own := RL) (lv0 := [some (.ref b), some (.int (jI k))]) hl (by decide +kernel) rfl rfl (Nat.le_of_ble_eq_true rfl) rfl ?_
  intro X B hX
  have F := B.F
  have fin : ∀ x : Int32, jj_J X G 0 0 32 [some (.ref b), some (.int (jI k))] [.int x] := by
    intro x
    refine jj_ldc F (v := 2147483647) cn_L_8 (by decide) dL_roll_32 ?_
    refine jj_iand F dL_roll_34 ?_
    exact jj_iret B dL_roll_35 ⟨Nat.le_of_ble_eq_true rfl, Nat.le_of_ble_eq_true rfl⟩ ⟨(x &&& jI 2147483647).toInt, by rw [← jI_of], ⟨and_pos x, (jI_rng _).2⟩, rfl⟩
  refine jj_iload1 F dL_roll_0 ?_
  refine jj_aload0 F dL_roll_1 ?_
  refine jj_slen F hX dL_roll_2 ?_
  refine jj_icmp_ge F (tgt := 12) dL_roll_3 rfl (by omega) (fun h1 => ?_) (fun h1 => ?_)
  · refine jj_ldc F (v := 1337338939) cn_L_7 (by decide) dL_roll_12 ?_
    refine jj_iload1 F dL_roll_14 ?_
    refine jj_sipush F (by decide) dL_roll_15 ?_
    refine jj_iadd F dL_roll_18 ?_
    refine jj_imul F dL_roll_19 ?_
    refine jj_sipush F (by decide) dL_roll_20 ?_
    refine jj_iload1 F dL_roll_23 ?_
    refine jj_imul F dL_roll_24 ?_
    refine jj_iload1 F dL_roll_25 ?_
    refine jj_imul F dL_roll_26 ?_
    refine jj_iadd F dL_roll_27 ?_
    refine jj_sipush F (by decide) dL_roll_28 ?_
    refine jj_iadd F dL_roll_31 ?_
    exact fin _
  · refine jj_aload0 F dL_roll_6 ?_
    refine jj_iload1 F dL_roll_7 ?_
    refine jj_sld F hX (by omega) (by omega) dL_roll_8 ?_
    refine jj_goto F (tgt := 32) dL_roll_9 rfl ?_
    exact fin _
/-! ===== the law ===== -/
theorem lw_call {X : jj_X} {cc : ByteArray} {rm : Room} {G : jj_G} {kc kn pc nx : Nat} {lv : List (Option Value)} {st rest : List Value} (F : jj_F X RL cc rm) {index maxL k n : Nat} {y : MethodName} {bytes : ByteArray} {rt : Option FieldType} {rmy : Room} {As : List Value} {P : Int → jj_G → Prop} (hC : jj_C (jj_l0 X) (jj_dg X) (jj_ac X) y (.code y bytes maxL rt) rmy As G (jj_pi P) jj_nx) (hk : jj_lkS RL index y bytes maxL rt As.length) (hst : st = As.reverse ++ rest) (hr : rmy.frames + 1 ≤ rm.frames ∧ 8 + (maxL + 11) + rmy.locals ≤ rm.locals ∧ kc + rmy.cells ≤ rm.cells ∧ kn + rmy.slots ≤ rm.slots ∧ (rest.map fun v => v.category).sum ≤ 8) (hkn : kc + rmy.cells ≤ k ∧ kn + rmy.slots ≤ n) (d : jj_D cc pc (.invokestatic index) 3 nx) (kk : ∀ v G', P v G' → jj_J X G' k n nx lv (.int (jI v) :: rest)) : jj_J X G kc kn pc lv st := by
  refine jj_run F (jj_runS F hC hk hst hr d) hkn d.1 (fun E hE => hE.elim) ?_
  rintro v1 G1 ⟨v, rfl, hP⟩
  exact kk v G1 hP
theorem lw_roll {X : jj_X} {cc : ByteArray} {rm : Room} {G : jj_G} {kc kn pc nx : Nat} {lv : List (Option Value)} {rest : List Value} (F : jj_F X RL cc rm) {b L : Nat} {xs : Nat → Int32} (hX : jj_scr X b L xs) (hL : L ≤ 260) {t : Int} (ht : 0 ≤ t ∧ t ≤ 1000) (hr : 1 + 1 ≤ rm.frames ∧ 8 + (2 + 11) + 21 ≤ rm.locals ∧ kc + 0 ≤ rm.cells ∧ kn + 0 ≤ rm.slots ∧ (rest.map fun v => v.category).sum ≤ 8) (d : jj_D cc pc (.invokestatic 161) 3 nx) (kk : ∀ v : Int, 0 ≤ v ∧ v ≤ 2147483647 → jj_J X G kc kn nx lv (.int (jI v) :: rest)) : jj_J X G kc kn pc lv (.int (jI t) :: .ref b :: rest) := by
  refine jj_run F (jj_runSs F hX (kl_roll F.tr hL ht) lk_L_161 (rest := rest) rfl hr d) ⟨Nat.le_refl _, Nat.le_refl _⟩ d.1 (fun E hE => hE.elim) ?_
  rintro v1 G1 ⟨v, rfl, hv, rfl⟩
  exact kk v hv
theorem ref_any {X : jj_X} {G : jj_G} (hl : (jj_l0 X).stackTraces = false) {A : Nat → Nat} {s e : Sg} {m g r : Int → Int} {x : Int} (hP : WP (jj_ac X) A s e m g r G) {c : Int} (hI : hInv s e c) (hM : pM s m) (hj : ∀ i, jR (s 36 i)) (hx : 0 ≤ x ∧ x ≤ 2147483647) : jj_C (jj_l0 X) (jj_dg X) (jj_ac X) yL_isRefused (.code yL_isRefused cL_isRefused 16 (some .boolean)) rm_isRefused [.ref (A 0), .ref (A 1), .int (jI x)] G (jj_pi (fun v G' => v = 1 ∧ WP (jj_ac X) A s e m g r G')) jj_nx := by
  by_cases h : x % 2 = 0
  · exact kl_ref0 hl hP hI hM hj hx h
  · exact kl_ref1 hl hP hI hM hj hx (by omega)
set_option maxRecDepth 100000 in
set_option maxHeartbeats 4000000 in
theorem law_loop {X : jj_X} (F : jj_F X RL cL_law room_1) (hN : ∀ k, k < 10 → k < jj_nL X) {b L : Nat} {xs : Nat → Int32} (hX : jj_scr X b L xs) (hL : L ≤ 260) {A : Nat → Nat} (kend : ∀ (G : jj_G) (kc kn : Nat) (lv : List (Option Value)), kc ≤ 600086 → kn ≤ 7301442 → jj_J X G kc kn 250 lv [.int (jI 1)]) : ∀ (k : Nat) (n c : Int) (s e : Sg) (m g r : Int → Int) (G : jj_G) (kc kn : Nat) (x7 x8 x9 : Option Value), n + k = 150 → 0 ≤ n → c ≤ 3 * n → LI s e m g r c n → WP (jj_ac X) A s e m g r G → (kc : Int) ≤ 13500 + 2900 * n + 6400 * ((n + 49) / 50) → (kn : Int) ≤ 107100 + 19400 * n + 53000 * ((n + 49) / 50) → jj_J X G kc kn 52 [some (.ref b), some (.ref (A 0)), some (.ref (A 1)), some (.ref (A 2)), some (.ref (A 3)), some (.int (jI 1)), some (.int (jI n)), x7, x8, x9] [] := by
  intro k
  induction k with
  | zero =>
    intro n c s e m g r G kc kn x7 x8 x9 hnk hn0 hc hLI hP h1 h2
    refine jj_iload6 F dL_law_52 ?_
    refine jj_sipush F (by decide) dL_law_54 ?_
    refine jj_icmp_ge F (tgt := 248) dL_law_57 rfl (by omega) (fun _ => ?_) (fun h => by exfalso; omega)
    refine jj_iload5 F dL_law_248 ?_
    exact kend _ _ _ _ (by omega) (by omega)
  | succ k ih =>
    intro n c s e m g r G kc kn x7 x8 x9 hnk hn0 hc hLI hP h1 h2
    have hIc := hLI.I.2.2.2.2.2.2.2.1
    have hD := hLI.D
    refine jj_iload6 F dL_law_52 ?_
    refine jj_sipush F (by decide) dL_law_54 ?_
    refine jj_icmp_ge F (tgt := 248) dL_law_57 rfl (by omega) (fun h => by exfalso; omega) (fun _ => ?_)
    refine jj_iload5 F dL_law_60 ?_
    refine jj_if_eq F (tgt := 248) dL_law_62 rfl (by decide) (fun h => by exfalso; omega) (fun _ => ?_)
    refine jj_aload0 F dL_law_65 ?_
    refine jj_iload6 F dL_law_66 ?_
    refine lw_roll F hX hL (by omega) ⟨Nat.le_of_ble_eq_true rfl, Nat.le_of_ble_eq_true rfl, (show kc + 0 ≤ 600086 by omega), (show kn + 0 ≤ 7301442 by omega), Nat.le_of_ble_eq_true rfl⟩ dL_law_68 (fun x hx => ?_)
    refine jj_istore7 F dL_law_71 (hN _ (by decide)) rfl ?_
    have tail : ∀ (s2 e2 : Sg) (m2 g2 r2 : Int → Int) (c2 : Int) (G : jj_G) (x8 : Option Value), c2 ≤ c + 3 → LI s2 e2 m2 g2 r2 c2 (n + 1) → WP (jj_ac X) A s2 e2 m2 g2 r2 G → jj_J X G (kc + 600) (kn + 4000) 197 [some (.ref b), some (.ref (A 0)), some (.ref (A 1)), some (.ref (A 2)), some (.ref (A 3)), some (.int (jI 1)), some (.int (jI n)), some (.int (jI x)), x8, some (.int (jI (x / 36)))] [.int (jI 1)] := by
      intro s2 e2 m2 g2 r2 c2 G x8 hc2 hL2 hP
      refine jj_istore5 F dL_law_197 (hN _ (by decide)) rfl ?_
      refine jj_iload5 F dL_law_199 ?_
      refine jj_if_eq F (tgt := 239) dL_law_201 rfl (by decide) (fun h => by exfalso; omega) (fun _ => ?_)
      refine jj_aload1 F dL_law_204 ?_
      refine jj_aload2 F dL_law_205 ?_
      refine jj_aload3 F dL_law_206 ?_
      refine jj_iload9 F dL_law_207 ?_
      refine lw_call F (k := kc + 2900) (n := kn + 19400) (kl_sound F.tr hP hL2.I hL2.M hL2.X hL2.G (by omega)) lk_L_179 rfl ⟨Nat.le_of_ble_eq_true rfl, Nat.le_of_ble_eq_true rfl, (show kc + 600 + 2300 ≤ 600086 by omega), (show kn + 4000 + 15400 ≤ 7301442 by omega), Nat.le_of_ble_eq_true rfl⟩ ⟨(show kc + 600 + 2300 ≤ kc + 2900 by omega), (show kn + 4000 + 15400 ≤ kn + 19400 by omega)⟩ dL_law_209 (fun v G hv => ?_)
      obtain ⟨rfl, g3, hG3, hP⟩ := hv
      have hL3 := hL2.gs hG3
      refine jj_if_eq F (tgt := 239) dL_law_212 rfl (by decide) (fun h => by exfalso; omega) (fun _ => ?_)
      refine jj_iload6 F dL_law_215 ?_
      refine jj_bipush F (by decide) dL_law_217 ?_
      refine jj_irem F (by omega) dL_law_219 ?_
      have fin : ∀ (G : jj_G) (kc' kn' : Nat), WP (jj_ac X) A s2 e2 m2 g3 r2 G → (kc' : Int) ≤ 13500 + 2900 * (n + 1) + 6400 * ((n + 1 + 49) / 50) → (kn' : Int) ≤ 107100 + 19400 * (n + 1) + 53000 * ((n + 1 + 49) / 50) → jj_J X G kc' kn' 235 [some (.ref b), some (.ref (A 0)), some (.ref (A 1)), some (.ref (A 2)), some (.ref (A 3)), some (.int (jI 1)), some (.int (jI n)), some (.int (jI x)), x8, some (.int (jI (x / 36)))] [] := by
        intro G kc' kn' hP h3 h4
        refine jj_iconst F dL_law_235 ?_
        refine jj_goto F (tgt := 240) dL_law_236 rfl ?_
        refine jj_istore5 F dL_law_240 (hN _ (by decide)) rfl ?_
        refine jj_iinc6 F dL_law_242 (hN _ (by decide)) rfl ?_
        refine jj_goto F (tgt := 52) dL_law_245 rfl ?_
        exact ih (n + 1) c2 s2 e2 m2 g3 r2 G kc' kn' _ _ _ (by omega) (by omega) (by omega) hL3 hP h3 h4
      refine jj_if_gt F (tgt := 235) dL_law_220 rfl (by omega) (fun h => ?_) (fun h => ?_)
      · exact fin G _ _ hP (by omega) (by omega)
      · refine jj_aload1 F dL_law_223 ?_
        refine jj_aload2 F dL_law_224 ?_
        refine jj_iload7 F dL_law_225 ?_
        refine jj_iconst F dL_law_227 ?_
        refine jj_idiv F (by omega) dL_law_228 ?_
        refine lw_call F (k := kc + 9300) (n := kn + 72400) (ref_any F.tr hP hL3.I hL3.M hL3.J (by omega)) lk_L_157 rfl ⟨Nat.le_of_ble_eq_true rfl, Nat.le_of_ble_eq_true rfl, (show kc + 2900 + 6400 ≤ 600086 by omega), (show kn + 19400 + 53000 ≤ 7301442 by omega), Nat.le_of_ble_eq_true rfl⟩ ⟨(show kc + 2900 + 6400 ≤ kc + 9300 by omega), (show kn + 19400 + 53000 ≤ kn + 72400 by omega)⟩ dL_law_229 (fun v G hv => ?_)
        obtain ⟨rfl, hP⟩ := hv
        refine jj_if_eq F (tgt := 239) dL_law_232 rfl (by decide) (fun h => by exfalso; omega) (fun _ => ?_)
        exact fin G _ _ hP (by omega) (by omega)
    have main : ∀ h : Int, 0 ≤ h ∧ h ≤ 35 → jj_J X G kc kn 110 [some (.ref b), some (.ref (A 0)), some (.ref (A 1)), some (.ref (A 2)), some (.ref (A 3)), some (.int (jI 1)), some (.int (jI n)), some (.int (jI x)), x8, x9] [.int (jI h)] := by
      intro h hh
      refine jj_istore8 F dL_law_110 (hN _ (by decide)) rfl ?_
      refine jj_iload7 F dL_law_112 ?_
      refine jj_bipush F (by decide) dL_law_114 ?_
      refine jj_idiv F (by omega) dL_law_116 ?_
      refine jj_istore9 F dL_law_117 (hN _ (by decide)) rfl ?_
      refine jj_iload8 F dL_law_119 ?_
      refine jj_bipush F (by decide) dL_law_121 ?_
      refine jj_icmp_ge F (tgt := 139) dL_law_123 rfl (by omega) (fun q1 => ?_) (fun q1 => ?_)
      · refine jj_iload8 F dL_law_139 ?_
        refine jj_bipush F (by decide) dL_law_141 ?_
        refine jj_icmp_ge F (tgt := 161) dL_law_143 rfl (by omega) (fun q2 => ?_) (fun q2 => ?_)
        · refine jj_iload8 F dL_law_161 ?_
          refine jj_bipush F (by decide) dL_law_163 ?_
          refine jj_icmp_ge F (tgt := 185) dL_law_165 rfl (by omega) (fun q3 => ?_) (fun q3 => ?_)
          · refine jj_aload1 F dL_law_185 ?_
            refine jj_aload2 F dL_law_186 ?_
            refine jj_iload8 F dL_law_187 ?_
            refine jj_bipush F (by decide) dL_law_189 ?_
            refine jj_isub F dL_law_191 ?_
            refine jj_iload9 F dL_law_192 ?_
            refine lw_call F (k := kc + 600) (n := kn + 4000) (kl_paid F.tr hP hLI (by omega) (by omega) (by omega) (by omega)) lk_L_176 rfl ⟨Nat.le_of_ble_eq_true rfl, Nat.le_of_ble_eq_true rfl, (show kc + 600 ≤ 600086 by omega), (show kn + 4000 ≤ 7301442 by omega), Nat.le_of_ble_eq_true rfl⟩ ⟨(show kc + 600 ≤ kc + 600 by omega), (show kn + 4000 ≤ kn + 4000 by omega)⟩ dL_law_194 (fun v G hv => ?_)
            obtain ⟨rfl, s2, e2, m2, g2, r2, c2, hc2, hL2, hP⟩ := hv
            exact tail s2 e2 m2 g2 r2 c2 G _ hc2 hL2 hP
          · refine jj_aload1 F dL_law_168 ?_
            refine jj_aload2 F dL_law_169 ?_
            refine jj_aload4 F dL_law_170 ?_
            refine jj_iload8 F dL_law_172 ?_
            refine jj_bipush F (by decide) dL_law_174 ?_
            refine jj_isub F dL_law_176 ?_
            refine jj_iload9 F dL_law_177 ?_
            refine lw_call F (k := kc + 600) (n := kn + 4000) (kl_played F.tr hP hLI (by omega) (by omega) (by omega) (by omega)) lk_L_173 rfl ⟨Nat.le_of_ble_eq_true rfl, Nat.le_of_ble_eq_true rfl, (show kc + 600 ≤ 600086 by omega), (show kn + 4000 ≤ 7301442 by omega), Nat.le_of_ble_eq_true rfl⟩ ⟨(show kc + 600 ≤ kc + 600 by omega), (show kn + 4000 ≤ kn + 4000 by omega)⟩ dL_law_179 (fun v G hv => ?_)
            obtain ⟨rfl, s2, e2, m2, g2, r2, c2, hc2, hL2, hP⟩ := hv
            refine jj_goto F (tgt := 197) dL_law_182 rfl ?_
            exact tail s2 e2 m2 g2 r2 c2 G _ hc2 hL2 hP
        · refine jj_aload1 F dL_law_146 ?_
          refine jj_aload2 F dL_law_147 ?_
          refine jj_iload8 F dL_law_148 ?_
          refine jj_bipush F (by decide) dL_law_150 ?_
          refine jj_isub F dL_law_152 ?_
          refine jj_iload9 F dL_law_153 ?_
          refine lw_call F (k := kc + 600) (n := kn + 4000) (kl_pressed F.tr hP hLI (by omega) (by omega) (by omega) (by omega)) lk_L_169 rfl ⟨Nat.le_of_ble_eq_true rfl, Nat.le_of_ble_eq_true rfl, (show kc + 600 ≤ 600086 by omega), (show kn + 4000 ≤ 7301442 by omega), Nat.le_of_ble_eq_true rfl⟩ ⟨(show kc + 600 ≤ kc + 600 by omega), (show kn + 4000 ≤ kn + 4000 by omega)⟩ dL_law_155 (fun v G hv => ?_)
          obtain ⟨rfl, s2, e2, m2, g2, r2, c2, hc2, hL2, hP⟩ := hv
          refine jj_goto F (tgt := 197) dL_law_158 rfl ?_
          exact tail s2 e2 m2 g2 r2 c2 G _ hc2 hL2 hP
      · refine jj_aload1 F dL_law_126 ?_
        refine jj_aload2 F dL_law_127 ?_
        refine jj_aload3 F dL_law_128 ?_
        refine jj_iload8 F dL_law_129 ?_
        refine jj_iload9 F dL_law_131 ?_
        refine lw_call F (k := kc + 600) (n := kn + 4000) (kl_taped F.tr hP hLI (by omega) (by omega) (by omega) (by omega)) lk_L_165 rfl ⟨Nat.le_of_ble_eq_true rfl, Nat.le_of_ble_eq_true rfl, (show kc + 600 ≤ 600086 by omega), (show kn + 4000 ≤ 7301442 by omega), Nat.le_of_ble_eq_true rfl⟩ ⟨(show kc + 600 ≤ kc + 600 by omega), (show kn + 4000 ≤ kn + 4000 by omega)⟩ dL_law_133 (fun v G hv => ?_)
        obtain ⟨rfl, s2, e2, m2, g2, r2, c2, hc2, hL2, hP⟩ := hv
        refine jj_goto F (tgt := 197) dL_law_136 rfl ?_
        exact tail s2 e2 m2 g2 r2 c2 G _ hc2 hL2 hP
    refine jj_iload6 F dL_law_73 ?_
    refine jj_iconst F dL_law_75 ?_
    refine jj_icmp_ge F (tgt := 83) dL_law_76 rfl (by omega) (fun q1 => ?_) (fun q1 => ?_)
    · refine jj_iload6 F dL_law_83 ?_
      refine jj_iconst F dL_law_85 ?_
      refine jj_icmp_ne F (tgt := 94) dL_law_86 rfl (by omega) (fun q2 => ?_) (fun q2 => ?_)
      · refine jj_iload6 F dL_law_94 ?_
        refine jj_iconst F dL_law_96 ?_
        refine jj_icmp_ne F (tgt := 105) dL_law_97 rfl (by omega) (fun q3 => ?_) (fun q3 => ?_)
        · refine jj_iload7 F dL_law_105 ?_
          refine jj_bipush F (by decide) dL_law_107 ?_
          refine jj_irem F (by omega) dL_law_109 ?_
          exact main _ (by omega)
        · refine jj_bipush F (by decide) dL_law_100 ?_
          refine jj_goto F (tgt := 110) dL_law_102 rfl ?_
          exact main _ (by omega)
      · refine jj_bipush F (by decide) dL_law_89 ?_
        refine jj_goto F (tgt := 110) dL_law_91 rfl ?_
        exact main _ (by omega)
    · refine jj_iconst F dL_law_79 ?_
      refine jj_goto F (tgt := 110) dL_law_80 rfl ?_
      exact main _ (by omega)
theorem jj_jn {A B : jj_G} {q : Nat} (h : jj_j A B q = none) : A q = none ∧ B q = none := by
  cases ha : A q with
  | none => rw [jj_jr ha] at h; exact ⟨rfl, h⟩
  | some x => rw [jj_jl (jj_sn ha), ha] at h; cases h
theorem jj_j0 {G : jj_G} : jj_j G (fun _ => none) = G := by
  funext q
  cases h : G q with
  | none => rw [jj_jr h]
  | some x => rw [jj_jl (jj_sn h), h]
theorem jDj.new {G1 G2 : jj_G} (hd : jDj G1 G2) {q : Nat} {x : va_E} (hq : G1 q = none) : jDj G1 (jj_u G2 q x) := fun a ha => by
  by_cases e : a = q
  · subst e; exact absurd hq ha
  · rw [jj_un e]; exact hd a ha
theorem LI_start : LI sNew (fun _ _ => 0) (fun _ => 0) (fun _ => 0) (fun _ => 0) 0 0 := by
  have hI := hInv_new
  obtain ⟨S, hS⟩ : ∃ S, S = sNew := ⟨_, rfl⟩
  have hn : ∀ q, q ≠ 16 ∧ q ≠ 20 ∧ q ≠ 21 → ∀ i, S q i = 0 := fun q h i => by rw [hS, sNew_n h]
  have hm : ∀ q, q = 16 ∨ q = 20 ∨ q = 21 → ∀ i : Int, 0 ≤ i → i < 120 → S q i = -1 := fun q h i h1 h2 => by rw [hS]; exact sNew_m h ⟨h1, h2⟩
  rw [← hS] at hI ⊢
  have e1 := hn 1 (by decide) 0
  have e28 := hn 28 (by decide) 0
  refine ⟨hI, ⟨(hn 0 (by decide) 0).symm, e1.symm, (hn 13 (by decide) 0).symm, (hn 22 (by decide) 0).symm, e28.symm, (hn 26 (by decide) 0).symm⟩, ⟨fun t h1 h2 => by omega, fun k h1 h2 => ?_⟩, fun t h1 h2 => by omega, ⟨fun _ => e28, fun j h1 h2 => by omega⟩, fun q h1 h2 => by show (0 ≤ (0 : Int) ∧ (0 : Int) ≤ 3000 * 0) ∧ (0 ≤ (0 : Int) ∧ (0 : Int) ≤ 5000000 * 0); omega, fun i => by rw [hn 36 (by decide) i]; omega, by rw [hn 0 (by decide) 0]; omega, by show 0 ≤ (0 : Int) ∧ (0 : Int) ≤ 0; omega⟩
  rw [hn 17 (by decide) k, hn 0 (by decide) 0, hm 16 (by decide) k h1 h2, hm 20 (by decide) k h1 h2, hm 21 (by decide) k h1 h2]
  omega
set_option maxRecDepth 100000 in
set_option maxHeartbeats 4000000 in
theorem law_body {X : jj_X} (F : jj_F X RL cL_law room_1) (hN : ∀ k, k < 10 → k < jj_nL X) {b L : Nat} {xs : Nat → Int32} (hX : jj_scr X b L xs) (hL : L ≤ 260) (kend : ∀ (G : jj_G) (kc kn : Nat) (lv : List (Option Value)), kc ≤ 600086 → kn ≤ 7301442 → jj_J X G kc kn 250 lv [.int (jI 1)]) : jj_J X (fun _ => none) 0 0 0 [some (.ref b), none, none, none, none, none, none, none, none, none] [] := by
  refine jj_new F (k := 1) (n := 10) (fs := [.int (jI 0), .null, .int (jI 0), .null, .null, .int (jI 0), .null, .int (jI 0), .null, .null]) cs_8 cl_L_10 ins_8 ini_8 (fun j hj => match j, hj with | 0, _ => rfl | 1, _ => rfl | 2, _ => rfl | 3, _ => rfl | 4, _ => rfl | 5, _ => rfl | 6, _ => rfl | 7, _ => rfl | 8, _ => rfl | 9, _ => rfl | q + 10, h => absurd h (by omega)) ⟨Nat.le_of_ble_eq_true rfl, Nat.le_of_ble_eq_true rfl, Nat.le_of_ble_eq_true rfl, Nat.le_of_ble_eq_true rfl⟩ dL_law_0 (fun xo hxo => ?_)
  refine jj_dup F rfl dL_law_3 ?_
  have hL0 : GL (fun _ => none) [(xo, jj_o 8 [.int (jI 0), .null, .int (jI 0), .null, .null, .int (jI 0), .null, .int (jI 0), .null, .null])] (jj_u (fun _ => none) xo (jj_o 8 [.int (jI 0), .null, .int (jI 0), .null, .null, .int (jI 0), .null, .int (jI 0), .null, .null])) := GL.one hxo
  refine jj_run F (jj_runI F (k8_init F.tr hL0) lk_L_156 rfl ⟨Nat.le_of_ble_eq_true rfl, Nat.le_of_ble_eq_true rfl, Nat.le_of_ble_eq_true rfl, Nat.le_of_ble_eq_true rfl, Nat.le_of_ble_eq_true rfl⟩ dL_law_4) (k := 100) (n := 1000) ⟨Nat.le_of_ble_eq_true rfl, Nat.le_of_ble_eq_true rfl⟩ rfl (fun E hE => hE.elim) ?_
  rintro v G1 ⟨rfl, a1, q1, q2, a4, a5, f, f1, f2, f3, r, r1, r2, r3, r4, r5, hL1⟩
  obtain ⟨ad, hxa, hR⟩ := house_new hL1
  clear hL0 hL1 hxo
  show jj_J X G1 100 1000 7 _ [.ref xo]
  refine jj_astore1 F dL_law_7 (hN _ (by decide)) rfl ?_
  refine jj_bipush F (by decide) dL_law_8 ?_
  refine jj_newI F (N := 7) (k := 101) (n := 1007) aw_int (by decide) ⟨Nat.le_of_ble_eq_true rfl, Nat.le_of_ble_eq_true rfl, Nat.le_of_ble_eq_true rfl, Nat.le_of_ble_eq_true rfl⟩ dL_law_10 (fun am ham => ?_)
  rw [show jj_u G1 am (jj_ai (jj_ac X 0) 7 (fun _ => 0)) = jj_j G1 (jj_u (fun _ => none) am (jj_ai (jj_ac X 0) 7 (fun _ => 0))) by rw [← jj_ur ham, jj_j0]]
  have d1 : jDj G1 (jj_u (fun _ => none) am (jj_ai (jj_ac X 0) 7 (fun _ => 0))) := jDj.new (fun _ _ => rfl) ham
  refine jj_astore2 F dL_law_12 (hN _ (by decide)) rfl ?_
  refine jj_bipush F (by decide) dL_law_13 ?_
  refine jj_newI F (N := 31) (k := 102) (n := 1038) aw_int (by decide) ⟨Nat.le_of_ble_eq_true rfl, Nat.le_of_ble_eq_true rfl, Nat.le_of_ble_eq_true rfl, Nat.le_of_ble_eq_true rfl⟩ dL_law_15 (fun ag hag => ?_)
  obtain ⟨g1n, g2n⟩ := jj_jn hag
  rw [jj_ur g1n]
  have d2 := d1.new (x := jj_ai (jj_ac X 0) 31 (fun _ => 0)) g1n
  have n12 : ag ≠ am := fun h => by rw [h, jj_us] at g2n; cases g2n
  refine jj_astore3 F dL_law_17 (hN _ (by decide)) rfl ?_
  refine jj_bipush F (by decide) dL_law_18 ?_
  refine jj_newI F (N := 40) (k := 103) (n := 1078) aw_int (by decide) ⟨Nat.le_of_ble_eq_true rfl, Nat.le_of_ble_eq_true rfl, Nat.le_of_ble_eq_true rfl, Nat.le_of_ble_eq_true rfl⟩ dL_law_20 (fun ar har => ?_)
  obtain ⟨r1n, r2n⟩ := jj_jn har
  rw [jj_ur r1n]
  have d3 := d2.new (x := jj_ai (jj_ac X 0) 40 (fun _ => 0)) r1n
  have n23 : ar ≠ ag := fun h => by rw [h, jj_us] at r2n; cases r2n
  have n13 : ar ≠ am := fun h => by rw [h, jj_un (Ne.symm n12), jj_us] at r2n; cases r2n
  refine jj_astore4 F dL_law_22 (hN _ (by decide)) rfl ?_
  have w1 : (jj_u (jj_u (jj_u (fun _ => none) am (jj_ai (jj_ac X 0) 7 (fun _ => 0))) ag (jj_ai (jj_ac X 0) 31 (fun _ => 0))) ar (jj_ai (jj_ac X 0) 40 (fun _ => 0))) am = some (jj_ai (jj_ac X 0) 7 (fun _ => 0)) := by rw [jj_un (Ne.symm n13), jj_un (Ne.symm n12), jj_us]
  have w2 : (jj_u (jj_u (jj_u (fun _ => none) am (jj_ai (jj_ac X 0) 7 (fun _ => 0))) ag (jj_ai (jj_ac X 0) 31 (fun _ => 0))) ar (jj_ai (jj_ac X 0) 40 (fun _ => 0))) ag = some (jj_ai (jj_ac X 0) 31 (fun _ => 0)) := by rw [jj_un (Ne.symm n23), jj_us]
  have w3 : (jj_u (jj_u (jj_u (fun _ => none) am (jj_ai (jj_ac X 0) 7 (fun _ => 0))) ag (jj_ai (jj_ac X 0) 31 (fun _ => 0))) ar (jj_ai (jj_ac X 0) 40 (fun _ => 0))) ar = some (jj_ai (jj_ac X 0) 40 (fun _ => 0)) := jj_us
  have hP : WP (jj_ac X) (fun k => match k with | 0 => xo | 1 => am | 2 => ag | _ => ar) sNew (fun _ _ => 0) (fun _ => 0) (fun _ => 0) (fun _ => 0) (jj_j G1 (jj_u (jj_u (jj_u (fun _ => none) am (jj_ai (jj_ac X 0) 7 (fun _ => 0))) ag (jj_ai (jj_ac X 0) 31 (fun _ => 0))) ar (jj_ai (jj_ac X 0) 40 (fun _ => 0)))) :=
    ⟨G1, _, rfl, d3, ⟨ad, hxa, hR⟩, ⟨w1, w2, w3⟩, Ne.symm n12, Ne.symm n13, Ne.symm n23⟩
  generalize jj_j G1 (jj_u (jj_u (jj_u (fun _ => none) am (jj_ai (jj_ac X 0) 7 (fun _ => 0))) ag (jj_ai (jj_ac X 0) 31 (fun _ => 0))) ar (jj_ai (jj_ac X 0) 40 (fun _ => 0))) = G at hP ⊢
  obtain ⟨A, hA⟩ : ∃ A : Nat → Nat, A = (fun k => match k with | 0 => xo | 1 => am | 2 => ag | _ => ar) := ⟨_, rfl⟩
  have h0 : xo = A 0 := congrFun hA.symm 0
  have h1 : am = A 1 := congrFun hA.symm 1
  have h2 : ag = A 2 := congrFun hA.symm 2
  have h3 : ar = A 3 := congrFun hA.symm 3
  rw [← hA] at hP
  rw [h0, h1, h2, h3]
  clear h0 h1 h2 h3 hA
  have hLI := LI_start
  refine jj_aload1 F dL_law_24 ?_
  refine jj_aload2 F dL_law_25 ?_
  refine jj_iconst F dL_law_26 ?_
  refine lw_call F (k := 6503) (n := 54078) (ref_any F.tr hP hLI.I hLI.M hLI.J (by omega)) lk_L_157 rfl ⟨Nat.le_of_ble_eq_true rfl, Nat.le_of_ble_eq_true rfl, Nat.le_of_ble_eq_true rfl, Nat.le_of_ble_eq_true rfl, Nat.le_of_ble_eq_true rfl⟩ ⟨Nat.le_of_ble_eq_true rfl, Nat.le_of_ble_eq_true rfl⟩ dL_law_27 (fun v G hv => ?_)
  obtain ⟨rfl, hP⟩ := hv
  refine jj_if_eq F (tgt := 46) dL_law_30 rfl (by decide) (fun h => by exfalso; omega) (fun _ => ?_)
  refine jj_aload1 F dL_law_33 ?_
  refine jj_aload2 F dL_law_34 ?_
  refine jj_iconst F dL_law_35 ?_
  refine lw_call F (k := 12903) (n := 107078) (ref_any F.tr hP hLI.I hLI.M hLI.J (by omega)) lk_L_157 rfl ⟨Nat.le_of_ble_eq_true rfl, Nat.le_of_ble_eq_true rfl, Nat.le_of_ble_eq_true rfl, Nat.le_of_ble_eq_true rfl, Nat.le_of_ble_eq_true rfl⟩ ⟨Nat.le_of_ble_eq_true rfl, Nat.le_of_ble_eq_true rfl⟩ dL_law_36 (fun v G hv => ?_)
  obtain ⟨rfl, hP⟩ := hv
  refine jj_if_eq F (tgt := 46) dL_law_39 rfl (by decide) (fun h => by exfalso; omega) (fun _ => ?_)
  refine jj_iconst F dL_law_42 ?_
  refine jj_goto F (tgt := 47) dL_law_43 rfl ?_
  refine jj_istore5 F dL_law_47 (hN _ (by decide)) rfl ?_
  refine jj_iconst F dL_law_49 ?_
  refine jj_istore6 F dL_law_50 (hN _ (by decide)) rfl ?_
  exact law_loop F hN hX hL kend 150 0 0 _ _ _ _ _ _ _ _ _ _ _ (by omega) (by omega) (by omega) hLI hP (by omega) (by omega)
