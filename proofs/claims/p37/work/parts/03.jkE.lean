/-! ends of a body -/
def jj_pi (P : Int → jj_G → Prop) : Option Value → jj_G → Prop := fun v G' => ∃ r : Int, v = some (.int (jI r)) ∧ P r G'
def jj_px (P : Int32 → jj_G → Prop) : Option Value → jj_G → Prop := fun v G' => ∃ r : Int32, v = some (.int r) ∧ P r G'
def jj_pq (P : Option Nat → jj_G → Prop) : Option Value → jj_G → Prop := fun v G' => ∃ r : Option Nat, v = some (va_rf r) ∧ P r G'
def jj_pv (P : jj_G → Prop) : Option Value → jj_G → Prop := fun v G' => v = none ∧ P G'
/-- nothing is thrown -/
def jj_nx : String → Prop := fun _ => False
section JE
variable {X : jj_X} {own : String} {cc : ByteArray} {rm : Room} {G G0 : jj_G} {kc kn pc nx : Nat} {lv lr : List (Option Value)} {st rest : List Value} {ret : Option FieldType} {post : Option Value → jj_G → Prop} {px : String → Prop}
theorem jj_B.F (B : jj_B X own cc rm ret G0 post px) : jj_F X own cc rm := by
  obtain ⟨p, l, e, R, s, m, args, below, meth, c, nL, A, D, ac, Q⟩ := X
  exact B.1
theorem jj_iret (B : jj_B X own cc rm (some .int) G0 post px) {x : Int32} (d : jj_D cc pc .ireturn 1 nx) (hr : kc ≤ rm.cells ∧ kn ≤ rm.slots) (hp : post (some (.int x)) G) : jj_J X G kc kn pc lv [.int x] := by
  obtain ⟨p, l, e, R, s, m, args, below, meth, c, nL, A, D, ac, Q⟩ := X
  obtain ⟨⟨hx, hb, hml, hown, hR, hA, hE, hs, hlk, hts, -⟩, hret, rfl, rfl, hno⟩ := B
  obtain ⟨rfl, hd⟩ := d
  intro H locs ls hW hS hl
  refine W.widen hr.1 hr.2 (vx_ret ?_)
  exact W.iret hx hb hret (fun t ht hWt => ⟨⟨_, G, rfl, hp, by rw [ht]; exact hW⟩, hS.F ht⟩) hS.2.2 hd hlk
theorem jj_zret (B : jj_B X own cc rm (some .boolean) G0 post px) {x : Int} (d : jj_D cc pc .ireturn 1 nx) (hr : kc ≤ rm.cells ∧ kn ≤ rm.slots) (h : x = 0 ∨ x = 1) (hp : post (some (.int (jI x))) G) : jj_J X G kc kn pc lv [.int (jI x)] := by
  obtain ⟨p, l, e, R, s, m, args, below, meth, c, nL, A, D, ac, Q⟩ := X
  obtain ⟨⟨hx, hb, hml, hown, hR, hA, hE, hs, hlk, hts, -⟩, hret, rfl, rfl, hno⟩ := B
  obtain ⟨rfl, hd⟩ := d
  intro H locs ls hW hS hl
  refine W.widen hr.1 hr.2 (vx_ret ?_)
  exact W.zret hx hb hret (by rcases h with rfl | rfl <;> rfl) (fun t ht hWt => ⟨⟨_, G, rfl, hp, by rw [ht]; exact hW⟩, hS.F ht⟩) hS.2.2 hd hlk
theorem jj_vret (B : jj_B X own cc rm none G0 post px) (d : jj_D cc pc .return_ 1 nx) (hr : kc ≤ rm.cells ∧ kn ≤ rm.slots) (hp : post none G) : jj_J X G kc kn pc lv [] := by
  obtain ⟨p, l, e, R, s, m, args, below, meth, c, nL, A, D, ac, Q⟩ := X
  obtain ⟨⟨hx, hb, hml, hown, hR, hA, hE, hs, hlk, hts, -⟩, hret, rfl, rfl, hno⟩ := B
  obtain ⟨rfl, hd⟩ := d
  intro H locs ls hW hS hl
  refine W.widen hr.1 hr.2 (vx_ret ?_)
  exact W.vret hx hb hret (fun t ht hWt => ⟨⟨_, G, rfl, hp, by rw [ht]; exact hW⟩, hS.F ht⟩) hS.2.2 hd hlk
theorem jj_aret (B : jj_B X own cc rm ret G0 post px) {r : Option Nat} {C : String} (hret : ret = some (.object C)) (d : jj_D cc pc .areturn 1 nx) (hr : kc ≤ rm.cells ∧ kn ≤ rm.slots) (hp : post (some (va_rf r)) G) : jj_J X G kc kn pc lv [va_rf r] := by
  obtain ⟨p, l, e, R, s, m, args, below, meth, c, nL, A, D, ac, Q⟩ := X
  obtain ⟨⟨hx, hb, hml, hown, hR, hA, hE, hs, hlk, hts, -⟩, hret', rfl, rfl, hno⟩ := B
  obtain ⟨rfl, hd⟩ := d
  intro H locs ls hW hS hl
  refine W.widen hr.1 hr.2 (vx_ret ?_)
  exact W.aret hx hb (hret'.trans hret) (Or.inl ⟨C, rfl⟩) (by cases r; exact Or.inl rfl; exact Or.inr ⟨_, rfl⟩) (fun t ht hWt => ⟨⟨_, G, rfl, hp, by rw [ht]; exact hW⟩, hS.F ht⟩) hS.2.2 hd hlk
/-- an exception on its way through the method's frame -/
def jj_JX : jj_X → jj_G → Nat → Nat → Nat → List (Option Value) → List Value → String → Prop
  | (p, l, e, R, s, m, args, below, meth, c, nL, A, D, _, Q), G, kc, kn, pc, lv, st, E =>
    ∀ (H : Heap) (locs : List Loc) (ls : Array Slot) (q : Addr) (ce : Cell), jj_W D A G H → va_S A s.heap H locs → jj_l ls nL lv → H[q]? = some ce → ce.vm = .none → s.vm.findClass E = some ce.cls → vx_W p l e R s m args below meth c H locs kc kn Q (F0 m pc ls st) q
theorem jj_out (B : jj_B X own cc rm ret G0 post px) {E : String} (hG : G = G0) (hp : px E) (hr : kc ≤ rm.cells ∧ kn ≤ rm.slots) : jj_JX X G kc kn pc lv st E := by
  obtain ⟨p, l, e, R, s, m, args, below, meth, c, nL, A, D, ac, Q⟩ := X
  obtain ⟨⟨hx, hb, hml, hown, hR, hA, hE, hs, hlk, hts, -⟩, hret', rfl, rfl, hno⟩ := B
  subst hG
  intro H locs ls q ce hW hS hl hq hv hc
  exact vx_out (fun x hx => (hno x hx).elim) hlk hq hv hc (fun t ht _ => ⟨hp, by rw [ht]; exact hW, hS.F ht⟩) hS.2.2 hr.1 hr.2
/-- a call's run, in general -/
def jj_Run : jj_X → jj_G → Nat → Nat → Nat → List (Option Value) → List Value → List Value → Nat → Nat → Array Value → (Option Value → jj_G → Prop) → (String → Prop) → Prop
  | (p, l, e, R, s, m, args, below, meth, c, nL, A, D, _, _), G, kc, kn, pc, lv, st, rest, mc, ms, a, post', px' =>
    ∀ (H : Heap) (locs : List Loc) (ls : Array Slot), jj_W D A G H → va_S A s.heap H locs → jj_l ls nL lv → vx_Run p l e R s m args below meth c H locs kc kn mc ms (F0 m pc ls st) rest (jj_Qc D G H.size post' a) (jj_XC D G H.size px') (jj_A G H.size)
theorem jj_run (F : jj_F X own cc rm) {mc ms k n : Nat} {a : Array Value} {post' : Option Value → jj_G → Prop} {px' : String → Prop} (hrun : jj_Run X G kc kn pc lv st rest mc ms a post' px') (hk : kc + mc ≤ k ∧ kn + ms ≤ n) (hnx : nx = pc + 3) (kx : ∀ E, px' E → jj_JX X G k n pc lv rest E) (kk : ∀ v G1, post' v G1 → jj_J X G1 k n nx lv (v.toList ++ rest)) : jj_J X G kc kn pc lv st := by
  obtain ⟨p, l, e, R, s, m, args, below, meth, c, nL, A, D, ac, Q⟩ := X
  obtain ⟨hx, hb, hml, hown, hR, hA, hE, hs, hlk, hts, -⟩ := F
  subst hnx
  intro H locs ls hW hS hl T hT XX
  have hfree : ∀ q, jj_A G H.size q → A q := fun q hq => hq.elim (fun h => (hW.dom h).1) (fun h => hA q (Nat.le_trans hS.1 h))
  rcases hrun H locs ls hW hS hl T hT XX with ⟨v, st₀, t, T', L, h0, X', hL, e1, e2, ⟨⟨v', G1, hv, hp, hW1⟩, hF⟩, st⟩ | ⟨q, st₀, t, T', L, E, ce, h0, X', hL, e1, e2, ⟨hp, hW1, hF⟩, hce, hcv, hcl, st⟩
  · obtain ⟨-, -, hS1⟩ := vx_keep h0 e1 hS (fun q _ h => hfree q h) hfree hL hF
    cases hv
    obtain ⟨t2, a1, b1⟩ := kk v G1 hp T'.heap (locs ++ L) ls (by rw [e1]; exact hW1.back hfree) hS1 hl T' rfl (stand_widen X' hk.1 hk.2)
    exact ⟨t2, st t2 a1, b1⟩
  · obtain ⟨-, -, hS1⟩ := vx_keep h0 e1 hS (fun q _ h => hfree q h) hfree hL hF
    obtain ⟨t2, a1, b1⟩ := kx E hp T'.heap (locs ++ L) ls q ce (by rw [e1]; exact hW1.back hfree) hS1 hl (by rw [e1]; exact hce) hcv hcl T' rfl (stand_widen X' hk.1 hk.2)
    exact ⟨t2, st.trans a1, b1⟩
/-- links -/
def jj_nm (y : MethodName) (n : Nat) : Prop := y.cls ≠ "java/lang/invoke/MethodHandle" ∧ y.cls ≠ "java/lang/invoke/VarHandle" ∧ (parseMethodDescriptor y.desc).map (fun d => d.parameters.length) = some n
def jj_lkV (own : String) (index : Nat) (y : MethodName) (bytes : ByteArray) (maxL : Nat) (ret : Option FieldType) (n : Nat) : Prop :=
  jj_nm y n ∧ Cond.methodLink own index y ∈ jj_GW ∧ Cond.instanceMethod y ∈ jj_GW ∧ Cond.selects y.cls y y ∈ jj_GW ∧ Cond.initialized y.cls ∈ jj_GW ∧ Cond.code y bytes maxL ret ∈ jj_GW
def jj_lkS (own : String) (index : Nat) (y : MethodName) (bytes : ByteArray) (maxL : Nat) (ret : Option FieldType) (n : Nat) : Prop :=
  jj_nm y n ∧ Cond.methodLink own index y ∈ jj_GW ∧ Cond.static y ∈ jj_GW ∧ Cond.initialized y.cls ∈ jj_GW ∧ Cond.code y bytes maxL ret ∈ jj_GW
def jj_lkI (own : String) (index : Nat) (y : MethodName) (bytes : ByteArray) (maxL : Nat) (n : Nat) : Prop :=
  jj_nm y n ∧ y.name = "<init>" ∧ Cond.methodLink own index y ∈ jj_GW ∧ Cond.instanceMethod y ∈ jj_GW ∧ Cond.initialized y.cls ∈ jj_GW ∧ Cond.code y bytes maxL none ∈ jj_GW
def jj_lkN (own : String) (index : Nat) (y : MethodName) (host : String) (bytes : ByteArray) (maxL : Nat) (n : Nat) : Prop :=
  jj_nm y n ∧ y.name = "<init>" ∧ Cond.methodLinkNest own index y host ∈ jj_T ∧ Cond.instanceMethod y ∈ jj_GW ∧ Cond.initialized y.cls ∈ jj_GW ∧ Cond.code y bytes maxL none ∈ jj_GW
theorem jj_good {w : Cond} (h : w ∈ jj_GW) : w ∈ jj_GW ∧ ((w.onTables && w.keeps) = true ∨ ∃ ty, w = .arrayClass ty) := ⟨h, good_of_word (jj_gw_good h)⟩
theorem jj_one {w : Cond} (h : w ∈ jj_GW) : GoodIn jj_GW [w] := fun x hx => by rw [List.mem_singleton.mp hx]; exact jj_good h
/-- the contract's world at a call -/
theorem jj_pre {D : va_G} {ac : Nat → ClassId} {A : Nat → Prop} {s : State} {H : Heap} {locs : List Loc} {av : List Value} (hA : ∀ q, s.heap.size ≤ q → A q) (hE : jj_E D ac A s s.heap) (hW : jj_W D A G H) (hS : va_S A s.heap H locs) : ∀ U : State, U.heap = H → s.WarmedH U.vm → jj_Pc D ac av G H.size av.toArray U := by
  intro U hU hWm
  have hfree : ∀ q, jj_A G H.size q → A q := fun q hq => hq.elim (fun h => (hW.dom h).1) (fun h => hA q (Nat.le_trans hS.1 h))
  exact ⟨rfl, by rw [hU], by rw [hU]; exact hW.into, by rw [hU]; exact hE.warm hWm (fun a h1 h2 => hS.2.1 a h1 h2) hfree⟩
def jj_l0 : jj_X → Launch
  | (_, l, _, _, _, _, _, _, _, _, _, _, _, _, _) => l
def jj_dg : jj_X → va_G
  | (_, _, _, _, _, _, _, _, _, _, _, _, D, _, _) => D
theorem jj_runV (F : jj_F X own cc rm) {index b ci N maxL : Nat} {y : MethodName} {bytes : ByteArray} {rt : Option FieldType} {rmy : Room} {As : List Value} {fs : List Value} {C : String} {T : u_T} {ty : Nat → FieldType} {post' : Option Value → jj_G → Prop} {px' : String → Prop} (hC : jj_C (jj_l0 X) (jj_dg X) (jj_ac X) y (.code y bytes maxL rt) rmy (.ref b :: As) G post' px') (hk : jj_lkV own index y bytes maxL rt As.length) (hb : G b = some (jj_o ci fs)) (hc : jj_cls ci C T N ty) (hyc : y.cls = C) (hst : st = As.reverse ++ .ref b :: rest) (hr : rmy.frames + 1 ≤ rm.frames ∧ 8 + (maxL + 11) + rmy.locals ≤ rm.locals ∧ kc + rmy.cells ≤ rm.cells ∧ kn + rmy.slots ≤ rm.slots ∧ (rest.map fun v => v.category).sum ≤ 8) (d : jj_D cc pc (.invokevirtual index) 3 nx) : jj_Run X G kc kn pc lv st rest rmy.cells rmy.slots (Value.ref b :: As).toArray post' px' := by
  obtain ⟨p, l, e, R, s, m, args, below, meth, c, nL, A, D, ac, Q⟩ := X
  obtain ⟨hx, hb0, hml, hown, hR, hA, hE, hs, hlk, hts, -⟩ := F
  obtain ⟨rfl, hd⟩ := d
  obtain ⟨hn, k1, k2, k3, k4, k5⟩ := hk
  subst hR; subst hyc
  intro H locs ls hW hS hl
  refine vx_runV (As := As) (rest := rest) ⟨hx, hb0, hml, hown, hts⟩ (hC H.size) (cwV As.length hts (fun w hw => ?_) rfl rfl rfl ⟨rfl, hn⟩ ⟨hr.1, hr.2.1⟩) ⟨jj_blind, va_recv hE.2.1 (hW.at hb).1 (ci := ci) (q0 := 0) hc.1 rfl, jj_pre hA hE hW hS⟩ rfl rfl hl.1 hst (lv_room hr.2.2.2.2) hd ⟨hr.2.2.1, hr.2.2.2.1⟩
  simp only [wsV, List.mem_append, List.mem_cons, List.not_mem_nil, or_false] at hw
  rcases hw with (rfl | rfl | rfl | rfl) | rfl <;> apply jj_good <;> assumption
theorem jj_runS (F : jj_F X own cc rm) {index maxL : Nat} {y : MethodName} {bytes : ByteArray} {rt : Option FieldType} {rmy : Room} {As : List Value} {post' : Option Value → jj_G → Prop} {px' : String → Prop} (hC : jj_C (jj_l0 X) (jj_dg X) (jj_ac X) y (.code y bytes maxL rt) rmy As G post' px') (hk : jj_lkS own index y bytes maxL rt As.length) (hst : st = As.reverse ++ rest) (hr : rmy.frames + 1 ≤ rm.frames ∧ 8 + (maxL + 11) + rmy.locals ≤ rm.locals ∧ kc + rmy.cells ≤ rm.cells ∧ kn + rmy.slots ≤ rm.slots ∧ (rest.map fun v => v.category).sum ≤ 8) (d : jj_D cc pc (.invokestatic index) 3 nx) : jj_Run X G kc kn pc lv st rest rmy.cells rmy.slots As.toArray post' px' := by
  obtain ⟨p, l, e, R, s, m, args, below, meth, c, nL, A, D, ac, Q⟩ := X
  obtain ⟨hx, hb0, hml, hown, hR, hA, hE, hs, hlk, hts, -⟩ := F
  obtain ⟨rfl, hd⟩ := d
  obtain ⟨hn, k1, k2, k4, k5⟩ := hk
  subst hR
  intro H locs ls hW hS hl
  exact vx_runS (As := As) (rest := rest) ⟨hx, hb0, hml, hown, hts⟩ (hC H.size) ⟨callB_of As.length hts (jj_one k5) rfl rfl rfl (hts _ k4) (hts _ k1) hn ⟨hr.1, hr.2.1⟩, hts _ k2⟩ ⟨jj_blind, jj_pre hA hE hW hS⟩ rfl rfl hl.1 hst (lv_room hr.2.2.2.2) hd ⟨hr.2.2.1, hr.2.2.2.1⟩
theorem jj_runI (F : jj_F X own cc rm) {index b maxL : Nat} {y : MethodName} {bytes : ByteArray} {rmy : Room} {As : List Value} {post' : Option Value → jj_G → Prop} {px' : String → Prop} (hC : jj_C (jj_l0 X) (jj_dg X) (jj_ac X) y (.code y bytes maxL none) rmy (.ref b :: As) G post' px') (hk : jj_lkI own index y bytes maxL As.length) (hst : st = As.reverse ++ .ref b :: rest) (hr : rmy.frames + 1 ≤ rm.frames ∧ 8 + (maxL + 11) + rmy.locals ≤ rm.locals ∧ kc + rmy.cells ≤ rm.cells ∧ kn + rmy.slots ≤ rm.slots ∧ (rest.map fun v => v.category).sum ≤ 8) (d : jj_D cc pc (.invokespecial index) 3 nx) : jj_Run X G kc kn pc lv st rest rmy.cells rmy.slots (Value.ref b :: As).toArray post' px' := by
  obtain ⟨p, l, e, R, s, m, args, below, meth, c, nL, A, D, ac, Q⟩ := X
  obtain ⟨hx, hb0, hml, hown, hR, hA, hE, hs, hlk, hts, -⟩ := F
  obtain ⟨rfl, hd⟩ := d
  obtain ⟨hn, k0, k1, k2, k4, k5⟩ := hk
  subst hR
  intro H locs ls hW hS hl
  exact vx_runI (As := As) (rest := rest) ⟨hx, hb0, hml, hown, hts⟩ (hC H.size) (cwI As.length hts (jj_one k5) rfl rfl rfl (hts _ k4) (hts _ k1) (hts _ k2) k0 hn ⟨hr.1, hr.2.1⟩) ⟨jj_blind, jj_pre hA hE hW hS⟩ rfl rfl hl.1 hst (lv_room hr.2.2.2.2) hd ⟨hr.2.2.1, hr.2.2.2.1⟩

theorem jj_runIN (F : jj_F X own cc rm) {index b maxL : Nat} {y : MethodName} {host : String} {bytes : ByteArray} {rmy : Room} {As : List Value} {post' : Option Value → jj_G → Prop} {px' : String → Prop} (hC : jj_C (jj_l0 X) (jj_dg X) (jj_ac X) y (.code y bytes maxL none) rmy (.ref b :: As) G post' px') (hk : jj_lkN own index y host bytes maxL As.length) (hst : st = As.reverse ++ .ref b :: rest) (hr : rmy.frames + 1 ≤ rm.frames ∧ 8 + (maxL + 11) + rmy.locals ≤ rm.locals ∧ kc + rmy.cells ≤ rm.cells ∧ kn + rmy.slots ≤ rm.slots ∧ (rest.map fun v => v.category).sum ≤ 8) (d : jj_D cc pc (.invokespecial index) 3 nx) : jj_Run X G kc kn pc lv st rest rmy.cells rmy.slots (Value.ref b :: As).toArray post' px' := by
  obtain ⟨p, l, e, R, s, m, args, below, meth, c, nL, A, D, ac, Q⟩ := X
  obtain ⟨hx, hb0, hml, hown, hR, hA, hE, hs, hlk, hts, -⟩ := F
  obtain ⟨rfl, hd⟩ := d
  obtain ⟨hn, k0, k1, k2, k4, k5⟩ := hk
  subst hR
  intro H locs ls hW hS hl
  exact vx_runIN (As := As) (rest := rest) ⟨hx, hb0, hml, hown, hts⟩ (hC H.size) ⟨va_cnB As.length hts (jj_one k5) rfl rfl rfl (hE.2.2.2.1 _ k1) (hts _ k4) hn ⟨hr.1, hr.2.1⟩, k0, hts _ k2⟩ ⟨jj_blind, jj_pre hA hE hW hS⟩ rfl rfl hl.1 hst (lv_room hr.2.2.2.2) hd ⟨hr.2.2.1, hr.2.2.2.1⟩
/-! .. and the rows of calls, by what comes back -/
/-- where an exception of a callee goes: out, in a body without handlers -/
def jj_tx (px' : String → Prop) (G G0 : jj_G) (px : String → Prop) : Prop := ∀ E, px' E → G = G0 ∧ px E
theorem jj_tx0 : jj_tx jj_nx G G0 px := fun _ h => h.elim
theorem jj_callVi (B : jj_B X own cc rm ret G0 post px) {index b ci N maxL k n : Nat} {y : MethodName} {bytes : ByteArray} {rt : Option FieldType} {rmy : Room} {As : List Value} {fs : List Value} {C : String} {T : u_T} {ty : Nat → FieldType} {P : Int → jj_G → Prop} {px' : String → Prop} (hC : jj_C (jj_l0 X) (jj_dg X) (jj_ac X) y (.code y bytes maxL rt) rmy (.ref b :: As) G (jj_pi P) px') (hk : jj_lkV own index y bytes maxL rt As.length) (hb : G b = some (jj_o ci fs)) (hc : jj_cls ci C T N ty) (hyc : y.cls = C) (hst : st = As.reverse ++ .ref b :: rest) (hr : rmy.frames + 1 ≤ rm.frames ∧ 8 + (maxL + 11) + rmy.locals ≤ rm.locals ∧ kc + rmy.cells ≤ rm.cells ∧ kn + rmy.slots ≤ rm.slots ∧ (rest.map fun v => v.category).sum ≤ 8) (hkn : kc + rmy.cells ≤ k ∧ kn + rmy.slots ≤ n ∧ k ≤ rm.cells ∧ n ≤ rm.slots) (hx : jj_tx px' G G0 px) (d : jj_D cc pc (.invokevirtual index) 3 nx) (kk : ∀ (r : Int) (G1 : jj_G), P r G1 → jj_J X G1 k n nx lv (.int (jI r) :: rest)) : jj_J X G kc kn pc lv st := by
  have F := B.F
  refine jj_run F (jj_runV F hC hk hb hc hyc hst hr d) ⟨hkn.1, hkn.2.1⟩ d.1 (fun E hE => jj_out B (hx E hE).1 (hx E hE).2 hkn.2.2) ?_
  rintro v G1 ⟨r, rfl, hP⟩
  exact kk r G1 hP
theorem jj_callVx (B : jj_B X own cc rm ret G0 post px) {index b ci N maxL k n : Nat} {y : MethodName} {bytes : ByteArray} {rt : Option FieldType} {rmy : Room} {As : List Value} {fs : List Value} {C : String} {T : u_T} {ty : Nat → FieldType} {P : Int32 → jj_G → Prop} {px' : String → Prop} (hC : jj_C (jj_l0 X) (jj_dg X) (jj_ac X) y (.code y bytes maxL rt) rmy (.ref b :: As) G (jj_px P) px') (hk : jj_lkV own index y bytes maxL rt As.length) (hb : G b = some (jj_o ci fs)) (hc : jj_cls ci C T N ty) (hyc : y.cls = C) (hst : st = As.reverse ++ .ref b :: rest) (hr : rmy.frames + 1 ≤ rm.frames ∧ 8 + (maxL + 11) + rmy.locals ≤ rm.locals ∧ kc + rmy.cells ≤ rm.cells ∧ kn + rmy.slots ≤ rm.slots ∧ (rest.map fun v => v.category).sum ≤ 8) (hkn : kc + rmy.cells ≤ k ∧ kn + rmy.slots ≤ n ∧ k ≤ rm.cells ∧ n ≤ rm.slots) (hx : jj_tx px' G G0 px) (d : jj_D cc pc (.invokevirtual index) 3 nx) (kk : ∀ (r : Int32) (G1 : jj_G), P r G1 → jj_J X G1 k n nx lv (.int r :: rest)) : jj_J X G kc kn pc lv st := by
  have F := B.F
  refine jj_run F (jj_runV F hC hk hb hc hyc hst hr d) ⟨hkn.1, hkn.2.1⟩ d.1 (fun E hE => jj_out B (hx E hE).1 (hx E hE).2 hkn.2.2) ?_
  rintro v G1 ⟨r, rfl, hP⟩
  exact kk r G1 hP
theorem jj_callVq (B : jj_B X own cc rm ret G0 post px) {index b ci N maxL k n : Nat} {y : MethodName} {bytes : ByteArray} {rt : Option FieldType} {rmy : Room} {As : List Value} {fs : List Value} {C : String} {T : u_T} {ty : Nat → FieldType} {P : Option Nat → jj_G → Prop} {px' : String → Prop} (hC : jj_C (jj_l0 X) (jj_dg X) (jj_ac X) y (.code y bytes maxL rt) rmy (.ref b :: As) G (jj_pq P) px') (hk : jj_lkV own index y bytes maxL rt As.length) (hb : G b = some (jj_o ci fs)) (hc : jj_cls ci C T N ty) (hyc : y.cls = C) (hst : st = As.reverse ++ .ref b :: rest) (hr : rmy.frames + 1 ≤ rm.frames ∧ 8 + (maxL + 11) + rmy.locals ≤ rm.locals ∧ kc + rmy.cells ≤ rm.cells ∧ kn + rmy.slots ≤ rm.slots ∧ (rest.map fun v => v.category).sum ≤ 8) (hkn : kc + rmy.cells ≤ k ∧ kn + rmy.slots ≤ n ∧ k ≤ rm.cells ∧ n ≤ rm.slots) (hx : jj_tx px' G G0 px) (d : jj_D cc pc (.invokevirtual index) 3 nx) (kk : ∀ (r : Option Nat) (G1 : jj_G), P r G1 → jj_J X G1 k n nx lv (va_rf r :: rest)) : jj_J X G kc kn pc lv st := by
  have F := B.F
  refine jj_run F (jj_runV F hC hk hb hc hyc hst hr d) ⟨hkn.1, hkn.2.1⟩ d.1 (fun E hE => jj_out B (hx E hE).1 (hx E hE).2 hkn.2.2) ?_
  rintro v G1 ⟨r, rfl, hP⟩
  exact kk r G1 hP
theorem jj_callVv (B : jj_B X own cc rm ret G0 post px) {index b ci N maxL k n : Nat} {y : MethodName} {bytes : ByteArray} {rt : Option FieldType} {rmy : Room} {As : List Value} {fs : List Value} {C : String} {T : u_T} {ty : Nat → FieldType} {P : jj_G → Prop} {px' : String → Prop} (hC : jj_C (jj_l0 X) (jj_dg X) (jj_ac X) y (.code y bytes maxL rt) rmy (.ref b :: As) G (jj_pv P) px') (hk : jj_lkV own index y bytes maxL rt As.length) (hb : G b = some (jj_o ci fs)) (hc : jj_cls ci C T N ty) (hyc : y.cls = C) (hst : st = As.reverse ++ .ref b :: rest) (hr : rmy.frames + 1 ≤ rm.frames ∧ 8 + (maxL + 11) + rmy.locals ≤ rm.locals ∧ kc + rmy.cells ≤ rm.cells ∧ kn + rmy.slots ≤ rm.slots ∧ (rest.map fun v => v.category).sum ≤ 8) (hkn : kc + rmy.cells ≤ k ∧ kn + rmy.slots ≤ n ∧ k ≤ rm.cells ∧ n ≤ rm.slots) (hx : jj_tx px' G G0 px) (d : jj_D cc pc (.invokevirtual index) 3 nx) (kk : ∀ (G1 : jj_G), P G1 → jj_J X G1 k n nx lv rest) : jj_J X G kc kn pc lv st := by
  have F := B.F
  refine jj_run F (jj_runV F hC hk hb hc hyc hst hr d) ⟨hkn.1, hkn.2.1⟩ d.1 (fun E hE => jj_out B (hx E hE).1 (hx E hE).2 hkn.2.2) ?_
  rintro v G1 ⟨rfl, hP⟩
  exact kk G1 hP
theorem jj_callSi (B : jj_B X own cc rm ret G0 post px) {index maxL k n : Nat} {y : MethodName} {bytes : ByteArray} {rt : Option FieldType} {rmy : Room} {As : List Value} {P : Int → jj_G → Prop} {px' : String → Prop} (hC : jj_C (jj_l0 X) (jj_dg X) (jj_ac X) y (.code y bytes maxL rt) rmy As G (jj_pi P) px') (hk : jj_lkS own index y bytes maxL rt As.length) (hst : st = As.reverse ++ rest) (hr : rmy.frames + 1 ≤ rm.frames ∧ 8 + (maxL + 11) + rmy.locals ≤ rm.locals ∧ kc + rmy.cells ≤ rm.cells ∧ kn + rmy.slots ≤ rm.slots ∧ (rest.map fun v => v.category).sum ≤ 8) (hkn : kc + rmy.cells ≤ k ∧ kn + rmy.slots ≤ n ∧ k ≤ rm.cells ∧ n ≤ rm.slots) (hx : jj_tx px' G G0 px) (d : jj_D cc pc (.invokestatic index) 3 nx) (kk : ∀ (r : Int) (G1 : jj_G), P r G1 → jj_J X G1 k n nx lv (.int (jI r) :: rest)) : jj_J X G kc kn pc lv st := by
  have F := B.F
  refine jj_run F (jj_runS F hC hk hst hr d) ⟨hkn.1, hkn.2.1⟩ d.1 (fun E hE => jj_out B (hx E hE).1 (hx E hE).2 hkn.2.2) ?_
  rintro v G1 ⟨r, rfl, hP⟩
  exact kk r G1 hP
theorem jj_callSx (B : jj_B X own cc rm ret G0 post px) {index maxL k n : Nat} {y : MethodName} {bytes : ByteArray} {rt : Option FieldType} {rmy : Room} {As : List Value} {P : Int32 → jj_G → Prop} {px' : String → Prop} (hC : jj_C (jj_l0 X) (jj_dg X) (jj_ac X) y (.code y bytes maxL rt) rmy As G (jj_px P) px') (hk : jj_lkS own index y bytes maxL rt As.length) (hst : st = As.reverse ++ rest) (hr : rmy.frames + 1 ≤ rm.frames ∧ 8 + (maxL + 11) + rmy.locals ≤ rm.locals ∧ kc + rmy.cells ≤ rm.cells ∧ kn + rmy.slots ≤ rm.slots ∧ (rest.map fun v => v.category).sum ≤ 8) (hkn : kc + rmy.cells ≤ k ∧ kn + rmy.slots ≤ n ∧ k ≤ rm.cells ∧ n ≤ rm.slots) (hx : jj_tx px' G G0 px) (d : jj_D cc pc (.invokestatic index) 3 nx) (kk : ∀ (r : Int32) (G1 : jj_G), P r G1 → jj_J X G1 k n nx lv (.int r :: rest)) : jj_J X G kc kn pc lv st := by
  have F := B.F
  refine jj_run F (jj_runS F hC hk hst hr d) ⟨hkn.1, hkn.2.1⟩ d.1 (fun E hE => jj_out B (hx E hE).1 (hx E hE).2 hkn.2.2) ?_
  rintro v G1 ⟨r, rfl, hP⟩
  exact kk r G1 hP
theorem jj_callSq (B : jj_B X own cc rm ret G0 post px) {index maxL k n : Nat} {y : MethodName} {bytes : ByteArray} {rt : Option FieldType} {rmy : Room} {As : List Value} {P : Option Nat → jj_G → Prop} {px' : String → Prop} (hC : jj_C (jj_l0 X) (jj_dg X) (jj_ac X) y (.code y bytes maxL rt) rmy As G (jj_pq P) px') (hk : jj_lkS own index y bytes maxL rt As.length) (hst : st = As.reverse ++ rest) (hr : rmy.frames + 1 ≤ rm.frames ∧ 8 + (maxL + 11) + rmy.locals ≤ rm.locals ∧ kc + rmy.cells ≤ rm.cells ∧ kn + rmy.slots ≤ rm.slots ∧ (rest.map fun v => v.category).sum ≤ 8) (hkn : kc + rmy.cells ≤ k ∧ kn + rmy.slots ≤ n ∧ k ≤ rm.cells ∧ n ≤ rm.slots) (hx : jj_tx px' G G0 px) (d : jj_D cc pc (.invokestatic index) 3 nx) (kk : ∀ (r : Option Nat) (G1 : jj_G), P r G1 → jj_J X G1 k n nx lv (va_rf r :: rest)) : jj_J X G kc kn pc lv st := by
  have F := B.F
  refine jj_run F (jj_runS F hC hk hst hr d) ⟨hkn.1, hkn.2.1⟩ d.1 (fun E hE => jj_out B (hx E hE).1 (hx E hE).2 hkn.2.2) ?_
  rintro v G1 ⟨r, rfl, hP⟩
  exact kk r G1 hP
theorem jj_callSv (B : jj_B X own cc rm ret G0 post px) {index maxL k n : Nat} {y : MethodName} {bytes : ByteArray} {rt : Option FieldType} {rmy : Room} {As : List Value} {P : jj_G → Prop} {px' : String → Prop} (hC : jj_C (jj_l0 X) (jj_dg X) (jj_ac X) y (.code y bytes maxL rt) rmy As G (jj_pv P) px') (hk : jj_lkS own index y bytes maxL rt As.length) (hst : st = As.reverse ++ rest) (hr : rmy.frames + 1 ≤ rm.frames ∧ 8 + (maxL + 11) + rmy.locals ≤ rm.locals ∧ kc + rmy.cells ≤ rm.cells ∧ kn + rmy.slots ≤ rm.slots ∧ (rest.map fun v => v.category).sum ≤ 8) (hkn : kc + rmy.cells ≤ k ∧ kn + rmy.slots ≤ n ∧ k ≤ rm.cells ∧ n ≤ rm.slots) (hx : jj_tx px' G G0 px) (d : jj_D cc pc (.invokestatic index) 3 nx) (kk : ∀ (G1 : jj_G), P G1 → jj_J X G1 k n nx lv rest) : jj_J X G kc kn pc lv st := by
  have F := B.F
  refine jj_run F (jj_runS F hC hk hst hr d) ⟨hkn.1, hkn.2.1⟩ d.1 (fun E hE => jj_out B (hx E hE).1 (hx E hE).2 hkn.2.2) ?_
  rintro v G1 ⟨rfl, hP⟩
  exact kk G1 hP
theorem jj_callIv (B : jj_B X own cc rm ret G0 post px) {index b maxL k n : Nat} {y : MethodName} {bytes : ByteArray} {rmy : Room} {As : List Value} {P : jj_G → Prop} {px' : String → Prop} (hC : jj_C (jj_l0 X) (jj_dg X) (jj_ac X) y (.code y bytes maxL none) rmy (.ref b :: As) G (jj_pv P) px') (hk : jj_lkI own index y bytes maxL As.length) (hst : st = As.reverse ++ .ref b :: rest) (hr : rmy.frames + 1 ≤ rm.frames ∧ 8 + (maxL + 11) + rmy.locals ≤ rm.locals ∧ kc + rmy.cells ≤ rm.cells ∧ kn + rmy.slots ≤ rm.slots ∧ (rest.map fun v => v.category).sum ≤ 8) (hkn : kc + rmy.cells ≤ k ∧ kn + rmy.slots ≤ n ∧ k ≤ rm.cells ∧ n ≤ rm.slots) (hx : jj_tx px' G G0 px) (d : jj_D cc pc (.invokespecial index) 3 nx) (kk : ∀ (G1 : jj_G), P G1 → jj_J X G1 k n nx lv rest) : jj_J X G kc kn pc lv st := by
  have F := B.F
  refine jj_run F (jj_runI F hC hk hst hr d) ⟨hkn.1, hkn.2.1⟩ d.1 (fun E hE => jj_out B (hx E hE).1 (hx E hE).2 hkn.2.2) ?_
  rintro v G1 ⟨rfl, hP⟩
  exact kk G1 hP
theorem jj_callNv (B : jj_B X own cc rm ret G0 post px) {index b maxL k n : Nat} {y : MethodName} {host : String} {bytes : ByteArray} {rmy : Room} {As : List Value} {P : jj_G → Prop} {px' : String → Prop} (hC : jj_C (jj_l0 X) (jj_dg X) (jj_ac X) y (.code y bytes maxL none) rmy (.ref b :: As) G (jj_pv P) px') (hk : jj_lkN own index y host bytes maxL As.length) (hst : st = As.reverse ++ .ref b :: rest) (hr : rmy.frames + 1 ≤ rm.frames ∧ 8 + (maxL + 11) + rmy.locals ≤ rm.locals ∧ kc + rmy.cells ≤ rm.cells ∧ kn + rmy.slots ≤ rm.slots ∧ (rest.map fun v => v.category).sum ≤ 8) (hkn : kc + rmy.cells ≤ k ∧ kn + rmy.slots ≤ n ∧ k ≤ rm.cells ∧ n ≤ rm.slots) (hx : jj_tx px' G G0 px) (d : jj_D cc pc (.invokespecial index) 3 nx) (kk : ∀ (G1 : jj_G), P G1 → jj_J X G1 k n nx lv rest) : jj_J X G kc kn pc lv st := by
  have F := B.F
  refine jj_run F (jj_runIN F hC hk hst hr d) ⟨hkn.1, hkn.2.1⟩ d.1 (fun E hE => jj_out B (hx E hE).1 (hx E hE).2 hkn.2.2) ?_
  rintro v G1 ⟨rfl, hP⟩
  exact kk G1 hP

end JE
