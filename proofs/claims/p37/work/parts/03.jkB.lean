/-! the method's context in one: program, launch, env, room, start, method, args, frames below, method, code, locals' size, free cells, class numbers, array classes, end -/
def jj_X : Type := Program × Launch × Env × Room × State × MethodId × Array Value × List Frame × Method × Code × Nat × (Nat → Prop) × va_G × (Nat → ClassId) × (State → Prop)
def jj_J : jj_X → jj_G → Nat → Nat → Nat → List (Option Value) → List Value → Prop
  | (p, l, e, R, s, m, args, below, meth, c, nL, A, D, _, Q), G, kc, kn, pc, lv, st =>
    ∀ (H : Heap) (locs : List Loc) (ls : Array Slot), jj_W D A G H → va_S A s.heap H locs → jj_l ls nL lv → W p l e R s m args below meth c H locs kc kn Q (F0 m pc ls st)
/-- what the method's rows rest on -/
def jj_F : jj_X → String → ByteArray → Room → Prop
  | (p, l, _, R, s, m, args, _, meth, c, nL, A, D, ac, _), own, cc, rm =>
    p.tables.exec = Jvm.exec ∧ c.code = cc ∧ c.maxLocals = nL ∧ s.vm.findClass own = some m.cls ∧ R = rm ∧ (∀ q, s.heap.size ≤ q → A q) ∧ jj_E D ac A s s.heap ∧ l.stackTraces = false ∧ meth.locks = false ∧ (∀ w ∈ jj_GW, w.before args s = true) ∧ (∀ q, A q → q < s.heap.size → True)
def jj_Pc (D : va_G) (ac : Nat → ClassId) (av : List Value) (G : jj_G) (sz : Nat) : Array Value → State → Prop := va_Pc av (fun U => U.heap.size = sz ∧ jj_W D (jj_A G sz) G U.heap ∧ jj_E D ac (jj_A G sz) U U.heap)
def jj_Qc (D : va_G) (G : jj_G) (sz : Nat) (post : Option Value → jj_G → Prop) : Array Value → State → Outcome → State → Prop := fun _ st o t =>
  (∃ (v : Option Value) (G' : jj_G), o = .returned v ∧ post v G' ∧ jj_W D (jj_A G sz) G' t.heap) ∧ va_F (jj_A G sz) st t
def jj_XC (D : va_G) (G : jj_G) (sz : Nat) (px : String → Prop) : String → State → State → Prop := fun E st t => px E ∧ jj_W D (jj_A G sz) G t.heap ∧ va_F (jj_A G sz) st t
/-- a method's contract: from a heap that holds G, it returns with post, or throws with px and G as it was -/
def jj_C (l : Launch) (D : va_G) (ac : Nat → ClassId) (y : MethodName) (cw : Cond) (rm : Room) (av : List Value) (G : jj_G) (post : Option Value → jj_G → Prop) (px : String → Prop) : Prop :=
  ∀ sz : Nat, vx_Met l y [cw] rm (jj_Pc D ac av G sz) (jj_Qc D G sz post) (jj_XC D G sz px) rm.cells rm.slots (jj_A G sz)
/-- .. and what the ends of a body rest on -/
def jj_B : jj_X → String → ByteArray → Room → Option FieldType → jj_G → (Option Value → jj_G → Prop) → (String → Prop) → Prop
  | X@(_, _, _, _, s, _, args, below, meth, c, _, A, D, _, Q), own, cc, rm, ret, G, post, px =>
    jj_F X own cc rm ∧ meth.sig.returnType = ret ∧ A = jj_A G s.heap.size ∧ Q = vx_MQ below (jj_Qc D G s.heap.size post) (jj_XC D G s.heap.size px) args s rm.cells rm.slots (jj_A G s.heap.size) ∧ ∀ x ∈ c.exceptionTable.toList, False
def jj_D (cc : ByteArray) (pc : Nat) (i : Instr) (len nx : Nat) : Prop := nx = pc + len ∧ decode cc pc = .ok (i, len)
def jj_en (av : List Value) (n : Nat) : List (Option Value) := av.map some ++ List.replicate (n - av.length) none
theorem jj_en_mem {av : List Value} {n : Nat} (hc : av.all (fun v => v.category == 1) = true) : ∀ q ∈ jj_p 0 (jj_en av n), q ∈ lv_args 0 av := by
  have key : ∀ (l : List Value) (i : Nat), l.all (fun v => v.category == 1) = true → ∀ (k : Nat) (v : Value), l[k]? = some v → (i + k, v) ∈ lv_args i l := by
    intro l
    induction l with
    | nil => intro i _ k v h; simp at h
    | cons a l ih =>
      intro i hc k v h
      simp only [List.all_cons, Bool.and_eq_true, beq_iff_eq] at hc
      rw [lv_args, if_neg (by rw [hc.1]; decide)]
      cases k with
      | zero => simp at h; rw [h]; exact List.mem_cons_self
      | succ k =>
        have := ih (i + 1) hc.2 k v (by simpa using h)
        rw [show i + (k + 1) = i + 1 + k by omega]
        exact List.mem_cons_of_mem _ this
  intro q hq
  obtain ⟨k, h1, h2⟩ := (jj_p_iff _ 0 q.1 q.2).mp hq
  have h3 : av[k]? = some q.2 := by
    unfold jj_en at h2
    by_cases hk : k < (av.map some).length
    · rw [List.getElem?_append_left hk, List.getElem?_map] at h2
      cases hav : av[k]? with
      | none => rw [hav] at h2; cases h2
      | some w => rw [hav] at h2; simp at h2; rw [h2]
    · rw [List.getElem?_append_right (by omega), List.getElem?_replicate] at h2
      split at h2 <;> cases h2
  have := key av 0 hc k q.2 h3
  rw [show q = (q.1, q.2) from rfl, show q.1 = 0 + k by omega]
  exact this
set_option maxHeartbeats 4000000 in
theorem jj_blind {D : va_G} {ac : Nat → ClassId} {av : List Value} {G : jj_G} {sz : Nat} : FrameBlind (jj_Pc D ac av G sz) := by
  intro a U g mk h
  obtain ⟨h1, h2, h3, h4⟩ := h
  exact ⟨h1, h2, h3, h4.warm (U := U.calling g mk a) (State.WarmedH.refl U) (fun _ _ _ => rfl) (fun _ h => h)⟩
set_option maxHeartbeats 4000000 in
theorem jj_of {l : Launch} {D : va_G} {ac : Nat → ClassId} {y : MethodName} {own : String} {bytes : ByteArray} {maxL : Nat} {ret : Option FieldType} {rm : Room} {av : List Value} {G : jj_G} {post : Option Value → jj_G → Prop} {px : String → Prop} {lv0 : List (Option Value)}
    (hl : l.stackTraces = false) (hy : plainName y.cls = true) (ho : y.cls = own) (hc : av.all (fun v => v.category == 1) = true) (hlen : (lg_sl av).length ≤ maxL) (hlv : jj_en av maxL = lv0)
    (body : ∀ X : jj_X, jj_B X own bytes rm ret G post px → jj_J X G 0 0 0 lv0 []) : jj_C l D ac y (.code y bytes maxL ret) rm av G post px := by
  intro sz
  refine vx_ofW (cc := bytes) (maxL := maxL) (ret := ret) hy rfl ?_
  intro p e s m args below meth c s₁ B hml hno hv
  obtain ⟨rfl, rfl, hW, hE⟩ := hv
  subst ho
  have hE' : ∀ w ∈ jj_GW, w.before av.toArray s = true := fun w hw => word_at (State.WarmedH.refl s) (good_of_word (jj_gw_good hw)) (hE.1 w hw)
  have h0 := body (p, l, e, (headSpec [Cond.code y bytes maxL ret] rm).room, s, m, av.toArray, below, meth, c, maxL, jj_A G s.heap.size, D, ac, vx_MQ below (jj_Qc D G s.heap.size post) (jj_XC D G s.heap.size px) av.toArray s rm.cells rm.slots (jj_A G s.heap.size))
    ⟨⟨B.exec, B.bytes, hml, findClass_of_methodNamed B.named, rfl, fun q h => Or.inr h, hE, hl, B.notSynchronized, hE', fun _ _ _ => trivial⟩, B.returns, rfl, rfl, hno⟩
  have hl1 := lv_entry av (n := maxL) hlen
  rw [lg_entry_eq]
  subst hlv
  exact h0 s.heap [] _ hW va_S.rf (jj_l.of hl1 (jj_en_mem hc))
