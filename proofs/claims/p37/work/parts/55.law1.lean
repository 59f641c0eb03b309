/-! ===== two worlds in one heap: a call sees its own ===== -/
def jj_j (A B : jj_G) : jj_G := fun q => match A q with
  | some x => some x
  | none => B q
abbrev jDj (A B : jj_G) : Prop := ∀ q, A q ≠ none → B q = none
theorem jj_jl {A B : jj_G} {q : Nat} (h : A q ≠ none) : jj_j A B q = A q := by
  unfold jj_j
  cases hx : A q with
  | none => exact absurd hx h
  | some x => rfl
theorem jj_jr {A B : jj_G} {q : Nat} (h : A q = none) : jj_j A B q = B q := by unfold jj_j; rw [h]
theorem jj_sn {α : Type} {x : Option α} {y : α} (h : x = some y) : x ≠ none := by rw [h]; exact fun h => by cases h
theorem jDj.symm {A B : jj_G} (h : jDj A B) : jDj B A := fun q hq => by
  cases hx : A q with
  | none => rfl
  | some x => exact absurd (h q (jj_sn hx)) hq
theorem jj_jr2 {A B : jj_G} (h : jDj A B) {q : Nat} (hq : B q ≠ none) : jj_j A B q = B q := jj_jr (h.symm q hq)
theorem jj_j_comm {A B : jj_G} (h : jDj A B) : jj_j A B = jj_j B A := by
  funext q
  cases ha : A q with
  | none =>
    rw [jj_jr ha]
    cases hb : B q with
    | none => rw [jj_jr hb, ha]
    | some x => rw [jj_jl (jj_sn hb), hb]
  | some x => rw [jj_jl (jj_sn ha), jj_jr (h q (jj_sn ha))]
theorem jj_j_rot {A B C : jj_G} (h : jDj A B) : jj_j A (jj_j B C) = jj_j B (jj_j A C) := by
  funext q
  cases ha : A q with
  | none =>
    rw [jj_jr ha]
    cases hb : B q with
    | none => rw [jj_jr hb, jj_jr hb, jj_jr ha]
    | some x => rw [jj_jl (jj_sn hb), jj_jl (jj_sn hb)]
  | some x => rw [jj_jl (jj_sn ha), jj_jr (h q (jj_sn ha)), jj_jl (jj_sn ha)]
theorem jDj.j {A B C : jj_G} (h1 : jDj A B) (h2 : jDj A C) : jDj A (jj_j B C) := fun q hq => by rw [jj_jr (h1 q hq)]; exact h2 q hq
theorem jDj.jl {A B C : jj_G} (h : jDj A (jj_j B C)) : jDj A B := fun q hq => by
  cases hx : B q with
  | none => rfl
  | some x => have := h q hq; rw [jj_jl (jj_sn hx), hx] at this; cases this
theorem jDj.jr {A B C : jj_G} (h : jDj A (jj_j B C)) (h2 : jDj B C) : jDj A C := fun q hq => by
  cases hx : C q with
  | none => rfl
  | some x => have := h q hq; rw [jj_jr2 h2 (jj_sn hx), hx] at this; cases this
theorem jj_W.sub {D : va_G} {A : Nat → Prop} {G G' : jj_G} {H : Heap} (h : jj_W D A G H) (hs : ∀ q, G' q ≠ none → G q = G' q) : jj_W D A G' H := by
  obtain ⟨ws, hP, hD, hL⟩ := h
  have hpw : ws.Pairwise (fun a b => a.1 ≠ b.1) := by
    rw [List.pairwise_iff_getElem]
    intro i j hi hj hij e
    have := hD.1 i j _ _ (List.getElem?_eq_getElem hi) (List.getElem?_eq_getElem hj) e
    omega
  have hpf := hpw.filter (fun q => (G' q.1).isSome)
  have hmem : ∀ (k : Nat) (q : Nat × va_E), (ws.filter (fun q => (G' q.1).isSome))[k]? = some q → (∃ k' : Nat, ws[k']? = some q) ∧ (G' q.1).isSome = true := by
    intro k q hk
    have h1 := List.mem_of_getElem? hk
    obtain ⟨h2, h3⟩ := List.mem_filter.mp h1
    exact ⟨List.getElem?_of_mem h2, h3⟩
  refine ⟨ws.filter (fun q => (G' q.1).isSome), fun k q hk => ?_, ⟨fun i j p q hi hj e => ?_, fun k q hk => ?_⟩, fun a e => ?_⟩
  · obtain ⟨⟨k', hk'⟩, -⟩ := hmem k q hk
    exact hP k' q hk'
  · rw [List.pairwise_iff_getElem] at hpf
    obtain ⟨hi1, hi2⟩ := List.getElem?_eq_some_iff.mp hi
    obtain ⟨hj1, hj2⟩ := List.getElem?_eq_some_iff.mp hj
    rcases Nat.lt_trichotomy i j with h | h | h
    · have := hpf i j hi1 hj1 h
      rw [hi2, hj2] at this
      exact absurd e this
    · exact h
    · have := hpf j i hj1 hi1 h
      rw [hi2, hj2] at this
      exact absurd e.symm this
  · obtain ⟨⟨k', hk'⟩, -⟩ := hmem k q hk
    exact hD.2 k' q hk'
  · constructor
    · intro hg
      have h1 : G a = some e := by rw [hs a (jj_sn hg)]; exact hg
      obtain ⟨k, hk⟩ := (hL a e).mp h1
      exact List.getElem?_of_mem (List.mem_filter.mpr ⟨List.mem_of_getElem? hk, by simp [hg]⟩)
    · rintro ⟨k, hk⟩
      obtain ⟨hk', hs1⟩ := hmem k _ hk
      have h1 := (hL a e).mpr hk'
      have h2 : G' a ≠ none := by intro h; simp [h] at hs1
      rw [← hs a h2]; exact h1
theorem jj_W.join {D : va_G} {A : Nat → Prop} {G1 G2 : jj_G} {H : Heap} (h1 : jj_W D A G1 H) (h2 : jj_W D A G2 H) (hd : jDj G1 G2) : jj_W D A (jj_j G1 G2) H := by
  obtain ⟨w1, hP1, hD1, hL1⟩ := h1
  obtain ⟨w2, hP2, hD2, hL2⟩ := h2
  have key : ∀ (k : Nat) (q : Nat × va_E), (w1 ++ w2)[k]? = some q → (k < w1.length ∧ w1[k]? = some q) ∨ (w1.length ≤ k ∧ w2[k - w1.length]? = some q) := by
    intro k q hk
    by_cases hl : k < w1.length
    · rw [List.getElem?_append_left hl] at hk; exact Or.inl ⟨hl, hk⟩
    · rw [List.getElem?_append_right (by omega)] at hk; exact Or.inr ⟨by omega, hk⟩
  have cross : ∀ (i j : Nat) (p q : Nat × va_E), w1[i]? = some p → w2[j]? = some q → p.1 = q.1 → False := by
    intro i j p q hi hj e
    have a1 := (hL1 p.1 p.2).mpr ⟨i, hi⟩
    have a2 := (hL2 q.1 q.2).mpr ⟨j, hj⟩
    have a3 := hd p.1 (jj_sn a1)
    rw [e, a2] at a3
    cases a3
  refine ⟨w1 ++ w2, fun k q hk => ?_, ⟨fun i j p q hi hj e => ?_, fun k q hk => ?_⟩, fun a e => ?_⟩
  · rcases key k q hk with ⟨-, h⟩ | ⟨-, h⟩
    · exact hP1 _ q h
    · exact hP2 _ q h
  · rcases key i p hi with ⟨a1, h1⟩ | ⟨a1, h1⟩
    · rcases key j q hj with ⟨a2, h2⟩ | ⟨a2, h2⟩
      · exact hD1.1 i j p q h1 h2 e
      · exact (cross _ _ p q h1 h2 e).elim
    · rcases key j q hj with ⟨a2, h2⟩ | ⟨a2, h2⟩
      · exact (cross _ _ q p h2 h1 e.symm).elim
      · have := hD2.1 _ _ p q h1 h2 e; omega
  · rcases key k q hk with ⟨-, h⟩ | ⟨-, h⟩
    · exact hD1.2 _ q h
    · exact hD2.2 _ q h
  · constructor
    · intro hg
      cases ha : G1 a with
      | none =>
        rw [jj_jr ha] at hg
        obtain ⟨k, hk⟩ := (hL2 a e).mp hg
        exact List.getElem?_of_mem (List.mem_append_right _ (List.mem_of_getElem? hk))
      | some x =>
        rw [jj_jl (jj_sn ha)] at hg
        obtain ⟨k, hk⟩ := (hL1 a e).mp hg
        exact List.getElem?_of_mem (List.mem_append_left _ (List.mem_of_getElem? hk))
    · rintro ⟨k, hk⟩
      rcases key k _ hk with ⟨-, h⟩ | ⟨-, h⟩
      · have := (hL1 a e).mpr ⟨_, h⟩
        rw [jj_jl (jj_sn this)]; exact this
      · have := (hL2 a e).mpr ⟨_, h⟩
        rw [jj_jr2 hd (jj_sn this)]; exact this
section JLW
variable {X : jj_X} {own : String} {cc : ByteArray} {rm : Room} {Ga Gb G : jj_G} {kc kn pc nx : Nat} {lv lr : List (Option Value)} {st rest : List Value}
theorem jj_runF (F : jj_F X own cc rm) (hd : jDj Ga Gb) {mc ms k n : Nat} {a : Array Value} {post' : Option Value → jj_G → Prop} {px' : String → Prop} (hrun : jj_Run X Ga kc kn pc lv st rest mc ms a post' px') (hk : kc + mc ≤ k ∧ kn + ms ≤ n) (hnx : nx = pc + 3) (kx : ∀ E, px' E → jj_JX X (jj_j Ga Gb) k n pc lv rest E) (kk : ∀ v G1, post' v G1 → jDj G1 Gb → jj_J X (jj_j G1 Gb) k n nx lv (v.toList ++ rest)) : jj_J X (jj_j Ga Gb) kc kn pc lv st := by
  obtain ⟨p, l, e, R, s, m, args, below, meth, c, nL, A, D, ac, Q⟩ := X
  obtain ⟨hx, hb, hml, hown, hR, hA, hE, hs, hlk, hts, -⟩ := F
  subst hnx
  intro H locs ls hW hS hl T hT XX
  have hWa : jj_W D A Ga H := hW.sub (fun q hq => jj_jl hq)
  have hWb : jj_W D A Gb H := hW.sub (fun q hq => jj_jr2 hd hq)
  have hfree : ∀ q, jj_A Ga H.size q → A q := fun q hq => hq.elim (fun h => (hWa.dom h).1) (fun h => hA q (Nat.le_trans hS.1 h))
  have hnot : ∀ q, Gb q ≠ none → ¬ jj_A Ga H.size q := fun q hq h => h.elim (fun h => hq (hd q h)) (fun h => absurd (hWb.dom hq).2 (by omega))
  rcases hrun H locs ls hWa hS hl T hT XX with ⟨v, st₀, t, T', L, h0, X', hL, e1, e2, ⟨⟨v', G1, hv, hp, hW1⟩, hF⟩, st⟩ | ⟨q, st₀, t, T', L, E, ce, h0, X', hL, e1, e2, ⟨hp, hW1, hF⟩, hce, hcv, hcl, st⟩
  · obtain ⟨-, hk2, hS1⟩ := vx_keep h0 e1 hS (fun q _ h => hfree q h) hfree hL hF
    cases hv
    have hWb' : jj_W D A Gb T'.heap := hWb.kept (fun q hq hg => hk2 q hq (hnot q hg))
    have hdj : jDj G1 Gb := fun q hq => by
      have h1 := (hW1.dom hq).1
      cases hx : Gb q with
      | none => rfl
      | some x => exact absurd h1 (hnot q (jj_sn hx))
    obtain ⟨t2, a1, b1⟩ := kk v G1 hp hdj T'.heap (locs ++ L) ls (jj_W.join (by rw [e1]; exact hW1.back hfree) hWb' hdj) hS1 hl T' rfl (stand_widen X' hk.1 hk.2)
    exact ⟨t2, st t2 a1, b1⟩
  · obtain ⟨-, hk2, hS1⟩ := vx_keep h0 e1 hS (fun q _ h => hfree q h) hfree hL hF
    have hWb' : jj_W D A Gb T'.heap := hWb.kept (fun q hq hg => hk2 q hq (hnot q hg))
    obtain ⟨t2, a1, b1⟩ := kx E hp T'.heap (locs ++ L) ls q ce (jj_W.join (by rw [e1]; exact hW1.back hfree) hWb' hd) hS1 hl (by rw [e1]; exact hce) hcv hcl T' rfl (stand_widen X' hk.1 hk.2)
    exact ⟨t2, st.trans a1, b1⟩
/-! the law's script -/
def jj_scr : jj_X → Nat → Nat → (Nat → Int32) → Prop
  | (_, _, _, _, s, _, _, _, _, _, _, A, _, _, _), b, L, xs => va_X b L xs s s.heap ∧ b < s.heap.size ∧ ¬ A b
/-- the script as whole numbers -/
def jSc (xs : Nat → Int32) (i : Int) : Int := (xs i.toNat).toInt
theorem jSc_r (xs : Nat → Int32) (i : Int) : jR (jSc xs i) := jI_rng _
theorem jj_sld (F : jj_F X own cc rm) {b L : Nat} {xs : Nat → Int32} {i : Int} (hX : jj_scr X b L xs) (hi : 0 ≤ i ∧ i < L) (hL : L ≤ 100000) (d : jj_D cc pc .iaload 1 nx) (kk : jj_J X G kc kn nx lv (.int (jI (jSc xs i)) :: st)) : jj_J X G kc kn pc lv (.int (jI i) :: .ref b :: st) := by
  obtain ⟨p, l, e, R, s, m, args, below, meth, c, nL, A, D, ac, Q⟩ := X
  obtain ⟨hx, hb, hml, hown, hR, hA, hE, hs, hlk, hts, -⟩ := F
  obtain ⟨rfl, hd⟩ := d
  obtain ⟨x1, x2, x3⟩ := hX
  intro H locs ls hW hS hl
  obtain ⟨h1, h2⟩ := jI_in hi hL
  refine va_sld hx hb x1 x2 x3 hS h1 hd ?_
  have e1 : xs (jI i).toNatClampNeg = jI (jSc xs i) := by
    unfold jSc
    rw [← jI_of]
    congr 1
    omega
  rw [e1]
  exact kk H locs ls hW hS hl
theorem jj_slen (F : jj_F X own cc rm) {b L : Nat} {xs : Nat → Int32} (hX : jj_scr X b L xs) (d : jj_D cc pc .arraylength 1 nx) (kk : jj_J X G kc kn nx lv (.int (jI (L : Int)) :: st)) : jj_J X G kc kn pc lv (.ref b :: st) := by
  obtain ⟨p, l, e, R, s, m, args, below, meth, c, nL, A, D, ac, Q⟩ := X
  obtain ⟨hx, hb, hml, hown, hR, hA, hE, hs, hlk, hts, -⟩ := F
  obtain ⟨rfl, hd⟩ := d
  obtain ⟨x1, x2, x3⟩ := hX
  intro H locs ls hW hS hl
  refine va_slen hx hb x1 x2 x3 hS hd ?_
  rw [show Int32.ofNat L = jI (L : Int) from (jI_nat L).symm]
  exact kk H locs ls hW hS hl
/-! a method with a table of handlers -/
def jj_tab : jj_X → List (Nat × Nat × Nat × Nat) → Prop
  | (_, _, _, _, _, _, _, _, _, c, _, _, _, _, _), hh => c.exceptionTable.toList = tableOf hh
def jj_BH : jj_X → String → ByteArray → Room → Option FieldType → jj_G → (Option Value → jj_G → Prop) → (String → Prop) → List (Nat × Nat × Nat × Nat) → Prop
  | X@(_, _, _, _, s, _, args, below, meth, c, _, A, D, _, Q), own, cc, rm, ret, G, post, px, hh =>
    jj_F X own cc rm ∧ meth.sig.returnType = ret ∧ A = jj_A G s.heap.size ∧ Q = vx_MQ below (jj_Qc D G s.heap.size post) (jj_XC D G s.heap.size px) args s rm.cells rm.slots (jj_A G s.heap.size) ∧ jj_tab X hh
theorem jj_BH.F {ret : Option FieldType} {post : Option Value → jj_G → Prop} {px : String → Prop} {hh : List (Nat × Nat × Nat × Nat)} (B : jj_BH X own cc rm ret G post px hh) : jj_F X own cc rm := by
  obtain ⟨p, l, e, R, s, m, args, below, meth, c, nL, A, D, ac, Q⟩ := X
  exact B.1
theorem jj_BH.tab {ret : Option FieldType} {post : Option Value → jj_G → Prop} {px : String → Prop} {hh : List (Nat × Nat × Nat × Nat)} (B : jj_BH X own cc rm ret G post px hh) : jj_tab X hh := by
  obtain ⟨p, l, e, R, s, m, args, below, meth, c, nL, A, D, ac, Q⟩ := X
  exact B.2.2.2.2
theorem jj_iretH {G0 : jj_G} {post : Option Value → jj_G → Prop} {px : String → Prop} {hh : List (Nat × Nat × Nat × Nat)} (B : jj_BH X own cc rm (some .int) G0 post px hh) {x : Int32} (d : jj_D cc pc .ireturn 1 nx) (hr : kc ≤ rm.cells ∧ kn ≤ rm.slots) (hp : post (some (.int x)) G) : jj_J X G kc kn pc lv [.int x] := by
  obtain ⟨p, l, e, R, s, m, args, below, meth, c, nL, A, D, ac, Q⟩ := X
  obtain ⟨⟨hx, hb, hml, hown, hR, hA, hE, hs, hlk, hts, -⟩, hret, rfl, rfl, hno⟩ := B
  obtain ⟨rfl, hd⟩ := d
  intro H locs ls hW hS hl
  refine W.widen hr.1 hr.2 (vx_ret ?_)
  exact W.iret hx hb hret (fun t ht hWt => ⟨⟨_, G, rfl, hp, by rw [ht]; exact hW⟩, hS.F ht⟩) hS.2.2 hd hlk
theorem jj_ofH {l : Launch} {D : va_G} {ac : Nat → ClassId} {y : MethodName} {own : String} {bytes : ByteArray} {maxL : Nat} {ret : Option FieldType} {hh : List (Nat × Nat × Nat × Nat)} {rm : Room} {av : List Value} {G : jj_G} {post : Option Value → jj_G → Prop} {px : String → Prop} {lv0 : List (Option Value)}
    (hl : l.stackTraces = false) (hy : plainName y.cls = true) (ho : y.cls = own) (hc : av.all (fun v => v.category == 1) = true) (hlen : (lg_sl av).length ≤ maxL) (hlv : jj_en av maxL = lv0)
    (hw : Cond.codeWith y bytes maxL ret hh ∈ jj_GW)
    (body : ∀ X : jj_X, jj_BH X own bytes rm ret G post px hh → (∀ k, k < maxL → k < jj_nL X) → jj_l0 X = l → jj_dg X = D → jj_ac X = ac → jj_J X G 0 0 0 lv0 []) : jj_C l D ac y (.codeWith y bytes maxL ret hh) rm av G post px := by
  intro sz
  refine vx_ofWH (cc := bytes) (maxL := maxL) (ret := ret) (hh := hh) (ws' := []) hy rfl ?_
  intro p e s m args below meth c s₁ B hml hv
  obtain ⟨rfl, rfl, hW, hE⟩ := hv
  subst ho
  have hE' : ∀ w ∈ jj_GW, w.before av.toArray s = true := fun w hw => word_at (State.WarmedH.refl s) (good_of_word (jj_gw_good hw)) (hE.1 w hw)
  have h0 := body (p, l, e, (headSpec [Cond.codeWith y bytes maxL ret hh] rm).room, s, m, av.toArray, below, meth, c, maxL, jj_A G s.heap.size, D, ac, vx_MQ below (jj_Qc D G s.heap.size post) (jj_XC D G s.heap.size px) av.toArray s rm.cells rm.slots (jj_A G s.heap.size))
    ⟨⟨B.exec, B.bytes, hml, findClass_of_methodNamed B.named, rfl, fun q h => Or.inr h, hE, hl, B.notSynchronized, hE', fun _ _ _ => trivial⟩, B.returns, rfl, rfl, vx_table (x := y) B (hE' _ hw)⟩ (fun k hk => hk) rfl rfl rfl
  have hl1 := lv_entry av (n := maxL) hlen
  rw [lg_entry_eq]
  subst hlv
  exact h0 s.heap [] _ hW va_S.rf (jj_l.of hl1 (jj_en_mem hc))
/-- an exception on its way is caught by row x of the table; the rows ahead name other classes -/
theorem jj_catch (F : jj_F X own cc rm) {hh : List (Nat × Nat × Nat × Nat)} (ht : jj_tab X hh) {E : String} (pre : List (Nat × Nat × Nat × Nat)) (a1 a2 a3 a4 : Nat) (suf : List (Nat × Nat × Nat × Nat)) (hsplit : hh = pre ++ (a1, a2, a3, a4) :: suf) (hpass : ∀ z ∈ pre, z.2.2.2 ≠ 0 ∧ ∃ nm : String, Cond.classLink own z.2.2.2 nm ∈ jj_GW ∧ (E, nm) ∈ jj_N) (hcov : covers ⟨a1, a2, a3, a4⟩ pc = true) (h0 : a4 ≠ 0) (hlink : Cond.classLink own a4 E ∈ jj_GW) (hcast : Cond.castable E E ∈ jj_T) (kk : ∀ q : Nat, jj_J X G kc kn a3 lv [.ref q]) : jj_JX X G kc kn pc lv rest E := by
  obtain ⟨p, l, e, R, s, m, args, below, meth, c, nL, A, D, ac, Q⟩ := X
  obtain ⟨hx, hb, hml, hown, hR, hA, hE, hs, hlk, hts, -⟩ := F
  intro H locs ls q ce hW hS hl hce hv hcl
  have hT := hE.2.2.2.1
  have hN := hE.2.2.2.2.2.1
  refine vx_catch hown (tableOf pre) ⟨a1, a2, a3, a4⟩ (tableOf suf) (by rw [show c.exceptionTable.toList = tableOf hh from ht, hsplit]; simp [tableOf]) (fun z hz => ?_) hcov h0 (hts _ hlink) (va_Nw.use rfl (hT _ hcast)) hce hv hcl (kk q H locs ls hW hS hl)
  obtain ⟨y, hy, rfl⟩ := List.mem_map.mp hz
  obtain ⟨z0, nm, z1, z2⟩ := hpass y hy
  exact Or.inr ⟨z0, nm, hts _ z1, hN _ z2⟩
/-- a static call of a method with a table -/
def jj_lkW (own : String) (index : Nat) (y : MethodName) (bytes : ByteArray) (maxL : Nat) (ret : Option FieldType) (hh : List (Nat × Nat × Nat × Nat)) (n : Nat) : Prop :=
  jj_nm y n ∧ Cond.methodLink own index y ∈ jj_GW ∧ Cond.static y ∈ jj_GW ∧ Cond.initialized y.cls ∈ jj_GW ∧ Cond.codeWith y bytes maxL ret hh ∈ jj_GW
theorem jj_runSX (F : jj_F X own cc rm) {index maxL : Nat} {y : MethodName} {bytes : ByteArray} {rt : Option FieldType} {hh : List (Nat × Nat × Nat × Nat)} {rmy : Room} {As : List Value} {post' : Option Value → jj_G → Prop} {px' : String → Prop} (hC : jj_C (jj_l0 X) (jj_dg X) (jj_ac X) y (.codeWith y bytes maxL rt hh) rmy As G post' px') (hk : jj_lkW own index y bytes maxL rt hh As.length) (hst : st = As.reverse ++ rest) (hr : rmy.frames + 1 ≤ rm.frames ∧ 8 + (maxL + 11) + rmy.locals ≤ rm.locals ∧ kc + rmy.cells ≤ rm.cells ∧ kn + rmy.slots ≤ rm.slots ∧ (rest.map fun v => v.category).sum ≤ 8) (d : jj_D cc pc (.invokestatic index) 3 nx) : jj_Run X G kc kn pc lv st rest rmy.cells rmy.slots As.toArray post' px' := by
  obtain ⟨p, l, e, R, s, m, args, below, meth, c, nL, A, D, ac, Q⟩ := X
  obtain ⟨hx, hb0, hml, hown, hR, hA, hE, hs, hlk, hts, -⟩ := F
  obtain ⟨rfl, hd⟩ := d
  obtain ⟨hn, k1, k2, k4, k5⟩ := hk
  subst hR
  intro H locs ls hW hS hl
  refine vx_runSX (As := As) (rest := rest) (hh := hh) ⟨hx, hb0, hml, hown, hts⟩ (hC H.size) (vx_cwSW As.length hts (fun w hw => ?_) rfl rfl rfl hn ⟨hr.1, hr.2.1⟩) ⟨jj_blind, jj_pre hA hE hW hS⟩ rfl rfl hl.1 hst (lv_room hr.2.2.2.2) hd ⟨hr.2.2.1, hr.2.2.2.1⟩
  simp only [va_wsS, List.mem_append, List.mem_cons, List.not_mem_nil, or_false] at hw
  rcases hw with (rfl | rfl | rfl) | rfl <;> apply jj_good <;> assumption
end JLW
