/-! a body's start, with all that its rows want -/
theorem jj_ofx {l : Launch} {D : va_G} {ac : Nat → ClassId} {y : MethodName} {own : String} {bytes : ByteArray} {maxL : Nat} {ret : Option FieldType} {rm : Room} {av : List Value} {G : jj_G} {post : Option Value → jj_G → Prop} {px : String → Prop} {lv0 : List (Option Value)}
    (hl : l.stackTraces = false) (hy : plainName y.cls = true) (ho : y.cls = own) (hc : av.all (fun v => v.category == 1) = true) (hlen : (lg_sl av).length ≤ maxL) (hlv : jj_en av maxL = lv0)
    (body : ∀ X : jj_X, jj_B X own bytes rm ret G post px → (∀ k, k < maxL → k < jj_nL X) → jj_l0 X = l → jj_dg X = D → jj_ac X = ac → (y.name = "<init>" → jj_isInit X) → jj_J X G 0 0 0 lv0 []) : jj_C l D ac y (.code y bytes maxL ret) rm av G post px := by
  intro sz
  refine vx_ofW (cc := bytes) (maxL := maxL) (ret := ret) hy rfl ?_
  intro p e s m args below meth c s₁ B hml hno hv
  obtain ⟨rfl, rfl, hW, hE⟩ := hv
  subst ho
  have hE' : ∀ w ∈ jj_GW, w.before av.toArray s = true := fun w hw => word_at (State.WarmedH.refl s) (good_of_word (jj_gw_good hw)) (hE.1 w hw)
  have h0 := body (p, l, e, (headSpec [Cond.code y bytes maxL ret] rm).room, s, m, av.toArray, below, meth, c, maxL, jj_A G s.heap.size, D, ac, vx_MQ below (jj_Qc D G s.heap.size post) (jj_XC D G s.heap.size px) av.toArray s rm.cells rm.slots (jj_A G s.heap.size))
    ⟨⟨B.exec, B.bytes, hml, findClass_of_methodNamed B.named, rfl, fun q h => Or.inr h, hE, hl, B.notSynchronized, hE', fun _ _ _ => trivial⟩, B.returns, rfl, rfl, hno⟩ (fun k hk => hk) rfl rfl rfl (fun hn => (name_of_methodNamed B.named B.method).1.trans hn)
  have hl1 := lv_entry av (n := maxL) hlen
  rw [lg_entry_eq]
  subst hlv
  exact h0 s.heap [] _ hW va_S.rf (jj_l.of hl1 (jj_en_mem hc))
theorem jj_F.tr {X : jj_X} {own : String} {cc : ByteArray} {rm : Room} (F : jj_F X own cc rm) : (jj_l0 X).stackTraces = false := by
  obtain ⟨p, l, e, R, s, m, args, below, meth, c, nL, A, D, ac, Q⟩ := X
  exact F.2.2.2.2.2.2.2.1
/-! ===== the reference's cells: one object, its rows; sg k i: row k (the field's number) at i; a number at 0 ===== -/
abbrev Sg : Type := Nat → Int → Int
def sU (s : Sg) (k : Nat) (i x : Int) : Sg := fun k' => if k' = k then ju (s k) i x else s k'
theorem sU_k {s : Sg} {k : Nat} {i x : Int} : sU s k i x k = ju (s k) i x := by simp [sU]
theorem sU_n {s : Sg} {k k' : Nat} {i x : Int} (h : k' ≠ k) : sU s k i x k' = s k' := by simp [sU, h]
theorem sU_s {s : Sg} {k : Nat} {i x : Int} : sU s k i x k i = x := by simp [sU, ju]
theorem sU_i {s : Sg} {k : Nat} {i j x : Int} (h : j ≠ i) : sU s k i x k j = s k j := by simp [sU, ju, h]
def rm_len (k : Nat) : Nat := match k with
  | 2 => 30 | 3 => 30 | 4 => 30 | 5 => 30 | 6 => 30 | 7 => 30 | 8 => 600 | 9 => 600 | 10 => 600 | 12 => 6 | 14 => 60 | 15 => 10
  | 16 => 120 | 17 => 120 | 18 => 120 | 19 => 120 | 20 => 120 | 21 => 120 | 23 => 20 | 24 => 20 | 25 => 160 | 27 => 8 | 29 => 20 | 30 => 20
  | 32 => 100 | 33 => 100 | 34 => 600 | 35 => 6 | 36 => 6 | _ => 0
def rm_fv (s : Sg) (a : Nat → Nat) (k : Nat) : Value := if rm_len k = 0 then .int (jI (s k 0)) else .ref (a k)
def rm_fs (s : Sg) (a : Nat → Nat) : List Value := [.int (jI (s 0 0)), .int (jI (s 1 0)), .ref (a 2), .ref (a 3), .ref (a 4), .ref (a 5), .ref (a 6), .ref (a 7), .ref (a 8), .ref (a 9), .ref (a 10), .int (jI (s 11 0)), .ref (a 12), .int (jI (s 13 0)), .ref (a 14), .ref (a 15), .ref (a 16), .ref (a 17), .ref (a 18), .ref (a 19), .ref (a 20), .ref (a 21), .int (jI (s 22 0)), .ref (a 23), .ref (a 24), .ref (a 25), .int (jI (s 26 0)), .ref (a 27), .int (jI (s 28 0)), .ref (a 29), .ref (a 30), .int (jI (s 31 0)), .ref (a 32), .ref (a 33), .ref (a 34), .ref (a 35), .ref (a 36), .int (jI (s 37 0))]
abbrev jR (x : Int) : Prop := -2147483648 ≤ x ∧ x ≤ 2147483647
theorem sU_rng {s : Sg} {k : Nat} {i x : Int} (h : ∀ k i, -2147483648 ≤ s k i ∧ s k i ≤ 2147483647) (hx : -2147483648 ≤ x ∧ x ≤ 2147483647) : ∀ k' j, -2147483648 ≤ sU s k i x k' j ∧ sU s k i x k' j ≤ 2147483647 := by
  intro k' j
  unfold sU ju
  by_cases h1 : k' = k
  · rw [if_pos h1]
    by_cases h2 : j = i
    · simp only [if_pos h2]; exact hx
    · simp only [if_neg h2]; exact h k j
  · rw [if_neg h1]; exact h k' j
def rm_sc (k : Nat) : Bool := k == 0 || k == 1 || k == 11 || k == 13 || k == 22 || k == 26 || k == 28 || k == 31 || k == 37
section J9
variable {X : jj_X} {own : String} {cc : ByteArray} {rm : Room} {G : jj_G} {kc kn pc nx : Nat} {lv lr : List (Option Value)} {st : List Value} {o : Nat} {a : Nat → Nat} {s : Sg}
end J9
theorem jj_jw {X : jj_X} {G : jj_G} {kc kn pc : Nat} {lv : List (Option Value)} {st : List Value} {a : Int} (kk : jj_J X G kc kn pc lv (.int (jI (jI a).toInt) :: st)) : jj_J X G kc kn pc lv (.int (jI a) :: st) := by
  rw [← jI_of] at kk
  exact kk
/-! calls that only read: one answer, the heap as it was -/
def jj_ri (f : Int) (G : jj_G) : Option Value → jj_G → Prop := jj_pi (fun r G' => r = f ∧ G' = G)
section JR2
variable {X : jj_X} {own : String} {cc : ByteArray} {rm : Room} {G G0 : jj_G} {kc kn pc nx : Nat} {lv lr : List (Option Value)} {st rest : List Value} {ret : Option FieldType} {post : Option Value → jj_G → Prop} {px : String → Prop}
theorem jj_callVr (B : jj_B X own cc rm ret G0 post px) {index b ci N maxL k n : Nat} {y : MethodName} {bytes : ByteArray} {rt : Option FieldType} {rmy : Room} {As : List Value} {fs : List Value} {C : String} {T : u_T} {ty : Nat → FieldType} {f : Int} {px' : String → Prop} (hC : jj_C (jj_l0 X) (jj_dg X) (jj_ac X) y (.code y bytes maxL rt) rmy (.ref b :: As) G (jj_ri f G) px') (hk : jj_lkV own index y bytes maxL rt As.length) (hb : G b = some (jj_o ci fs)) (hc : jj_cls ci C T N ty) (hyc : y.cls = C) (hst : st = As.reverse ++ .ref b :: rest) (hr : rmy.frames + 1 ≤ rm.frames ∧ 8 + (maxL + 11) + rmy.locals ≤ rm.locals ∧ kc + rmy.cells ≤ rm.cells ∧ kn + rmy.slots ≤ rm.slots ∧ (rest.map fun v => v.category).sum ≤ 8) (hkn : kc + rmy.cells ≤ k ∧ kn + rmy.slots ≤ n ∧ k ≤ rm.cells ∧ n ≤ rm.slots) (hx : jj_tx px' G G0 px) (d : jj_D cc pc (.invokevirtual index) 3 nx) (kk : jj_J X G k n nx lv (.int (jI f) :: rest)) : jj_J X G kc kn pc lv st :=
  jj_callVi B (P := fun r G' => r = f ∧ G' = G) hC hk hb hc hyc hst hr hkn hx d (fun r G1 h => by obtain ⟨rfl, rfl⟩ := h; exact kk)
theorem jj_callSr (B : jj_B X own cc rm ret G0 post px) {index maxL k n : Nat} {y : MethodName} {bytes : ByteArray} {rt : Option FieldType} {rmy : Room} {As : List Value} {f : Int} {px' : String → Prop} (hC : jj_C (jj_l0 X) (jj_dg X) (jj_ac X) y (.code y bytes maxL rt) rmy As G (jj_ri f G) px') (hk : jj_lkS own index y bytes maxL rt As.length) (hst : st = As.reverse ++ rest) (hr : rmy.frames + 1 ≤ rm.frames ∧ 8 + (maxL + 11) + rmy.locals ≤ rm.locals ∧ kc + rmy.cells ≤ rm.cells ∧ kn + rmy.slots ≤ rm.slots ∧ (rest.map fun v => v.category).sum ≤ 8) (hkn : kc + rmy.cells ≤ k ∧ kn + rmy.slots ≤ n ∧ k ≤ rm.cells ∧ n ≤ rm.slots) (hx : jj_tx px' G G0 px) (d : jj_D cc pc (.invokestatic index) 3 nx) (kk : jj_J X G k n nx lv (.int (jI f) :: rest)) : jj_J X G kc kn pc lv st :=
  jj_callSi B (P := fun r G' => r = f ∧ G' = G) hC hk hst hr hkn hx d (fun r G1 h => by obtain ⟨rfl, rfl⟩ := h; exact kk)
theorem jj_iretr {f e : Int} (B : jj_B X own cc rm (some .int) G (jj_ri f G) px) (d : jj_D cc pc .ireturn 1 nx) (hr : kc ≤ rm.cells ∧ kn ≤ rm.slots) (h : e = f) : jj_J X G kc kn pc lv [.int (jI e)] := jj_iret B d hr ⟨e, rfl, h, rfl⟩
theorem jj_zretr {f e : Int} (B : jj_B X own cc rm (some .boolean) G (jj_ri f G) px) (d : jj_D cc pc .ireturn 1 nx) (hr : kc ≤ rm.cells ∧ kn ≤ rm.slots) (h1 : e = 0 ∨ e = 1) (h : e = f) : jj_J X G kc kn pc lv [.int (jI e)] := jj_zret B d hr h1 ⟨e, rfl, h, rfl⟩
end JR2
section JB2
variable {X : jj_X} {own : String} {cc : ByteArray} {rm : Room} {G : jj_G} {kc kn pc nx : Nat} {lv lr : List (Option Value)} {st : List Value}
/-- a test of an answer that is 1 where p holds, else 0 -/
theorem jj_ifb_eq (F : jj_F X own cc rm) {off : Int} {tgt : Nat} {p : Prop} {i : Decidable p} (d : jj_D cc pc (.ifCond .eq off) 3 nx) (ht : (pc : Int) + off = (tgt : Int)) (kt : ¬ p → jj_J X G kc kn tgt lv st) (kf : p → jj_J X G kc kn nx lv st) : jj_J X G kc kn pc lv (.int (jI (@ite Int p i 1 0)) :: st) := by
  refine jj_if_eq F d ht (by split <;> omega) (fun h => kt (fun hp => ?_)) (fun h => kf ?_)
  · rw [if_pos hp] at h; omega
  · exact Decidable.byContradiction (fun hp => by rw [if_neg hp] at h; omega)
theorem jj_ifb_ne (F : jj_F X own cc rm) {off : Int} {tgt : Nat} {p : Prop} {i : Decidable p} (d : jj_D cc pc (.ifCond .ne off) 3 nx) (ht : (pc : Int) + off = (tgt : Int)) (kt : p → jj_J X G kc kn tgt lv st) (kf : ¬ p → jj_J X G kc kn nx lv st) : jj_J X G kc kn pc lv (.int (jI (@ite Int p i 1 0)) :: st) := by
  refine jj_if_ne F d ht (by split <;> omega) (fun h => kt ?_) (fun h => kf (fun hp => ?_))
  · exact Decidable.byContradiction (fun hp => by rw [if_neg hp] at h; omega)
  · rw [if_pos hp] at h; omega
theorem jj_lve {lv' : List (Option Value)} (h : lv' = lv) (kk : jj_J X G kc kn pc lv' st) : jj_J X G kc kn pc lv st := by rw [← h]; exact kk
end JB2

