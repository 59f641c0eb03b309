def jj_ac : jj_X → Nat → ClassId
  | (_, _, _, _, _, _, _, _, _, _, _, _, _, ac, _) => ac
def jj_isInit : jj_X → Prop
  | (_, _, _, _, _, _, _, _, meth, _, _, _, _, _, _) => meth.name = "<init>"
section JH
variable {X : jj_X} {own : String} {cc : ByteArray} {rm : Room} {G : jj_G} {kc kn pc nx : Nat} {lv lr : List (Option Value)} {st : List Value}
/-- a class's words, by the number of the class in vwCl -/
def jj_cls (ci : Nat) (C : String) (T : u_T) (N : Nat) (ty : Nat → FieldType) : Prop := vwCl[ci]? = some (C, T, N) ∧ (∀ w ∈ u_ws C T N, w ∈ jj_GW) ∧ (∀ k, k < N → parseFieldDescriptor (T k).2.2.1 = some (ty k)) ∧ (∀ a, a < N → ∀ b, b < N → a ≠ b → (T a).2.1 ≠ (T b).2.1)
/-- a field, from a place in the pool of 'own' -/
def jj_fld (own : String) (index : Nat) (T : u_T) (k : Nat) : Prop := Cond.fieldLink own index (T k).1 (T k).2.1 (T k).2.2.1 ∈ jj_GW
theorem jj_get (F : jj_F X own cc rm) {a ci index k N : Nat} {C : String} {T : u_T} {ty : Nat → FieldType} {fs : List Value} {v : Value} (hG : G a = some (jj_o ci fs)) (hc : jj_cls ci C T N ty) (hk : k < N) (hw : jj_fld own index T k) (hv : fs[k]? = some v) (d : jj_D cc pc (.getfield index) 3 nx) (kk : jj_J X G kc kn nx lv (v :: st)) : jj_J X G kc kn pc lv (.ref a :: st) := by
  obtain ⟨p, l, e, R, s, m, args, below, meth, c, nL, A, D, ac, Q⟩ := X
  obtain ⟨hx, hb, hml, hown, hR, hA, hE, hs, hlk, hts, -⟩ := F
  obtain ⟨rfl, hd⟩ := d
  intro H locs ls hW hS hl
  exact va_get hx hb hts hc.2.1 hown hE.2.1 (hW.at hG).1 0 rfl hc.1 k hk (hts _ hw) (fun _ h9 => h9) hv hd (kk H locs ls hW hS hl)
theorem jj_put (F : jj_F X own cc rm) {a ci index k N : Nat} {C : String} {T : u_T} {ty : Nat → FieldType} {fs : List Value} {v : Value} (hG : G a = some (jj_o ci fs)) (hc : jj_cls ci C T N ty) (hk : k < N) (hw : jj_fld own index T k) (hfin : (T k).2.2.2 = false) (hn : narrow (ty k) v = v) (hf : fits (ty k) v = true) (hlen : k < fs.length) (d : jj_D cc pc (.putfield index) 3 nx) (kk : jj_J X (jj_u G a (jj_o ci (fs.set k v))) kc kn nx lv st) : jj_J X G kc kn pc lv (v :: .ref a :: st) := by
  obtain ⟨p, l, e, R, s, m, args, below, meth, c, nL, A, D, ac, Q⟩ := X
  obtain ⟨hx, hb, hml, hown, hR, hA, hE, hs, hlk, hts, -⟩ := F
  obtain ⟨rfl, hd⟩ := d
  intro H locs ls hW hS hl
  obtain ⟨ws, hP, hD, hL⟩ := hW
  obtain ⟨q0, hq⟩ := (hL a _).mp hG
  exact va_put hx hb hts hc.2.1 ty hc.2.2.1 hc.2.2.2 hown hE.2.1 hP hD hS q0 hq hc.1 k hk (hts _ hw) (fun _ h9 => h9) hfin (hc.2.2.1 k hk) hn hf hlen hd (fun H1 locs1 hP1 hD1 hS1 => kk H1 locs1 ls ⟨_, hP1, hD1, hL.set hD hq⟩ hS1 hl)
theorem jj_putF (F : jj_F X own cc rm) {a ci index k N : Nat} {C : String} {T : u_T} {ty : Nat → FieldType} {fs : List Value} {v : Value} (hG : G a = some (jj_o ci fs)) (hc : jj_cls ci C T N ty) (hk : k < N) (hw : jj_fld own index T k) (hin : jj_isInit X) (hdec : (T k).1 = own) (hfin : (T k).2.2.2 = true) (hn : narrow (ty k) v = v) (hf : fits (ty k) v = true) (hlen : k < fs.length) (d : jj_D cc pc (.putfield index) 3 nx) (kk : jj_J X (jj_u G a (jj_o ci (fs.set k v))) kc kn nx lv st) : jj_J X G kc kn pc lv (v :: .ref a :: st) := by
  obtain ⟨p, l, e, R, s, m, args, below, meth, c, nL, A, D, ac, Q⟩ := X
  obtain ⟨hx, hb, hml, hown, hR, hA, hE, hs, hlk, hts, -⟩ := F
  obtain ⟨rfl, hd⟩ := d
  intro H locs ls hW hS hl
  obtain ⟨ws, hP, hD, hL⟩ := hW
  obtain ⟨q0, hq⟩ := (hL a _).mp hG
  exact va_putF hx hb hts hc.2.1 ty hc.2.2.1 hc.2.2.2 hown hE.2.1 hP hD hS q0 hq hc.1 k hk (hts _ hw) (fun _ h9 => h9) hfin hin hdec (hc.2.2.1 k hk) hn hf hlen hd (fun H1 locs1 hP1 hD1 hS1 => kk H1 locs1 ls ⟨_, hP1, hD1, hL.set hD hq⟩ hS1 hl)
theorem jj_iald (F : jj_F X own cc rm) {a n : Nat} {g : Int → Int} {i : Int} (hG : G a = some (jj_ai (jj_ac X 0) n g)) (hi : 0 ≤ i ∧ i < n) (hn : n ≤ 100000) (d : jj_D cc pc .iaload 1 nx) (kk : jj_J X G kc kn nx lv (.int (jI (g i)) :: st)) : jj_J X G kc kn pc lv (.int (jI i) :: .ref a :: st) := by
  obtain ⟨p, l, e, R, s, m, args, below, meth, c, nL, A, D, ac, Q⟩ := X
  obtain ⟨hx, hb, hml, hown, hR, hA, hE, hs, hlk, hts, -⟩ := F
  obtain ⟨rfl, hd⟩ := d
  intro H locs ls hW hS hl
  obtain ⟨h1, h2⟩ := jI_in hi hn
  refine va_iald hx hb hE.2.1 (hW.at hG).1 0 0 rfl rfl h1 hd ?_
  rw [h2]
  exact kk H locs ls hW hS hl
theorem jj_iast (F : jj_F X own cc rm) {a n : Nat} {g : Int → Int} {i x : Int} (hG : G a = some (jj_ai (jj_ac X 0) n g)) (hi : 0 ≤ i ∧ i < n) (hn : n ≤ 100000) (d : jj_D cc pc .iastore 1 nx) (kk : jj_J X (jj_u G a (jj_ai (jj_ac X 0) n (ju g i x))) kc kn nx lv st) : jj_J X G kc kn pc lv (.int (jI x) :: .int (jI i) :: .ref a :: st) := by
  obtain ⟨p, l, e, R, s, m, args, below, meth, c, nL, A, D, ac, Q⟩ := X
  obtain ⟨hx, hb, hml, hown, hR, hA, hE, hs, hlk, hts, -⟩ := F
  obtain ⟨rfl, hd⟩ := d
  intro H locs ls hW hS hl
  obtain ⟨h1, h2⟩ := jI_in hi hn
  obtain ⟨ws, hP, hD, hL⟩ := hW
  obtain ⟨q0, hq⟩ := (hL a _).mp hG
  refine va_iast hx hb hE.2.1 hP hD hS q0 0 hq rfl h1 hd (fun H1 locs1 hP1 hD1 hS1 => kk H1 locs1 ls ⟨_, hP1, hD1, ?_⟩ hS1 hl)
  have e1 : jj_ai (ac 0) n (ju g i x) = .inl (ac 0, n, .inl (upd (fun i => jI (g (i : Int))) (jI i).toNatClampNeg (jI x))) := by
    unfold jj_ai
    congr 4
    funext j
    unfold upd ju
    by_cases hj : j = (jI i).toNatClampNeg
    · rw [if_pos hj, if_pos (by omega)]
    · rw [if_neg hj, if_neg (by omega)]
  show jj_L (jj_u G a (jj_ai (ac 0) n (ju g i x))) _
  rw [e1]
  exact hL.set hD hq
theorem jj_ald (F : jj_F X own cc rm) {a n t : Nat} {C : String} {g : Int → Option Nat} {i : Int} (ht : ∀ ac, (jj_ty ac)[t]? = some (ac t, .object C)) (hG : G a = some (jj_aq (jj_ac X t) n g)) (hi : 0 ≤ i ∧ i < n) (hn : n ≤ 100000) (d : jj_D cc pc .aaload 1 nx) (kk : jj_J X G kc kn nx lv (va_rf (g i) :: st)) : jj_J X G kc kn pc lv (.int (jI i) :: .ref a :: st) := by
  obtain ⟨p, l, e, R, s, m, args, below, meth, c, nL, A, D, ac, Q⟩ := X
  obtain ⟨hx, hb, hml, hown, hR, hA, hE, hs, hlk, hts, -⟩ := F
  obtain ⟨rfl, hd⟩ := d
  intro H locs ls hW hS hl
  obtain ⟨h1, h2⟩ := jI_in hi hn
  refine va_aldq hx hb hE.2.1 (hW.at hG).1 0 t rfl (ht ac) h1 hd ?_
  rw [h2]
  exact kk H locs ls hW hS hl
theorem jj_aq_set {cA : ClassId} {n : Nat} {g : Int → Option Nat} {i : Int} {x : Option Nat} (h2 : (((jI i).toNatClampNeg : Nat) : Int) = i) : jj_aq cA n (ju g i x) = .inl (cA, n, .inr (.inr (.inr (.inr (va_up (fun i => g (i : Int)) (jI i).toNatClampNeg x))))) := by
  unfold jj_aq
  congr 7
  funext j
  unfold va_up ju
  by_cases hj : j = (jI i).toNatClampNeg
  · rw [if_pos hj, if_pos (by omega)]
  · rw [if_neg hj, if_neg (by omega)]
theorem jj_ast (F : jj_F X own cc rm) {a v n t ci N : Nat} {C : String} {T : u_T} {ty : Nat → FieldType} {g : Int → Option Nat} {fs : List Value} {i : Int} (ht : ∀ ac, (jj_ty ac)[t]? = some (ac t, .object C)) (hG : G a = some (jj_aq (jj_ac X t) n g)) (hV : G v = some (jj_o ci fs)) (hc : jj_cls ci C T N ty) (hi : 0 ≤ i ∧ i < n) (hn : n ≤ 100000) (d : jj_D cc pc .aastore 1 nx) (kk : jj_J X (jj_u G a (jj_aq (jj_ac X t) n (ju g i (some v)))) kc kn nx lv st) : jj_J X G kc kn pc lv (.ref v :: .int (jI i) :: .ref a :: st) := by
  obtain ⟨p, l, e, R, s, m, args, below, meth, c, nL, A, D, ac, Q⟩ := X
  obtain ⟨hx, hb, hml, hown, hR, hA, hE, hs, hlk, hts, -⟩ := F
  obtain ⟨rfl, hd⟩ := d
  intro H locs ls hW hS hl
  obtain ⟨h1, h2⟩ := jI_in hi hn
  obtain ⟨ws, hP, hD, hL⟩ := hW
  obtain ⟨q0, hq⟩ := (hL a _).mp hG
  obtain ⟨qv, hqv⟩ := (hL v _).mp hV
  refine va_astq (r := (C, T, N)) hx hb hE.2.1 hP hD hS q0 t qv ci hq (ht ac) hqv hc.1 h1 hd (fun H1 locs1 hP1 hD1 hS1 => kk H1 locs1 ls ⟨_, hP1, hD1, ?_⟩ hS1 hl)
  show jj_L (jj_u G a (jj_aq (ac t) n (ju g i (some v)))) _
  rw [jj_aq_set h2]
  exact hL.set hD hq
theorem jj_astN (F : jj_F X own cc rm) {a n t : Nat} {C : String} {g : Int → Option Nat} {i : Int} (ht : ∀ ac, (jj_ty ac)[t]? = some (ac t, .object C)) (hG : G a = some (jj_aq (jj_ac X t) n g)) (hi : 0 ≤ i ∧ i < n) (hn : n ≤ 100000) (d : jj_D cc pc .aastore 1 nx) (kk : jj_J X (jj_u G a (jj_aq (jj_ac X t) n (ju g i none))) kc kn nx lv st) : jj_J X G kc kn pc lv (.null :: .int (jI i) :: .ref a :: st) := by
  obtain ⟨p, l, e, R, s, m, args, below, meth, c, nL, A, D, ac, Q⟩ := X
  obtain ⟨hx, hb, hml, hown, hR, hA, hE, hs, hlk, hts, -⟩ := F
  obtain ⟨rfl, hd⟩ := d
  intro H locs ls hW hS hl
  obtain ⟨h1, h2⟩ := jI_in hi hn
  obtain ⟨ws, hP, hD, hL⟩ := hW
  obtain ⟨q0, hq⟩ := (hL a _).mp hG
  refine va_astqN hx hb hE.2.1 hP hD hS q0 t hq (ht ac) h1 hd (fun H1 locs1 hP1 hD1 hS1 => kk H1 locs1 ls ⟨_, hP1, hD1, ?_⟩ hS1 hl)
  show jj_L (jj_u G a (jj_aq (ac t) n (ju g i none))) _
  rw [jj_aq_set h2]
  exact hL.set hD hq
theorem jj_alenI (F : jj_F X own cc rm) {a n : Nat} {g : Int → Int} (hG : G a = some (jj_ai (jj_ac X 0) n g)) (d : jj_D cc pc .arraylength 1 nx) (kk : jj_J X G kc kn nx lv (.int (jI (n : Int)) :: st)) : jj_J X G kc kn pc lv (.ref a :: st) := by
  obtain ⟨p, l, e, R, s, m, args, below, meth, c, nL, A, D, ac, Q⟩ := X
  obtain ⟨hx, hb, hml, hown, hR, hA, hE, hs, hlk, hts, -⟩ := F
  obtain ⟨rfl, hd⟩ := d
  intro H locs ls hW hS hl
  exact va_alen hx hb hE.2.1 (hW.at hG).1 0 0 rfl rfl (v := jI (n : Int)) (by unfold jI; first | rfl | simp) hd (kk H locs ls hW hS hl)
theorem jj_alenQ (F : jj_F X own cc rm) {a n t : Nat} {C : String} {g : Int → Option Nat} (ht : ∀ ac, (jj_ty ac)[t]? = some (ac t, .object C)) (hG : G a = some (jj_aq (jj_ac X t) n g)) (d : jj_D cc pc .arraylength 1 nx) (kk : jj_J X G kc kn nx lv (.int (jI (n : Int)) :: st)) : jj_J X G kc kn pc lv (.ref a :: st) := by
  obtain ⟨p, l, e, R, s, m, args, below, meth, c, nL, A, D, ac, Q⟩ := X
  obtain ⟨hx, hb, hml, hown, hR, hA, hE, hs, hlk, hts, -⟩ := F
  obtain ⟨rfl, hd⟩ := d
  intro H locs ls hW hS hl
  exact va_alen hx hb hE.2.1 (hW.at hG).1 0 t rfl (ht ac) (v := jI (n : Int)) (by unfold jI; first | rfl | simp) hd (kk H locs ls hW hS hl)
theorem jj_new (F : jj_F X own cc rm) {ci index N k n : Nat} {C : String} {T : u_T} {ty : Nat → FieldType} {fs : List Value} (hc : jj_cls ci C T N ty) (hcl : Cond.classLink own index C ∈ jj_GW) (hin : Cond.instantiable C N ∈ jj_GW) (hini : Cond.initialized C ∈ jj_GW) (hfs : ∀ j, j < N → defaultValue (ty j) = vp_V fs j) (hr : kc + 1 ≤ rm.cells ∧ kn + N ≤ rm.slots ∧ kc + 1 ≤ k ∧ kn + N ≤ n) (d : jj_D cc pc (.new index) 3 nx) (kk : ∀ q : Nat, G q = none → jj_J X (jj_u G q (jj_o ci fs)) k n nx lv (.ref q :: st)) : jj_J X G kc kn pc lv st := by
  obtain ⟨p, l, e, R, s, m, args, below, meth, c, nL, A, D, ac, Q⟩ := X
  obtain ⟨hx, hb, hml, hown, hR, hA, hE, hs, hlk, hts, -⟩ := F
  obtain ⟨rfl, hd⟩ := d
  subst hR
  intro H locs ls hW hS hl
  obtain ⟨ws, hP, hD, hL⟩ := hW
  exact va_new hx hb hts hc.2.1 ty hc.2.2.1 hown (hts _ hcl) (hts _ hin) (hts _ hini) hE.2.1 hP hD hS hA hc.1 hfs hr.1 hr.2.1 hd (fun q H1 hP1 hD1 hS1 => W.widen hr.2.2.1 hr.2.2.2 (kk q (hL.fresh hD1) H1 locs ls ⟨_, hP1, hD1, hL.push (hL.fresh hD1)⟩ hS1 hl))
theorem jj_newI (F : jj_F X own cc rm) {N k n : Nat} (hw : Cond.arrayClass .int ∈ jj_GW) (hN : N ≤ 100000) (hr : kc + 1 ≤ rm.cells ∧ kn + N ≤ rm.slots ∧ kc + 1 ≤ k ∧ kn + N ≤ n) (d : jj_D cc pc (.newarray .int) 2 nx) (kk : ∀ q : Nat, G q = none → jj_J X (jj_u G q (jj_ai (jj_ac X 0) N (fun _ => 0))) k n nx lv (.ref q :: st)) : jj_J X G kc kn pc lv (.int (jI (N : Int)) :: st) := by
  obtain ⟨p, l, e, R, s, m, args, below, meth, c, nL, A, D, ac, Q⟩ := X
  obtain ⟨hx, hb, hml, hown, hR, hA, hE, hs, hlk, hts, -⟩ := F
  obtain ⟨rfl, hd⟩ := d
  subst hR
  intro H locs ls hW hS hl
  obtain ⟨ws, hP, hD, hL⟩ := hW
  have h1 : (jI (N : Int)).toInt = N := jI_toInt (by omega) (by omega)
  refine va_newa (ty := .int) (N' := N) (a0 := (N, .inl (fun _ => jI 0))) (atype := .int) hx hb (hts _ hw) rfl hE.2.1 hP hD hS hA (fun cA => rfl) (by rw [Int32.lt_iff_toInt_lt, h1]; simp) (by rw [show (jI (N : Int)).toNatClampNeg = (jI (N : Int)).toInt.toNat from rfl, h1]; simp) (by show N * 4 ≤ _; omega) hr.1 hr.2.1 hd (fun q cA H1 hK1 hP1 hD1 hS1 => ?_)
  have e1 : cA = ac 0 := by
    have f1 := (hK1.2 (jj_ty ac).length (cA, .int) (by simp)).2
    have f2 := (hE.2.1.2 0 (ac 0, .int) rfl).2
    exact Option.some.inj (f1.symm.trans f2)
  subst e1
  exact W.widen hr.2.2.1 hr.2.2.2 (kk q (hL.fresh hD1) H1 locs ls ⟨_, hP1, hD1, hL.push (hL.fresh hD1)⟩ hS1 hl)
theorem jj_newQ (F : jj_F X own cc rm) {N k n t index : Nat} {C : String} (ht : ∀ ac, (jj_ty ac)[t]? = some (ac t, .object C)) (hcl : Cond.classLink own index C ∈ jj_GW) (hO : C ∈ jj_O) (hN : N ≤ 100000) (hr : kc + 1 ≤ rm.cells ∧ kn + N ≤ rm.slots ∧ kc + 1 ≤ k ∧ kn + N ≤ n) (d : jj_D cc pc (.anewarray index) 3 nx) (kk : ∀ q : Nat, G q = none → jj_J X (jj_u G q (jj_aq (jj_ac X t) N (fun _ => none))) k n nx lv (.ref q :: st)) : jj_J X G kc kn pc lv (.int (jI (N : Int)) :: st) := by
  obtain ⟨p, l, e, R, s, m, args, below, meth, c, nL, A, D, ac, Q⟩ := X
  obtain ⟨hx, hb, hml, hown, hR, hA, hE, hs, hlk, hts, -⟩ := F
  obtain ⟨rfl, hd⟩ := d
  subst hR
  intro H locs ls hW hS hl
  obtain ⟨ws, hP, hD, hL⟩ := hW
  have h1 : (jI (N : Int)).toInt = N := jI_toInt (by omega) (by omega)
  refine va_newq (C := C) (N' := N) hx hb hown (hts _ hcl) (hE.2.2.2.2.1 C hO) hE.2.1 hP hD hS hA (by rw [Int32.lt_iff_toInt_lt, h1]; simp) (by rw [show (jI (N : Int)).toNatClampNeg = (jI (N : Int)).toInt.toNat from rfl, h1]; simp) (by omega) hr.1 hr.2.1 hd (fun q cA H1 hK1 hP1 hD1 hS1 => ?_)
  have e1 : cA = ac t := by
    obtain ⟨kA, comp, -, -, -, f1⟩ := (hK1.2 (jj_ty ac).length (cA, .object C) (by simp)).2
    obtain ⟨kB, comp', -, -, -, f2⟩ := (hE.2.1.2 t (ac t, .object C) (ht ac)).2
    exact Option.some.inj (f1.symm.trans f2)
  subst e1
  exact W.widen hr.2.2.1 hr.2.2.2 (kk q (hL.fresh hD1) H1 locs ls ⟨_, hP1, hD1, hL.push (hL.fresh hD1)⟩ hS1 hl)
theorem jj_objInit (F : jj_F X own cc rm) {a index : Nat} (hl : Cond.methodLink own index Lib.objectInit ∈ jj_GW) (hi : Cond.instanceMethod Lib.objectInit ∈ jj_GW) (hco : Cond.code Lib.objectInit ⟨#[0xb1]⟩ 1 none ∈ jj_GW) (hr : 1 ≤ rm.frames ∧ 12 ≤ rm.locals) (d : jj_D cc pc (.invokespecial index) 3 nx) (kk : jj_J X G kc kn nx lv []) : jj_J X G kc kn pc lv [.ref a] := by
  obtain ⟨p, l, e, R, s, m, args, below, meth, c, nL, A, D, ac, Q⟩ := X
  obtain ⟨hx, hb, hml, hown, hR, hA, hE, hs, hlk, hts, -⟩ := F
  obtain ⟨rfl, hd⟩ := d
  subst hR
  intro H locs ls hW hS hll
  exact W.objInit hx hb hown (hts _ hl) (hts _ hi) (hts _ hco) rfl (by rw [hml]; exact hll.1) rfl hd hr.1 (by show 2 * 0 + 0 + 12 ≤ _; omega) (kk H locs ls hW hS hll)
theorem jj_mmax (F : jj_F X own cc rm) {index : Nat} {x y : Int} (hl : Cond.methodLink own index Lib.Math.max.name ∈ jj_GW) (h1 : Cond.static Lib.Math.max.name ∈ jj_GW) (h2 : Cond.initialized "java/lang/Math" ∈ jj_GW) (h3 : Cond.code Lib.Math.max.name Lib.Math.max.code 2 (some .int) ∈ jj_GW) (hr : 1 ≤ rm.frames ∧ (st.map fun v => v.category).sum + 13 ≤ rm.locals ∧ kc ≤ rm.cells ∧ kn ≤ rm.slots) (h : -2147483648 ≤ x ∧ x ≤ 2147483647 ∧ -2147483648 ≤ y ∧ y ≤ 2147483647) (d : jj_D cc pc (.invokestatic index) 3 nx) (kk : jj_J X G kc kn nx lv (.int (jI (if x < y then y else x)) :: st)) : jj_J X G kc kn pc lv (.int (jI y) :: .int (jI x) :: st) := by
  obtain ⟨p, l, e, R, s, m, args, below, meth, c, nL, A, D, ac, Q⟩ := X
  obtain ⟨hx, hb, hml, hown, hR, hA, hE, hs, hlk, hts, -⟩ := F
  obtain ⟨rfl, hd⟩ := d
  subst hR
  intro H locs ls hW hS hll
  refine va_mmax hx hb (by rw [hml, hll.1]) hown (hts _ hl) (hts _ h1) (hts _ h2) (hts _ h3) hr.1 hr.2.1 hr.2.2.1 hr.2.2.2 hd ?_
  have q := jI_lt h
  have e1 : (if jI x < jI y then jI y else jI x) = jI (if x < y then y else x) := by
    by_cases hxy : x < y
    · rw [if_pos (q.mpr hxy), if_pos hxy]
    · rw [if_neg (fun z => hxy (q.mp z)), if_neg hxy]
  rw [e1]
  exact kk H locs ls hW hS hll
theorem jj_mmaxx (F : jj_F X own cc rm) {index : Nat} {x y : Int32} (hl : Cond.methodLink own index Lib.Math.max.name ∈ jj_GW) (h1 : Cond.static Lib.Math.max.name ∈ jj_GW) (h2 : Cond.initialized "java/lang/Math" ∈ jj_GW) (h3 : Cond.code Lib.Math.max.name Lib.Math.max.code 2 (some .int) ∈ jj_GW) (hr : 1 ≤ rm.frames ∧ (st.map fun v => v.category).sum + 13 ≤ rm.locals ∧ kc ≤ rm.cells ∧ kn ≤ rm.slots) (d : jj_D cc pc (.invokestatic index) 3 nx) (kk : jj_J X G kc kn nx lv (.int (if x < y then y else x) :: st)) : jj_J X G kc kn pc lv (.int y :: .int x :: st) := by
  obtain ⟨p, l, e, R, s, m, args, below, meth, c, nL, A, D, ac, Q⟩ := X
  obtain ⟨hx, hb, hml, hown, hR, hA, hE, hs, hlk, hts, -⟩ := F
  obtain ⟨rfl, hd⟩ := d
  subst hR
  intro H locs ls hW hS hll
  exact va_mmax hx hb (by rw [hml, hll.1]) hown (hts _ hl) (hts _ h1) (hts _ h2) (hts _ h3) hr.1 hr.2.1 hr.2.2.1 hr.2.2.2 hd (kk H locs ls hW hS hll)
theorem jj_mmin (F : jj_F X own cc rm) {index : Nat} {x y : Int} (hl : Cond.methodLink own index Lib.Math.min.name ∈ jj_GW) (h1 : Cond.static Lib.Math.min.name ∈ jj_GW) (h2 : Cond.initialized "java/lang/Math" ∈ jj_GW) (h3 : Cond.code Lib.Math.min.name Lib.Math.min.code 2 (some .int) ∈ jj_GW) (hr : 1 ≤ rm.frames ∧ (st.map fun v => v.category).sum + 13 ≤ rm.locals ∧ kc ≤ rm.cells ∧ kn ≤ rm.slots) (h : -2147483648 ≤ x ∧ x ≤ 2147483647 ∧ -2147483648 ≤ y ∧ y ≤ 2147483647) (d : jj_D cc pc (.invokestatic index) 3 nx) (kk : jj_J X G kc kn nx lv (.int (jI (if y < x then y else x)) :: st)) : jj_J X G kc kn pc lv (.int (jI y) :: .int (jI x) :: st) := by
  obtain ⟨p, l, e, R, s, m, args, below, meth, c, nL, A, D, ac, Q⟩ := X
  obtain ⟨hx, hb, hml, hown, hR, hA, hE, hs, hlk, hts, -⟩ := F
  obtain ⟨rfl, hd⟩ := d
  subst hR
  intro H locs ls hW hS hll
  refine va_mmin hx hb (by rw [hml, hll.1]) hown (hts _ hl) (hts _ h1) (hts _ h2) (hts _ h3) hr.1 hr.2.1 hr.2.2.1 hr.2.2.2 hd ?_
  have q := jI_lt (a := y) (b := x) (by omega)
  have e1 : (if jI y < jI x then jI y else jI x) = jI (if y < x then y else x) := by
    by_cases hxy : y < x
    · rw [if_pos (q.mpr hxy), if_pos hxy]
    · rw [if_neg (fun z => hxy (q.mp z)), if_neg hxy]
  rw [e1]
  exact kk H locs ls hW hS hll
end JH

