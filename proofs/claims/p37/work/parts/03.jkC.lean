def jj_nL : jj_X → Nat
  | (_, _, _, _, _, _, _, _, _, _, nL, _, _, _, _) => nL
def jj_ncv (x : Option Value) : Bool := match x with
  | some w => w.category != 2
  | none => true
/-! numbers -/
theorem jI_toInt {x : Int} (h1 : -2147483648 ≤ x) (h2 : x ≤ 2147483647) : (jI x).toInt = x := by
  unfold jI
  rw [Int32.toInt_ofInt]
  simp only [Int.bmod, Int32.size]
  omega
theorem jI_of (x : Int32) : x = jI x.toInt := (Int32.ofInt_toInt x).symm
theorem jI_rng (x : Int32) : -2147483648 ≤ x.toInt ∧ x.toInt ≤ 2147483647 := ⟨Int32.le_toInt x, by have := Int32.toInt_lt x; omega⟩
theorem jI_add (a b : Int) : jI a + jI b = jI (a + b) := (Int32.ofInt_add a b).symm
theorem jI_sub (a b : Int) : jI a - jI b = jI (a - b) := (Int32.ofInt_sub a b).symm
theorem jI_mul (a b : Int) : jI a * jI b = jI (a * b) := (Int32.ofInt_mul a b).symm
theorem jI_inj {a b : Int} (h : -2147483648 ≤ a ∧ a ≤ 2147483647 ∧ -2147483648 ≤ b ∧ b ≤ 2147483647) : jI a = jI b ↔ a = b := by
  rw [← Int32.toInt_inj, jI_toInt h.1 h.2.1, jI_toInt h.2.2.1 h.2.2.2]
theorem jI_le {a b : Int} (h : -2147483648 ≤ a ∧ a ≤ 2147483647 ∧ -2147483648 ≤ b ∧ b ≤ 2147483647) : jI a ≤ jI b ↔ a ≤ b := by
  rw [Int32.le_iff_toInt_le, jI_toInt h.1 h.2.1, jI_toInt h.2.2.1 h.2.2.2]
theorem jI_lt {a b : Int} (h : -2147483648 ≤ a ∧ a ≤ 2147483647 ∧ -2147483648 ≤ b ∧ b ≤ 2147483647) : jI a < jI b ↔ a < b := by
  rw [Int32.lt_iff_toInt_lt, jI_toInt h.1 h.2.1, jI_toInt h.2.2.1 h.2.2.2]
theorem jI_0 : (0 : Int32) = jI 0 := by decide
theorem jI_div {a b : Int} (h : 0 ≤ a ∧ a ≤ 2147483647 ∧ 0 < b ∧ b ≤ 2147483647) : jI a / jI b = jI (a / b) := by
  rw [← Int32.toInt_inj, Int32.toInt_div, jI_toInt (by omega) (by omega), jI_toInt (by omega) (by omega)]
  have h1 : a.tdiv b = a / b := Int.tdiv_eq_ediv_of_nonneg h.1
  have h2 : 0 ≤ a / b := Int.ediv_nonneg h.1 (by omega)
  have h3 : a / b ≤ a := Int.ediv_le_self b h.1
  rw [h1, jI_toInt (by omega) (by omega)]
  simp only [Int.bmod]
  omega
theorem jI_mod {a b : Int} (h : 0 ≤ a ∧ a ≤ 2147483647 ∧ 0 < b ∧ b ≤ 2147483647) : jI a - jI a / jI b * jI b = jI (a % b) := by
  rw [jI_div h, jI_mul, jI_sub]
  congr 1
  have := Int.emod_def a b
  rw [this, Int.mul_comm]
theorem jL_toInt {x : Int} (h1 : -9223372036854775808 ≤ x) (h2 : x ≤ 9223372036854775807) : (jL x).toInt = x := by
  unfold jL
  rw [Int64.toInt_ofInt]
  simp only [Int.bmod, Int64.size]
  omega
theorem jL_mul (a b : Int) : jL a * jL b = jL (a * b) := (Int64.ofInt_mul a b).symm
theorem jL_of_I {x : Int} (h1 : -2147483648 ≤ x) (h2 : x ≤ 2147483647) : (jI x).toInt64 = jL x := by
  rw [← Int64.toInt_inj, Int32.toInt_toInt64, jI_toInt h1 h2, jL_toInt (by omega) (by omega)]
theorem jI_of_L (x : Int) : (jL x).toInt32 = jI x := by
  unfold jL jI
  first | exact Int64.toInt32_ofInt x | simp
theorem jL_div {a b : Int} (h : 0 ≤ a ∧ a ≤ 9223372036854775807 ∧ 0 < b ∧ b ≤ 9223372036854775807) : jL a / jL b = jL (a / b) := by
  rw [← Int64.toInt_inj, Int64.toInt_div, jL_toInt (by omega) (by omega), jL_toInt (by omega) (by omega)]
  have h1 : a.tdiv b = a / b := Int.tdiv_eq_ediv_of_nonneg h.1
  have h2 : 0 ≤ a / b := Int.ediv_nonneg h.1 (by omega)
  have h3 : a / b ≤ a := Int.ediv_le_self b h.1
  rw [h1, jL_toInt (by omega) (by omega)]
  simp only [Int.bmod]
  omega
theorem jL_inj {a b : Int} (h : -9223372036854775808 ≤ a ∧ a ≤ 9223372036854775807 ∧ -9223372036854775808 ≤ b ∧ b ≤ 9223372036854775807) : jL a = jL b ↔ a = b := by
  rw [← Int64.toInt_inj, jL_toInt h.1 h.2.1, jL_toInt h.2.2.1 h.2.2.2]
theorem jL_lt {a b : Int} (h : -9223372036854775808 ≤ a ∧ a ≤ 9223372036854775807 ∧ -9223372036854775808 ≤ b ∧ b ≤ 9223372036854775807) : jL a < jL b ↔ a < b := by
  rw [Int64.lt_iff_toInt_lt, jL_toInt h.1 h.2.1, jL_toInt h.2.2.1 h.2.2.2]
theorem jI_in {x : Int} {n : Nat} (h : 0 ≤ x ∧ x < n) (hn : n ≤ 100000) : vp_in (jI x) n ∧ (((jI x).toNatClampNeg : Nat) : Int) = x := by
  have h1 : (jI x).toInt = x := jI_toInt (by omega) (by omega)
  have h2 : (((jI x).toNatClampNeg : Nat) : Int) = x := by
    rw [show (jI x).toNatClampNeg = (jI x).toInt.toNat from rfl, h1]
    omega
  refine ⟨vp_in_iff.mpr ⟨by omega, by omega⟩, h2⟩
section JR
variable {X : jj_X} {own : String} {cc : ByteArray} {rm : Room} {G : jj_G} {kc kn pc nx : Nat} {lv lr : List (Option Value)} {st : List Value}

theorem jj_iconst (F : jj_F X own cc rm) {n : Int} (d : jj_D cc pc (.iconst n) 1 nx) (kk : jj_J X G kc kn nx lv (.int (jI n) :: st)) : jj_J X G kc kn pc lv st := by
  obtain ⟨p, l, e, R, s, m, args, below, meth, c, nL, A, D, ac, Q⟩ := X
  obtain ⟨hx, hb, hml, hown, hR, hA, hE, hs, hk, hts, -⟩ := F
  obtain ⟨rfl, hd⟩ := d
  intro H locs ls hW hS hl
  exact lv_iconst hx hb hd rfl (kk H locs ls hW hS hl)
theorem jj_bipush (F : jj_F X own cc rm) {n : Int} (hv : (Int8.ofInt n).toInt32 = jI n) (d : jj_D cc pc (.bipush n) 2 nx) (kk : jj_J X G kc kn nx lv (.int (jI n) :: st)) : jj_J X G kc kn pc lv st := by
  obtain ⟨p, l, e, R, s, m, args, below, meth, c, nL, A, D, ac, Q⟩ := X
  obtain ⟨hx, hb, hml, hown, hR, hA, hE, hs, hk, hts, -⟩ := F
  obtain ⟨rfl, hd⟩ := d
  intro H locs ls hW hS hl
  exact lv_bipush hx hb hd hv (kk H locs ls hW hS hl)
theorem jj_sipush (F : jj_F X own cc rm) {n : Int} (hv : (Int16.ofInt n).toInt32 = jI n) (d : jj_D cc pc (.sipush n) 3 nx) (kk : jj_J X G kc kn nx lv (.int (jI n) :: st)) : jj_J X G kc kn pc lv st := by
  obtain ⟨p, l, e, R, s, m, args, below, meth, c, nL, A, D, ac, Q⟩ := X
  obtain ⟨hx, hb, hml, hown, hR, hA, hE, hs, hk, hts, -⟩ := F
  obtain ⟨rfl, hd⟩ := d
  intro H locs ls hW hS hl
  exact lv_sipush hx hb hd hv (kk H locs ls hW hS hl)
theorem jj_lconst (F : jj_F X own cc rm) {n : Fin 2} {v : Int} (hv : Int64.ofNat (n : Nat) = jL v) (d : jj_D cc pc (.lconst n) 1 nx) (kk : jj_J X G kc kn nx lv (.long (jL v) :: st)) : jj_J X G kc kn pc lv st := by
  obtain ⟨p, l, e, R, s, m, args, below, meth, c, nL, A, D, ac, Q⟩ := X
  obtain ⟨hx, hb, hml, hown, hR, hA, hE, hs, hk, hts, -⟩ := F
  obtain ⟨rfl, hd⟩ := d
  intro H locs ls hW hS hl
  exact lv_lconst hx hb hd hv (kk H locs ls hW hS hl)
theorem jj_null (F : jj_F X own cc rm) (d : jj_D cc pc (.aconst_null) 1 nx) (kk : jj_J X G kc kn nx lv (.null :: st)) : jj_J X G kc kn pc lv st := by
  obtain ⟨p, l, e, R, s, m, args, below, meth, c, nL, A, D, ac, Q⟩ := X
  obtain ⟨hx, hb, hml, hown, hR, hA, hE, hs, hk, hts, -⟩ := F
  obtain ⟨rfl, hd⟩ := d
  intro H locs ls hW hS hl
  exact lv_null hx hb hd (kk H locs ls hW hS hl)
theorem jj_ldc (F : jj_F X own cc rm) {i : Nat} {w : Int32} {v : Int} (hw : Cond.constant own i w ∈ jj_GW) (hv : w = jI v) (d : jj_D cc pc (.ldc i) 2 nx) (kk : jj_J X G kc kn nx lv (.int (jI v) :: st)) : jj_J X G kc kn pc lv st := by
  obtain ⟨p, l, e, R, s, m, args, below, meth, c, nL, A, D, ac, Q⟩ := X
  obtain ⟨hx, hb, hml, hown, hR, hA, hE, hs, hk, hts, -⟩ := F
  obtain ⟨rfl, hd⟩ := d
  intro H locs ls hW hS hl
  subst hv
  exact lv_ldc hx hb hown (hts _ hw) hd (kk H locs ls hW hS hl)
theorem jj_ldc2 (F : jj_F X own cc rm) {i : Nat} {w : Int64} {v : Int} (hw : Cond.constantLong own i w ∈ jj_GW) (hv : w = jL v) (d : jj_D cc pc (.ldc2_w i) 3 nx) (kk : jj_J X G kc kn nx lv (.long (jL v) :: st)) : jj_J X G kc kn pc lv st := by
  obtain ⟨p, l, e, R, s, m, args, below, meth, c, nL, A, D, ac, Q⟩ := X
  obtain ⟨hx, hb, hml, hown, hR, hA, hE, hs, hk, hts, -⟩ := F
  obtain ⟨rfl, hd⟩ := d
  intro H locs ls hW hS hl
  subst hv
  exact lv_ldc2 hx hb hown (hts _ hw) hd (kk H locs ls hW hS hl)
theorem jj_iadd (F : jj_F X own cc rm) {a b : Int} (d : jj_D cc pc (.iadd) 1 nx) (kk : jj_J X G kc kn nx lv (.int (jI (a + b)) :: st)) : jj_J X G kc kn pc lv (.int (jI b) :: .int (jI a) :: st) := by
  obtain ⟨p, l, e, R, s, m, args, below, meth, c, nL, A, D, ac, Q⟩ := X
  obtain ⟨hx, hb, hml, hown, hR, hA, hE, hs, hk, hts, -⟩ := F
  obtain ⟨rfl, hd⟩ := d
  intro H locs ls hW hS hl
  refine lv_iadd hx hb hd ?_
  rw [jI_add]
  exact kk H locs ls hW hS hl
theorem jj_isub (F : jj_F X own cc rm) {a b : Int} (d : jj_D cc pc (.isub) 1 nx) (kk : jj_J X G kc kn nx lv (.int (jI (a - b)) :: st)) : jj_J X G kc kn pc lv (.int (jI b) :: .int (jI a) :: st) := by
  obtain ⟨p, l, e, R, s, m, args, below, meth, c, nL, A, D, ac, Q⟩ := X
  obtain ⟨hx, hb, hml, hown, hR, hA, hE, hs, hk, hts, -⟩ := F
  obtain ⟨rfl, hd⟩ := d
  intro H locs ls hW hS hl
  refine lv_isub hx hb hd ?_
  rw [jI_sub]
  exact kk H locs ls hW hS hl
theorem jj_imul (F : jj_F X own cc rm) {a b : Int} (d : jj_D cc pc (.imul) 1 nx) (kk : jj_J X G kc kn nx lv (.int (jI (a * b)) :: st)) : jj_J X G kc kn pc lv (.int (jI b) :: .int (jI a) :: st) := by
  obtain ⟨p, l, e, R, s, m, args, below, meth, c, nL, A, D, ac, Q⟩ := X
  obtain ⟨hx, hb, hml, hown, hR, hA, hE, hs, hk, hts, -⟩ := F
  obtain ⟨rfl, hd⟩ := d
  intro H locs ls hW hS hl
  refine lv_imul hx hb hd ?_
  rw [jI_mul]
  exact kk H locs ls hW hS hl
theorem jj_idiv (F : jj_F X own cc rm) {a b : Int} (h : 0 ≤ a ∧ a ≤ 2147483647 ∧ 0 < b ∧ b ≤ 2147483647) (d : jj_D cc pc (.idiv) 1 nx) (kk : jj_J X G kc kn nx lv (.int (jI (a / b)) :: st)) : jj_J X G kc kn pc lv (.int (jI b) :: .int (jI a) :: st) := by
  obtain ⟨p, l, e, R, s, m, args, below, meth, c, nL, A, D, ac, Q⟩ := X
  obtain ⟨hx, hb, hml, hown, hR, hA, hE, hs, hk, hts, -⟩ := F
  obtain ⟨rfl, hd⟩ := d
  intro H locs ls hW hS hl
  refine lv_idiv hx hb hd (fun q => ?_) ?_
  · rw [jI_0, jI_inj (by omega)] at q
    omega
  · rw [jI_div h]
    exact kk H locs ls hW hS hl
theorem jj_irem (F : jj_F X own cc rm) {a b : Int} (h : 0 ≤ a ∧ a ≤ 2147483647 ∧ 0 < b ∧ b ≤ 2147483647) (d : jj_D cc pc (.irem) 1 nx) (kk : jj_J X G kc kn nx lv (.int (jI (a % b)) :: st)) : jj_J X G kc kn pc lv (.int (jI b) :: .int (jI a) :: st) := by
  obtain ⟨p, l, e, R, s, m, args, below, meth, c, nL, A, D, ac, Q⟩ := X
  obtain ⟨hx, hb, hml, hown, hR, hA, hE, hs, hk, hts, -⟩ := F
  obtain ⟨rfl, hd⟩ := d
  intro H locs ls hW hS hl
  refine lv_irem hx hb hd (fun q => ?_) ?_
  · rw [jI_0, jI_inj (by omega)] at q
    omega
  · rw [jI_mod h]
    exact kk H locs ls hW hS hl
theorem jj_iand (F : jj_F X own cc rm) {x y : Int32} (d : jj_D cc pc (.iand) 1 nx) (kk : jj_J X G kc kn nx lv (.int (x &&& y) :: st)) : jj_J X G kc kn pc lv (.int y :: .int x :: st) := by
  obtain ⟨p, l, e, R, s, m, args, below, meth, c, nL, A, D, ac, Q⟩ := X
  obtain ⟨hx, hb, hml, hown, hR, hA, hE, hs, hk, hts, -⟩ := F
  obtain ⟨rfl, hd⟩ := d
  intro H locs ls hW hS hl
  exact lv_iand hx hb hd (kk H locs ls hW hS hl)
theorem jj_ior (F : jj_F X own cc rm) {x y : Int32} (d : jj_D cc pc (.ior) 1 nx) (kk : jj_J X G kc kn nx lv (.int (x ||| y) :: st)) : jj_J X G kc kn pc lv (.int y :: .int x :: st) := by
  obtain ⟨p, l, e, R, s, m, args, below, meth, c, nL, A, D, ac, Q⟩ := X
  obtain ⟨hx, hb, hml, hown, hR, hA, hE, hs, hk, hts, -⟩ := F
  obtain ⟨rfl, hd⟩ := d
  intro H locs ls hW hS hl
  exact lv_ior hx hb hd (kk H locs ls hW hS hl)
theorem jj_ixor (F : jj_F X own cc rm) {x y : Int32} (d : jj_D cc pc (.ixor) 1 nx) (kk : jj_J X G kc kn nx lv (.int (x ^^^ y) :: st)) : jj_J X G kc kn pc lv (.int y :: .int x :: st) := by
  obtain ⟨p, l, e, R, s, m, args, below, meth, c, nL, A, D, ac, Q⟩ := X
  obtain ⟨hx, hb, hml, hown, hR, hA, hE, hs, hk, hts, -⟩ := F
  obtain ⟨rfl, hd⟩ := d
  intro H locs ls hW hS hl
  exact lv_ixor hx hb hd (kk H locs ls hW hS hl)
theorem jj_ishl (F : jj_F X own cc rm) {x y : Int32} (d : jj_D cc pc (.ishl) 1 nx) (kk : jj_J X G kc kn nx lv (.int (x <<< (y &&& 31)) :: st)) : jj_J X G kc kn pc lv (.int y :: .int x :: st) := by
  obtain ⟨p, l, e, R, s, m, args, below, meth, c, nL, A, D, ac, Q⟩ := X
  obtain ⟨hx, hb, hml, hown, hR, hA, hE, hs, hk, hts, -⟩ := F
  obtain ⟨rfl, hd⟩ := d
  intro H locs ls hW hS hl
  exact lv_ishl hx hb hd (kk H locs ls hW hS hl)
theorem jj_ishr (F : jj_F X own cc rm) {x y : Int32} (d : jj_D cc pc (.ishr) 1 nx) (kk : jj_J X G kc kn nx lv (.int (x >>> (y &&& 31)) :: st)) : jj_J X G kc kn pc lv (.int y :: .int x :: st) := by
  obtain ⟨p, l, e, R, s, m, args, below, meth, c, nL, A, D, ac, Q⟩ := X
  obtain ⟨hx, hb, hml, hown, hR, hA, hE, hs, hk, hts, -⟩ := F
  obtain ⟨rfl, hd⟩ := d
  intro H locs ls hW hS hl
  exact lv_ishr hx hb hd (kk H locs ls hW hS hl)
theorem jj_i2l (F : jj_F X own cc rm) {a : Int} (h : -2147483648 ≤ a ∧ a ≤ 2147483647) (d : jj_D cc pc (.i2l) 1 nx) (kk : jj_J X G kc kn nx lv (.long (jL a) :: st)) : jj_J X G kc kn pc lv (.int (jI a) :: st) := by
  obtain ⟨p, l, e, R, s, m, args, below, meth, c, nL, A, D, ac, Q⟩ := X
  obtain ⟨hx, hb, hml, hown, hR, hA, hE, hs, hk, hts, -⟩ := F
  obtain ⟨rfl, hd⟩ := d
  intro H locs ls hW hS hl
  exact lv_i2l hx hb hd (jL_of_I h.1 h.2) (kk H locs ls hW hS hl)
theorem jj_i2lx (F : jj_F X own cc rm) {x : Int32} (d : jj_D cc pc (.i2l) 1 nx) (kk : jj_J X G kc kn nx lv (.long x.toInt64 :: st)) : jj_J X G kc kn pc lv (.int x :: st) := by
  obtain ⟨p, l, e, R, s, m, args, below, meth, c, nL, A, D, ac, Q⟩ := X
  obtain ⟨hx, hb, hml, hown, hR, hA, hE, hs, hk, hts, -⟩ := F
  obtain ⟨rfl, hd⟩ := d
  intro H locs ls hW hS hl
  exact lv_i2l hx hb hd rfl (kk H locs ls hW hS hl)
theorem jj_l2i (F : jj_F X own cc rm) {a : Int} (d : jj_D cc pc (.l2i) 1 nx) (kk : jj_J X G kc kn nx lv (.int (jI a) :: st)) : jj_J X G kc kn pc lv (.long (jL a) :: st) := by
  obtain ⟨p, l, e, R, s, m, args, below, meth, c, nL, A, D, ac, Q⟩ := X
  obtain ⟨hx, hb, hml, hown, hR, hA, hE, hs, hk, hts, -⟩ := F
  obtain ⟨rfl, hd⟩ := d
  intro H locs ls hW hS hl
  exact lv_l2i hx hb hd (jI_of_L a) (kk H locs ls hW hS hl)
theorem jj_lmul (F : jj_F X own cc rm) {a b : Int} (d : jj_D cc pc (.lmul) 1 nx) (kk : jj_J X G kc kn nx lv (.long (jL (a * b)) :: st)) : jj_J X G kc kn pc lv (.long (jL b) :: .long (jL a) :: st) := by
  obtain ⟨p, l, e, R, s, m, args, below, meth, c, nL, A, D, ac, Q⟩ := X
  obtain ⟨hx, hb, hml, hown, hR, hA, hE, hs, hk, hts, -⟩ := F
  obtain ⟨rfl, hd⟩ := d
  intro H locs ls hW hS hl
  refine lv_lmul hx hb hd ?_
  rw [jL_mul]
  exact kk H locs ls hW hS hl
theorem jj_ldiv (F : jj_F X own cc rm) {a b : Int} (h : 0 ≤ a ∧ a ≤ 9223372036854775807 ∧ 0 < b ∧ b ≤ 9223372036854775807) (d : jj_D cc pc (.ldiv) 1 nx) (kk : jj_J X G kc kn nx lv (.long (jL (a / b)) :: st)) : jj_J X G kc kn pc lv (.long (jL b) :: .long (jL a) :: st) := by
  obtain ⟨p, l, e, R, s, m, args, below, meth, c, nL, A, D, ac, Q⟩ := X
  obtain ⟨hx, hb, hml, hown, hR, hA, hE, hs, hk, hts, -⟩ := F
  obtain ⟨rfl, hd⟩ := d
  intro H locs ls hW hS hl
  refine lv_ldiv hx hb hd (fun q => ?_) ?_
  · rw [show (0 : Int64) = jL 0 by decide, jL_inj (by omega)] at q
    omega
  · rw [jL_div h]
    exact kk H locs ls hW hS hl
theorem jj_lcmp (F : jj_F X own cc rm) {x y : Int64} (d : jj_D cc pc (.lcmp) 1 nx) (kk : jj_J X G kc kn nx lv (.int (lg_cmp x y) :: st)) : jj_J X G kc kn pc lv (.long y :: .long x :: st) := by
  obtain ⟨p, l, e, R, s, m, args, below, meth, c, nL, A, D, ac, Q⟩ := X
  obtain ⟨hx, hb, hml, hown, hR, hA, hE, hs, hk, hts, -⟩ := F
  obtain ⟨rfl, hd⟩ := d
  intro H locs ls hW hS hl
  exact W.lcmp hx hb hd (kk H locs ls hW hS hl)
theorem jj_dup (F : jj_F X own cc rm) {v : Value} (hv : v.category = 1) (d : jj_D cc pc (.dup) 1 nx) (kk : jj_J X G kc kn nx lv (v :: v :: st)) : jj_J X G kc kn pc lv (v :: st) := by
  obtain ⟨p, l, e, R, s, m, args, below, meth, c, nL, A, D, ac, Q⟩ := X
  obtain ⟨hx, hb, hml, hown, hR, hA, hE, hs, hk, hts, -⟩ := F
  obtain ⟨rfl, hd⟩ := d
  intro H locs ls hW hS hl
  exact lv_dup hx hb hd hv (kk H locs ls hW hS hl)
theorem jj_dup2 (F : jj_F X own cc rm) {v w : Value} (hv : v.category = 1) (hw : w.category = 1) (d : jj_D cc pc (.dup2) 1 nx) (kk : jj_J X G kc kn nx lv (v :: w :: v :: w :: st)) : jj_J X G kc kn pc lv (v :: w :: st) := by
  obtain ⟨p, l, e, R, s, m, args, below, meth, c, nL, A, D, ac, Q⟩ := X
  obtain ⟨hx, hb, hml, hown, hR, hA, hE, hs, hk, hts, -⟩ := F
  obtain ⟨rfl, hd⟩ := d
  intro H locs ls hW hS hl
  exact lv_dup2_11 hx hb hd hv hw (kk H locs ls hW hS hl)
theorem jj_goto (F : jj_F X own cc rm) {off : Int} {tgt : Nat} (d : jj_D cc pc (.goto off) 3 nx) (ht : (pc : Int) + off = (tgt : Int)) (kk : jj_J X G kc kn tgt lv st) : jj_J X G kc kn pc lv st := by
  obtain ⟨p, l, e, R, s, m, args, below, meth, c, nL, A, D, ac, Q⟩ := X
  obtain ⟨hx, hb, hml, hown, hR, hA, hE, hs, hk, hts, -⟩ := F
  obtain ⟨rfl, hd⟩ := d
  intro H locs ls hW hS hl
  exact lv_goto hx hb hd ht (kk H locs ls hW hS hl)
theorem jj_icmp_eq (F : jj_F X own cc rm) {off : Int} {tgt : Nat} {a b : Int} (d : jj_D cc pc (.if_icmp .eq off) 3 nx) (ht : (pc : Int) + off = (tgt : Int)) (h : -2147483648 ≤ a ∧ a ≤ 2147483647 ∧ -2147483648 ≤ b ∧ b ≤ 2147483647) (kt : a = b → jj_J X G kc kn tgt lv st) (kf : ¬ a = b → jj_J X G kc kn nx lv st) : jj_J X G kc kn pc lv (.int (jI b) :: .int (jI a) :: st) := by
  obtain ⟨p, l, e, R, s, m, args, below, meth, c, nL, A, D, ac, Q⟩ := X
  obtain ⟨hx, hb, hml, hown, hR, hA, hE, hs, hk, hts, -⟩ := F
  obtain ⟨rfl, hd⟩ := d
  intro H locs ls hW hS hl
  have q1 := jI_inj h
  have q2 := jI_le h
  have q3 := jI_lt h
  have q4 := jI_le (a := b) (b := a) (by omega)
  have q5 := jI_lt (a := b) (b := a) (by omega)
  refine lv_icmp_eq hx hb hd ht (fun z => kt ?_ H locs ls hW hS hl) (fun z => kf ?_ H locs ls hW hS hl) <;> simp only [q1, q2, q3, q4, q5] at z <;> omega
theorem jj_if_eq (F : jj_F X own cc rm) {off : Int} {tgt : Nat} {a : Int} (d : jj_D cc pc (.ifCond .eq off) 3 nx) (ht : (pc : Int) + off = (tgt : Int)) (h : -2147483648 ≤ a ∧ a ≤ 2147483647) (kt : a = 0 → jj_J X G kc kn tgt lv st) (kf : ¬ a = 0 → jj_J X G kc kn nx lv st) : jj_J X G kc kn pc lv (.int (jI a) :: st) := by
  obtain ⟨p, l, e, R, s, m, args, below, meth, c, nL, A, D, ac, Q⟩ := X
  obtain ⟨hx, hb, hml, hown, hR, hA, hE, hs, hk, hts, -⟩ := F
  obtain ⟨rfl, hd⟩ := d
  intro H locs ls hW hS hl
  have q1 := jI_inj (a := a) (b := 0) (by omega)
  have q2 := jI_le (a := a) (b := 0) (by omega)
  have q3 := jI_lt (a := a) (b := 0) (by omega)
  have q4 := jI_le (a := 0) (b := a) (by omega)
  have q5 := jI_lt (a := 0) (b := a) (by omega)
  refine lv_if_eq hx hb hd ht (fun z => kt ?_ H locs ls hW hS hl) (fun z => kf ?_ H locs ls hW hS hl) <;> simp only [jI_0, q1, q2, q3, q4, q5] at z <;> omega
theorem jj_icmp_ne (F : jj_F X own cc rm) {off : Int} {tgt : Nat} {a b : Int} (d : jj_D cc pc (.if_icmp .ne off) 3 nx) (ht : (pc : Int) + off = (tgt : Int)) (h : -2147483648 ≤ a ∧ a ≤ 2147483647 ∧ -2147483648 ≤ b ∧ b ≤ 2147483647) (kt : ¬ a = b → jj_J X G kc kn tgt lv st) (kf : a = b → jj_J X G kc kn nx lv st) : jj_J X G kc kn pc lv (.int (jI b) :: .int (jI a) :: st) := by
  obtain ⟨p, l, e, R, s, m, args, below, meth, c, nL, A, D, ac, Q⟩ := X
  obtain ⟨hx, hb, hml, hown, hR, hA, hE, hs, hk, hts, -⟩ := F
  obtain ⟨rfl, hd⟩ := d
  intro H locs ls hW hS hl
  have q1 := jI_inj h
  have q2 := jI_le h
  have q3 := jI_lt h
  have q4 := jI_le (a := b) (b := a) (by omega)
  have q5 := jI_lt (a := b) (b := a) (by omega)
  refine lv_icmp_ne hx hb hd ht (fun z => kt ?_ H locs ls hW hS hl) (fun z => kf ?_ H locs ls hW hS hl) <;> simp only [q1, q2, q3, q4, q5] at z <;> omega
theorem jj_if_ne (F : jj_F X own cc rm) {off : Int} {tgt : Nat} {a : Int} (d : jj_D cc pc (.ifCond .ne off) 3 nx) (ht : (pc : Int) + off = (tgt : Int)) (h : -2147483648 ≤ a ∧ a ≤ 2147483647) (kt : ¬ a = 0 → jj_J X G kc kn tgt lv st) (kf : a = 0 → jj_J X G kc kn nx lv st) : jj_J X G kc kn pc lv (.int (jI a) :: st) := by
  obtain ⟨p, l, e, R, s, m, args, below, meth, c, nL, A, D, ac, Q⟩ := X
  obtain ⟨hx, hb, hml, hown, hR, hA, hE, hs, hk, hts, -⟩ := F
  obtain ⟨rfl, hd⟩ := d
  intro H locs ls hW hS hl
  have q1 := jI_inj (a := a) (b := 0) (by omega)
  have q2 := jI_le (a := a) (b := 0) (by omega)
  have q3 := jI_lt (a := a) (b := 0) (by omega)
  have q4 := jI_le (a := 0) (b := a) (by omega)
  have q5 := jI_lt (a := 0) (b := a) (by omega)
  refine lv_if_ne hx hb hd ht (fun z => kt ?_ H locs ls hW hS hl) (fun z => kf ?_ H locs ls hW hS hl) <;> simp only [jI_0, q1, q2, q3, q4, q5] at z <;> omega
theorem jj_icmp_lt (F : jj_F X own cc rm) {off : Int} {tgt : Nat} {a b : Int} (d : jj_D cc pc (.if_icmp .lt off) 3 nx) (ht : (pc : Int) + off = (tgt : Int)) (h : -2147483648 ≤ a ∧ a ≤ 2147483647 ∧ -2147483648 ≤ b ∧ b ≤ 2147483647) (kt : a < b → jj_J X G kc kn tgt lv st) (kf : b ≤ a → jj_J X G kc kn nx lv st) : jj_J X G kc kn pc lv (.int (jI b) :: .int (jI a) :: st) := by
  obtain ⟨p, l, e, R, s, m, args, below, meth, c, nL, A, D, ac, Q⟩ := X
  obtain ⟨hx, hb, hml, hown, hR, hA, hE, hs, hk, hts, -⟩ := F
  obtain ⟨rfl, hd⟩ := d
  intro H locs ls hW hS hl
  have q1 := jI_inj h
  have q2 := jI_le h
  have q3 := jI_lt h
  have q4 := jI_le (a := b) (b := a) (by omega)
  have q5 := jI_lt (a := b) (b := a) (by omega)
  refine lv_icmp_lt hx hb hd ht (fun z => kt ?_ H locs ls hW hS hl) (fun z => kf ?_ H locs ls hW hS hl) <;> simp only [q1, q2, q3, q4, q5] at z <;> omega
theorem jj_if_lt (F : jj_F X own cc rm) {off : Int} {tgt : Nat} {a : Int} (d : jj_D cc pc (.ifCond .lt off) 3 nx) (ht : (pc : Int) + off = (tgt : Int)) (h : -2147483648 ≤ a ∧ a ≤ 2147483647) (kt : a < 0 → jj_J X G kc kn tgt lv st) (kf : 0 ≤ a → jj_J X G kc kn nx lv st) : jj_J X G kc kn pc lv (.int (jI a) :: st) := by
  obtain ⟨p, l, e, R, s, m, args, below, meth, c, nL, A, D, ac, Q⟩ := X
  obtain ⟨hx, hb, hml, hown, hR, hA, hE, hs, hk, hts, -⟩ := F
  obtain ⟨rfl, hd⟩ := d
  intro H locs ls hW hS hl
  have q1 := jI_inj (a := a) (b := 0) (by omega)
  have q2 := jI_le (a := a) (b := 0) (by omega)
  have q3 := jI_lt (a := a) (b := 0) (by omega)
  have q4 := jI_le (a := 0) (b := a) (by omega)
  have q5 := jI_lt (a := 0) (b := a) (by omega)
  refine lv_if_lt hx hb hd ht (fun z => kt ?_ H locs ls hW hS hl) (fun z => kf ?_ H locs ls hW hS hl) <;> simp only [jI_0, q1, q2, q3, q4, q5] at z <;> omega
theorem jj_icmp_ge (F : jj_F X own cc rm) {off : Int} {tgt : Nat} {a b : Int} (d : jj_D cc pc (.if_icmp .ge off) 3 nx) (ht : (pc : Int) + off = (tgt : Int)) (h : -2147483648 ≤ a ∧ a ≤ 2147483647 ∧ -2147483648 ≤ b ∧ b ≤ 2147483647) (kt : b ≤ a → jj_J X G kc kn tgt lv st) (kf : a < b → jj_J X G kc kn nx lv st) : jj_J X G kc kn pc lv (.int (jI b) :: .int (jI a) :: st) := by
  obtain ⟨p, l, e, R, s, m, args, below, meth, c, nL, A, D, ac, Q⟩ := X
  obtain ⟨hx, hb, hml, hown, hR, hA, hE, hs, hk, hts, -⟩ := F
  obtain ⟨rfl, hd⟩ := d
  intro H locs ls hW hS hl
  have q1 := jI_inj h
  have q2 := jI_le h
  have q3 := jI_lt h
  have q4 := jI_le (a := b) (b := a) (by omega)
  have q5 := jI_lt (a := b) (b := a) (by omega)
  refine lv_icmp_ge hx hb hd ht (fun z => kt ?_ H locs ls hW hS hl) (fun z => kf ?_ H locs ls hW hS hl) <;> simp only [q1, q2, q3, q4, q5] at z <;> omega
theorem jj_if_ge (F : jj_F X own cc rm) {off : Int} {tgt : Nat} {a : Int} (d : jj_D cc pc (.ifCond .ge off) 3 nx) (ht : (pc : Int) + off = (tgt : Int)) (h : -2147483648 ≤ a ∧ a ≤ 2147483647) (kt : 0 ≤ a → jj_J X G kc kn tgt lv st) (kf : a < 0 → jj_J X G kc kn nx lv st) : jj_J X G kc kn pc lv (.int (jI a) :: st) := by
  obtain ⟨p, l, e, R, s, m, args, below, meth, c, nL, A, D, ac, Q⟩ := X
  obtain ⟨hx, hb, hml, hown, hR, hA, hE, hs, hk, hts, -⟩ := F
  obtain ⟨rfl, hd⟩ := d
  intro H locs ls hW hS hl
  have q1 := jI_inj (a := a) (b := 0) (by omega)
  have q2 := jI_le (a := a) (b := 0) (by omega)
  have q3 := jI_lt (a := a) (b := 0) (by omega)
  have q4 := jI_le (a := 0) (b := a) (by omega)
  have q5 := jI_lt (a := 0) (b := a) (by omega)
  refine lv_if_ge hx hb hd ht (fun z => kt ?_ H locs ls hW hS hl) (fun z => kf ?_ H locs ls hW hS hl) <;> simp only [jI_0, q1, q2, q3, q4, q5] at z <;> omega
theorem jj_icmp_gt (F : jj_F X own cc rm) {off : Int} {tgt : Nat} {a b : Int} (d : jj_D cc pc (.if_icmp .gt off) 3 nx) (ht : (pc : Int) + off = (tgt : Int)) (h : -2147483648 ≤ a ∧ a ≤ 2147483647 ∧ -2147483648 ≤ b ∧ b ≤ 2147483647) (kt : b < a → jj_J X G kc kn tgt lv st) (kf : a ≤ b → jj_J X G kc kn nx lv st) : jj_J X G kc kn pc lv (.int (jI b) :: .int (jI a) :: st) := by
  obtain ⟨p, l, e, R, s, m, args, below, meth, c, nL, A, D, ac, Q⟩ := X
  obtain ⟨hx, hb, hml, hown, hR, hA, hE, hs, hk, hts, -⟩ := F
  obtain ⟨rfl, hd⟩ := d
  intro H locs ls hW hS hl
  have q1 := jI_inj h
  have q2 := jI_le h
  have q3 := jI_lt h
  have q4 := jI_le (a := b) (b := a) (by omega)
  have q5 := jI_lt (a := b) (b := a) (by omega)
  refine lv_icmp_gt hx hb hd ht (fun z => kt ?_ H locs ls hW hS hl) (fun z => kf ?_ H locs ls hW hS hl) <;> simp only [q1, q2, q3, q4, q5] at z <;> omega
theorem jj_if_gt (F : jj_F X own cc rm) {off : Int} {tgt : Nat} {a : Int} (d : jj_D cc pc (.ifCond .gt off) 3 nx) (ht : (pc : Int) + off = (tgt : Int)) (h : -2147483648 ≤ a ∧ a ≤ 2147483647) (kt : 0 < a → jj_J X G kc kn tgt lv st) (kf : a ≤ 0 → jj_J X G kc kn nx lv st) : jj_J X G kc kn pc lv (.int (jI a) :: st) := by
  obtain ⟨p, l, e, R, s, m, args, below, meth, c, nL, A, D, ac, Q⟩ := X
  obtain ⟨hx, hb, hml, hown, hR, hA, hE, hs, hk, hts, -⟩ := F
  obtain ⟨rfl, hd⟩ := d
  intro H locs ls hW hS hl
  have q1 := jI_inj (a := a) (b := 0) (by omega)
  have q2 := jI_le (a := a) (b := 0) (by omega)
  have q3 := jI_lt (a := a) (b := 0) (by omega)
  have q4 := jI_le (a := 0) (b := a) (by omega)
  have q5 := jI_lt (a := 0) (b := a) (by omega)
  refine lv_if_gt hx hb hd ht (fun z => kt ?_ H locs ls hW hS hl) (fun z => kf ?_ H locs ls hW hS hl) <;> simp only [jI_0, q1, q2, q3, q4, q5] at z <;> omega
theorem jj_icmp_le (F : jj_F X own cc rm) {off : Int} {tgt : Nat} {a b : Int} (d : jj_D cc pc (.if_icmp .le off) 3 nx) (ht : (pc : Int) + off = (tgt : Int)) (h : -2147483648 ≤ a ∧ a ≤ 2147483647 ∧ -2147483648 ≤ b ∧ b ≤ 2147483647) (kt : a ≤ b → jj_J X G kc kn tgt lv st) (kf : b < a → jj_J X G kc kn nx lv st) : jj_J X G kc kn pc lv (.int (jI b) :: .int (jI a) :: st) := by
  obtain ⟨p, l, e, R, s, m, args, below, meth, c, nL, A, D, ac, Q⟩ := X
  obtain ⟨hx, hb, hml, hown, hR, hA, hE, hs, hk, hts, -⟩ := F
  obtain ⟨rfl, hd⟩ := d
  intro H locs ls hW hS hl
  have q1 := jI_inj h
  have q2 := jI_le h
  have q3 := jI_lt h
  have q4 := jI_le (a := b) (b := a) (by omega)
  have q5 := jI_lt (a := b) (b := a) (by omega)
  refine lv_icmp_le hx hb hd ht (fun z => kt ?_ H locs ls hW hS hl) (fun z => kf ?_ H locs ls hW hS hl) <;> simp only [q1, q2, q3, q4, q5] at z <;> omega
theorem jj_if_le (F : jj_F X own cc rm) {off : Int} {tgt : Nat} {a : Int} (d : jj_D cc pc (.ifCond .le off) 3 nx) (ht : (pc : Int) + off = (tgt : Int)) (h : -2147483648 ≤ a ∧ a ≤ 2147483647) (kt : a ≤ 0 → jj_J X G kc kn tgt lv st) (kf : 0 < a → jj_J X G kc kn nx lv st) : jj_J X G kc kn pc lv (.int (jI a) :: st) := by
  obtain ⟨p, l, e, R, s, m, args, below, meth, c, nL, A, D, ac, Q⟩ := X
  obtain ⟨hx, hb, hml, hown, hR, hA, hE, hs, hk, hts, -⟩ := F
  obtain ⟨rfl, hd⟩ := d
  intro H locs ls hW hS hl
  have q1 := jI_inj (a := a) (b := 0) (by omega)
  have q2 := jI_le (a := a) (b := 0) (by omega)
  have q3 := jI_lt (a := a) (b := 0) (by omega)
  have q4 := jI_le (a := 0) (b := a) (by omega)
  have q5 := jI_lt (a := 0) (b := a) (by omega)
  refine lv_if_le hx hb hd ht (fun z => kt ?_ H locs ls hW hS hl) (fun z => kf ?_ H locs ls hW hS hl) <;> simp only [jI_0, q1, q2, q3, q4, q5] at z <;> omega
theorem jj_icmpx_eq (F : jj_F X own cc rm) {off : Int} {tgt : Nat} {x y : Int32} (d : jj_D cc pc (.if_icmp .eq off) 3 nx) (ht : (pc : Int) + off = (tgt : Int)) (kt : x = y → jj_J X G kc kn tgt lv st) (kf : ¬ x = y → jj_J X G kc kn nx lv st) : jj_J X G kc kn pc lv (.int y :: .int x :: st) := by
  obtain ⟨p, l, e, R, s, m, args, below, meth, c, nL, A, D, ac, Q⟩ := X
  obtain ⟨hx, hb, hml, hown, hR, hA, hE, hs, hk, hts, -⟩ := F
  obtain ⟨rfl, hd⟩ := d
  intro H locs ls hW hS hl
  refine lv_icmp_eq hx hb hd ht (fun z => kt ?_ H locs ls hW hS hl) (fun z => kf ?_ H locs ls hW hS hl) <;> first | exact z | exact Decidable.not_not.mp z
theorem jj_ifx_eq (F : jj_F X own cc rm) {off : Int} {tgt : Nat} {x : Int32} (d : jj_D cc pc (.ifCond .eq off) 3 nx) (ht : (pc : Int) + off = (tgt : Int)) (kt : x = 0 → jj_J X G kc kn tgt lv st) (kf : ¬ x = 0 → jj_J X G kc kn nx lv st) : jj_J X G kc kn pc lv (.int x :: st) := by
  obtain ⟨p, l, e, R, s, m, args, below, meth, c, nL, A, D, ac, Q⟩ := X
  obtain ⟨hx, hb, hml, hown, hR, hA, hE, hs, hk, hts, -⟩ := F
  obtain ⟨rfl, hd⟩ := d
  intro H locs ls hW hS hl
  refine lv_if_eq hx hb hd ht (fun z => kt ?_ H locs ls hW hS hl) (fun z => kf ?_ H locs ls hW hS hl) <;> first | exact z | exact Decidable.not_not.mp z
theorem jj_icmpx_ne (F : jj_F X own cc rm) {off : Int} {tgt : Nat} {x y : Int32} (d : jj_D cc pc (.if_icmp .ne off) 3 nx) (ht : (pc : Int) + off = (tgt : Int)) (kt : ¬ x = y → jj_J X G kc kn tgt lv st) (kf : x = y → jj_J X G kc kn nx lv st) : jj_J X G kc kn pc lv (.int y :: .int x :: st) := by
  obtain ⟨p, l, e, R, s, m, args, below, meth, c, nL, A, D, ac, Q⟩ := X
  obtain ⟨hx, hb, hml, hown, hR, hA, hE, hs, hk, hts, -⟩ := F
  obtain ⟨rfl, hd⟩ := d
  intro H locs ls hW hS hl
  refine lv_icmp_ne hx hb hd ht (fun z => kt ?_ H locs ls hW hS hl) (fun z => kf ?_ H locs ls hW hS hl) <;> first | exact z | exact Decidable.not_not.mp z
theorem jj_ifx_ne (F : jj_F X own cc rm) {off : Int} {tgt : Nat} {x : Int32} (d : jj_D cc pc (.ifCond .ne off) 3 nx) (ht : (pc : Int) + off = (tgt : Int)) (kt : ¬ x = 0 → jj_J X G kc kn tgt lv st) (kf : x = 0 → jj_J X G kc kn nx lv st) : jj_J X G kc kn pc lv (.int x :: st) := by
  obtain ⟨p, l, e, R, s, m, args, below, meth, c, nL, A, D, ac, Q⟩ := X
  obtain ⟨hx, hb, hml, hown, hR, hA, hE, hs, hk, hts, -⟩ := F
  obtain ⟨rfl, hd⟩ := d
  intro H locs ls hW hS hl
  refine lv_if_ne hx hb hd ht (fun z => kt ?_ H locs ls hW hS hl) (fun z => kf ?_ H locs ls hW hS hl) <;> first | exact z | exact Decidable.not_not.mp z
theorem jj_ifx_gt (F : jj_F X own cc rm) {off : Int} {tgt : Nat} {x : Int32} (d : jj_D cc pc (.ifCond .gt off) 3 nx) (ht : (pc : Int) + off = (tgt : Int)) (kt : 0 < x → jj_J X G kc kn tgt lv st) (kf : ¬ 0 < x → jj_J X G kc kn nx lv st) : jj_J X G kc kn pc lv (.int x :: st) := by
  obtain ⟨p, l, e, R, s, m, args, below, meth, c, nL, A, D, ac, Q⟩ := X
  obtain ⟨hx, hb, hml, hown, hR, hA, hE, hs, hk, hts, -⟩ := F
  obtain ⟨rfl, hd⟩ := d
  intro H locs ls hW hS hl
  exact lv_if_gt hx hb hd ht (fun z => kt z H locs ls hW hS hl) (fun z => kf z H locs ls hW hS hl)
theorem jj_ifx_le (F : jj_F X own cc rm) {off : Int} {tgt : Nat} {x : Int32} (d : jj_D cc pc (.ifCond .le off) 3 nx) (ht : (pc : Int) + off = (tgt : Int)) (kt : x ≤ 0 → jj_J X G kc kn tgt lv st) (kf : ¬ x ≤ 0 → jj_J X G kc kn nx lv st) : jj_J X G kc kn pc lv (.int x :: st) := by
  obtain ⟨p, l, e, R, s, m, args, below, meth, c, nL, A, D, ac, Q⟩ := X
  obtain ⟨hx, hb, hml, hown, hR, hA, hE, hs, hk, hts, -⟩ := F
  obtain ⟨rfl, hd⟩ := d
  intro H locs ls hW hS hl
  exact lv_if_le hx hb hd ht (fun z => kt z H locs ls hW hS hl) (fun z => kf z H locs ls hW hS hl)
theorem jj_ifnull (F : jj_F X own cc rm) {off : Int} {tgt : Nat} {r : Option Nat} (d : jj_D cc pc (.ifnull off) 3 nx) (ht : (pc : Int) + off = (tgt : Int)) (kt : r = none → jj_J X G kc kn tgt lv st) (kf : ∀ a : Nat, r = some a → jj_J X G kc kn nx lv st) : jj_J X G kc kn pc lv (va_rf r :: st) := by
  obtain ⟨p, l, e, R, s, m, args, below, meth, c, nL, A, D, ac, Q⟩ := X
  obtain ⟨hx, hb, hml, hown, hR, hA, hE, hs, hk, hts, -⟩ := F
  obtain ⟨rfl, hd⟩ := d
  intro H locs ls hW hS hl
  cases r with
  | none => exact lv_ifnullN hx hb hd ht (kt rfl H locs ls hW hS hl)
  | some a => exact lv_ifnull hx hb hd (kf a rfl H locs ls hW hS hl)
theorem jj_ifnonnull (F : jj_F X own cc rm) {off : Int} {tgt : Nat} {r : Option Nat} (d : jj_D cc pc (.ifnonnull off) 3 nx) (ht : (pc : Int) + off = (tgt : Int)) (kt : ∀ a : Nat, r = some a → jj_J X G kc kn tgt lv st) (kf : r = none → jj_J X G kc kn nx lv st) : jj_J X G kc kn pc lv (va_rf r :: st) := by
  obtain ⟨p, l, e, R, s, m, args, below, meth, c, nL, A, D, ac, Q⟩ := X
  obtain ⟨hx, hb, hml, hown, hR, hA, hE, hs, hk, hts, -⟩ := F
  obtain ⟨rfl, hd⟩ := d
  intro H locs ls hW hS hl
  cases r with
  | none => exact lv_ifnonnullN hx hb hd (kf rfl H locs ls hW hS hl)
  | some a => exact lv_ifnonnull hx hb hd ht (kt a rfl H locs ls hW hS hl)
theorem jj_acmp_ne (F : jj_F X own cc rm) {off : Int} {tgt : Nat} {r1 r2 : Option Nat} (d : jj_D cc pc (.if_acmp .ne off) 3 nx) (ht : (pc : Int) + off = (tgt : Int)) (kt : ¬ r1 = r2 → jj_J X G kc kn tgt lv st) (kf : r1 = r2 → jj_J X G kc kn nx lv st) : jj_J X G kc kn pc lv (va_rf r2 :: va_rf r1 :: st) := by
  obtain ⟨p, l, e, R, s, m, args, below, meth, c, nL, A, D, ac, Q⟩ := X
  obtain ⟨hx, hb, hml, hown, hR, hA, hE, hs, hk, hts, -⟩ := F
  obtain ⟨rfl, hd⟩ := d
  intro H locs ls hW hS hl
  exact lv_acmp_ne hx hb hd ht (fun z => kt z H locs ls hW hS hl) (fun z => kf z H locs ls hW hS hl)
theorem jj_acmp_eq (F : jj_F X own cc rm) {off : Int} {tgt : Nat} {r1 r2 : Option Nat} (d : jj_D cc pc (.if_acmp .eq off) 3 nx) (ht : (pc : Int) + off = (tgt : Int)) (kt : r1 = r2 → jj_J X G kc kn tgt lv st) (kf : ¬ r1 = r2 → jj_J X G kc kn nx lv st) : jj_J X G kc kn pc lv (va_rf r2 :: va_rf r1 :: st) := by
  obtain ⟨p, l, e, R, s, m, args, below, meth, c, nL, A, D, ac, Q⟩ := X
  obtain ⟨hx, hb, hml, hown, hR, hA, hE, hs, hk, hts, -⟩ := F
  obtain ⟨rfl, hd⟩ := d
  intro H locs ls hW hS hl
  exact lv_acmp_eq hx hb hd ht (fun z => kt z H locs ls hW hS hl) (fun z => kf z H locs ls hW hS hl)
theorem jj_tableOut (F : jj_F X own cc rm) {dflt lo hi : Int} {offs : Array Int} {len tgt : Nat} {a : Int} (d : jj_D cc pc (.tableswitch dflt lo hi offs) len nx) (ht : (pc : Int) + dflt = (tgt : Int)) (h : -2147483648 ≤ a ∧ a ≤ 2147483647) (ho : a < lo ∨ hi < a) (kk : jj_J X G kc kn tgt lv st) : jj_J X G kc kn pc lv (.int (jI a) :: st) := by
  obtain ⟨p, l, e, R, s, m, args, below, meth, c, nL, A, D, ac, Q⟩ := X
  obtain ⟨hx, hb, hml, hown, hR, hA, hE, hs, hk, hts, -⟩ := F
  obtain ⟨rfl, hd⟩ := d
  intro H locs ls hW hS hl
  exact lv_tableOut hx hb hd (by rw [jI_toInt h.1 h.2]; exact ho) ht (kk H locs ls hW hS hl)
theorem jj_tableIn (F : jj_F X own cc rm) {dflt lo hi : Int} {offs : Array Int} {len tgt : Nat} {a off : Int} (d : jj_D cc pc (.tableswitch dflt lo hi offs) len nx) (h : -2147483648 ≤ a ∧ a ≤ 2147483647) (h1 : lo ≤ a ∧ a ≤ hi) (ho : offs[(a - lo).toNat]? = some off) (ht : (pc : Int) + off = (tgt : Int)) (kk : jj_J X G kc kn tgt lv st) : jj_J X G kc kn pc lv (.int (jI a) :: st) := by
  obtain ⟨p, l, e, R, s, m, args, below, meth, c, nL, A, D, ac, Q⟩ := X
  obtain ⟨hx, hb, hml, hown, hR, hA, hE, hs, hk, hts, -⟩ := F
  obtain ⟨rfl, hd⟩ := d
  intro H locs ls hW hS hl
  exact lv_tableIn hx hb hd (by rw [jI_toInt h.1 h.2]; omega) (by rw [jI_toInt h.1 h.2]; omega) (by rw [jI_toInt h.1 h.2]; exact ho) ht (kk H locs ls hW hS hl)
/-- the value on top, said otherwise -/
theorem jj_top {v w : Value} (h : v = w) (kk : jj_J X G kc kn pc lv (w :: st)) : jj_J X G kc kn pc lv (v :: st) := by rw [h]; exact kk
theorem jj_topi {x : Int32} {a : Int} (h : x = jI a) (kk : jj_J X G kc kn pc lv (.int (jI a) :: st)) : jj_J X G kc kn pc lv (.int x :: st) := by rw [h]; exact kk
theorem jj_eqi {a b : Int} (h : a = b) (kk : jj_J X G kc kn pc lv (.int (jI b) :: st)) : jj_J X G kc kn pc lv (.int (jI a) :: st) := by rw [h]; exact kk
theorem jj_namei {a : Int} (kk : ∀ b : Int, b = a → jj_J X G kc kn pc lv (.int (jI b) :: st)) : jj_J X G kc kn pc lv (.int (jI a) :: st) := kk a rfl
theorem jj_wide {k n : Nat} (h : kc ≤ k ∧ kn ≤ n) (kk : jj_J X G k n pc lv st) : jj_J X G kc kn pc lv st := by
  obtain ⟨p, l, e, R, s, m, args, below, meth, c, nL, A, D, ac, Q⟩ := X
  intro H locs ls hW hS hl
  exact W.widen h.1 h.2 (kk H locs ls hW hS hl)
/-- fewer locals known -/
theorem jj_less {lv' : List (Option Value)} (h : ∀ (i : Nat) (v : Value), lv'[i]? = some (some v) → lv[i]? = some (some v)) (kk : jj_J X G kc kn pc lv' st) : jj_J X G kc kn pc lv st := by
  obtain ⟨p, l, e, R, s, m, args, below, meth, c, nL, A, D, ac, Q⟩ := X
  intro H locs ls hW hS hl
  exact kk H locs ls hW hS ⟨hl.1, hl.2.1, fun i v hv => hl.2.2 i v (h i v hv)⟩

theorem jj_iloadA (F : jj_F X own cc rm) {k : Fin 4} {x : Int32} (d : jj_D cc pc (.iload_n k) 1 nx) (hv : lv[((k : Fin 4) : Nat)]? = some (some (.int x))) (kk : jj_J X G kc kn nx lv (.int x :: st)) : jj_J X G kc kn pc lv st := by
  obtain ⟨p, l, e, R, s, m, args, below, meth, c, nL, A, D, ac, Q⟩ := X
  obtain ⟨hx, hb, hml, hown, hR, hA, hE, hs, hk, hts, -⟩ := F
  obtain ⟨rfl, hd⟩ := d
  intro H locs ls hW hS hl
  exact lv_iload_n hx hb hd rfl (hl.2.2 _ _ hv) (kk H locs ls hW hS hl)
theorem jj_iloadB (F : jj_F X own cc rm) {i : Nat} {x : Int32} (d : jj_D cc pc (.iload i) 2 nx) (hv : lv[i]? = some (some (.int x))) (kk : jj_J X G kc kn nx lv (.int x :: st)) : jj_J X G kc kn pc lv st := by
  obtain ⟨p, l, e, R, s, m, args, below, meth, c, nL, A, D, ac, Q⟩ := X
  obtain ⟨hx, hb, hml, hown, hR, hA, hE, hs, hk, hts, -⟩ := F
  obtain ⟨rfl, hd⟩ := d
  intro H locs ls hW hS hl
  exact lv_iload hx hb hd (hl.2.2 _ _ hv) (kk H locs ls hW hS hl)
theorem jj_lloadA (F : jj_F X own cc rm) {k : Fin 4} {x : Int64} (d : jj_D cc pc (.lload_n k) 1 nx) (hv : lv[((k : Fin 4) : Nat)]? = some (some (.long x))) (kk : jj_J X G kc kn nx lv (.long x :: st)) : jj_J X G kc kn pc lv st := by
  obtain ⟨p, l, e, R, s, m, args, below, meth, c, nL, A, D, ac, Q⟩ := X
  obtain ⟨hx, hb, hml, hown, hR, hA, hE, hs, hk, hts, -⟩ := F
  obtain ⟨rfl, hd⟩ := d
  intro H locs ls hW hS hl
  exact lv_lload_n hx hb hd rfl (hl.2.2 _ _ hv) (kk H locs ls hW hS hl)
theorem jj_lloadB (F : jj_F X own cc rm) {i : Nat} {x : Int64} (d : jj_D cc pc (.lload i) 2 nx) (hv : lv[i]? = some (some (.long x))) (kk : jj_J X G kc kn nx lv (.long x :: st)) : jj_J X G kc kn pc lv st := by
  obtain ⟨p, l, e, R, s, m, args, below, meth, c, nL, A, D, ac, Q⟩ := X
  obtain ⟨hx, hb, hml, hown, hR, hA, hE, hs, hk, hts, -⟩ := F
  obtain ⟨rfl, hd⟩ := d
  intro H locs ls hW hS hl
  exact lv_lload hx hb hd (hl.2.2 _ _ hv) (kk H locs ls hW hS hl)
theorem jj_aloadA (F : jj_F X own cc rm) {k : Fin 4} {x : Nat} (d : jj_D cc pc (.aload_n k) 1 nx) (hv : lv[((k : Fin 4) : Nat)]? = some (some (.ref x))) (kk : jj_J X G kc kn nx lv (.ref x :: st)) : jj_J X G kc kn pc lv st := by
  obtain ⟨p, l, e, R, s, m, args, below, meth, c, nL, A, D, ac, Q⟩ := X
  obtain ⟨hx, hb, hml, hown, hR, hA, hE, hs, hk, hts, -⟩ := F
  obtain ⟨rfl, hd⟩ := d
  intro H locs ls hW hS hl
  exact lv_aload_n hx hb hd rfl (hl.2.2 _ _ hv) (kk H locs ls hW hS hl)
theorem jj_aloadB (F : jj_F X own cc rm) {i : Nat} {x : Nat} (d : jj_D cc pc (.aload i) 2 nx) (hv : lv[i]? = some (some (.ref x))) (kk : jj_J X G kc kn nx lv (.ref x :: st)) : jj_J X G kc kn pc lv st := by
  obtain ⟨p, l, e, R, s, m, args, below, meth, c, nL, A, D, ac, Q⟩ := X
  obtain ⟨hx, hb, hml, hown, hR, hA, hE, hs, hk, hts, -⟩ := F
  obtain ⟨rfl, hd⟩ := d
  intro H locs ls hW hS hl
  exact lv_aload hx hb hd (hl.2.2 _ _ hv) (kk H locs ls hW hS hl)
theorem jj_nloadA (F : jj_F X own cc rm) {k : Fin 4}  (d : jj_D cc pc (.aload_n k) 1 nx) (hv : lv[((k : Fin 4) : Nat)]? = some (some (.null))) (kk : jj_J X G kc kn nx lv (.null :: st)) : jj_J X G kc kn pc lv st := by
  obtain ⟨p, l, e, R, s, m, args, below, meth, c, nL, A, D, ac, Q⟩ := X
  obtain ⟨hx, hb, hml, hown, hR, hA, hE, hs, hk, hts, -⟩ := F
  obtain ⟨rfl, hd⟩ := d
  intro H locs ls hW hS hl
  exact lv_aload_nN hx hb hd rfl (hl.2.2 _ _ hv) (kk H locs ls hW hS hl)
theorem jj_nloadB (F : jj_F X own cc rm) {i : Nat}  (d : jj_D cc pc (.aload i) 2 nx) (hv : lv[i]? = some (some (.null))) (kk : jj_J X G kc kn nx lv (.null :: st)) : jj_J X G kc kn pc lv st := by
  obtain ⟨p, l, e, R, s, m, args, below, meth, c, nL, A, D, ac, Q⟩ := X
  obtain ⟨hx, hb, hml, hown, hR, hA, hE, hs, hk, hts, -⟩ := F
  obtain ⟨rfl, hd⟩ := d
  intro H locs ls hW hS hl
  exact lv_aloadN hx hb hd (hl.2.2 _ _ hv) (kk H locs ls hW hS hl)
theorem jj_qloadA (F : jj_F X own cc rm) {k : Fin 4} {r : Option Nat} (d : jj_D cc pc (.aload_n k) 1 nx) (hv : lv[((k : Fin 4) : Nat)]? = some (some (va_rf r))) (kk : jj_J X G kc kn nx lv (va_rf r :: st)) : jj_J X G kc kn pc lv st := by
  cases r with
  | none => exact jj_nloadA F d hv kk
  | some a => exact jj_aloadA F d hv kk
theorem jj_qloadB (F : jj_F X own cc rm) {i : Nat} {r : Option Nat} (d : jj_D cc pc (.aload i) 2 nx) (hv : lv[i]? = some (some (va_rf r))) (kk : jj_J X G kc kn nx lv (va_rf r :: st)) : jj_J X G kc kn pc lv st := by
  cases r with
  | none => exact jj_nloadB F d hv kk
  | some a => exact jj_aloadB F d hv kk
theorem jj_istoreA (F : jj_F X own cc rm) {k : Fin 4} {x : Int32} (d : jj_D cc pc (.istore_n k) 1 nx) (hn : ((k : Fin 4) : Nat) < jj_nL X) (hc : jj_nc lv ((k : Fin 4) : Nat) = true) (kk : jj_J X G kc kn nx (lv.set ((k : Fin 4) : Nat) (some (.int x))) st) : jj_J X G kc kn pc lv (.int x :: st) := by
  obtain ⟨p, l, e, R, s, m, args, below, meth, c, nL, A, D, ac, Q⟩ := X
  obtain ⟨hx, hb, hml, hown, hR, hA, hE, hs, hk, hts, -⟩ := F
  obtain ⟨rfl, hd⟩ := d
  intro H locs ls hW hS hl
  exact lv_istore_n hx hb hd rfl hl.has hn rfl (fun ls' hl' => kk H locs ls' hW hS (jj_l.set1 hl' hc))
theorem jj_istoreB (F : jj_F X own cc rm) {i : Nat} {x : Int32} (d : jj_D cc pc (.istore i) 2 nx) (hn : i < jj_nL X) (hc : jj_nc lv i = true) (kk : jj_J X G kc kn nx (lv.set i (some (.int x))) st) : jj_J X G kc kn pc lv (.int x :: st) := by
  obtain ⟨p, l, e, R, s, m, args, below, meth, c, nL, A, D, ac, Q⟩ := X
  obtain ⟨hx, hb, hml, hown, hR, hA, hE, hs, hk, hts, -⟩ := F
  obtain ⟨rfl, hd⟩ := d
  intro H locs ls hW hS hl
  exact lv_istore hx hb hd hl.has hn rfl (fun ls' hl' => kk H locs ls' hW hS (jj_l.set1 hl' hc))
theorem jj_astoreA (F : jj_F X own cc rm) {k : Fin 4} {x : Nat} (d : jj_D cc pc (.astore_n k) 1 nx) (hn : ((k : Fin 4) : Nat) < jj_nL X) (hc : jj_nc lv ((k : Fin 4) : Nat) = true) (kk : jj_J X G kc kn nx (lv.set ((k : Fin 4) : Nat) (some (.ref x))) st) : jj_J X G kc kn pc lv (.ref x :: st) := by
  obtain ⟨p, l, e, R, s, m, args, below, meth, c, nL, A, D, ac, Q⟩ := X
  obtain ⟨hx, hb, hml, hown, hR, hA, hE, hs, hk, hts, -⟩ := F
  obtain ⟨rfl, hd⟩ := d
  intro H locs ls hW hS hl
  exact lv_astore_n hx hb hd rfl hl.has hn rfl (fun ls' hl' => kk H locs ls' hW hS (jj_l.set1 hl' hc))
theorem jj_astoreB (F : jj_F X own cc rm) {i : Nat} {x : Nat} (d : jj_D cc pc (.astore i) 2 nx) (hn : i < jj_nL X) (hc : jj_nc lv i = true) (kk : jj_J X G kc kn nx (lv.set i (some (.ref x))) st) : jj_J X G kc kn pc lv (.ref x :: st) := by
  obtain ⟨p, l, e, R, s, m, args, below, meth, c, nL, A, D, ac, Q⟩ := X
  obtain ⟨hx, hb, hml, hown, hR, hA, hE, hs, hk, hts, -⟩ := F
  obtain ⟨rfl, hd⟩ := d
  intro H locs ls hW hS hl
  exact lv_astore hx hb hd hl.has hn rfl (fun ls' hl' => kk H locs ls' hW hS (jj_l.set1 hl' hc))
theorem jj_nstoreA (F : jj_F X own cc rm) {k : Fin 4}  (d : jj_D cc pc (.astore_n k) 1 nx) (hn : ((k : Fin 4) : Nat) < jj_nL X) (hc : jj_nc lv ((k : Fin 4) : Nat) = true) (kk : jj_J X G kc kn nx (lv.set ((k : Fin 4) : Nat) (some (.null))) st) : jj_J X G kc kn pc lv (.null :: st) := by
  obtain ⟨p, l, e, R, s, m, args, below, meth, c, nL, A, D, ac, Q⟩ := X
  obtain ⟨hx, hb, hml, hown, hR, hA, hE, hs, hk, hts, -⟩ := F
  obtain ⟨rfl, hd⟩ := d
  intro H locs ls hW hS hl
  exact lv_astore_nN hx hb hd rfl hl.has hn rfl (fun ls' hl' => kk H locs ls' hW hS (jj_l.set1 hl' hc))
theorem jj_nstoreB (F : jj_F X own cc rm) {i : Nat}  (d : jj_D cc pc (.astore i) 2 nx) (hn : i < jj_nL X) (hc : jj_nc lv i = true) (kk : jj_J X G kc kn nx (lv.set i (some (.null))) st) : jj_J X G kc kn pc lv (.null :: st) := by
  obtain ⟨p, l, e, R, s, m, args, below, meth, c, nL, A, D, ac, Q⟩ := X
  obtain ⟨hx, hb, hml, hown, hR, hA, hE, hs, hk, hts, -⟩ := F
  obtain ⟨rfl, hd⟩ := d
  intro H locs ls hW hS hl
  exact lv_astoreN hx hb hd hl.has hn rfl (fun ls' hl' => kk H locs ls' hW hS (jj_l.set1 hl' hc))
theorem jj_lstoreA (F : jj_F X own cc rm) {k : Fin 4} {x : Int64} (d : jj_D cc pc (.lstore_n k) 1 nx) (hn : ((k : Fin 4) : Nat) + 1 < jj_nL X) (hc : jj_nc lv ((k : Fin 4) : Nat) = true) (kk : jj_J X G kc kn nx ((lv.set ((k : Fin 4) : Nat) (some (.long x))).set (((k : Fin 4) : Nat) + 1) none) st) : jj_J X G kc kn pc lv (.long x :: st) := by
  obtain ⟨p, l, e, R, s, m, args, below, meth, c, nL, A, D, ac, Q⟩ := X
  obtain ⟨hx, hb, hml, hown, hR, hA, hE, hs, hk, hts, -⟩ := F
  obtain ⟨rfl, hd⟩ := d
  intro H locs ls hW hS hl
  exact lv_lstore_n hx hb hd rfl hl.has hn rfl (fun ls' hl' => kk H locs ls' hW hS (jj_l.set2 hl' hc))
theorem jj_lstoreB (F : jj_F X own cc rm) {i : Nat} {x : Int64} (d : jj_D cc pc (.lstore i) 2 nx) (hn : i + 1 < jj_nL X) (hc : jj_nc lv i = true) (kk : jj_J X G kc kn nx ((lv.set i (some (.long x))).set (i + 1) none) st) : jj_J X G kc kn pc lv (.long x :: st) := by
  obtain ⟨p, l, e, R, s, m, args, below, meth, c, nL, A, D, ac, Q⟩ := X
  obtain ⟨hx, hb, hml, hown, hR, hA, hE, hs, hk, hts, -⟩ := F
  obtain ⟨rfl, hd⟩ := d
  intro H locs ls hW hS hl
  exact lv_lstore hx hb hd hl.has hn rfl (fun ls' hl' => kk H locs ls' hW hS (jj_l.set2 hl' hc))
theorem jj_iinc (F : jj_F X own cc rm) {i : Nat} {n a : Int} (d : jj_D cc pc (.iinc i n) 3 nx) (hv : lv[i]? = some (some (.int (jI a)))) (hn : i < jj_nL X) (hc : jj_nc lv i = true) (kk : jj_J X G kc kn nx (lv.set i (some (.int (jI (a + n))))) st) : jj_J X G kc kn pc lv st := by
  obtain ⟨p, l, e, R, s, m, args, below, meth, c, nL, A, D, ac, Q⟩ := X
  obtain ⟨hx, hb, hml, hown, hR, hA, hE, hs, hk, hts, -⟩ := F
  obtain ⟨rfl, hd⟩ := d
  intro H locs ls hW hS hl
  obtain ⟨k, hk⟩ := List.getElem?_of_mem ((jj_p_iff lv 0 i _).mpr ⟨i, by omega, hv⟩)
  exact lv_iinc (v := jI (a + n)) hx hb hd hl.has hk (jI_add a n) hn rfl (fun ls' hl' => kk H locs ls' hW hS (jj_l.set1 hl' hc))
theorem jj_iload0 (F : jj_F X own cc rm) {x : Int32} (d : jj_D cc pc (.iload_n 0) 1 nx) (kk : jj_J X G kc kn nx (some (.int x) :: lr) (.int x :: st)) : jj_J X G kc kn pc (some (.int x) :: lr) st := jj_iloadA F d rfl kk
theorem jj_aload0 (F : jj_F X own cc rm) {x : Nat} (d : jj_D cc pc (.aload_n 0) 1 nx) (kk : jj_J X G kc kn nx (some (.ref x) :: lr) (.ref x :: st)) : jj_J X G kc kn pc (some (.ref x) :: lr) st := jj_aloadA F d rfl kk
theorem jj_nload0 (F : jj_F X own cc rm)  (d : jj_D cc pc (.aload_n 0) 1 nx) (kk : jj_J X G kc kn nx (some (.null) :: lr) (.null :: st)) : jj_J X G kc kn pc (some (.null) :: lr) st := jj_nloadA F d rfl kk
theorem jj_qload0 (F : jj_F X own cc rm) {r : Option Nat} (d : jj_D cc pc (.aload_n 0) 1 nx) (kk : jj_J X G kc kn nx (some (va_rf r) :: lr) (va_rf r :: st)) : jj_J X G kc kn pc (some (va_rf r) :: lr) st := jj_qloadA F d rfl kk
theorem jj_lload0 (F : jj_F X own cc rm) {x : Int64} (d : jj_D cc pc (.lload_n 0) 1 nx) (kk : jj_J X G kc kn nx (some (.long x) :: lr) (.long x :: st)) : jj_J X G kc kn pc (some (.long x) :: lr) st := jj_lloadA F d rfl kk
theorem jj_istore0 (F : jj_F X own cc rm) {x : Int32} {x0 : Option Value} (d : jj_D cc pc (.istore_n 0) 1 nx) (hn : 0 < jj_nL X) (kk : jj_J X G kc kn nx (some (.int x) :: lr) st) : jj_J X G kc kn pc (x0 :: lr) (.int x :: st) := jj_istoreA F d hn rfl kk
theorem jj_astore0 (F : jj_F X own cc rm) {x : Nat} {x0 : Option Value} (d : jj_D cc pc (.astore_n 0) 1 nx) (hn : 0 < jj_nL X) (kk : jj_J X G kc kn nx (some (.ref x) :: lr) st) : jj_J X G kc kn pc (x0 :: lr) (.ref x :: st) := jj_astoreA F d hn rfl kk
theorem jj_nstore0 (F : jj_F X own cc rm)  {x0 : Option Value} (d : jj_D cc pc (.astore_n 0) 1 nx) (hn : 0 < jj_nL X) (kk : jj_J X G kc kn nx (some (.null) :: lr) st) : jj_J X G kc kn pc (x0 :: lr) (.null :: st) := jj_nstoreA F d hn rfl kk
theorem jj_qstore0 (F : jj_F X own cc rm) {r : Option Nat} {x0 : Option Value} (d : jj_D cc pc (.astore_n 0) 1 nx) (hn : 0 < jj_nL X) (kk : jj_J X G kc kn nx (some (va_rf r) :: lr) st) : jj_J X G kc kn pc (x0 :: lr) (va_rf r :: st) := by
  cases r with
  | none => exact jj_nstore0 F d hn  kk
  | some a => exact jj_astore0 F d hn  kk
theorem jj_iinc0 (F : jj_F X own cc rm) {n a : Int} (d : jj_D cc pc (.iinc 0 n) 3 nx) (hn : 0 < jj_nL X) (kk : jj_J X G kc kn nx (some (.int (jI (a + n))) :: lr) st) : jj_J X G kc kn pc (some (.int (jI a)) :: lr) st := jj_iinc F d rfl hn rfl kk
theorem jj_iload1 (F : jj_F X own cc rm) {x : Int32} {x0 : Option Value} (d : jj_D cc pc (.iload_n 1) 1 nx) (kk : jj_J X G kc kn nx (x0 :: some (.int x) :: lr) (.int x :: st)) : jj_J X G kc kn pc (x0 :: some (.int x) :: lr) st := jj_iloadA F d rfl kk
theorem jj_aload1 (F : jj_F X own cc rm) {x : Nat} {x0 : Option Value} (d : jj_D cc pc (.aload_n 1) 1 nx) (kk : jj_J X G kc kn nx (x0 :: some (.ref x) :: lr) (.ref x :: st)) : jj_J X G kc kn pc (x0 :: some (.ref x) :: lr) st := jj_aloadA F d rfl kk
theorem jj_nload1 (F : jj_F X own cc rm)  {x0 : Option Value} (d : jj_D cc pc (.aload_n 1) 1 nx) (kk : jj_J X G kc kn nx (x0 :: some (.null) :: lr) (.null :: st)) : jj_J X G kc kn pc (x0 :: some (.null) :: lr) st := jj_nloadA F d rfl kk
theorem jj_qload1 (F : jj_F X own cc rm) {r : Option Nat} {x0 : Option Value} (d : jj_D cc pc (.aload_n 1) 1 nx) (kk : jj_J X G kc kn nx (x0 :: some (va_rf r) :: lr) (va_rf r :: st)) : jj_J X G kc kn pc (x0 :: some (va_rf r) :: lr) st := jj_qloadA F d rfl kk
theorem jj_lload1 (F : jj_F X own cc rm) {x : Int64} {x0 : Option Value} (d : jj_D cc pc (.lload_n 1) 1 nx) (kk : jj_J X G kc kn nx (x0 :: some (.long x) :: lr) (.long x :: st)) : jj_J X G kc kn pc (x0 :: some (.long x) :: lr) st := jj_lloadA F d rfl kk
theorem jj_istore1 (F : jj_F X own cc rm) {x : Int32} {x0 x1 : Option Value} (d : jj_D cc pc (.istore_n 1) 1 nx) (hn : 1 < jj_nL X) (hc : jj_ncv x0 = true) (kk : jj_J X G kc kn nx (x0 :: some (.int x) :: lr) st) : jj_J X G kc kn pc (x0 :: x1 :: lr) (.int x :: st) := jj_istoreA F d hn (by cases x0 <;> first | rfl | exact hc) kk
theorem jj_astore1 (F : jj_F X own cc rm) {x : Nat} {x0 x1 : Option Value} (d : jj_D cc pc (.astore_n 1) 1 nx) (hn : 1 < jj_nL X) (hc : jj_ncv x0 = true) (kk : jj_J X G kc kn nx (x0 :: some (.ref x) :: lr) st) : jj_J X G kc kn pc (x0 :: x1 :: lr) (.ref x :: st) := jj_astoreA F d hn (by cases x0 <;> first | rfl | exact hc) kk
theorem jj_nstore1 (F : jj_F X own cc rm)  {x0 x1 : Option Value} (d : jj_D cc pc (.astore_n 1) 1 nx) (hn : 1 < jj_nL X) (hc : jj_ncv x0 = true) (kk : jj_J X G kc kn nx (x0 :: some (.null) :: lr) st) : jj_J X G kc kn pc (x0 :: x1 :: lr) (.null :: st) := jj_nstoreA F d hn (by cases x0 <;> first | rfl | exact hc) kk
theorem jj_qstore1 (F : jj_F X own cc rm) {r : Option Nat} {x0 x1 : Option Value} (d : jj_D cc pc (.astore_n 1) 1 nx) (hn : 1 < jj_nL X) (hc : jj_ncv x0 = true) (kk : jj_J X G kc kn nx (x0 :: some (va_rf r) :: lr) st) : jj_J X G kc kn pc (x0 :: x1 :: lr) (va_rf r :: st) := by
  cases r with
  | none => exact jj_nstore1 F d hn hc kk
  | some a => exact jj_astore1 F d hn hc kk
theorem jj_iinc1 (F : jj_F X own cc rm) {n a : Int} {x0 : Option Value} (d : jj_D cc pc (.iinc 1 n) 3 nx) (hn : 1 < jj_nL X) (hc : jj_ncv x0 = true) (kk : jj_J X G kc kn nx (x0 :: some (.int (jI (a + n))) :: lr) st) : jj_J X G kc kn pc (x0 :: some (.int (jI a)) :: lr) st := jj_iinc F d rfl hn (by cases x0 <;> first | rfl | exact hc) kk
theorem jj_iload2 (F : jj_F X own cc rm) {x : Int32} {x0 x1 : Option Value} (d : jj_D cc pc (.iload_n 2) 1 nx) (kk : jj_J X G kc kn nx (x0 :: x1 :: some (.int x) :: lr) (.int x :: st)) : jj_J X G kc kn pc (x0 :: x1 :: some (.int x) :: lr) st := jj_iloadA F d rfl kk
theorem jj_aload2 (F : jj_F X own cc rm) {x : Nat} {x0 x1 : Option Value} (d : jj_D cc pc (.aload_n 2) 1 nx) (kk : jj_J X G kc kn nx (x0 :: x1 :: some (.ref x) :: lr) (.ref x :: st)) : jj_J X G kc kn pc (x0 :: x1 :: some (.ref x) :: lr) st := jj_aloadA F d rfl kk
theorem jj_nload2 (F : jj_F X own cc rm)  {x0 x1 : Option Value} (d : jj_D cc pc (.aload_n 2) 1 nx) (kk : jj_J X G kc kn nx (x0 :: x1 :: some (.null) :: lr) (.null :: st)) : jj_J X G kc kn pc (x0 :: x1 :: some (.null) :: lr) st := jj_nloadA F d rfl kk
theorem jj_qload2 (F : jj_F X own cc rm) {r : Option Nat} {x0 x1 : Option Value} (d : jj_D cc pc (.aload_n 2) 1 nx) (kk : jj_J X G kc kn nx (x0 :: x1 :: some (va_rf r) :: lr) (va_rf r :: st)) : jj_J X G kc kn pc (x0 :: x1 :: some (va_rf r) :: lr) st := jj_qloadA F d rfl kk
theorem jj_lload2 (F : jj_F X own cc rm) {x : Int64} {x0 x1 : Option Value} (d : jj_D cc pc (.lload_n 2) 1 nx) (kk : jj_J X G kc kn nx (x0 :: x1 :: some (.long x) :: lr) (.long x :: st)) : jj_J X G kc kn pc (x0 :: x1 :: some (.long x) :: lr) st := jj_lloadA F d rfl kk
theorem jj_istore2 (F : jj_F X own cc rm) {x : Int32} {x0 x1 x2 : Option Value} (d : jj_D cc pc (.istore_n 2) 1 nx) (hn : 2 < jj_nL X) (hc : jj_ncv x1 = true) (kk : jj_J X G kc kn nx (x0 :: x1 :: some (.int x) :: lr) st) : jj_J X G kc kn pc (x0 :: x1 :: x2 :: lr) (.int x :: st) := jj_istoreA F d hn (by cases x1 <;> first | rfl | exact hc) kk
theorem jj_astore2 (F : jj_F X own cc rm) {x : Nat} {x0 x1 x2 : Option Value} (d : jj_D cc pc (.astore_n 2) 1 nx) (hn : 2 < jj_nL X) (hc : jj_ncv x1 = true) (kk : jj_J X G kc kn nx (x0 :: x1 :: some (.ref x) :: lr) st) : jj_J X G kc kn pc (x0 :: x1 :: x2 :: lr) (.ref x :: st) := jj_astoreA F d hn (by cases x1 <;> first | rfl | exact hc) kk
theorem jj_nstore2 (F : jj_F X own cc rm)  {x0 x1 x2 : Option Value} (d : jj_D cc pc (.astore_n 2) 1 nx) (hn : 2 < jj_nL X) (hc : jj_ncv x1 = true) (kk : jj_J X G kc kn nx (x0 :: x1 :: some (.null) :: lr) st) : jj_J X G kc kn pc (x0 :: x1 :: x2 :: lr) (.null :: st) := jj_nstoreA F d hn (by cases x1 <;> first | rfl | exact hc) kk
theorem jj_qstore2 (F : jj_F X own cc rm) {r : Option Nat} {x0 x1 x2 : Option Value} (d : jj_D cc pc (.astore_n 2) 1 nx) (hn : 2 < jj_nL X) (hc : jj_ncv x1 = true) (kk : jj_J X G kc kn nx (x0 :: x1 :: some (va_rf r) :: lr) st) : jj_J X G kc kn pc (x0 :: x1 :: x2 :: lr) (va_rf r :: st) := by
  cases r with
  | none => exact jj_nstore2 F d hn hc kk
  | some a => exact jj_astore2 F d hn hc kk
theorem jj_iinc2 (F : jj_F X own cc rm) {n a : Int} {x0 x1 : Option Value} (d : jj_D cc pc (.iinc 2 n) 3 nx) (hn : 2 < jj_nL X) (hc : jj_ncv x1 = true) (kk : jj_J X G kc kn nx (x0 :: x1 :: some (.int (jI (a + n))) :: lr) st) : jj_J X G kc kn pc (x0 :: x1 :: some (.int (jI a)) :: lr) st := jj_iinc F d rfl hn (by cases x1 <;> first | rfl | exact hc) kk
theorem jj_iload3 (F : jj_F X own cc rm) {x : Int32} {x0 x1 x2 : Option Value} (d : jj_D cc pc (.iload_n 3) 1 nx) (kk : jj_J X G kc kn nx (x0 :: x1 :: x2 :: some (.int x) :: lr) (.int x :: st)) : jj_J X G kc kn pc (x0 :: x1 :: x2 :: some (.int x) :: lr) st := jj_iloadA F d rfl kk
theorem jj_aload3 (F : jj_F X own cc rm) {x : Nat} {x0 x1 x2 : Option Value} (d : jj_D cc pc (.aload_n 3) 1 nx) (kk : jj_J X G kc kn nx (x0 :: x1 :: x2 :: some (.ref x) :: lr) (.ref x :: st)) : jj_J X G kc kn pc (x0 :: x1 :: x2 :: some (.ref x) :: lr) st := jj_aloadA F d rfl kk
theorem jj_nload3 (F : jj_F X own cc rm)  {x0 x1 x2 : Option Value} (d : jj_D cc pc (.aload_n 3) 1 nx) (kk : jj_J X G kc kn nx (x0 :: x1 :: x2 :: some (.null) :: lr) (.null :: st)) : jj_J X G kc kn pc (x0 :: x1 :: x2 :: some (.null) :: lr) st := jj_nloadA F d rfl kk
theorem jj_qload3 (F : jj_F X own cc rm) {r : Option Nat} {x0 x1 x2 : Option Value} (d : jj_D cc pc (.aload_n 3) 1 nx) (kk : jj_J X G kc kn nx (x0 :: x1 :: x2 :: some (va_rf r) :: lr) (va_rf r :: st)) : jj_J X G kc kn pc (x0 :: x1 :: x2 :: some (va_rf r) :: lr) st := jj_qloadA F d rfl kk
theorem jj_lload3 (F : jj_F X own cc rm) {x : Int64} {x0 x1 x2 : Option Value} (d : jj_D cc pc (.lload_n 3) 1 nx) (kk : jj_J X G kc kn nx (x0 :: x1 :: x2 :: some (.long x) :: lr) (.long x :: st)) : jj_J X G kc kn pc (x0 :: x1 :: x2 :: some (.long x) :: lr) st := jj_lloadA F d rfl kk
theorem jj_istore3 (F : jj_F X own cc rm) {x : Int32} {x0 x1 x2 x3 : Option Value} (d : jj_D cc pc (.istore_n 3) 1 nx) (hn : 3 < jj_nL X) (hc : jj_ncv x2 = true) (kk : jj_J X G kc kn nx (x0 :: x1 :: x2 :: some (.int x) :: lr) st) : jj_J X G kc kn pc (x0 :: x1 :: x2 :: x3 :: lr) (.int x :: st) := jj_istoreA F d hn (by cases x2 <;> first | rfl | exact hc) kk
theorem jj_astore3 (F : jj_F X own cc rm) {x : Nat} {x0 x1 x2 x3 : Option Value} (d : jj_D cc pc (.astore_n 3) 1 nx) (hn : 3 < jj_nL X) (hc : jj_ncv x2 = true) (kk : jj_J X G kc kn nx (x0 :: x1 :: x2 :: some (.ref x) :: lr) st) : jj_J X G kc kn pc (x0 :: x1 :: x2 :: x3 :: lr) (.ref x :: st) := jj_astoreA F d hn (by cases x2 <;> first | rfl | exact hc) kk
theorem jj_nstore3 (F : jj_F X own cc rm)  {x0 x1 x2 x3 : Option Value} (d : jj_D cc pc (.astore_n 3) 1 nx) (hn : 3 < jj_nL X) (hc : jj_ncv x2 = true) (kk : jj_J X G kc kn nx (x0 :: x1 :: x2 :: some (.null) :: lr) st) : jj_J X G kc kn pc (x0 :: x1 :: x2 :: x3 :: lr) (.null :: st) := jj_nstoreA F d hn (by cases x2 <;> first | rfl | exact hc) kk
theorem jj_qstore3 (F : jj_F X own cc rm) {r : Option Nat} {x0 x1 x2 x3 : Option Value} (d : jj_D cc pc (.astore_n 3) 1 nx) (hn : 3 < jj_nL X) (hc : jj_ncv x2 = true) (kk : jj_J X G kc kn nx (x0 :: x1 :: x2 :: some (va_rf r) :: lr) st) : jj_J X G kc kn pc (x0 :: x1 :: x2 :: x3 :: lr) (va_rf r :: st) := by
  cases r with
  | none => exact jj_nstore3 F d hn hc kk
  | some a => exact jj_astore3 F d hn hc kk
theorem jj_iinc3 (F : jj_F X own cc rm) {n a : Int} {x0 x1 x2 : Option Value} (d : jj_D cc pc (.iinc 3 n) 3 nx) (hn : 3 < jj_nL X) (hc : jj_ncv x2 = true) (kk : jj_J X G kc kn nx (x0 :: x1 :: x2 :: some (.int (jI (a + n))) :: lr) st) : jj_J X G kc kn pc (x0 :: x1 :: x2 :: some (.int (jI a)) :: lr) st := jj_iinc F d rfl hn (by cases x2 <;> first | rfl | exact hc) kk
theorem jj_iload4 (F : jj_F X own cc rm) {x : Int32} {x0 x1 x2 x3 : Option Value} (d : jj_D cc pc (.iload 4) 2 nx) (kk : jj_J X G kc kn nx (x0 :: x1 :: x2 :: x3 :: some (.int x) :: lr) (.int x :: st)) : jj_J X G kc kn pc (x0 :: x1 :: x2 :: x3 :: some (.int x) :: lr) st := jj_iloadB F d rfl kk
theorem jj_aload4 (F : jj_F X own cc rm) {x : Nat} {x0 x1 x2 x3 : Option Value} (d : jj_D cc pc (.aload 4) 2 nx) (kk : jj_J X G kc kn nx (x0 :: x1 :: x2 :: x3 :: some (.ref x) :: lr) (.ref x :: st)) : jj_J X G kc kn pc (x0 :: x1 :: x2 :: x3 :: some (.ref x) :: lr) st := jj_aloadB F d rfl kk
theorem jj_nload4 (F : jj_F X own cc rm)  {x0 x1 x2 x3 : Option Value} (d : jj_D cc pc (.aload 4) 2 nx) (kk : jj_J X G kc kn nx (x0 :: x1 :: x2 :: x3 :: some (.null) :: lr) (.null :: st)) : jj_J X G kc kn pc (x0 :: x1 :: x2 :: x3 :: some (.null) :: lr) st := jj_nloadB F d rfl kk
theorem jj_qload4 (F : jj_F X own cc rm) {r : Option Nat} {x0 x1 x2 x3 : Option Value} (d : jj_D cc pc (.aload 4) 2 nx) (kk : jj_J X G kc kn nx (x0 :: x1 :: x2 :: x3 :: some (va_rf r) :: lr) (va_rf r :: st)) : jj_J X G kc kn pc (x0 :: x1 :: x2 :: x3 :: some (va_rf r) :: lr) st := jj_qloadB F d rfl kk
theorem jj_lload4 (F : jj_F X own cc rm) {x : Int64} {x0 x1 x2 x3 : Option Value} (d : jj_D cc pc (.lload 4) 2 nx) (kk : jj_J X G kc kn nx (x0 :: x1 :: x2 :: x3 :: some (.long x) :: lr) (.long x :: st)) : jj_J X G kc kn pc (x0 :: x1 :: x2 :: x3 :: some (.long x) :: lr) st := jj_lloadB F d rfl kk
theorem jj_istore4 (F : jj_F X own cc rm) {x : Int32} {x0 x1 x2 x3 x4 : Option Value} (d : jj_D cc pc (.istore 4) 2 nx) (hn : 4 < jj_nL X) (hc : jj_ncv x3 = true) (kk : jj_J X G kc kn nx (x0 :: x1 :: x2 :: x3 :: some (.int x) :: lr) st) : jj_J X G kc kn pc (x0 :: x1 :: x2 :: x3 :: x4 :: lr) (.int x :: st) := jj_istoreB F d hn (by cases x3 <;> first | rfl | exact hc) kk
theorem jj_astore4 (F : jj_F X own cc rm) {x : Nat} {x0 x1 x2 x3 x4 : Option Value} (d : jj_D cc pc (.astore 4) 2 nx) (hn : 4 < jj_nL X) (hc : jj_ncv x3 = true) (kk : jj_J X G kc kn nx (x0 :: x1 :: x2 :: x3 :: some (.ref x) :: lr) st) : jj_J X G kc kn pc (x0 :: x1 :: x2 :: x3 :: x4 :: lr) (.ref x :: st) := jj_astoreB F d hn (by cases x3 <;> first | rfl | exact hc) kk
theorem jj_nstore4 (F : jj_F X own cc rm)  {x0 x1 x2 x3 x4 : Option Value} (d : jj_D cc pc (.astore 4) 2 nx) (hn : 4 < jj_nL X) (hc : jj_ncv x3 = true) (kk : jj_J X G kc kn nx (x0 :: x1 :: x2 :: x3 :: some (.null) :: lr) st) : jj_J X G kc kn pc (x0 :: x1 :: x2 :: x3 :: x4 :: lr) (.null :: st) := jj_nstoreB F d hn (by cases x3 <;> first | rfl | exact hc) kk
theorem jj_qstore4 (F : jj_F X own cc rm) {r : Option Nat} {x0 x1 x2 x3 x4 : Option Value} (d : jj_D cc pc (.astore 4) 2 nx) (hn : 4 < jj_nL X) (hc : jj_ncv x3 = true) (kk : jj_J X G kc kn nx (x0 :: x1 :: x2 :: x3 :: some (va_rf r) :: lr) st) : jj_J X G kc kn pc (x0 :: x1 :: x2 :: x3 :: x4 :: lr) (va_rf r :: st) := by
  cases r with
  | none => exact jj_nstore4 F d hn hc kk
  | some a => exact jj_astore4 F d hn hc kk
theorem jj_iinc4 (F : jj_F X own cc rm) {n a : Int} {x0 x1 x2 x3 : Option Value} (d : jj_D cc pc (.iinc 4 n) 3 nx) (hn : 4 < jj_nL X) (hc : jj_ncv x3 = true) (kk : jj_J X G kc kn nx (x0 :: x1 :: x2 :: x3 :: some (.int (jI (a + n))) :: lr) st) : jj_J X G kc kn pc (x0 :: x1 :: x2 :: x3 :: some (.int (jI a)) :: lr) st := jj_iinc F d rfl hn (by cases x3 <;> first | rfl | exact hc) kk
theorem jj_iload5 (F : jj_F X own cc rm) {x : Int32} {x0 x1 x2 x3 x4 : Option Value} (d : jj_D cc pc (.iload 5) 2 nx) (kk : jj_J X G kc kn nx (x0 :: x1 :: x2 :: x3 :: x4 :: some (.int x) :: lr) (.int x :: st)) : jj_J X G kc kn pc (x0 :: x1 :: x2 :: x3 :: x4 :: some (.int x) :: lr) st := jj_iloadB F d rfl kk
theorem jj_aload5 (F : jj_F X own cc rm) {x : Nat} {x0 x1 x2 x3 x4 : Option Value} (d : jj_D cc pc (.aload 5) 2 nx) (kk : jj_J X G kc kn nx (x0 :: x1 :: x2 :: x3 :: x4 :: some (.ref x) :: lr) (.ref x :: st)) : jj_J X G kc kn pc (x0 :: x1 :: x2 :: x3 :: x4 :: some (.ref x) :: lr) st := jj_aloadB F d rfl kk
theorem jj_nload5 (F : jj_F X own cc rm)  {x0 x1 x2 x3 x4 : Option Value} (d : jj_D cc pc (.aload 5) 2 nx) (kk : jj_J X G kc kn nx (x0 :: x1 :: x2 :: x3 :: x4 :: some (.null) :: lr) (.null :: st)) : jj_J X G kc kn pc (x0 :: x1 :: x2 :: x3 :: x4 :: some (.null) :: lr) st := jj_nloadB F d rfl kk
theorem jj_qload5 (F : jj_F X own cc rm) {r : Option Nat} {x0 x1 x2 x3 x4 : Option Value} (d : jj_D cc pc (.aload 5) 2 nx) (kk : jj_J X G kc kn nx (x0 :: x1 :: x2 :: x3 :: x4 :: some (va_rf r) :: lr) (va_rf r :: st)) : jj_J X G kc kn pc (x0 :: x1 :: x2 :: x3 :: x4 :: some (va_rf r) :: lr) st := jj_qloadB F d rfl kk
theorem jj_lload5 (F : jj_F X own cc rm) {x : Int64} {x0 x1 x2 x3 x4 : Option Value} (d : jj_D cc pc (.lload 5) 2 nx) (kk : jj_J X G kc kn nx (x0 :: x1 :: x2 :: x3 :: x4 :: some (.long x) :: lr) (.long x :: st)) : jj_J X G kc kn pc (x0 :: x1 :: x2 :: x3 :: x4 :: some (.long x) :: lr) st := jj_lloadB F d rfl kk
theorem jj_istore5 (F : jj_F X own cc rm) {x : Int32} {x0 x1 x2 x3 x4 x5 : Option Value} (d : jj_D cc pc (.istore 5) 2 nx) (hn : 5 < jj_nL X) (hc : jj_ncv x4 = true) (kk : jj_J X G kc kn nx (x0 :: x1 :: x2 :: x3 :: x4 :: some (.int x) :: lr) st) : jj_J X G kc kn pc (x0 :: x1 :: x2 :: x3 :: x4 :: x5 :: lr) (.int x :: st) := jj_istoreB F d hn (by cases x4 <;> first | rfl | exact hc) kk
theorem jj_astore5 (F : jj_F X own cc rm) {x : Nat} {x0 x1 x2 x3 x4 x5 : Option Value} (d : jj_D cc pc (.astore 5) 2 nx) (hn : 5 < jj_nL X) (hc : jj_ncv x4 = true) (kk : jj_J X G kc kn nx (x0 :: x1 :: x2 :: x3 :: x4 :: some (.ref x) :: lr) st) : jj_J X G kc kn pc (x0 :: x1 :: x2 :: x3 :: x4 :: x5 :: lr) (.ref x :: st) := jj_astoreB F d hn (by cases x4 <;> first | rfl | exact hc) kk
theorem jj_nstore5 (F : jj_F X own cc rm)  {x0 x1 x2 x3 x4 x5 : Option Value} (d : jj_D cc pc (.astore 5) 2 nx) (hn : 5 < jj_nL X) (hc : jj_ncv x4 = true) (kk : jj_J X G kc kn nx (x0 :: x1 :: x2 :: x3 :: x4 :: some (.null) :: lr) st) : jj_J X G kc kn pc (x0 :: x1 :: x2 :: x3 :: x4 :: x5 :: lr) (.null :: st) := jj_nstoreB F d hn (by cases x4 <;> first | rfl | exact hc) kk
theorem jj_qstore5 (F : jj_F X own cc rm) {r : Option Nat} {x0 x1 x2 x3 x4 x5 : Option Value} (d : jj_D cc pc (.astore 5) 2 nx) (hn : 5 < jj_nL X) (hc : jj_ncv x4 = true) (kk : jj_J X G kc kn nx (x0 :: x1 :: x2 :: x3 :: x4 :: some (va_rf r) :: lr) st) : jj_J X G kc kn pc (x0 :: x1 :: x2 :: x3 :: x4 :: x5 :: lr) (va_rf r :: st) := by
  cases r with
  | none => exact jj_nstore5 F d hn hc kk
  | some a => exact jj_astore5 F d hn hc kk
theorem jj_iinc5 (F : jj_F X own cc rm) {n a : Int} {x0 x1 x2 x3 x4 : Option Value} (d : jj_D cc pc (.iinc 5 n) 3 nx) (hn : 5 < jj_nL X) (hc : jj_ncv x4 = true) (kk : jj_J X G kc kn nx (x0 :: x1 :: x2 :: x3 :: x4 :: some (.int (jI (a + n))) :: lr) st) : jj_J X G kc kn pc (x0 :: x1 :: x2 :: x3 :: x4 :: some (.int (jI a)) :: lr) st := jj_iinc F d rfl hn (by cases x4 <;> first | rfl | exact hc) kk
theorem jj_iload6 (F : jj_F X own cc rm) {x : Int32} {x0 x1 x2 x3 x4 x5 : Option Value} (d : jj_D cc pc (.iload 6) 2 nx) (kk : jj_J X G kc kn nx (x0 :: x1 :: x2 :: x3 :: x4 :: x5 :: some (.int x) :: lr) (.int x :: st)) : jj_J X G kc kn pc (x0 :: x1 :: x2 :: x3 :: x4 :: x5 :: some (.int x) :: lr) st := jj_iloadB F d rfl kk
theorem jj_aload6 (F : jj_F X own cc rm) {x : Nat} {x0 x1 x2 x3 x4 x5 : Option Value} (d : jj_D cc pc (.aload 6) 2 nx) (kk : jj_J X G kc kn nx (x0 :: x1 :: x2 :: x3 :: x4 :: x5 :: some (.ref x) :: lr) (.ref x :: st)) : jj_J X G kc kn pc (x0 :: x1 :: x2 :: x3 :: x4 :: x5 :: some (.ref x) :: lr) st := jj_aloadB F d rfl kk
theorem jj_nload6 (F : jj_F X own cc rm)  {x0 x1 x2 x3 x4 x5 : Option Value} (d : jj_D cc pc (.aload 6) 2 nx) (kk : jj_J X G kc kn nx (x0 :: x1 :: x2 :: x3 :: x4 :: x5 :: some (.null) :: lr) (.null :: st)) : jj_J X G kc kn pc (x0 :: x1 :: x2 :: x3 :: x4 :: x5 :: some (.null) :: lr) st := jj_nloadB F d rfl kk
theorem jj_qload6 (F : jj_F X own cc rm) {r : Option Nat} {x0 x1 x2 x3 x4 x5 : Option Value} (d : jj_D cc pc (.aload 6) 2 nx) (kk : jj_J X G kc kn nx (x0 :: x1 :: x2 :: x3 :: x4 :: x5 :: some (va_rf r) :: lr) (va_rf r :: st)) : jj_J X G kc kn pc (x0 :: x1 :: x2 :: x3 :: x4 :: x5 :: some (va_rf r) :: lr) st := jj_qloadB F d rfl kk
theorem jj_lload6 (F : jj_F X own cc rm) {x : Int64} {x0 x1 x2 x3 x4 x5 : Option Value} (d : jj_D cc pc (.lload 6) 2 nx) (kk : jj_J X G kc kn nx (x0 :: x1 :: x2 :: x3 :: x4 :: x5 :: some (.long x) :: lr) (.long x :: st)) : jj_J X G kc kn pc (x0 :: x1 :: x2 :: x3 :: x4 :: x5 :: some (.long x) :: lr) st := jj_lloadB F d rfl kk
theorem jj_istore6 (F : jj_F X own cc rm) {x : Int32} {x0 x1 x2 x3 x4 x5 x6 : Option Value} (d : jj_D cc pc (.istore 6) 2 nx) (hn : 6 < jj_nL X) (hc : jj_ncv x5 = true) (kk : jj_J X G kc kn nx (x0 :: x1 :: x2 :: x3 :: x4 :: x5 :: some (.int x) :: lr) st) : jj_J X G kc kn pc (x0 :: x1 :: x2 :: x3 :: x4 :: x5 :: x6 :: lr) (.int x :: st) := jj_istoreB F d hn (by cases x5 <;> first | rfl | exact hc) kk
theorem jj_astore6 (F : jj_F X own cc rm) {x : Nat} {x0 x1 x2 x3 x4 x5 x6 : Option Value} (d : jj_D cc pc (.astore 6) 2 nx) (hn : 6 < jj_nL X) (hc : jj_ncv x5 = true) (kk : jj_J X G kc kn nx (x0 :: x1 :: x2 :: x3 :: x4 :: x5 :: some (.ref x) :: lr) st) : jj_J X G kc kn pc (x0 :: x1 :: x2 :: x3 :: x4 :: x5 :: x6 :: lr) (.ref x :: st) := jj_astoreB F d hn (by cases x5 <;> first | rfl | exact hc) kk
theorem jj_nstore6 (F : jj_F X own cc rm)  {x0 x1 x2 x3 x4 x5 x6 : Option Value} (d : jj_D cc pc (.astore 6) 2 nx) (hn : 6 < jj_nL X) (hc : jj_ncv x5 = true) (kk : jj_J X G kc kn nx (x0 :: x1 :: x2 :: x3 :: x4 :: x5 :: some (.null) :: lr) st) : jj_J X G kc kn pc (x0 :: x1 :: x2 :: x3 :: x4 :: x5 :: x6 :: lr) (.null :: st) := jj_nstoreB F d hn (by cases x5 <;> first | rfl | exact hc) kk
theorem jj_qstore6 (F : jj_F X own cc rm) {r : Option Nat} {x0 x1 x2 x3 x4 x5 x6 : Option Value} (d : jj_D cc pc (.astore 6) 2 nx) (hn : 6 < jj_nL X) (hc : jj_ncv x5 = true) (kk : jj_J X G kc kn nx (x0 :: x1 :: x2 :: x3 :: x4 :: x5 :: some (va_rf r) :: lr) st) : jj_J X G kc kn pc (x0 :: x1 :: x2 :: x3 :: x4 :: x5 :: x6 :: lr) (va_rf r :: st) := by
  cases r with
  | none => exact jj_nstore6 F d hn hc kk
  | some a => exact jj_astore6 F d hn hc kk
theorem jj_iinc6 (F : jj_F X own cc rm) {n a : Int} {x0 x1 x2 x3 x4 x5 : Option Value} (d : jj_D cc pc (.iinc 6 n) 3 nx) (hn : 6 < jj_nL X) (hc : jj_ncv x5 = true) (kk : jj_J X G kc kn nx (x0 :: x1 :: x2 :: x3 :: x4 :: x5 :: some (.int (jI (a + n))) :: lr) st) : jj_J X G kc kn pc (x0 :: x1 :: x2 :: x3 :: x4 :: x5 :: some (.int (jI a)) :: lr) st := jj_iinc F d rfl hn (by cases x5 <;> first | rfl | exact hc) kk
theorem jj_iload7 (F : jj_F X own cc rm) {x : Int32} {x0 x1 x2 x3 x4 x5 x6 : Option Value} (d : jj_D cc pc (.iload 7) 2 nx) (kk : jj_J X G kc kn nx (x0 :: x1 :: x2 :: x3 :: x4 :: x5 :: x6 :: some (.int x) :: lr) (.int x :: st)) : jj_J X G kc kn pc (x0 :: x1 :: x2 :: x3 :: x4 :: x5 :: x6 :: some (.int x) :: lr) st := jj_iloadB F d rfl kk
theorem jj_aload7 (F : jj_F X own cc rm) {x : Nat} {x0 x1 x2 x3 x4 x5 x6 : Option Value} (d : jj_D cc pc (.aload 7) 2 nx) (kk : jj_J X G kc kn nx (x0 :: x1 :: x2 :: x3 :: x4 :: x5 :: x6 :: some (.ref x) :: lr) (.ref x :: st)) : jj_J X G kc kn pc (x0 :: x1 :: x2 :: x3 :: x4 :: x5 :: x6 :: some (.ref x) :: lr) st := jj_aloadB F d rfl kk
theorem jj_nload7 (F : jj_F X own cc rm)  {x0 x1 x2 x3 x4 x5 x6 : Option Value} (d : jj_D cc pc (.aload 7) 2 nx) (kk : jj_J X G kc kn nx (x0 :: x1 :: x2 :: x3 :: x4 :: x5 :: x6 :: some (.null) :: lr) (.null :: st)) : jj_J X G kc kn pc (x0 :: x1 :: x2 :: x3 :: x4 :: x5 :: x6 :: some (.null) :: lr) st := jj_nloadB F d rfl kk
theorem jj_qload7 (F : jj_F X own cc rm) {r : Option Nat} {x0 x1 x2 x3 x4 x5 x6 : Option Value} (d : jj_D cc pc (.aload 7) 2 nx) (kk : jj_J X G kc kn nx (x0 :: x1 :: x2 :: x3 :: x4 :: x5 :: x6 :: some (va_rf r) :: lr) (va_rf r :: st)) : jj_J X G kc kn pc (x0 :: x1 :: x2 :: x3 :: x4 :: x5 :: x6 :: some (va_rf r) :: lr) st := jj_qloadB F d rfl kk
theorem jj_lload7 (F : jj_F X own cc rm) {x : Int64} {x0 x1 x2 x3 x4 x5 x6 : Option Value} (d : jj_D cc pc (.lload 7) 2 nx) (kk : jj_J X G kc kn nx (x0 :: x1 :: x2 :: x3 :: x4 :: x5 :: x6 :: some (.long x) :: lr) (.long x :: st)) : jj_J X G kc kn pc (x0 :: x1 :: x2 :: x3 :: x4 :: x5 :: x6 :: some (.long x) :: lr) st := jj_lloadB F d rfl kk
theorem jj_istore7 (F : jj_F X own cc rm) {x : Int32} {x0 x1 x2 x3 x4 x5 x6 x7 : Option Value} (d : jj_D cc pc (.istore 7) 2 nx) (hn : 7 < jj_nL X) (hc : jj_ncv x6 = true) (kk : jj_J X G kc kn nx (x0 :: x1 :: x2 :: x3 :: x4 :: x5 :: x6 :: some (.int x) :: lr) st) : jj_J X G kc kn pc (x0 :: x1 :: x2 :: x3 :: x4 :: x5 :: x6 :: x7 :: lr) (.int x :: st) := jj_istoreB F d hn (by cases x6 <;> first | rfl | exact hc) kk
theorem jj_astore7 (F : jj_F X own cc rm) {x : Nat} {x0 x1 x2 x3 x4 x5 x6 x7 : Option Value} (d : jj_D cc pc (.astore 7) 2 nx) (hn : 7 < jj_nL X) (hc : jj_ncv x6 = true) (kk : jj_J X G kc kn nx (x0 :: x1 :: x2 :: x3 :: x4 :: x5 :: x6 :: some (.ref x) :: lr) st) : jj_J X G kc kn pc (x0 :: x1 :: x2 :: x3 :: x4 :: x5 :: x6 :: x7 :: lr) (.ref x :: st) := jj_astoreB F d hn (by cases x6 <;> first | rfl | exact hc) kk
theorem jj_nstore7 (F : jj_F X own cc rm)  {x0 x1 x2 x3 x4 x5 x6 x7 : Option Value} (d : jj_D cc pc (.astore 7) 2 nx) (hn : 7 < jj_nL X) (hc : jj_ncv x6 = true) (kk : jj_J X G kc kn nx (x0 :: x1 :: x2 :: x3 :: x4 :: x5 :: x6 :: some (.null) :: lr) st) : jj_J X G kc kn pc (x0 :: x1 :: x2 :: x3 :: x4 :: x5 :: x6 :: x7 :: lr) (.null :: st) := jj_nstoreB F d hn (by cases x6 <;> first | rfl | exact hc) kk
theorem jj_qstore7 (F : jj_F X own cc rm) {r : Option Nat} {x0 x1 x2 x3 x4 x5 x6 x7 : Option Value} (d : jj_D cc pc (.astore 7) 2 nx) (hn : 7 < jj_nL X) (hc : jj_ncv x6 = true) (kk : jj_J X G kc kn nx (x0 :: x1 :: x2 :: x3 :: x4 :: x5 :: x6 :: some (va_rf r) :: lr) st) : jj_J X G kc kn pc (x0 :: x1 :: x2 :: x3 :: x4 :: x5 :: x6 :: x7 :: lr) (va_rf r :: st) := by
  cases r with
  | none => exact jj_nstore7 F d hn hc kk
  | some a => exact jj_astore7 F d hn hc kk
theorem jj_iinc7 (F : jj_F X own cc rm) {n a : Int} {x0 x1 x2 x3 x4 x5 x6 : Option Value} (d : jj_D cc pc (.iinc 7 n) 3 nx) (hn : 7 < jj_nL X) (hc : jj_ncv x6 = true) (kk : jj_J X G kc kn nx (x0 :: x1 :: x2 :: x3 :: x4 :: x5 :: x6 :: some (.int (jI (a + n))) :: lr) st) : jj_J X G kc kn pc (x0 :: x1 :: x2 :: x3 :: x4 :: x5 :: x6 :: some (.int (jI a)) :: lr) st := jj_iinc F d rfl hn (by cases x6 <;> first | rfl | exact hc) kk
theorem jj_iload8 (F : jj_F X own cc rm) {x : Int32} {x0 x1 x2 x3 x4 x5 x6 x7 : Option Value} (d : jj_D cc pc (.iload 8) 2 nx) (kk : jj_J X G kc kn nx (x0 :: x1 :: x2 :: x3 :: x4 :: x5 :: x6 :: x7 :: some (.int x) :: lr) (.int x :: st)) : jj_J X G kc kn pc (x0 :: x1 :: x2 :: x3 :: x4 :: x5 :: x6 :: x7 :: some (.int x) :: lr) st := jj_iloadB F d rfl kk
theorem jj_aload8 (F : jj_F X own cc rm) {x : Nat} {x0 x1 x2 x3 x4 x5 x6 x7 : Option Value} (d : jj_D cc pc (.aload 8) 2 nx) (kk : jj_J X G kc kn nx (x0 :: x1 :: x2 :: x3 :: x4 :: x5 :: x6 :: x7 :: some (.ref x) :: lr) (.ref x :: st)) : jj_J X G kc kn pc (x0 :: x1 :: x2 :: x3 :: x4 :: x5 :: x6 :: x7 :: some (.ref x) :: lr) st := jj_aloadB F d rfl kk
theorem jj_nload8 (F : jj_F X own cc rm)  {x0 x1 x2 x3 x4 x5 x6 x7 : Option Value} (d : jj_D cc pc (.aload 8) 2 nx) (kk : jj_J X G kc kn nx (x0 :: x1 :: x2 :: x3 :: x4 :: x5 :: x6 :: x7 :: some (.null) :: lr) (.null :: st)) : jj_J X G kc kn pc (x0 :: x1 :: x2 :: x3 :: x4 :: x5 :: x6 :: x7 :: some (.null) :: lr) st := jj_nloadB F d rfl kk
theorem jj_qload8 (F : jj_F X own cc rm) {r : Option Nat} {x0 x1 x2 x3 x4 x5 x6 x7 : Option Value} (d : jj_D cc pc (.aload 8) 2 nx) (kk : jj_J X G kc kn nx (x0 :: x1 :: x2 :: x3 :: x4 :: x5 :: x6 :: x7 :: some (va_rf r) :: lr) (va_rf r :: st)) : jj_J X G kc kn pc (x0 :: x1 :: x2 :: x3 :: x4 :: x5 :: x6 :: x7 :: some (va_rf r) :: lr) st := jj_qloadB F d rfl kk
theorem jj_lload8 (F : jj_F X own cc rm) {x : Int64} {x0 x1 x2 x3 x4 x5 x6 x7 : Option Value} (d : jj_D cc pc (.lload 8) 2 nx) (kk : jj_J X G kc kn nx (x0 :: x1 :: x2 :: x3 :: x4 :: x5 :: x6 :: x7 :: some (.long x) :: lr) (.long x :: st)) : jj_J X G kc kn pc (x0 :: x1 :: x2 :: x3 :: x4 :: x5 :: x6 :: x7 :: some (.long x) :: lr) st := jj_lloadB F d rfl kk
theorem jj_istore8 (F : jj_F X own cc rm) {x : Int32} {x0 x1 x2 x3 x4 x5 x6 x7 x8 : Option Value} (d : jj_D cc pc (.istore 8) 2 nx) (hn : 8 < jj_nL X) (hc : jj_ncv x7 = true) (kk : jj_J X G kc kn nx (x0 :: x1 :: x2 :: x3 :: x4 :: x5 :: x6 :: x7 :: some (.int x) :: lr) st) : jj_J X G kc kn pc (x0 :: x1 :: x2 :: x3 :: x4 :: x5 :: x6 :: x7 :: x8 :: lr) (.int x :: st) := jj_istoreB F d hn (by cases x7 <;> first | rfl | exact hc) kk
theorem jj_astore8 (F : jj_F X own cc rm) {x : Nat} {x0 x1 x2 x3 x4 x5 x6 x7 x8 : Option Value} (d : jj_D cc pc (.astore 8) 2 nx) (hn : 8 < jj_nL X) (hc : jj_ncv x7 = true) (kk : jj_J X G kc kn nx (x0 :: x1 :: x2 :: x3 :: x4 :: x5 :: x6 :: x7 :: some (.ref x) :: lr) st) : jj_J X G kc kn pc (x0 :: x1 :: x2 :: x3 :: x4 :: x5 :: x6 :: x7 :: x8 :: lr) (.ref x :: st) := jj_astoreB F d hn (by cases x7 <;> first | rfl | exact hc) kk
theorem jj_nstore8 (F : jj_F X own cc rm)  {x0 x1 x2 x3 x4 x5 x6 x7 x8 : Option Value} (d : jj_D cc pc (.astore 8) 2 nx) (hn : 8 < jj_nL X) (hc : jj_ncv x7 = true) (kk : jj_J X G kc kn nx (x0 :: x1 :: x2 :: x3 :: x4 :: x5 :: x6 :: x7 :: some (.null) :: lr) st) : jj_J X G kc kn pc (x0 :: x1 :: x2 :: x3 :: x4 :: x5 :: x6 :: x7 :: x8 :: lr) (.null :: st) := jj_nstoreB F d hn (by cases x7 <;> first | rfl | exact hc) kk
theorem jj_qstore8 (F : jj_F X own cc rm) {r : Option Nat} {x0 x1 x2 x3 x4 x5 x6 x7 x8 : Option Value} (d : jj_D cc pc (.astore 8) 2 nx) (hn : 8 < jj_nL X) (hc : jj_ncv x7 = true) (kk : jj_J X G kc kn nx (x0 :: x1 :: x2 :: x3 :: x4 :: x5 :: x6 :: x7 :: some (va_rf r) :: lr) st) : jj_J X G kc kn pc (x0 :: x1 :: x2 :: x3 :: x4 :: x5 :: x6 :: x7 :: x8 :: lr) (va_rf r :: st) := by
  cases r with
  | none => exact jj_nstore8 F d hn hc kk
  | some a => exact jj_astore8 F d hn hc kk
theorem jj_iinc8 (F : jj_F X own cc rm) {n a : Int} {x0 x1 x2 x3 x4 x5 x6 x7 : Option Value} (d : jj_D cc pc (.iinc 8 n) 3 nx) (hn : 8 < jj_nL X) (hc : jj_ncv x7 = true) (kk : jj_J X G kc kn nx (x0 :: x1 :: x2 :: x3 :: x4 :: x5 :: x6 :: x7 :: some (.int (jI (a + n))) :: lr) st) : jj_J X G kc kn pc (x0 :: x1 :: x2 :: x3 :: x4 :: x5 :: x6 :: x7 :: some (.int (jI a)) :: lr) st := jj_iinc F d rfl hn (by cases x7 <;> first | rfl | exact hc) kk
theorem jj_iload9 (F : jj_F X own cc rm) {x : Int32} {x0 x1 x2 x3 x4 x5 x6 x7 x8 : Option Value} (d : jj_D cc pc (.iload 9) 2 nx) (kk : jj_J X G kc kn nx (x0 :: x1 :: x2 :: x3 :: x4 :: x5 :: x6 :: x7 :: x8 :: some (.int x) :: lr) (.int x :: st)) : jj_J X G kc kn pc (x0 :: x1 :: x2 :: x3 :: x4 :: x5 :: x6 :: x7 :: x8 :: some (.int x) :: lr) st := jj_iloadB F d rfl kk
theorem jj_aload9 (F : jj_F X own cc rm) {x : Nat} {x0 x1 x2 x3 x4 x5 x6 x7 x8 : Option Value} (d : jj_D cc pc (.aload 9) 2 nx) (kk : jj_J X G kc kn nx (x0 :: x1 :: x2 :: x3 :: x4 :: x5 :: x6 :: x7 :: x8 :: some (.ref x) :: lr) (.ref x :: st)) : jj_J X G kc kn pc (x0 :: x1 :: x2 :: x3 :: x4 :: x5 :: x6 :: x7 :: x8 :: some (.ref x) :: lr) st := jj_aloadB F d rfl kk
theorem jj_nload9 (F : jj_F X own cc rm)  {x0 x1 x2 x3 x4 x5 x6 x7 x8 : Option Value} (d : jj_D cc pc (.aload 9) 2 nx) (kk : jj_J X G kc kn nx (x0 :: x1 :: x2 :: x3 :: x4 :: x5 :: x6 :: x7 :: x8 :: some (.null) :: lr) (.null :: st)) : jj_J X G kc kn pc (x0 :: x1 :: x2 :: x3 :: x4 :: x5 :: x6 :: x7 :: x8 :: some (.null) :: lr) st := jj_nloadB F d rfl kk
theorem jj_qload9 (F : jj_F X own cc rm) {r : Option Nat} {x0 x1 x2 x3 x4 x5 x6 x7 x8 : Option Value} (d : jj_D cc pc (.aload 9) 2 nx) (kk : jj_J X G kc kn nx (x0 :: x1 :: x2 :: x3 :: x4 :: x5 :: x6 :: x7 :: x8 :: some (va_rf r) :: lr) (va_rf r :: st)) : jj_J X G kc kn pc (x0 :: x1 :: x2 :: x3 :: x4 :: x5 :: x6 :: x7 :: x8 :: some (va_rf r) :: lr) st := jj_qloadB F d rfl kk
theorem jj_lload9 (F : jj_F X own cc rm) {x : Int64} {x0 x1 x2 x3 x4 x5 x6 x7 x8 : Option Value} (d : jj_D cc pc (.lload 9) 2 nx) (kk : jj_J X G kc kn nx (x0 :: x1 :: x2 :: x3 :: x4 :: x5 :: x6 :: x7 :: x8 :: some (.long x) :: lr) (.long x :: st)) : jj_J X G kc kn pc (x0 :: x1 :: x2 :: x3 :: x4 :: x5 :: x6 :: x7 :: x8 :: some (.long x) :: lr) st := jj_lloadB F d rfl kk
theorem jj_istore9 (F : jj_F X own cc rm) {x : Int32} {x0 x1 x2 x3 x4 x5 x6 x7 x8 x9 : Option Value} (d : jj_D cc pc (.istore 9) 2 nx) (hn : 9 < jj_nL X) (hc : jj_ncv x8 = true) (kk : jj_J X G kc kn nx (x0 :: x1 :: x2 :: x3 :: x4 :: x5 :: x6 :: x7 :: x8 :: some (.int x) :: lr) st) : jj_J X G kc kn pc (x0 :: x1 :: x2 :: x3 :: x4 :: x5 :: x6 :: x7 :: x8 :: x9 :: lr) (.int x :: st) := jj_istoreB F d hn (by cases x8 <;> first | rfl | exact hc) kk
theorem jj_astore9 (F : jj_F X own cc rm) {x : Nat} {x0 x1 x2 x3 x4 x5 x6 x7 x8 x9 : Option Value} (d : jj_D cc pc (.astore 9) 2 nx) (hn : 9 < jj_nL X) (hc : jj_ncv x8 = true) (kk : jj_J X G kc kn nx (x0 :: x1 :: x2 :: x3 :: x4 :: x5 :: x6 :: x7 :: x8 :: some (.ref x) :: lr) st) : jj_J X G kc kn pc (x0 :: x1 :: x2 :: x3 :: x4 :: x5 :: x6 :: x7 :: x8 :: x9 :: lr) (.ref x :: st) := jj_astoreB F d hn (by cases x8 <;> first | rfl | exact hc) kk
theorem jj_nstore9 (F : jj_F X own cc rm)  {x0 x1 x2 x3 x4 x5 x6 x7 x8 x9 : Option Value} (d : jj_D cc pc (.astore 9) 2 nx) (hn : 9 < jj_nL X) (hc : jj_ncv x8 = true) (kk : jj_J X G kc kn nx (x0 :: x1 :: x2 :: x3 :: x4 :: x5 :: x6 :: x7 :: x8 :: some (.null) :: lr) st) : jj_J X G kc kn pc (x0 :: x1 :: x2 :: x3 :: x4 :: x5 :: x6 :: x7 :: x8 :: x9 :: lr) (.null :: st) := jj_nstoreB F d hn (by cases x8 <;> first | rfl | exact hc) kk
theorem jj_qstore9 (F : jj_F X own cc rm) {r : Option Nat} {x0 x1 x2 x3 x4 x5 x6 x7 x8 x9 : Option Value} (d : jj_D cc pc (.astore 9) 2 nx) (hn : 9 < jj_nL X) (hc : jj_ncv x8 = true) (kk : jj_J X G kc kn nx (x0 :: x1 :: x2 :: x3 :: x4 :: x5 :: x6 :: x7 :: x8 :: some (va_rf r) :: lr) st) : jj_J X G kc kn pc (x0 :: x1 :: x2 :: x3 :: x4 :: x5 :: x6 :: x7 :: x8 :: x9 :: lr) (va_rf r :: st) := by
  cases r with
  | none => exact jj_nstore9 F d hn hc kk
  | some a => exact jj_astore9 F d hn hc kk
theorem jj_iinc9 (F : jj_F X own cc rm) {n a : Int} {x0 x1 x2 x3 x4 x5 x6 x7 x8 : Option Value} (d : jj_D cc pc (.iinc 9 n) 3 nx) (hn : 9 < jj_nL X) (hc : jj_ncv x8 = true) (kk : jj_J X G kc kn nx (x0 :: x1 :: x2 :: x3 :: x4 :: x5 :: x6 :: x7 :: x8 :: some (.int (jI (a + n))) :: lr) st) : jj_J X G kc kn pc (x0 :: x1 :: x2 :: x3 :: x4 :: x5 :: x6 :: x7 :: x8 :: some (.int (jI a)) :: lr) st := jj_iinc F d rfl hn (by cases x8 <;> first | rfl | exact hc) kk
theorem jj_iload10 (F : jj_F X own cc rm) {x : Int32} {x0 x1 x2 x3 x4 x5 x6 x7 x8 x9 : Option Value} (d : jj_D cc pc (.iload 10) 2 nx) (kk : jj_J X G kc kn nx (x0 :: x1 :: x2 :: x3 :: x4 :: x5 :: x6 :: x7 :: x8 :: x9 :: some (.int x) :: lr) (.int x :: st)) : jj_J X G kc kn pc (x0 :: x1 :: x2 :: x3 :: x4 :: x5 :: x6 :: x7 :: x8 :: x9 :: some (.int x) :: lr) st := jj_iloadB F d rfl kk
theorem jj_aload10 (F : jj_F X own cc rm) {x : Nat} {x0 x1 x2 x3 x4 x5 x6 x7 x8 x9 : Option Value} (d : jj_D cc pc (.aload 10) 2 nx) (kk : jj_J X G kc kn nx (x0 :: x1 :: x2 :: x3 :: x4 :: x5 :: x6 :: x7 :: x8 :: x9 :: some (.ref x) :: lr) (.ref x :: st)) : jj_J X G kc kn pc (x0 :: x1 :: x2 :: x3 :: x4 :: x5 :: x6 :: x7 :: x8 :: x9 :: some (.ref x) :: lr) st := jj_aloadB F d rfl kk
theorem jj_nload10 (F : jj_F X own cc rm)  {x0 x1 x2 x3 x4 x5 x6 x7 x8 x9 : Option Value} (d : jj_D cc pc (.aload 10) 2 nx) (kk : jj_J X G kc kn nx (x0 :: x1 :: x2 :: x3 :: x4 :: x5 :: x6 :: x7 :: x8 :: x9 :: some (.null) :: lr) (.null :: st)) : jj_J X G kc kn pc (x0 :: x1 :: x2 :: x3 :: x4 :: x5 :: x6 :: x7 :: x8 :: x9 :: some (.null) :: lr) st := jj_nloadB F d rfl kk
theorem jj_qload10 (F : jj_F X own cc rm) {r : Option Nat} {x0 x1 x2 x3 x4 x5 x6 x7 x8 x9 : Option Value} (d : jj_D cc pc (.aload 10) 2 nx) (kk : jj_J X G kc kn nx (x0 :: x1 :: x2 :: x3 :: x4 :: x5 :: x6 :: x7 :: x8 :: x9 :: some (va_rf r) :: lr) (va_rf r :: st)) : jj_J X G kc kn pc (x0 :: x1 :: x2 :: x3 :: x4 :: x5 :: x6 :: x7 :: x8 :: x9 :: some (va_rf r) :: lr) st := jj_qloadB F d rfl kk
theorem jj_lload10 (F : jj_F X own cc rm) {x : Int64} {x0 x1 x2 x3 x4 x5 x6 x7 x8 x9 : Option Value} (d : jj_D cc pc (.lload 10) 2 nx) (kk : jj_J X G kc kn nx (x0 :: x1 :: x2 :: x3 :: x4 :: x5 :: x6 :: x7 :: x8 :: x9 :: some (.long x) :: lr) (.long x :: st)) : jj_J X G kc kn pc (x0 :: x1 :: x2 :: x3 :: x4 :: x5 :: x6 :: x7 :: x8 :: x9 :: some (.long x) :: lr) st := jj_lloadB F d rfl kk
theorem jj_istore10 (F : jj_F X own cc rm) {x : Int32} {x0 x1 x2 x3 x4 x5 x6 x7 x8 x9 x10 : Option Value} (d : jj_D cc pc (.istore 10) 2 nx) (hn : 10 < jj_nL X) (hc : jj_ncv x9 = true) (kk : jj_J X G kc kn nx (x0 :: x1 :: x2 :: x3 :: x4 :: x5 :: x6 :: x7 :: x8 :: x9 :: some (.int x) :: lr) st) : jj_J X G kc kn pc (x0 :: x1 :: x2 :: x3 :: x4 :: x5 :: x6 :: x7 :: x8 :: x9 :: x10 :: lr) (.int x :: st) := jj_istoreB F d hn (by cases x9 <;> first | rfl | exact hc) kk
theorem jj_astore10 (F : jj_F X own cc rm) {x : Nat} {x0 x1 x2 x3 x4 x5 x6 x7 x8 x9 x10 : Option Value} (d : jj_D cc pc (.astore 10) 2 nx) (hn : 10 < jj_nL X) (hc : jj_ncv x9 = true) (kk : jj_J X G kc kn nx (x0 :: x1 :: x2 :: x3 :: x4 :: x5 :: x6 :: x7 :: x8 :: x9 :: some (.ref x) :: lr) st) : jj_J X G kc kn pc (x0 :: x1 :: x2 :: x3 :: x4 :: x5 :: x6 :: x7 :: x8 :: x9 :: x10 :: lr) (.ref x :: st) := jj_astoreB F d hn (by cases x9 <;> first | rfl | exact hc) kk
theorem jj_nstore10 (F : jj_F X own cc rm)  {x0 x1 x2 x3 x4 x5 x6 x7 x8 x9 x10 : Option Value} (d : jj_D cc pc (.astore 10) 2 nx) (hn : 10 < jj_nL X) (hc : jj_ncv x9 = true) (kk : jj_J X G kc kn nx (x0 :: x1 :: x2 :: x3 :: x4 :: x5 :: x6 :: x7 :: x8 :: x9 :: some (.null) :: lr) st) : jj_J X G kc kn pc (x0 :: x1 :: x2 :: x3 :: x4 :: x5 :: x6 :: x7 :: x8 :: x9 :: x10 :: lr) (.null :: st) := jj_nstoreB F d hn (by cases x9 <;> first | rfl | exact hc) kk
theorem jj_qstore10 (F : jj_F X own cc rm) {r : Option Nat} {x0 x1 x2 x3 x4 x5 x6 x7 x8 x9 x10 : Option Value} (d : jj_D cc pc (.astore 10) 2 nx) (hn : 10 < jj_nL X) (hc : jj_ncv x9 = true) (kk : jj_J X G kc kn nx (x0 :: x1 :: x2 :: x3 :: x4 :: x5 :: x6 :: x7 :: x8 :: x9 :: some (va_rf r) :: lr) st) : jj_J X G kc kn pc (x0 :: x1 :: x2 :: x3 :: x4 :: x5 :: x6 :: x7 :: x8 :: x9 :: x10 :: lr) (va_rf r :: st) := by
  cases r with
  | none => exact jj_nstore10 F d hn hc kk
  | some a => exact jj_astore10 F d hn hc kk
theorem jj_iinc10 (F : jj_F X own cc rm) {n a : Int} {x0 x1 x2 x3 x4 x5 x6 x7 x8 x9 : Option Value} (d : jj_D cc pc (.iinc 10 n) 3 nx) (hn : 10 < jj_nL X) (hc : jj_ncv x9 = true) (kk : jj_J X G kc kn nx (x0 :: x1 :: x2 :: x3 :: x4 :: x5 :: x6 :: x7 :: x8 :: x9 :: some (.int (jI (a + n))) :: lr) st) : jj_J X G kc kn pc (x0 :: x1 :: x2 :: x3 :: x4 :: x5 :: x6 :: x7 :: x8 :: x9 :: some (.int (jI a)) :: lr) st := jj_iinc F d rfl hn (by cases x9 <;> first | rfl | exact hc) kk
end JR
