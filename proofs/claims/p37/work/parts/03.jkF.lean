section JT
variable {X : jj_X} {own : String} {cc : ByteArray} {rm : Room} {G G0 : jj_G} {kc kn pc nx p1 p2 p3 p4 p5 : Nat} {lv lr : List (Option Value)} {st rest : List Value} {ret : Option FieldType} {post : Option Value → jj_G → Prop} {px : String → Prop}
def jj_N2 : List String := ["java/lang/RuntimeException", "java/lang/Exception"]
def jj_thr (own : String) (ik ic : Nat) (cls : String) : Prop := Bundle.fit cls = true ∧ Cond.classLink own ik cls ∈ jj_GW ∧ Cond.initialized cls ∈ jj_GW ∧ (∀ w ∈ vx_atS own ic cls jj_N2, w ∈ jj_GW ∨ w ∈ jj_T) ∧ (∀ w ∈ Cond.classLink own ik cls :: Cond.initialized cls :: vx_atS own ic cls jj_N2, vx_ot w = true)
theorem jj_T_on {w : Cond} (h : w ∈ jj_T) : w.onTables = true := by
  have h2 := (List.mem_filter.mp h).2
  cases w <;> first | rfl | (simp [jj_tw] at h2; done)
theorem jj_N2_fit : ∀ n ∈ jj_N2, Bundle.fit n = true := by decide +kernel
theorem jj_throwS (B : jj_B X own cc rm ret G0 post px) {cls text : String} {ik is ic : Nat} (h : jj_thr own ik ic cls) (hs : (own, is, text) ∈ jj_S) (hG : G = G0) (hp : px cls) (hr : 6 ≤ rm.frames ∧ (st.map fun v => v.category).sum + 82 ≤ rm.locals ∧ kc + 1 ≤ rm.cells ∧ kn + 6 ≤ rm.slots) (d0 : jj_D cc pc (.new ik) 3 p1) (d1 : jj_D cc p1 .dup 1 p2) (d2 : jj_D cc p2 (.ldc is) 2 p3) (d3 : jj_D cc p3 (.invokespecial ic) 3 p4) (d4 : jj_D cc p4 .athrow 1 p5) : jj_J X G kc kn pc lv st := by
  obtain ⟨p, l, e, R, s, m, args, below, meth, c, nL, A, D, ac, Q⟩ := X
  obtain ⟨⟨hx, hb, hml, hown, hR, hA, hE, hst, hlk, hts, -⟩, hret', rfl, rfl, hno⟩ := B
  obtain ⟨rfl, e0⟩ := d0
  obtain ⟨rfl, e1⟩ := d1
  obtain ⟨rfl, e2⟩ := d2
  obtain ⟨rfl, e3⟩ := d3
  obtain ⟨-, e4⟩ := d4
  subst hG; subst hR
  obtain ⟨t1, t2, t3, t4, t5⟩ := h
  obtain ⟨sa, hsa⟩ := hE.2.2.1 _ hs
  intro H locs ls hW hS hl
  refine vx_throwS hx hb hst hown t1 jj_N2_fit (hts _ t2) (hts _ t3) hsa (fun w hw => (t4 w hw).elim (fun h => hts w h) (fun h => va_Nw.use (jj_T_on h) (hE.2.2.2.1 w h))) t5 hE.2.2.2.2.2.2.1 hE.2.2.2.2.2.2.2 hS (hl.1.trans hml.symm) e0 e1 e2 e3 e4 (fun x hx => (hno x hx).elim) (by show 2 + 3 < _; omega) (by show _ + (13 * (2 + 1) + 43) ≤ _; omega) hr.2.2.1 hr.2.2.2 hlk (fun t _ hz hq => ⟨hp, hW.kept (fun q h _ => hq q h), Nat.le_trans hS.1 hz, fun q h1 h2 => (hq q (Nat.lt_of_lt_of_le h1 hS.1)).trans (hS.2.1 q h1 h2)⟩) hS.2.2 hr.2.2.1 hr.2.2.2
theorem jj_throwSW (B : jj_B X own cc rm ret G0 post px) {cls text : String} {ik is ic : Nat} (h : jj_thr own ik ic cls) (hs : (own, is, text) ∈ jj_S) (hG : G = G0) (hp : px cls) (hr : 6 ≤ rm.frames ∧ (st.map fun v => v.category).sum + 82 ≤ rm.locals ∧ kc + 1 ≤ rm.cells ∧ kn + 6 ≤ rm.slots) (d0 : jj_D cc pc (.new ik) 3 p1) (d1 : jj_D cc p1 .dup 1 p2) (d2 : jj_D cc p2 (.ldc_w is) 3 p3) (d3 : jj_D cc p3 (.invokespecial ic) 3 p4) (d4 : jj_D cc p4 .athrow 1 p5) : jj_J X G kc kn pc lv st := by
  obtain ⟨p, l, e, R, s, m, args, below, meth, c, nL, A, D, ac, Q⟩ := X
  obtain ⟨⟨hx, hb, hml, hown, hR, hA, hE, hst, hlk, hts, -⟩, hret', rfl, rfl, hno⟩ := B
  obtain ⟨rfl, e0⟩ := d0
  obtain ⟨rfl, e1⟩ := d1
  obtain ⟨rfl, e2⟩ := d2
  obtain ⟨rfl, e3⟩ := d3
  obtain ⟨-, e4⟩ := d4
  subst hG; subst hR
  obtain ⟨t1, t2, t3, t4, t5⟩ := h
  obtain ⟨sa, hsa⟩ := hE.2.2.1 _ hs
  intro H locs ls hW hS hl
  refine vx_throwSW hx hb hst hown t1 jj_N2_fit (hts _ t2) (hts _ t3) hsa (fun w hw => (t4 w hw).elim (fun h => hts w h) (fun h => va_Nw.use (jj_T_on h) (hE.2.2.2.1 w h))) t5 hE.2.2.2.2.2.2.1 hE.2.2.2.2.2.2.2 hS (hl.1.trans hml.symm) e0 e1 e2 e3 e4 (fun x hx => (hno x hx).elim) (by show 2 + 3 < _; omega) (by show _ + (13 * (2 + 1) + 43) ≤ _; omega) hr.2.2.1 hr.2.2.2 hlk (fun t _ hz hq => ⟨hp, hW.kept (fun q h _ => hq q h), Nat.le_trans hS.1 hz, fun q h1 h2 => (hq q (Nat.lt_of_lt_of_le h1 hS.1)).trans (hS.2.1 q h1 h2)⟩) hS.2.2 hr.2.2.1 hr.2.2.2
end JT
