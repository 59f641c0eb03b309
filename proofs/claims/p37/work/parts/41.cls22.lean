theorem jj_clone {X : jj_X} {own : String} {cc : ByteArray} {rm : Room} {G : jj_G} {kc kn pc nx : Nat} {lv : List (Option Value)} {st : List Value} (F : jj_F X own cc rm) {a n index k nn : Nat} {g : Int → Int} (hG : G a = some (jj_ai (jj_ac X 0) n g)) (h1 : Cond.methodLink own index ⟨"[I", "clone", "()Ljava/lang/Object;"⟩ ∈ jj_GW) (h2 : Cond.sameMethod "[I" "java/lang/Object" "clone" "()Ljava/lang/Object;" ∈ jj_GW) (h3 : Cond.native ⟨"java/lang/Object", "clone", "()Ljava/lang/Object;"⟩ ∈ jj_GW) (h4 : Cond.instanceMethod ⟨"java/lang/Object", "clone", "()Ljava/lang/Object;"⟩ ∈ jj_GW) (h5 : Cond.selects "[I" ⟨"[I", "clone", "()Ljava/lang/Object;"⟩ ⟨"java/lang/Object", "clone", "()Ljava/lang/Object;"⟩ ∈ jj_GW) (h6 : Cond.castable "[I" "java/lang/Cloneable" ∈ jj_T) (hr : 1 ≤ rm.frames ∧ (st.map fun v => v.category).sum + 14 ≤ rm.locals ∧ kc + 1 ≤ rm.cells ∧ kn + n ≤ rm.slots ∧ kc + 1 ≤ k ∧ kn + n ≤ nn) (d : jj_D cc pc (.invokevirtual index) 3 nx) (kk : ∀ q : Nat, G q = none → jj_J X (jj_u G q (jj_ai (jj_ac X 0) n g)) k nn nx lv (.ref q :: st)) : jj_J X G kc kn pc lv (.ref a :: st) := by
  obtain ⟨p, l, e, R, s, m, args, below, meth, c, nL, A, D, ac, Q⟩ := X
  obtain ⟨hx, hb, hml, hown, hR, hA, hE, hs, hlk, hts, -⟩ := F
  obtain ⟨rfl, hd⟩ := d
  subst hR
  intro H locs ls hW hS hl
  obtain ⟨ws, hP, hD, hL⟩ := hW
  obtain ⟨q0, hq⟩ := (hL a _).mp hG
  refine va_clone hx hb (by rw [hml]; exact hl.1.symm) hown (hts _ h1) (hts _ h2) (hts _ h3) (hts _ h4) (hts _ h5) (hE.2.2.2.1 _ h6) hE.2.1 hP hD hS hA q0 0 hq (ty := .int) rfl (hE.2.1.2 0 (ac 0, .int) rfl).2 (fun i v hv => ?_) hr.1 hr.2.1 hr.2.2.1 hr.2.2.2.1 hd (fun q H1 hK1 hP1 hD1 hS1 => W.widen hr.2.2.2.2.1 hr.2.2.2.2.2 (kk q (hL.fresh hD1) H1 locs ls ⟨_, hP1, hD1, hL.push (hL.fresh hD1)⟩ hS1 hl))
  exact va_fit (fun _ _ => rfl) i v hv
theorem jj_castI {X : jj_X} {own : String} {cc : ByteArray} {rm : Room} {G : jj_G} {kc kn pc nx : Nat} {lv : List (Option Value)} {st : List Value} (F : jj_F X own cc rm) {a n index : Nat} {g : Int → Int} (hG : G a = some (jj_ai (jj_ac X 0) n g)) (h1 : Cond.classLink own index "[I" ∈ jj_GW) (d : jj_D cc pc (.checkcast index) 3 nx) (kk : jj_J X G kc kn nx lv (.ref a :: st)) : jj_J X G kc kn pc lv (.ref a :: st) := by
  obtain ⟨p, l, e, R, s, m, args, below, meth, c, nL, A, D, ac, Q⟩ := X
  obtain ⟨hx, hb, hml, hown, hR, hA, hE, hs, hlk, hts, -⟩ := F
  obtain ⟨rfl, hd⟩ := d
  intro H locs ls hW hS hl
  have hW2 := hW
  obtain ⟨ws, hP, hD, hL⟩ := hW2
  obtain ⟨q0, hq⟩ := (hL a _).mp hG
  exact va_castA hx hb hown (hts _ h1) hP q0 hq (hE.2.1.2 0 (ac 0, .int) rfl).2 hd (kk H locs ls hW hS hl)
theorem ml_clone : Cond.methodLink RX8 260 ⟨"[I", "clone", "()Ljava/lang/Object;"⟩ ∈ jj_GW := jj_gw 672 (by decide +kernel) rfl
theorem cw_1 : Cond.sameMethod "[I" "java/lang/Object" "clone" "()Ljava/lang/Object;" ∈ jj_GW := jj_gw 673 (by decide +kernel) rfl
theorem cw_2 : Cond.native ⟨"java/lang/Object", "clone", "()Ljava/lang/Object;"⟩ ∈ jj_GW := jj_gw 674 (by decide +kernel) rfl
theorem cw_3 : Cond.instanceMethod ⟨"java/lang/Object", "clone", "()Ljava/lang/Object;"⟩ ∈ jj_GW := jj_gw 675 (by decide +kernel) rfl
theorem cw_4 : Cond.selects "[I" ⟨"[I", "clone", "()Ljava/lang/Object;"⟩ ⟨"java/lang/Object", "clone", "()Ljava/lang/Object;"⟩ ∈ jj_GW := jj_gw 676 (by decide +kernel) rfl
theorem cw_5 : Cond.castable "[I" "java/lang/Cloneable" ∈ jj_T := jj_tw_mem 677 (by decide +kernel) rfl
