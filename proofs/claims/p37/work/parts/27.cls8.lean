/-! ===== what is new beside a heap G0: a list of cells ===== -/
abbrev Gl : Type := List (Nat × va_E)
def GL (G0 : jj_G) (L : Gl) (G : jj_G) : Prop :=
  (∀ (m a : Nat) (x : va_E), L[m]? = some (a, x) → G a = some x ∧ G0 a = none) ∧ (∀ (m m' a : Nat) (x x' : va_E), L[m]? = some (a, x) → L[m']? = some (a, x') → m = m') ∧ ∀ q, G0 q ≠ none → G q = G0 q
theorem GL.at {G0 G : jj_G} {L : Gl} (h : GL G0 L G) {m a : Nat} {x : va_E} (hm : L[m]? = some (a, x)) : G a = some x := (h.1 m a x hm).1
theorem GL.ne {G0 G : jj_G} {L : Gl} (h : GL G0 L G) {m m' a a' : Nat} {x x' : va_E} (hm : L[m]? = some (a, x)) (hm' : L[m']? = some (a', x')) (hne : m ≠ m') : a ≠ a' := fun e => by subst e; exact hne (h.2.1 m m' a x x' hm hm')
theorem GL.has {G0 G : jj_G} {L : Gl} (h : GL G0 L G) {ad : Ad} {C : Cm} (hH : Has ad C G0) : Has ad C G := hH.kept h.2.2
theorem GL.one {G : jj_G} {q : Nat} {x : va_E} (hq : G q = none) : GL G [(q, x)] (jj_u G q x) := by
  refine ⟨fun m a y hm => ?_, fun m m' a y y' hm hm' => ?_, fun q' hq' => ?_⟩
  · match m with
    | 0 => cases hm; exact ⟨jj_us, hq⟩
    | m + 1 => cases hm
  · match m, m' with
    | 0, 0 => rfl
    | m + 1, _ => cases hm
    | 0, m' + 1 => cases hm'
  · exact jj_un (fun e => by rw [e] at hq'; exact hq' hq)
theorem GL.set {G0 G : jj_G} {L : Gl} (h : GL G0 L G) {m a : Nat} {x0 : va_E} (hm : L[m]? = some (a, x0)) (x : va_E) {L' : Gl} (hL : L.set m (a, x) = L') : GL G0 L' (jj_u G a x) := by
  subst hL
  have hl := (List.getElem?_eq_some_iff.mp hm).1
  have key : ∀ (j b : Nat) (y : va_E), (L.set m (a, x))[j]? = some (b, y) → (j = m ∧ b = a ∧ y = x) ∨ (j ≠ m ∧ L[j]? = some (b, y)) := by
    intro j b y hj
    by_cases hjm : j = m
    · subst hjm
      rw [List.getElem?_set_self hl] at hj
      cases hj; exact Or.inl ⟨rfl, rfl, rfl⟩
    · rw [List.getElem?_set_ne (Ne.symm hjm)] at hj
      exact Or.inr ⟨hjm, hj⟩
  refine ⟨fun j b y hj => ?_, fun j j' b y y' hj hj' => ?_, fun q hq => ?_⟩
  · rcases key j b y hj with ⟨rfl, rfl, rfl⟩ | ⟨h1, h2⟩
    · exact ⟨jj_us, (h.1 _ _ _ hm).2⟩
    · rw [jj_un (h.ne h2 hm h1)]
      exact h.1 _ _ _ h2
  · rcases key j b y hj with ⟨rfl, rfl, rfl⟩ | ⟨h1, h2⟩
    · rcases key j' _ y' hj' with ⟨rfl, -, -⟩ | ⟨h3, h4⟩
      · rfl
      · exact absurd (h.2.1 _ _ _ _ _ hm h4) (Ne.symm h3)
    · rcases key j' b y' hj' with ⟨rfl, rfl, rfl⟩ | ⟨h3, h4⟩
      · exact absurd (h.2.1 _ _ _ _ _ h2 hm) h1
      · exact h.2.1 _ _ _ _ _ h2 h4
  · rw [jj_un (fun e => hq (by rw [e]; exact (h.1 _ _ _ hm).2))]
    exact h.2.2 q hq
theorem GL.app {G0 G G' : jj_G} {L M : Gl} (h : GL G0 L G) (h2 : GL G M G') {N : Gl} (hN : L ++ M = N) : GL G0 N G' := by
  subst hN
  have key : ∀ (j b : Nat) (y : va_E), (L ++ M)[j]? = some (b, y) → (j < L.length ∧ L[j]? = some (b, y)) ∨ (L.length ≤ j ∧ M[j - L.length]? = some (b, y)) := by
    intro j b y hj
    by_cases hl : j < L.length
    · rw [List.getElem?_append_left hl] at hj; exact Or.inl ⟨hl, hj⟩
    · rw [List.getElem?_append_right (by omega)] at hj; exact Or.inr ⟨by omega, hj⟩
  have old : ∀ (j b : Nat) (y : va_E), L[j]? = some (b, y) → G b ≠ none := fun j b y hj => by rw [h.at hj]; exact fun h => by cases h
  refine ⟨fun j b y hj => ?_, fun j j' b y y' hj hj' => ?_, fun q hq => ?_⟩
  · rcases key j b y hj with ⟨h1, h3⟩ | ⟨h1, h3⟩
    · exact ⟨by rw [h2.2.2 b (old j b y h3)]; exact h.at h3, (h.1 _ _ _ h3).2⟩
    · refine ⟨h2.at h3, ?_⟩
      cases hx : G0 b with
      | none => rfl
      | some z =>
        have e := h.2.2 b (by rw [hx]; exact fun h => by cases h)
        rw [(h2.1 _ _ _ h3).2, hx] at e
        cases e
  · rcases key j b y hj with ⟨h1, h3⟩ | ⟨h1, h3⟩
    · rcases key j' b y' hj' with ⟨h4, h5⟩ | ⟨h4, h5⟩
      · exact h.2.1 _ _ _ _ _ h3 h5
      · exact absurd (h2.1 _ _ _ h5).2 (old j b y h3)
    · rcases key j' b y' hj' with ⟨h4, h5⟩ | ⟨h4, h5⟩
      · exact absurd (h2.1 _ _ _ h3).2 (old j' b y' h5)
      · have := h2.2.1 _ _ _ _ _ h3 h5
        omega
  · rw [h2.2.2 q (by rw [h.2.2 q hq]; exact hq)]
    exact h.2.2 q hq
theorem GL.new {G0 G : jj_G} {L : Gl} (h : GL G0 L G) {q : Nat} (hq : G q = none) (x : va_E) {L' : Gl} (hL : L ++ [(q, x)] = L') : GL G0 L' (jj_u G q x) := h.app (GL.one hq) hL
theorem GL.peel {G0 G : jj_G} {q : Nat} {x : va_E} {L : Gl} (h : GL G0 ((q, x) :: L) G) : GL (jj_u G0 q x) L G := by
  have h0 : ((q, x) :: L)[0]? = some (q, x) := rfl
  refine ⟨fun m a y hm => ?_, fun m m' a y y' hm hm' => ?_, fun q' hq' => ?_⟩
  · have h1 : ((q, x) :: L)[m + 1]? = some (a, y) := hm
    exact ⟨h.at h1, by rw [jj_un (h.ne h1 h0 (by omega))]; exact (h.1 _ _ _ h1).2⟩
  · have := h.2.1 (m + 1) (m' + 1) a y y' hm hm'
    omega
  · by_cases e : q' = q
    · subst e; rw [jj_us]; exact h.at h0
    · rw [jj_un e] at hq' ⊢; exact h.2.2 q' hq'
theorem GL.first {G0 G : jj_G} {q : Nat} {x : va_E} {L : Gl} (h : GL G0 ((q, x) :: L) G) : G0 q = none := (h.1 0 q x rfl).2
theorem Rep.heap {ad : Ad} {C : Cm} {G G' : jj_G} (h : Rep ad C G) (hk : GL G [] G') : Rep ad C G' := ⟨h.1.kept hk.2.2, h.2⟩
section JG
variable {X : jj_X} {own : String} {cc : ByteArray} {rm : Room} {G G0 : jj_G} {kc kn pc nx : Nat} {lv lr : List (Option Value)} {st : List Value} {L : Gl}
theorem cg_put (F : jj_F X own cc rm) (hL : GL G0 L G) {m a ci index f N : Nat} {Cn : String} {T : u_T} {ty : Nat → FieldType} {fs : List Value} {v : Value} {L' : Gl} (hm : L[m]? = some (a, jj_o ci fs)) (hc : jj_cls ci Cn T N ty) (hk : f < N) (hw : jj_fld own index T f) (hfin : (T f).2.2.2 = false) (hn : narrow (ty f) v = v) (hf : fits (ty f) v = true) (hlen : f < fs.length) (hL' : L.set m (a, jj_o ci (fs.set f v)) = L') (d : jj_D cc pc (.putfield index) 3 nx) (kk : ∀ G', GL G0 L' G' → jj_J X G' kc kn nx lv st) : jj_J X G kc kn pc lv (v :: .ref a :: st) :=
  jj_put F (hL.at hm) hc hk hw hfin hn hf hlen d (kk _ (hL.set hm _ hL'))
theorem cg_putF (F : jj_F X own cc rm) (hL : GL G0 L G) {m a ci index f N : Nat} {Cn : String} {T : u_T} {ty : Nat → FieldType} {fs : List Value} {v : Value} {L' : Gl} (hm : L[m]? = some (a, jj_o ci fs)) (hc : jj_cls ci Cn T N ty) (hk : f < N) (hw : jj_fld own index T f) (hin : jj_isInit X) (hdec : (T f).1 = own) (hfin : (T f).2.2.2 = true) (hn : narrow (ty f) v = v) (hf : fits (ty f) v = true) (hlen : f < fs.length) (hL' : L.set m (a, jj_o ci (fs.set f v)) = L') (d : jj_D cc pc (.putfield index) 3 nx) (kk : ∀ G', GL G0 L' G' → jj_J X G' kc kn nx lv st) : jj_J X G kc kn pc lv (v :: .ref a :: st) :=
  jj_putF F (hL.at hm) hc hk hw hin hdec hfin hn hf hlen d (kk _ (hL.set hm _ hL'))
theorem cg_iast (F : jj_F X own cc rm) (hL : GL G0 L G) {m a n : Nat} {g : Int → Int} {p x : Int} {L' : Gl} (hm : L[m]? = some (a, jj_ai (jj_ac X 0) n g)) (hi : 0 ≤ p ∧ p < n) (hn : n ≤ 100000) (hL' : L.set m (a, jj_ai (jj_ac X 0) n (ju g p x)) = L') (d : jj_D cc pc .iastore 1 nx) (kk : ∀ G', GL G0 L' G' → jj_J X G' kc kn nx lv st) : jj_J X G kc kn pc lv (.int (jI x) :: .int (jI p) :: .ref a :: st) :=
  jj_iast F (hL.at hm) hi hn d (kk _ (hL.set hm _ hL'))
theorem cg_newI (F : jj_F X own cc rm) (hL : GL G0 L G) {N k n : Nat} (hw : Cond.arrayClass .int ∈ jj_GW) (hN : N ≤ 100000) (hr : kc + 1 ≤ rm.cells ∧ kn + N ≤ rm.slots ∧ kc + 1 ≤ k ∧ kn + N ≤ n) (d : jj_D cc pc (.newarray .int) 2 nx) (kk : ∀ (q : Nat) (G' : jj_G), GL G0 (L ++ [(q, jj_ai (jj_ac X 0) N (fun _ => 0))]) G' → jj_J X G' k n nx lv (.ref q :: st)) : jj_J X G kc kn pc lv (.int (jI (N : Int)) :: st) :=
  jj_newI F hw hN hr d (fun q hq => kk q _ (hL.new hq _ rfl))
theorem cg_newQ (F : jj_F X own cc rm) (hL : GL G0 L G) {N k n t index : Nat} {Cn : String} (ht : ∀ ac, (jj_ty ac)[t]? = some (ac t, .object Cn)) (hcl : Cond.classLink own index Cn ∈ jj_GW) (hO : Cn ∈ jj_O) (hN : N ≤ 100000) (hr : kc + 1 ≤ rm.cells ∧ kn + N ≤ rm.slots ∧ kc + 1 ≤ k ∧ kn + N ≤ n) (d : jj_D cc pc (.anewarray index) 3 nx) (kk : ∀ (q : Nat) (G' : jj_G), GL G0 (L ++ [(q, jj_aq (jj_ac X t) N (fun _ => none))]) G' → jj_J X G' k n nx lv (.ref q :: st)) : jj_J X G kc kn pc lv (.int (jI (N : Int)) :: st) :=
  jj_newQ F ht hcl hO hN hr d (fun q hq => kk q _ (hL.new hq _ rfl))
end JG
