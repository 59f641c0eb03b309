/-! ===== J: the kit's rows over one abstract heap (a function from addresses to cells), with the method's facts bundled ===== -/
def jI (x : Int) : Int32 := Int32.ofInt x
def jL (x : Int) : Int64 := Int64.ofInt x
abbrev jj_G : Type := Nat → Option va_E
def jj_u (G : jj_G) (a : Nat) (e : va_E) : jj_G := fun q => if q = a then some e else G q
theorem jj_us {G : jj_G} {a : Nat} {e : va_E} : jj_u G a e a = some e := by simp [jj_u]
theorem jj_un {G : jj_G} {a q : Nat} {e : va_E} (h : q ≠ a) : jj_u G a e q = G q := by simp [jj_u, h]
/-- cells: a row of ints, of longs, of references; an object -/
def jj_ai (cA : ClassId) (n : Nat) (g : Int → Int) : va_E := .inl (cA, n, .inl (fun i => jI (g (i : Int))))
def jj_al (cA : ClassId) (n : Nat) (g : Int → Int) : va_E := .inl (cA, n, .inr (.inl (fun i => jL (g (i : Int)))))
def jj_aq (cA : ClassId) (n : Nat) (g : Int → Option Nat) : va_E := .inl (cA, n, .inr (.inr (.inr (.inr (fun i => g (i : Int))))))
def jj_o (ci : Nat) (fs : List Value) : va_E := .inr (ci, fs)
def ju {α : Type} (g : Int → α) (i : Int) (x : α) : Int → α := fun j => if j = i then x else g j
theorem ju_s {α : Type} {g : Int → α} {i : Int} {x : α} : ju g i x i = x := by simp [ju]
theorem ju_n {α : Type} {g : Int → α} {i j : Int} {x : α} (h : j ≠ i) : ju g i x j = g j := by simp [ju, h]
def jj_L (G : jj_G) (ws : va_W) : Prop := ∀ (a : Nat) (e : va_E), G a = some e ↔ ∃ k : Nat, ws[k]? = some (a, e)
def jj_W (D : va_G) (A : Nat → Prop) (G : jj_G) (H : Heap) : Prop := ∃ ws : va_W, va_P D vwCl ws H ∧ va_D A ws ∧ jj_L G ws
def jj_A (G : jj_G) (sz : Nat) : Nat → Prop := fun q => G q ≠ none ∨ sz ≤ q
theorem jj_L.set {G : jj_G} {ws : va_W} {A : Nat → Prop} {k a : Nat} {e0 e : va_E} (h : jj_L G ws) (hD : va_D A ws) (hk : ws[k]? = some (a, e0)) : jj_L (jj_u G a e) (ws.set k (a, e)) := by
  have hl := (List.getElem?_eq_some_iff.mp hk).1
  intro b e'
  by_cases hb : b = a
  · subst hb
    rw [jj_us]
    constructor
    · intro h1
      cases h1
      exact ⟨k, List.getElem?_set_self hl⟩
    · rintro ⟨j, hj⟩
      by_cases hjk : j = k
      · subst hjk
        rw [List.getElem?_set_self hl] at hj
        cases hj; rfl
      · rw [List.getElem?_set_ne (Ne.symm hjk)] at hj
        exact absurd (hD.1 j k _ _ hj hk rfl) hjk
  · rw [jj_un hb]
    refine (h b e').trans ⟨?_, ?_⟩
    · rintro ⟨j, hj⟩
      refine ⟨j, ?_⟩
      by_cases hjk : j = k
      · subst hjk
        rw [hk] at hj
        cases hj
        exact absurd rfl hb
      · rw [List.getElem?_set_ne (Ne.symm hjk)]; exact hj
    · rintro ⟨j, hj⟩
      by_cases hjk : j = k
      · subst hjk
        rw [List.getElem?_set_self hl] at hj
        cases hj
        exact absurd rfl hb
      · rw [List.getElem?_set_ne (Ne.symm hjk)] at hj
        exact ⟨j, hj⟩
theorem jj_L.fresh {G : jj_G} {ws : va_W} {A : Nat → Prop} {a : Nat} {e : va_E} (h : jj_L G ws) (hD : va_D A (ws ++ [(a, e)])) : G a = none := by
  cases hg : G a with
  | none => rfl
  | some x =>
    obtain ⟨k, hk⟩ := (h a x).mp hg
    have hl := (List.getElem?_eq_some_iff.mp hk).1
    have h1 : (ws ++ [(a, e)])[k]? = some (a, x) := by rw [List.getElem?_append_left hl]; exact hk
    have h2 : (ws ++ [(a, e)])[ws.length]? = some (a, e) := by simp
    have := hD.1 _ _ _ _ h1 h2 rfl
    omega
theorem jj_L.push {G : jj_G} {ws : va_W} {a : Nat} {e : va_E} (h : jj_L G ws) (hf : G a = none) : jj_L (jj_u G a e) (ws ++ [(a, e)]) := by
  intro b e'
  have key : ∀ (j : Nat) (q : Nat × va_E), (ws ++ [(a, e)])[j]? = some q ↔ ws[j]? = some q ∨ (j = ws.length ∧ q = (a, e)) := by
    intro j q
    by_cases hl : j < ws.length
    · rw [List.getElem?_append_left hl]
      exact ⟨Or.inl, fun h => h.elim id (fun h => absurd h.1 (by omega))⟩
    · rw [List.getElem?_append_right (by omega)]
      constructor
      · intro hj
        have hz : j - ws.length < 1 := (List.getElem?_eq_some_iff.mp hj).1
        have h0 : j - ws.length = 0 := by omega
        rw [h0] at hj
        cases hj
        exact Or.inr ⟨by omega, rfl⟩
      · rintro (h1 | ⟨rfl, rfl⟩)
        · exact absurd (List.getElem?_eq_some_iff.mp h1).1 hl
        · simp
  by_cases hb : b = a
  · subst hb
    rw [jj_us]
    constructor
    · intro h1; cases h1
      exact ⟨ws.length, (key _ _).mpr (Or.inr ⟨rfl, rfl⟩)⟩
    · rintro ⟨j, hj⟩
      rcases (key _ _).mp hj with h1 | ⟨-, h1⟩
      · have := (h b e').mpr ⟨j, h1⟩
        rw [hf] at this; cases this
      · cases h1; rfl
  · rw [jj_un hb]
    refine (h b e').trans ⟨?_, ?_⟩
    · rintro ⟨j, hj⟩
      exact ⟨j, (key _ _).mpr (Or.inl hj)⟩
    · rintro ⟨j, hj⟩
      rcases (key _ _).mp hj with h1 | ⟨-, h1⟩
      · exact ⟨j, h1⟩
      · cases h1; exact absurd rfl hb
/-- one cell of it -/
theorem jj_W.at {D : va_G} {A : Nat → Prop} {G : jj_G} {H : Heap} {a : Nat} {e : va_E} (h : jj_W D A G H) (hG : G a = some e) : va_P D vwCl [(a, e)] H ∧ A a := by
  obtain ⟨ws, hP, hD, hL⟩ := h
  obtain ⟨k, hk⟩ := (hL a e).mp hG
  exact ⟨fun j q hj => by
    have hz : j < 1 := (List.getElem?_eq_some_iff.mp hj).1
    rw [show j = 0 by omega] at hj
    cases hj
    exact hP k _ hk, hD.2 k _ hk⟩
theorem jj_W.dom {D : va_G} {A : Nat → Prop} {G : jj_G} {H : Heap} (h : jj_W D A G H) {a : Nat} (hG : G a ≠ none) : A a ∧ a < H.size := by
  cases hg : G a with
  | none => exact absurd hg hG
  | some e =>
    obtain ⟨hP, hA⟩ := h.at hg
    exact ⟨hA, (hP 0 (a, e) rfl).lt⟩
/-- the world seen by a callee -/
theorem jj_W.into {D : va_G} {A : Nat → Prop} {G : jj_G} {H : Heap} (h : jj_W D A G H) : jj_W D (jj_A G H.size) G H := by
  obtain ⟨ws, hP, hD, hL⟩ := h
  exact ⟨ws, hP, hD.weaken (fun k q hk _ => Or.inl (by rw [(hL q.1 q.2).mpr ⟨k, hk⟩]; exact fun h => by cases h)), hL⟩
theorem jj_W.back {D : va_G} {A B : Nat → Prop} {G : jj_G} {H : Heap} (h : jj_W D B G H) (hBA : ∀ q, B q → A q) : jj_W D A G H := by
  obtain ⟨ws, hP, hD, hL⟩ := h
  exact ⟨ws, hP, hD.weaken (fun k q _ hB => hBA _ hB), hL⟩
theorem jj_W.kept {D : va_G} {A : Nat → Prop} {G : jj_G} {H H1 : Heap} (h : jj_W D A G H) (hq : ∀ q : Nat, q < H.size → G q ≠ none → H1[q]? = H[q]?) : jj_W D A G H1 := by
  obtain ⟨ws, hP, hD, hL⟩ := h
  exact ⟨ws, hP.kept (fun k q hk => hq q.1 ((hP k q hk).lt) (by rw [(hL q.1 q.2).mpr ⟨k, hk⟩]; exact fun h => by cases h)), hD, hL⟩
/-! locals: a list by slots, none where nothing is known -/
def jj_l (ls : Array Slot) (nL : Nat) (lv : List (Option Value)) : Prop := ls.size = nL ∧ lv_wf ls ∧ ∀ (i : Nat) (v : Value), lv[i]? = some (some v) → ls[i]? = some (.val v)
def jj_p : Nat → List (Option Value) → List (Nat × Value)
  | _, [] => []
  | i, none :: r => jj_p (i + 1) r
  | i, some v :: r => (i, v) :: jj_p (i + 1) r
theorem jj_p_iff : ∀ (lv : List (Option Value)) (i j : Nat) (v : Value), (j, v) ∈ jj_p i lv ↔ ∃ k, j = i + k ∧ lv[k]? = some (some v)
  | [], i, j, v => by simp [jj_p]
  | none :: r, i, j, v => by
    rw [jj_p, jj_p_iff r (i + 1) j v]
    constructor
    · rintro ⟨k, h1, h2⟩
      exact ⟨k + 1, by omega, by simpa using h2⟩
    · rintro ⟨k, h1, h2⟩
      cases k with
      | zero => simp at h2
      | succ k => exact ⟨k, by omega, by simpa using h2⟩
  | some w :: r, i, j, v => by
    rw [jj_p, List.mem_cons, jj_p_iff r (i + 1) j v]
    constructor
    · rintro (h | ⟨k, h1, h2⟩)
      · cases h; exact ⟨0, rfl, rfl⟩
      · exact ⟨k + 1, by omega, by simpa using h2⟩
    · rintro ⟨k, h1, h2⟩
      cases k with
      | zero =>
        simp at h2
        left; rw [h2]; simp [h1]
      | succ k => exact Or.inr ⟨k, by omega, by simpa using h2⟩
theorem jj_l.has {ls : Array Slot} {nL : Nat} {lv : List (Option Value)} (h : jj_l ls nL lv) : lv_has ls nL (jj_p 0 lv) := by
  refine ⟨h.1, h.2.1, fun q hq => ?_⟩
  obtain ⟨k, h1, h2⟩ := (jj_p_iff lv 0 q.1 q.2).mp hq
  have := h.2.2 k q.2 h2
  rw [show q.1 = k by omega]
  exact this
theorem jj_l.of {ls : Array Slot} {nL : Nat} {lv : List (Option Value)} {l : List (Nat × Value)} (h : lv_has ls nL l) (hl : ∀ q ∈ jj_p 0 lv, q ∈ l) : jj_l ls nL lv :=
  ⟨h.1, h.2.1, fun i v hv => h.2.2 (i, v) (hl _ ((jj_p_iff lv 0 i v).mpr ⟨i, by omega, hv⟩))⟩
def jj_nc (lv : List (Option Value)) (i : Nat) : Bool := match i with
  | 0 => true
  | j + 1 => match lv[j]? with
    | some (some w) => w.category != 2
    | _ => true
theorem jj_l.set1 {ls' : Array Slot} {nL i : Nat} {lv : List (Option Value)} {v : Value} (h : lv_has ls' nL ((i, v) :: (jj_p 0 lv).filter (fun q => !(q.1 == i) && !(q.1 + 1 == i && q.2.category == 2)))) (hc : jj_nc lv i = true) : jj_l ls' nL (lv.set i (some v)) := by
  refine jj_l.of h fun q hq => ?_
  obtain ⟨k, h1, h2⟩ := (jj_p_iff _ 0 q.1 q.2).mp hq
  have hk : q.1 = k := by omega
  by_cases hki : k = i
  · subst hki
    have hlt : k < lv.length := by
      have := (List.getElem?_eq_some_iff.mp h2).1
      simpa using this
    rw [List.getElem?_set_self hlt] at h2
    have h3 : v = q.2 := by simpa using h2
    rw [h3, ← hk]
    exact List.mem_cons_self
  · rw [List.getElem?_set_ne (Ne.symm hki)] at h2
    refine List.mem_cons_of_mem _ (List.mem_filter.mpr ⟨(jj_p_iff _ 0 q.1 q.2).mpr ⟨k, by omega, h2⟩, ?_⟩)
    have hne : (q.1 == i) = false := by rw [hk]; simpa using hki
    rw [hne]
    by_cases hn : q.1 + 1 = i
    · have hi : i = k + 1 := by omega
      subst hi
      simp only [jj_nc, h2] at hc
      have : (q.2.category == 2) = false := by simpa using hc
      rw [this]; simp
    · have : (q.1 + 1 == i) = false := by simpa using hn
      rw [this]; simp
theorem jj_l.set2 {ls' : Array Slot} {nL i : Nat} {lv : List (Option Value)} {v : Value} (h : lv_has ls' nL ((i, v) :: (jj_p 0 lv).filter (fun q => !(q.1 == i) && (!(q.1 == i + 1) && !(q.1 + 1 == i && q.2.category == 2))))) (hc : jj_nc lv i = true) : jj_l ls' nL ((lv.set i (some v)).set (i + 1) none) := by
  refine jj_l.of h fun q hq => ?_
  obtain ⟨k, h1, h2⟩ := (jj_p_iff _ 0 q.1 q.2).mp hq
  have hk : q.1 = k := by omega
  have hk1 : k ≠ i + 1 := by
    intro e
    subst e
    have hlt := (List.getElem?_eq_some_iff.mp h2).1
    rw [List.getElem?_set_self (by simpa using hlt)] at h2
    cases h2
  rw [List.getElem?_set_ne (Ne.symm hk1)] at h2
  by_cases hki : k = i
  · subst hki
    have hlt : k < lv.length := by
      have := (List.getElem?_eq_some_iff.mp h2).1
      simpa using this
    rw [List.getElem?_set_self hlt] at h2
    have h3 : v = q.2 := by simpa using h2
    rw [h3, ← hk]
    exact List.mem_cons_self
  · rw [List.getElem?_set_ne (Ne.symm hki)] at h2
    refine List.mem_cons_of_mem _ (List.mem_filter.mpr ⟨(jj_p_iff _ 0 q.1 q.2).mpr ⟨k, by omega, h2⟩, ?_⟩)
    have hne : (q.1 == i) = false := by rw [hk]; simpa using hki
    have hne1 : (q.1 == i + 1) = false := by rw [hk]; simpa using hk1
    rw [hne, hne1]
    by_cases hn : q.1 + 1 = i
    · have hi : i = k + 1 := by omega
      subst hi
      simp only [jj_nc, h2] at hc
      have : (q.2.category == 2) = false := by simpa using hc
      rw [this]; simp
    · have : (q.1 + 1 == i) = false := by simpa using hn
      rw [this]; simp
/-! the words that hold in every state of the run -/
def jj_GW : List Cond := lw_tbl.filter goodWord
def jj_tw : Cond → Bool
  | .methodLinkNest .. => true
  | .castable .. => true
  | .declares .. => true
  | _ => false
def jj_T : List Cond := lw_tbl.filter jj_tw
def jj_sw : Cond → Option (String × Nat × String)
  | .stringRef o k t => some (o, k, t)
  | _ => none
def jj_S : List (String × Nat × String) := lw_tbl.filterMap jj_sw
def jj_O : List String := ["MatrixHouse$Tape", "MatrixHouse$Side", "MatrixHouse$Stamper", "MatrixHouse$Disc", "MatrixHouse$Sale"]
def jj_N : List (String × String) := [("java/lang/IllegalArgumentException", "java/lang/IndexOutOfBoundsException"), ("java/lang/IllegalStateException", "java/lang/IndexOutOfBoundsException"), ("java/lang/IllegalStateException", "java/lang/IllegalArgumentException")]
/-- the array classes: ints, longs, and the rows of objects -/
def jj_ty (ac : Nat → ClassId) : List (ClassId × FieldType) := [(ac 0, .int), (ac 1, .int), (ac 2, .object "MatrixHouse$Tape"), (ac 3, .object "MatrixHouse$Side"), (ac 4, .object "MatrixHouse$Stamper"), (ac 5, .object "MatrixHouse$Disc"), (ac 6, .object "MatrixHouse$Sale")]
def jj_E (D : va_G) (ac : Nat → ClassId) (A : Nat → Prop) (U : State) (H : Heap) : Prop :=
  (∀ w ∈ jj_GW, w.before #[] U = true) ∧ va_K D vwCl (jj_ty ac) U ∧ (∀ q ∈ jj_S, ∃ a : Nat, vk_R q.1 q.2.1 q.2.2 a U) ∧ (∀ w ∈ jj_T, va_Nw w U) ∧ (∀ C ∈ jj_O, va_AO C U) ∧ (∀ q ∈ jj_N, va_Nc q.1 q.2 U) ∧
  vx_Zq Bundle.tN "UNASSIGNED_STACK" Bundle.steD A U H ∧ vx_Zq Bundle.tN "SUPPRESSED_SENTINEL" Bundle.listD A U H
theorem jj_gw {w : Cond} (i : Nat) (h : lw_tbl[i]? = some w) (hg : goodWord w = true) : w ∈ jj_GW := List.mem_filter.mpr ⟨List.mem_of_getElem? h, hg⟩
theorem jj_tw_mem {w : Cond} (i : Nat) (h : lw_tbl[i]? = some w) (hg : jj_tw w = true) : w ∈ jj_T := List.mem_filter.mpr ⟨List.mem_of_getElem? h, hg⟩
theorem jj_gw_good {w : Cond} (h : w ∈ jj_GW) : goodWord w = true := (List.mem_filter.mp h).2
theorem jj_warmT {w : Cond} (hw : w ∈ jj_T) {s U : State} (hW : s.WarmedH U.vm) (h : va_Nw w s) : va_Nw w U := by
  have h2 := (List.mem_filter.mp hw).2
  cases w <;> first | exact va_Nw.warmM hW h | exact va_Nw.warmC hW h | exact va_Nw.warmD hW h | (simp [jj_tw] at h2; done)
theorem jj_E.warm {D : va_G} {ac : Nat → ClassId} {A B : Nat → Prop} {s U : State} {H H1 : Heap} (h : jj_E D ac A s H) (hW : s.WarmedH U.vm) (hq : ∀ a : Nat, a < H.size → ¬ A a → H1[a]? = H[a]?) (hAB : ∀ q, B q → A q) : jj_E D ac B U H1 := by
  obtain ⟨h1, h2, h3, h4, h5, h6, h7, h8⟩ := h
  refine ⟨fun w hw => word_at hW (good_of_word (jj_gw_good hw)) (h1 w hw), va_K.moved hW.alike h2, fun q hqq => ?_, fun w hw => jj_warmT hw hW (h4 w hw), fun C hC => va_AO.moved hW.alike (h5 C hC), fun q hqq => va_Nc.moved hW.alike (h6 q hqq), ((vx_Zq.moved hW.alike h7).kept hq).narrow hAB, ((vx_Zq.moved hW.alike h8).kept hq).narrow hAB⟩
  obtain ⟨a, ha⟩ := h3 q hqq
  exact ⟨a, vk_R.warm hW ha⟩
