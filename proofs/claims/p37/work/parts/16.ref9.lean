/-! splicing -/
abbrev sSplA (s : Sg) (t v w : Int) : Prop := (0 ≤ t ∧ t ≤ s 1 0 - 1) ∧ (v = -1 ∨ (0 ≤ v ∧ v ≤ s 1 0 - 1)) ∧ (0 ≤ w ∧ w ≤ 3)
abbrev sSplC (s : Sg) (t f u v : Int) : Prop := ¬ sPlay s t = 0 ∧ (v = -1 ∨ ¬ sPlay s v = 0) ∧ s 1 0 < 30 ∧ sSpans s t f u + (if v = -1 then 0 else s 7 v) ≤ 20
def t_splice (s : Sg) (t f u v w : Int) : Int := if ¬ sSplA s t v w then 1 else if ¬ (0 ≤ f ∧ f < u ∧ u ≤ sLen s t) then 2 else if sSplC s t f u v then 0 else 3
def sSplG (s : Sg) (t v : Int) : Int := if v = -1 then s 4 t else if s 4 t < s 4 v then s 4 v else s 4 t
def sSplT (s : Sg) (t f u v : Int) : Sg := if v = -1 then sCopy (sU s 37 0 0) t f u else sCopy (sCopy (sU s 37 0 0) t f u) v 0 (sLen s v)
def n_splice (s : Sg) (t f u v w : Int) : Sg := if t_splice s t f u v w = 0 then sMakes (sU (sSplT s t f u v) 6 (s 1 0) (-1)) (sSplG s t v + 1) w else sU s 37 0 (t_splice s t f u v w)
def r_splice (s : Sg) (t f u v w : Int) : Int := if t_splice s t f u v w = 0 then s 1 0 else 0
theorem sLen_lt {s : Sg} (h1 : sI1 s) {t : Int} (ht : 0 ≤ t ∧ t < s 1 0) (j : Nat) (hj : (j : Int) < s 7 t) : sLenTo s t j < sLenTo s t (j + 1) := by
  have g := (h1.2.2.2.2 t j ht.1 ht.2 (by omega) hj).2
  show _ < sLenTo s t j + _
  omega
theorem sLen_le {s : Sg} (h1 : sI1 s) {t : Int} (ht : 0 ≤ t ∧ t < s 1 0) (j : Nat) (hj : (j : Int) ≤ s 7 t) : (j : Int) ≤ sLenTo s t j ∧ sLenTo s t j ≤ 900 * j := by
  induction j with
  | zero => exact ⟨Int.le_refl _, Int.le_refl _⟩
  | succ j ih =>
    have g1 := ih (by omega)
    have g2 := (h1.2.2.2.2 t j ht.1 ht.2 (by omega) (by omega)).2
    show _ ≤ sLenTo s t j + _ ∧ sLenTo s t j + _ ≤ _
    omega
theorem sLen_in {s : Sg} (h1 : sI1 s) {t : Int} (ht : 0 ≤ t ∧ t < s 1 0) : 1 ≤ sLen s t ∧ sLen s t ≤ 18000 := by
  have g := (h1.2.2.1 t ht.1 ht.2).2.2.2.2.2
  have g2 := sLen_le h1 ht (s 7 t).toNat (by omega)
  unfold sLen
  omega
theorem sLen37 (s : Sg) (x : Int) : sLenTo (sU s 37 0 x) = sLenTo s := by
  funext t j
  exact sLenTo_c j (fun _ _ => rfl) (fun _ _ => rfl)
theorem sSpansTo37 (s : Sg) (x t f u : Int) (n : Nat) : sSpansTo (sU s 37 0 x) t f u n = sSpansTo s t f u n := by
  induction n with
  | zero => rfl
  | succ n ih => unfold sSpansTo; rw [ih, sLen37]
theorem sSpans37 (s : Sg) (x t f u : Int) : sSpans (sU s 37 0 x) t f u = sSpans s t f u := sSpansTo37 s x t f u _
/-- the first copy leaves the tapes that there are -/
theorem sCopy_c {s : Sg} (h1 : sI1 s) (hT : s 1 0 < 30) {t f u : Int} (ht : 0 ≤ t ∧ t < s 1 0) (hfu : f < u) {k : Nat} (hk : k = 8 ∨ k = 9 ∨ k = 10) {i : Int} (hi : i < 20 * s 1 0) : sCopy (sU s 37 0 0) t f u k i = s k i := by
  have g := (h1.2.2.1 t ht.1 ht.2).2.2.2.2.2
  have g2 := (h1.2.2.2.1 (s 1 0) (by omega) (by omega)).1
  have e := sCopyTo_c (s := sU s 37 0 0) (t := t) (f := f) (u := u) (i := i) hk (show 0 ≤ s 7 (s 1 0) by omega) (fun j hj => by rw [sLen37]; exact sLen_lt h1 ht j hj) hfu (s 7 t).toNat (show _ ≤ s 7 t by omega) (show i < 20 * s 1 0 + s 7 (s 1 0) by omega)
  refine Eq.trans e ?_
  rcases hk with rfl | rfl | rfl <;> rfl
theorem sCopy_7 {s : Sg} {t f u i : Int} (h : i ≠ s 1 0) : sCopy (sU s 37 0 0) t f u 7 i = s 7 i := sCopyTo_7 (s := sU s 37 0 0) _ h
theorem sCopy_n {s : Sg} {t f u : Int} {k : Nat} (h : k ≠ 7 ∧ k ≠ 8 ∧ k ≠ 9 ∧ k ≠ 10) : sCopy s t f u k = s k := sCopyTo_n h _
theorem sCopy_T {s : Sg} (h1 : sI1 s) {t f u : Int} (ht : 0 ≤ t ∧ t < s 1 0) (hfu : f < u) : sCopy (sU s 37 0 0) t f u 7 (s 1 0) = s 7 (s 1 0) + sSpans s t f u := by
  have g := (h1.2.2.1 t ht.1 ht.2).2.2.2.2.2
  have e := sCopyTo_T (s := sU s 37 0 0) (t := t) (f := f) (u := u) (fun j hj => by rw [sLen37]; exact sLen_lt h1 ht j hj) hfu (s 7 t).toNat (show _ ≤ s 7 t by omega)
  rw [sSpansTo37] at e
  exact e
theorem sCopy_len {s : Sg} (h1 : sI1 s) (hT : s 1 0 < 30) {t f u v : Int} (ht : 0 ≤ t ∧ t < s 1 0) (hv : 0 ≤ v ∧ v < s 1 0) (hfu : f < u) (j : Nat) (hj : j ≤ 20) : sLenTo (sCopy (sU s 37 0 0) t f u) v j = sLenTo s v j :=
  sLenTo_c j (fun i hi => sCopy_c h1 hT ht hfu (Or.inr (Or.inl rfl)) (by omega)) (fun i hi => sCopy_c h1 hT ht hfu (Or.inr (Or.inr rfl)) (by omega))
theorem sCopy_sLen {s : Sg} (h1 : sI1 s) (hT : s 1 0 < 30) {t f u v : Int} (ht : 0 ≤ t ∧ t < s 1 0) (hv : 0 ≤ v ∧ v < s 1 0) (hfu : f < u) : sLen (sCopy (sU s 37 0 0) t f u) v = sLen s v := by
  have g := (h1.2.2.1 v hv.1 hv.2).2.2.2.2.2
  unfold sLen
  rw [sCopy_7 (by omega), sCopy_len h1 hT ht hv hfu _ (by omega)]

