theorem sCutIn_14o {s S : Sg} {t x : Int} (n : Nat) (h : ∀ j : Nat, j < n → 0 ≤ s 6 (s 8 (20 * t + j))) (hx : x < 6 * s 13 0) : sCutIn s S t n 14 x = S 14 x := by
  induction n with
  | zero => rfl
  | succ n ih =>
    have := h n (by omega)
    simp only [sCutIn]
    rw [sU_i (by omega), ih (fun j hj => h j (by omega))]
theorem sCutTo_14o {s : Sg} {x : Int} (h1 : sI1 s) (h2 : sI2 s) (hx : x < 6 * s 13 0) (n : Nat) (hn : (n : Int) ≤ s 11 0) : sCutTo s n 14 x = s 14 x := by
  induction n with
  | zero => rfl
  | succ n ih =>
    have g2 := h2.2 n (by omega) (by omega)
    have g3 := (h1.2.2.1 (s 12 n) (by omega) (by omega)).2.2.2.2.2
    simp only [sCutTo]
    rw [sCutIn_14o _ (fun j hj => (h1.2.2.2.2 (s 12 n) j (by omega) (by omega) (by omega) (by omega)).1.2.2) hx, sU_n (by decide), ih (by omega)]
theorem sCutTo_15o {s : Sg} {i : Int} (hi : i ≠ s 13 0) (n : Nat) : sCutTo s n 15 i = s 15 i := by
  induction n with
  | zero => rfl
  | succ n ih => simp only [sCutTo]; rw [sCutIn_n (by decide), sU_i hi, ih]
abbrev aS (ad : Ad) (D : Int) (q a1 a2 : Nat) : Ad := aU (aU (aU ad 20 D q) 21 D a1) 22 D a2
section CK
variable {ac : Nat → ClassId} {ad : Ad} {s e S : Sg} {q a1 a2 : Nat}
theorem aS_20 {D i : Int} (h : i ≠ D) : aS ad D q a1 a2 20 i = ad 20 i := by simp [aS, aU, h]
theorem aS_20s {D : Int} : aS ad D q a1 a2 20 D = q := by simp [aS, aU]
theorem aS_21 {D i : Int} (h : i ≠ D) : aS ad D q a1 a2 21 i = ad 21 i := by simp [aS, aU, h]
theorem aS_21s {D : Int} : aS ad D q a1 a2 21 D = a1 := by simp [aS, aU]
theorem aS_22 {D i : Int} (h : i ≠ D) : aS ad D q a1 a2 22 i = ad 22 i := by simp [aS, aU, h]
theorem aS_22s {D : Int} : aS ad D q a1 a2 22 D = a2 := by simp [aS, aU]
def SideNew (s S : Sg) : Prop := (∀ k, k < 37 → k ≠ 14 → k ≠ 15 → S k = s k) ∧ (∀ x, x < 6 * s 13 0 → S 14 x = s 14 x) ∧ (∀ i, i ≠ s 13 0 → S 15 i = s 15 i) ∧ (∀ k, 12 * s 13 0 ≤ k → k < 120 → s 16 k = -1) ∧ (0 ≤ s 13 0 ∧ s 13 0 < 10)
theorem sMadeTo_0 {d : Int} (n : Nat) (hn : n ≤ 12) (h : ∀ k, 12 * d ≤ k → k < 12 * d + 12 → s 16 k = -1) : sMadeTo s d n = 0 := by
  induction n with
  | zero => rfl
  | succ n ih => simp only [sMadeTo]; rw [ih (by omega), h _ (by omega) (by omega), if_pos rfl]; rfl
theorem SideNew.sec (h : SideNew s S) {i : Int} (hi : 0 ≤ i ∧ i < s 13 0) : sSec S i (-1) = sSec s i (-1) := by
  have key : ∀ n : Nat, n ≤ 6 → sSecTo S i (-1) n = sSecTo s i (-1) n := by
    intro n
    induction n with
    | zero => intro _; rfl
    | succ n ih => intro hn; simp only [sSecTo]; rw [ih (by omega), h.2.1 _ (by omega)]
  exact key 6 (by omega)
theorem ck_20 (h : SideNew s S) : ∀ i, cC ac (aS ad (s 13 0) q a1 a2) (sU S 13 0 (s 13 0 + 1)) e 20 i = cU (cC ac ad s e) 20 (s 13 0) (jj_o 4 [.ref a1, .ref a2, .int (jI 0), .int (jI (sSec S (s 13 0) (-1))), .int (jI (S 15 (s 13 0)))]) 20 i :=
  ki (C := cC ac ad s e) (fun i _ => rfl) (show 0 ≤ s 13 0 ∧ s 13 0 < s 13 0 + 1 by have := h.2.2.2.2; omega) (congrArg (jj_o 4) (by
    show ([.ref (aS ad (s 13 0) q a1 a2 21 (s 13 0)), .ref (aS ad (s 13 0) q a1 a2 22 (s 13 0)), .int (jI (sMadeTo (sU S 13 0 (s 13 0 + 1)) (s 13 0) 12)), .int (jI (sSec (sU S 13 0 (s 13 0 + 1)) (s 13 0) (-1))), .int (jI (S 15 (s 13 0)))] : List Value) = _
    rw [aS_21s, aS_22s, sMadeTo_c (s := s) (s' := sU S 13 0 (s 13 0 + 1)) (by rw [sU_n (by decide), h.1 16 (by decide) (by decide) (by decide)]), sMadeTo_0 12 (by omega) (fun k h1 h2 => h.2.2.2.1 k h1 (by have := h.2.2.2.2; omega)), sSec_c (s := S) (s' := sU S 13 0 (s 13 0 + 1)) rfl])) (fun i hi => (show (0 ≤ i ∧ i < s 13 0 + 1) ↔ (0 ≤ i ∧ i < s 13 0) by omega)) (fun i hi hp => congrArg (jj_o 4) (by
    have hp2 : 0 ≤ i ∧ i < s 13 0 + 1 := hp
    show ([.ref (aS ad (s 13 0) q a1 a2 21 i), .ref (aS ad (s 13 0) q a1 a2 22 i), .int (jI (sMadeTo (sU S 13 0 (s 13 0 + 1)) i 12)), .int (jI (sSec (sU S 13 0 (s 13 0 + 1)) i (-1))), .int (jI (S 15 i))] : List Value) = _
    rw [aS_21 hi, aS_22 hi, sMadeTo_c (s := s) (s' := sU S 13 0 (s 13 0 + 1)) (by rw [sU_n (by decide), h.1 16 (by decide) (by decide) (by decide)]), sSec_c (s := S) (s' := sU S 13 0 (s 13 0 + 1)) rfl, h.sec (by omega), h.2.2.1 i hi]))
theorem ck_21 {C : Cm} (hC : ∀ i, i ≠ s 13 0 → C 21 i = if 0 ≤ i ∧ i < s 13 0 then some (jj_ai (ac 0) 6 (wn 6 (fun j => s 14 (6 * i + j)))) else none) (h : SideNew s S) : ∀ i, cC ac (aS ad (s 13 0) q a1 a2) (sU S 13 0 (s 13 0 + 1)) e 21 i = cU C 21 (s 13 0) (jj_ai (ac 0) 6 (wn 6 (fun j => S 14 (6 * s 13 0 + j)))) 21 i :=
  ki (C := C) hC (show 0 ≤ s 13 0 ∧ s 13 0 < s 13 0 + 1 by have := h.2.2.2.2; omega) rfl (fun i hi => (show (0 ≤ i ∧ i < s 13 0 + 1) ↔ (0 ≤ i ∧ i < s 13 0) by omega)) (fun i hi hp => congrArg (jj_ai (ac 0) 6) (wn_c (fun j h1 h2 => by
    have hp2 : 0 ≤ i ∧ i < s 13 0 + 1 := hp
    exact h.2.1 _ (by omega))))
theorem ck_22 {C : Cm} (hC : ∀ i, i ≠ s 13 0 → C 22 i = if 0 ≤ i ∧ i < s 13 0 then some (jj_aq (ac 4) 12 (mRow ad s i)) else none) (h : SideNew s S) : ∀ i, cC ac (aS ad (s 13 0) q a1 a2) (sU S 13 0 (s 13 0 + 1)) e 22 i = cU C 22 (s 13 0) (jj_aq (ac 4) 12 (fun _ => none)) 22 i :=
  ki (C := C) hC (show 0 ≤ s 13 0 ∧ s 13 0 < s 13 0 + 1 by have := h.2.2.2.2; omega) (congrArg (jj_aq (ac 4) 12) (by
    funext p
    refine if_neg (fun hh => hh.2 ?_)
    show S 16 _ = -1
    rw [h.1 16 (by decide) (by decide) (by decide)]
    exact h.2.2.2.1 _ (by omega) (by have := h.2.2.2.2; omega))) (fun i hi => (show (0 ≤ i ∧ i < s 13 0 + 1) ↔ (0 ≤ i ∧ i < s 13 0) by omega)) (fun i hi hp => congrArg (jj_aq (ac 4) 12) (by
    funext p
    show (if (0 ≤ p ∧ p < 12) ∧ ¬ S 16 (12 * i + p) = -1 then some (ad 23 (12 * i + p)) else none) = _
    rw [h.1 16 (by decide) (by decide) (by decide)]; rfl))
theorem ck_24 (h : SideNew s S) (h23 : ∀ d, 0 ≤ d → d < s 22 0 → 0 ≤ s 23 d ∧ s 23 d < 12 * s 13 0) : ∀ i, cC ac (aS ad (s 13 0) q a1 a2) (sU S 13 0 (s 13 0 + 1)) e 24 i = cC ac ad s e 24 i :=
  kj (fun i => (show (0 ≤ i ∧ i < S 22 0) ↔ (0 ≤ i ∧ i < s 22 0) by rw [h.1 22 (by decide) (by decide) (by decide)])) (fun i hp => congrArg (jj_o 0) (by
    have hp2 : 0 ≤ i ∧ i < S 22 0 := hp
    rw [h.1 22 (by decide) (by decide) (by decide)] at hp2
    have g := h23 i hp2.1 hp2.2
    show ([.ref (aS ad (s 13 0) q a1 a2 20 (S 23 i / 12)), .ref (ad 25 i), .int (jI (S 24 i))] : List Value) = _
    rw [h.1 23 (by decide) (by decide) (by decide), h.1 24 (by decide) (by decide) (by decide), aS_20 (by omega)]))
theorem ck_26 (h : SideNew s S) (h32 : ∀ d, 0 ≤ d → d < s 31 0 → 0 ≤ s 32 d ∧ s 32 d < 12 * s 13 0) : ∀ i, cC ac (aS ad (s 13 0) q a1 a2) (sU S 13 0 (s 13 0 + 1)) e 26 i = cC ac ad s e 26 i :=
  kj (fun i => (show (0 ≤ i ∧ i < S 31 0) ↔ (0 ≤ i ∧ i < s 31 0) by rw [h.1 31 (by decide) (by decide) (by decide)])) (fun i hp => congrArg (jj_o 3) (by
    have hp2 : 0 ≤ i ∧ i < S 31 0 := hp
    rw [h.1 31 (by decide) (by decide) (by decide)] at hp2
    have g := h32 i hp2.1 hp2.2
    show ([.ref (aS ad (s 13 0) q a1 a2 20 (S 32 i / 12)), .ref (ad 23 (S 32 i)), .ref (ad 27 i), .int (jI (S 33 i))] : List Value) = _
    rw [h.1 32 (by decide) (by decide) (by decide), h.1 33 (by decide) (by decide) (by decide), aS_20 (by omega)]))
theorem cHouse (h : SideNew s S) : jj_o 8 (fHouse (aS ad (s 13 0) q a1 a2) (sU S 13 0 (s 13 0 + 1))) = jj_o 8 ((fHouse ad s).set 5 (.int (jI (s 13 0 + 1)))) := by
  show jj_o 8 [.int (jI (S 0 0)), .ref (ad 1 0), .int (jI (S 1 0)), .ref (ad 4 0), .ref (ad 2 0), .int (jI (s 13 0 + 1)), .ref (ad 3 0), .int (jI (S 22 0)), .ref (ad 6 0), .ref (ad 10 0)] = _
  rw [h.1 0 (by decide) (by decide) (by decide), h.1 1 (by decide) (by decide) (by decide), h.1 22 (by decide) (by decide) (by decide)]; rfl
end CK
