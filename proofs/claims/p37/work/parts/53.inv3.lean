/-! ===== kept by session and splice: a tape that is new ===== -/
/-- what a new tape's spans are: of takes that there are, parts of them -/
def NewSp (s S : Sg) : Prop := ∀ j : Int, 0 ≤ j → j < S 7 (s 1 0) → (0 ≤ S 8 (20 * s 1 0 + j) ∧ S 8 (20 * s 1 0 + j) ≤ s 1 0 ∧ 0 ≤ S 6 (S 8 (20 * s 1 0 + j))) ∧ (0 ≤ S 9 (20 * s 1 0 + j) ∧ S 9 (20 * s 1 0 + j) < S 10 (20 * s 1 0 + j) ∧ S 10 (20 * s 1 0 + j) ≤ 900)
theorem TkAt_o {s S : Sg} {t : Int} (h7 : S 7 t = s 7 t) (h20 : s 7 t ≤ 20) (h8 : ∀ j : Int, 0 ≤ j → j < 20 → S 8 (20 * t + j) = s 8 (20 * t + j) ∧ S 9 (20 * t + j) = s 9 (20 * t + j) ∧ S 10 (20 * t + j) = s 10 (20 * t + j)) {x b : Int} : TkAt S t x b ↔ TkAt s t x b := by
  have hl : ∀ n : Nat, n ≤ 20 → sLenTo S t n = sLenTo s t n := fun n hn => sLenTo_c n (fun j hj => (h8 j (by omega) (by omega)).2.1) (fun j hj => (h8 j (by omega) (by omega)).2.2)
  unfold TkAt
  rw [h7]
  constructor
  · rintro ⟨j, a1, a2, a3, a4⟩
    rw [hl j (by omega)] at a2
    rw [hl (j + 1) (by omega)] at a3
    rw [(h8 j (by omega) (by omega)).1] at a4
    exact ⟨j, a1, a2, a3, a4⟩
  · rintro ⟨j, a1, a2, a3, a4⟩
    rw [← hl j (by omega)] at a2
    rw [← hl (j + 1) (by omega)] at a3
    rw [← (h8 j (by omega) (by omega)).1] at a4
    exact ⟨j, a1, a2, a3, a4⟩
section NT
variable {s e e' S : Sg} {g w a f u : Int}
theorem sMakes_n {k : Nat} (h : k ≠ 1 ∧ k ≠ 2 ∧ k ≠ 4 ∧ k ≠ 5) : sMakes S g w k = S k := by
  unfold sMakes; rw [sU_n h.1, sU_n h.2.2.2, sU_n h.2.2.1, sU_n h.2.1]
theorem TapeNew.I1 (h : TapeNew s e e' S a f u) (I : sI1 s) (hT : s 1 0 < 30) (hg : 0 ≤ g ∧ g ≤ s 1 0) (hw : 0 ≤ w ∧ w ≤ 3) (ha : -1 ≤ a ∧ a ≤ 5) (h7 : 1 ≤ S 7 (s 1 0) ∧ S 7 (s 1 0) ≤ 20) (hsp : NewSp s S) : sI1 (sMakes S g w) := by
  have e1 : sMakes S g w 1 0 = s 1 0 + 1 := congrArg (· + 1) h.h1
  have e2 : ∀ i, sMakes S g w 2 i = if i = s 1 0 then 0 else s 2 i := fun i => by rw [← h.h1, ← h.hr 2 (by omega)]; rfl
  have e4 : ∀ i, sMakes S g w 4 i = if i = s 1 0 then g else s 4 i := fun i => by rw [← h.h1, ← h.hr 4 (by omega)]; rfl
  have e5 : ∀ i, sMakes S g w 5 i = if i = s 1 0 then w else s 5 i := fun i => by rw [← h.h1, ← h.hr 5 (by omega)]; rfl
  have i1 := I.2.1
  unfold sI1
  rw [e1, sMakes_n (k := 0) (by decide), h.hr 0 (by omega), sMakes_n (k := 3) (by decide), h.hr 3 (by omega), sMakes_n (k := 6) (by decide), sMakes_n (k := 7) (by decide), sMakes_n (k := 8) (by decide), sMakes_n (k := 9) (by decide), sMakes_n (k := 10) (by decide)]
  refine ⟨I.1, by omega, fun t h1 h2 => ?_, fun t h1 h2 => ?_, fun t j h1 h2 h3 h4 => ?_⟩
  · rw [e2, e4, e5]
    by_cases et : t = s 1 0
    · subst et
      have g3 := h.h3T
      rw [if_pos rfl, if_pos rfl, if_pos rfl, h.h6T]
      omega
    · rw [if_neg et, if_neg et, if_neg et, h.h6 t et, h.h7 t et]
      exact I.2.2.1 t h1 (by omega)
  · rw [h.h7 t (by omega)]
    exact I.2.2.2.1 t (by omega) h2
  · by_cases et : t = s 1 0
    · subst et; exact hsp j h3 h4
    · have ht : 0 ≤ t ∧ t < s 1 0 := by omega
      rw [h.h7 t et] at h4
      have g7 := I.tape ht
      have gs := I.span ht ⟨h3, h4⟩
      obtain ⟨b8, b9, b10⟩ := h.h8 (20 * t + j) (by omega)
      rw [b8, b9, b10, h.h6 _ (by omega)]
      exact gs
theorem TapeNew.T (h : TapeNew s e e' S a f u) (I : sI1 s) (T : cStr s e) (hnew : (e' 2 (s 1 0) = -1 ↔ ¬ S 6 (s 1 0) = -1) ∧ (e' 2 (s 1 0) = -1 → S 7 (s 1 0) = 1 ∧ S 8 (20 * s 1 0) = s 1 0 ∧ e' 5 (s 1 0) = -1) ∧ (¬ e' 2 (s 1 0) = -1 → (0 ≤ e' 2 (s 1 0) ∧ e' 2 (s 1 0) < s 1 0) ∧ (-1 ≤ e' 5 (s 1 0) ∧ e' 5 (s 1 0) < s 1 0) ∧ (0 ≤ e' 3 (s 1 0) ∧ e' 3 (s 1 0) < e' 4 (s 1 0) ∧ e' 4 (s 1 0) ≤ 18000) ∧ ∀ x b, TkAt S (s 1 0) x b → (x < e' 4 (s 1 0) - e' 3 (s 1 0) → TkAt s (e' 2 (s 1 0)) (x + e' 3 (s 1 0)) b) ∧ (e' 4 (s 1 0) - e' 3 (s 1 0) ≤ x → ¬ e' 5 (s 1 0) = -1 ∧ TkAt s (e' 5 (s 1 0)) (x - (e' 4 (s 1 0) - e' 3 (s 1 0))) b))) : cStr (sMakes S g w) e' := by
  have e1 : sMakes S g w 1 0 = s 1 0 + 1 := congrArg (· + 1) h.h1
  have hk : TkAt (sMakes S g w) = TkAt S := TkAt_k (sMakes_n (by decide)) (sMakes_n (by decide)) (sMakes_n (by decide)) (sMakes_n (by decide))
  have old : ∀ t, 0 ≤ t → t < s 1 0 → ∀ x b, TkAt S t x b ↔ TkAt s t x b := fun t h1 h2 x b => TkAt_o (h.h7 t (by omega)) (by have := I.tape ⟨h1, h2⟩; omega) (fun j a1 a2 => h.h8 _ (by omega))
  intro t h1 h2
  rw [e1] at h2
  unfold cStr1
  rw [hk, sMakes_n (k := 6) (by decide), sMakes_n (k := 7) (by decide), sMakes_n (k := 8) (by decide)]
  by_cases et : t = s 1 0
  · subst et
    refine ⟨hnew.1, hnew.2.1, fun hn => ?_⟩
    obtain ⟨a1, a2, a3, a4⟩ := hnew.2.2 hn
    refine ⟨a1, a2, a3, fun x b hx => ⟨fun h3 => (old _ a1.1 a1.2 _ _).mpr ((a4 x b hx).1 h3), fun h3 => ?_⟩⟩
    obtain ⟨b1, b2⟩ := (a4 x b hx).2 h3
    exact ⟨b1, (old _ (by omega) a2.2 _ _).mpr b2⟩
  · have g := T t h1 (by omega)
    unfold cStr1 at g
    rw [h.he 2 t et, h.he 3 t et, h.he 4 t et, h.he 5 t et, h.h6 t et, h.h7 t et, (h.h8 (20 * t) (by omega)).1]
    refine ⟨g.1, g.2.1, fun hn => ?_⟩
    obtain ⟨a1, a2, a3, a4⟩ := g.2.2 hn
    refine ⟨a1, a2, a3, fun x b hx => ?_⟩
    have hx2 := (old t h1 (by omega) x b).mp hx
    refine ⟨fun h3 => (old _ a1.1 (by omega) _ _).mpr ((a4 x b hx2).1 h3), fun h3 => ?_⟩
    obtain ⟨b1, b2⟩ := (a4 x b hx2).2 h3
    exact ⟨b1, (old _ (by omega) (by omega) _ _).mpr b2⟩
/-- all but the tapes is as it was -/
theorem TapeNew.inv (h : TapeNew s e e' S a f u) {c : Int} (H : hInv s e c) (hc : c < 512) (h1' : sI1 (sMakes S g w)) (hz : ∀ i : Int, 20 * s 1 0 + 20 ≤ i → i < 600 → S 8 i = 0 ∧ S 9 i = 0 ∧ S 10 i = 0) (hT : cStr (sMakes S g w) e') : hInv (sMakes S g w) e' (c + 1) := by
  obtain ⟨I1, I2, I3, I4, I5, I6, I7, hc0, K, Z, T, A⟩ := H
  have hq : ∀ k, 11 ≤ k → k ≤ 36 → sMakes S g w k = s k := fun k h1 h2 => by rw [sMakes_n (by omega), h.hr k (by omega)]
  have e1 : sMakes S g w 1 0 = s 1 0 + 1 := congrArg (· + 1) h.h1
  refine ⟨h1', ?_, sI3_c (s := s) (hq _ (by decide) (by decide)) (hq _ (by decide) (by decide)) (hq _ (by decide) (by decide)) I3, sI4_k (s := s) (hq _ (by decide) (by decide)) (hq _ (by decide) (by decide)) (hq _ (by decide) (by decide)) (hq _ (by decide) (by decide)) (hq _ (by decide) (by decide)) (hq _ (by decide) (by decide)) (hq _ (by decide) (by decide)) (hq _ (by decide) (by decide)) (hq _ (by decide) (by decide)) I4, sI5_k (s := s) (hq _ (by decide) (by decide)) (hq _ (by decide) (by decide)) (hq _ (by decide) (by decide)) (hq _ (by decide) (by decide)) (hq _ (by decide) (by decide)) (by omega) I5, sI6_k (s := s) (hq _ (by decide) (by decide)) (hq _ (by decide) (by decide)) (hq _ (by decide) (by decide)) (hq _ (by decide) (by decide)) (hq _ (by decide) (by decide)) I6, sI7_k (s := s) (hq _ (by decide) (by decide)) (hq _ (by decide) (by decide)) (hq _ (by decide) (by decide)) (hq _ (by decide) (by decide)) (hq _ (by decide) (by decide)) (hq _ (by decide) (by decide)) I7, by omega, hK_k (s := s) (hq _ (by decide) (by decide)) (hq _ (by decide) (by decide)) (hq _ (by decide) (by decide)) K, ?_, hT, hA_k (s := s) (e := e) (hq _ (by decide) (by decide)) (hq _ (by decide) (by decide)) (hq _ (by decide) (by decide)) (hq _ (by decide) (by decide)) (hq _ (by decide) (by decide)) (hq _ (by decide) (by decide)) (h.hk 0 (by decide)) (h.hk 1 (by decide)) A⟩
  · unfold sI2 at I2 ⊢
    rw [e1, hq 11 (by decide) (by decide), hq 12 (by decide) (by decide)]
    exact ⟨I2.1, fun j h1 h2 => by have := I2.2 j h1 h2; omega⟩
  · intro i h1 h2
    rw [e1] at h1
    rw [sMakes_n (k := 8) (by decide), sMakes_n (k := 9) (by decide), sMakes_n (k := 10) (by decide)]
    exact hz i (by omega) h2
end NT
theorem g_session {s e : Sg} {c x y z : Int} (h : hInv s e c) (hc : c < 512) (h0 : t_session s x y z = 0) : hInv (n_session s x y z) (eT e (s 1 0) (-1) 0 0 (-1)) (c + 1) := by
  have hn : n_session s x y z = sMakes (sPuts (sU (sU s 37 0 0) 6 (s 1 0) x) (s 1 0) 0 y) 0 z := if_pos h0
  rw [hn]
  obtain ⟨q1, q2, q3⟩ : ((0 ≤ x ∧ x ≤ 5) ∧ (0 ≤ z ∧ z ≤ 3)) ∧ (1 ≤ y ∧ y ≤ 900) ∧ ¬ s 1 0 = 30 := by
    unfold t_session at h0
    split at h0
    · omega
    · rename_i a
      split at h0
      · omega
      · rename_i a2
        split at h0
        · omega
        · rename_i a3; exact ⟨Decidable.of_not_not a, Decidable.of_not_not a2, a3⟩
  clear hn h0
  have I := h.1
  have i1 := I.2.1
  have hf := I.2.2.2.1 (s 1 0) (Int.le_refl _) (by omega)
  have N := tnew_ses (s := s) (e := e) (x := x) (y := y) hf.1 hf.2 h.E
  obtain ⟨S, hS⟩ : ∃ S, S = sPuts (sU (sU s 37 0 0) 6 (s 1 0) x) (s 1 0) 0 y := ⟨_, rfl⟩
  have e7 : S 7 (s 1 0) = 1 := by
    rw [hS, sPuts_7]
    show ju (s 7) (s 1 0) (s 7 (s 1 0) + 1) (s 1 0) = 1
    rw [ju_s]; omega
  have e8 : ∀ i, S 8 i = if i = 20 * s 1 0 then s 1 0 else s 8 i := fun i => by
    rw [hS, sPuts_8]
    show ju (s 8) (20 * s 1 0 + s 7 (s 1 0)) (s 1 0) i = _
    rw [hf.1, Int.add_zero]; rfl
  have e9 : ∀ i, S 9 i = if i = 20 * s 1 0 then 0 else s 9 i := fun i => by
    rw [hS, sPuts_9]
    show ju (s 9) (20 * s 1 0 + s 7 (s 1 0)) 0 i = _
    rw [hf.1, Int.add_zero]; rfl
  have e10 : ∀ i, S 10 i = if i = 20 * s 1 0 then y else s 10 i := fun i => by
    rw [hS, sPuts_10]
    show ju (s 10) (20 * s 1 0 + s 7 (s 1 0)) y i = _
    rw [hf.1, Int.add_zero]; rfl
  rw [← hS] at N ⊢
  clear hS
  refine N.inv h hc (N.I1 I (by omega) (by omega) q1.2 (by omega) (by omega) ?_) (fun i h1 h2 => ?_) (N.T I h.T ⟨?_, fun _ => ?_, fun hno => ?_⟩)
  · intro j h1 h2
    rw [e7] at h2
    have ej : j = 0 := by omega
    subst ej
    rw [Int.add_zero, e8, e9, e10, if_pos rfl, if_pos rfl, if_pos rfl, N.h6T]
    omega
  · rw [e8, e9, e10, if_neg (by omega), if_neg (by omega), if_neg (by omega)]
    exact h.Z i (by omega) h2
  · rw [eT_2, N.h6T]; omega
  · exact ⟨e7, by rw [e8, if_pos rfl], eT_5⟩
  · exact absurd eT_2 hno
/-! the copy of a part of a tape -/
/-- span i of the part of tape t from f on has become span j of the new tape -/
def CpSp (s S : Sg) (t f base : Int) (j i : Nat) : Prop := S 8 (20 * s 1 0 + j) = s 8 (20 * t + i) ∧ s 9 (20 * t + i) ≤ S 9 (20 * s 1 0 + j) ∧ S 9 (20 * s 1 0 + j) < S 10 (20 * s 1 0 + j) ∧ S 10 (20 * s 1 0 + j) ≤ s 10 (20 * t + i) ∧ S 9 (20 * s 1 0 + j) = s 9 (20 * t + i) + (sLenTo S (s 1 0) j - base + f) - sLenTo s t i
def CpW (s : Sg) (t f u : Int) (n : Nat) : Int := if sLenTo s t n ≤ f then 0 else sLa u (sLenTo s t n) - f
def CpAt (s S : Sg) (t f u : Int) (m0 n : Nat) : Prop := ∃ m : Nat, m0 ≤ m ∧ S 7 (s 1 0) = m ∧ (∀ i : Int, i < 20 * s 1 0 + m0 ∨ 20 * s 1 0 + m ≤ i → S 8 i = s 8 i ∧ S 9 i = s 9 i ∧ S 10 i = s 10 i) ∧ sLenTo S (s 1 0) m = sLenTo s (s 1 0) m0 + CpW s t f u n ∧ ∀ j : Nat, m0 ≤ j → j < m → ∃ i : Nat, i < n ∧ CpSp s S t f (sLenTo s (s 1 0) m0) j i
theorem cp_at {s : Sg} {t f u : Int} {m0 : Nat} (hm : s 7 (s 1 0) = m0) (hf : 0 ≤ f) (hfu : f < u) (hlt : ∀ j : Nat, (j : Int) < s 7 t → s 9 (20 * t + j) < s 10 (20 * t + j)) (n : Nat) (hn : (n : Int) ≤ s 7 t) : CpAt s (sCopyTo s t f u n) t f u m0 n := by
  induction n with
  | zero => exact ⟨m0, Nat.le_refl _, hm, fun i _ => ⟨rfl, rfl, rfl⟩, by unfold CpW; rw [if_pos (show sLenTo s t 0 ≤ f from hf)]; show sLenTo s (s 1 0) m0 = sLenTo s (s 1 0) m0 + 0; omega, fun j h1 h2 => by omega⟩
  | succ n ih =>
    obtain ⟨m, a1, a2, a3, a4, a5⟩ := ih (by omega)
    have hl := hlt n (by omega)
    have hL : sLenTo s t (n + 1) = sLenTo s t n + (s 10 (20 * t + n) - s 9 (20 * t + n)) := rfl
    simp only [sCopyTo]
    have e1 : sCopyTo s t f u n 1 0 = s 1 0 := by rw [sCopyTo_n (by decide)]
    obtain ⟨C, hC⟩ : ∃ C, C = sCopyTo s t f u n := ⟨_, rfl⟩
    rw [← hC] at a2 a3 a4 a5 e1 ⊢
    split
    · rename_i hov
      obtain ⟨B, hB⟩ : ∃ B, B = sPuts C (s 8 (20 * t + n)) (s 9 (20 * t + n) + sFi f (sLenTo s t n) - sLenTo s t n) (s 9 (20 * t + n) + sLa u (sLenTo s t (n + 1)) - sLenTo s t n) := ⟨_, rfl⟩
      have b7 : B 7 (s 1 0) = m + 1 := by rw [hB, sPuts_7, e1, ju_s, a2]
      have b8 : ∀ i, B 8 i = if i = 20 * s 1 0 + m then s 8 (20 * t + n) else C 8 i := fun i => by rw [hB, sPuts_8, e1, a2]; rfl
      have b9 : ∀ i, B 9 i = if i = 20 * s 1 0 + m then s 9 (20 * t + n) + sFi f (sLenTo s t n) - sLenTo s t n else C 9 i := fun i => by rw [hB, sPuts_9, e1, a2]; rfl
      have b10 : ∀ i, B 10 i = if i = 20 * s 1 0 + m then s 9 (20 * t + n) + sLa u (sLenTo s t (n + 1)) - sLenTo s t n else C 10 i := fun i => by rw [hB, sPuts_10, e1, a2]; rfl
      rw [← hB]
      have bl : ∀ k : Nat, k ≤ m → sLenTo B (s 1 0) k = sLenTo C (s 1 0) k := fun k hk => sLenTo_c k (fun j hj => by rw [b9, if_neg (by omega)]) (fun j hj => by rw [b10, if_neg (by omega)])
      have hw : CpW s t f u n = sFi f (sLenTo s t n) - f := by
        unfold CpW sFi sLa at *
        split at hov <;> split at hov <;> split <;> (try split) <;> omega
      have hw2 : CpW s t f u (n + 1) = sLa u (sLenTo s t (n + 1)) - f := by
        unfold CpW sFi sLa at *
        split at hov <;> split at hov <;> (try split) <;> (try split) <;> omega
      refine ⟨m + 1, by omega, by rw [b7]; omega, fun i hi => ?_, ?_, fun j h1 h2 => ?_⟩
      · rw [b8, b9, b10, if_neg (by omega), if_neg (by omega), if_neg (by omega)]
        exact a3 i (by omega)
      · have e : sLenTo B (s 1 0) (m + 1) = sLenTo B (s 1 0) m + (B 10 (20 * s 1 0 + m) - B 9 (20 * s 1 0 + m)) := rfl
        rw [e, bl m (Nat.le_refl _), b9, b10, if_pos rfl, if_pos rfl, a4, hw, hw2]
        omega
      · by_cases ej : j = m
        · subst ej
          refine ⟨n, by omega, ?_⟩
          unfold CpSp
          rw [b8, b9, b10, if_pos rfl, if_pos rfl, if_pos rfl, bl j (Nat.le_refl _), a4, hw]
          unfold sFi sLa at *
          refine ⟨rfl, ?_, ?_, ?_, ?_⟩
          · split <;> omega
          · omega
          · split <;> omega
          · omega
        · obtain ⟨i, hi, c1, c2, c3, c4, c5⟩ := a5 j h1 (by omega)
          refine ⟨i, by omega, ?_⟩
          unfold CpSp
          rw [b8, b9, b10, if_neg (by omega), if_neg (by omega), if_neg (by omega), bl j (by omega)]
          exact ⟨c1, c2, c3, c4, c5⟩
    · rename_i hov
      refine ⟨m, a1, a2, a3, ?_, fun j h1 h2 => ?_⟩
      · rw [a4]
        congr 1
        unfold CpW sFi sLa at *
        split at hov <;> split at hov <;> (try split) <;> (try split) <;> (try split) <;> (try split) <;> omega
      · obtain ⟨i, hi, hc⟩ := a5 j h1 h2
        exact ⟨i, by omega, hc⟩
/-- what is heard on a span that was copied -/
theorem CpSp.at {s S : Sg} {t f base x : Int} {j i : Nat} (h : CpSp s S t f base j i) (hi : (i : Int) < s 7 t) (h1 : sLenTo S (s 1 0) j ≤ x) (h2 : x < sLenTo S (s 1 0) (j + 1)) : TkAt s t (x - base + f) (S 8 (20 * s 1 0 + j)) := by
  obtain ⟨c1, c2, c3, c4, c5⟩ := h
  have e : sLenTo S (s 1 0) (j + 1) = sLenTo S (s 1 0) j + (S 10 (20 * s 1 0 + j) - S 9 (20 * s 1 0 + j)) := rfl
  have e2 : sLenTo s t (i + 1) = sLenTo s t i + (s 10 (20 * t + i) - s 9 (20 * t + i)) := rfl
  exact ⟨i, hi, by omega, by omega, c1.symm⟩
