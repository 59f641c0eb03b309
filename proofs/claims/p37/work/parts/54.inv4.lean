theorem sLenTo_mono {S : Sg} {T : Int} {a b : Nat} (hab : a ≤ b) (h : ∀ j : Nat, a ≤ j → j < b → S 9 (20 * T + j) < S 10 (20 * T + j)) : sLenTo S T a ≤ sLenTo S T b := by
  induction b with
  | zero => rw [show a = 0 by omega]; exact Int.le_refl _
  | succ b ih =>
    by_cases e : a = b + 1
    · rw [e]; exact Int.le_refl _
    · have g := ih (by omega) (fun j h1 h2 => h j h1 (by omega))
      have g2 := h b (by omega) (by omega)
      have e2 : sLenTo S T (b + 1) = sLenTo S T b + (S 10 (20 * T + b) - S 9 (20 * T + b)) := rfl
      omega
/-- what a splice's spans are, and what is heard on them -/
def SplOk (s S : Sg) (t f u v : Int) (m : Nat) : Prop := S 7 (s 1 0) = m ∧ (1 ≤ m ∧ m ≤ 20) ∧ (∀ i : Int, 20 * s 1 0 + 20 ≤ i → S 8 i = s 8 i ∧ S 9 i = s 9 i ∧ S 10 i = s 10 i) ∧
  (∀ j : Nat, j < m → ∃ (r : Int) (i : Nat), (0 ≤ r ∧ r < s 1 0) ∧ (i : Int) < s 7 r ∧ S 8 (20 * s 1 0 + j) = s 8 (20 * r + i) ∧ s 9 (20 * r + i) ≤ S 9 (20 * s 1 0 + j) ∧ S 9 (20 * s 1 0 + j) < S 10 (20 * s 1 0 + j) ∧ S 10 (20 * s 1 0 + j) ≤ s 10 (20 * r + i)) ∧
  ∀ j : Nat, j < m → ∀ x : Int, sLenTo S (s 1 0) j ≤ x → x < sLenTo S (s 1 0) (j + 1) → (x < u - f → TkAt s t (x + f) (S 8 (20 * s 1 0 + j))) ∧ (u - f ≤ x → ¬ v = -1 ∧ TkAt s v (x - (u - f)) (S 8 (20 * s 1 0 + j)))
theorem cp_first {s : Sg} {t f u : Int} (I : sI1 s) (hT : s 1 0 < 30) (ht : 0 ≤ t ∧ t < s 1 0) (hf : 0 ≤ f ∧ f < u ∧ u ≤ sLen s t) (h20 : sSpans s t f u ≤ 20) : ∃ m : Nat, SplOk s (sCopy (sU s 37 0 0) t f u) t f u (-1) m ∧ sLenTo (sCopy (sU s 37 0 0) t f u) (s 1 0) m = u - f ∧ sSpans s t f u = m := by
  have g7 := I.tape ht
  have hfr := I.2.2.2.1 (s 1 0) (Int.le_refl _) (by omega)
  have e7 := sCopy_T I ht hf.2.1
  obtain ⟨m, a1, a2, a3, a4, a5⟩ := cp_at (s := sU s 37 0 0) (t := t) (f := f) (u := u) (m0 := 0) hfr.1 hf.1 hf.2.1 (fun j hj => by
    have h2 : (j : Int) < s 7 t := hj
    exact (I.span ht (show 0 ≤ (j : Int) ∧ (j : Int) < s 7 t by omega)).2.2.1) (s 7 t).toNat (show _ ≤ s 7 t by omega)
  have e0 : sCopyTo (sU s 37 0 0) t f u (s 7 t).toNat = sCopy (sU s 37 0 0) t f u := rfl
  rw [e0] at a2 a3 a4 a5
  obtain ⟨S, hS⟩ : ∃ S, S = sCopy (sU s 37 0 0) t f u := ⟨_, rfl⟩
  rw [← hS] at a2 a3 a4 a5 e7 ⊢
  clear hS e0
  have b2 : S 7 (s 1 0) = m := a2
  have b3 : ∀ i : Int, i < 20 * s 1 0 + 0 ∨ 20 * s 1 0 + m ≤ i → S 8 i = s 8 i ∧ S 9 i = s 9 i ∧ S 10 i = s 10 i := a3
  have b5 : ∀ j : Nat, j < m → ∃ i : Nat, i < (s 7 t).toNat ∧ CpSp s S t f 0 j i := by
    intro j hj
    obtain ⟨i, hi, hc⟩ := a5 j (Nat.zero_le _) hj
    refine ⟨i, hi, ?_⟩
    unfold CpSp at hc ⊢
    rw [sLen37] at hc
    exact hc
  have b4 : sLenTo S (s 1 0) m = u - f := by
    have h4 : sLenTo S (s 1 0) m = 0 + CpW (sU s 37 0 0) t f u (s 7 t).toNat := a4
    unfold CpW at h4
    rw [sLen37] at h4
    have hl : sLenTo s t (s 7 t).toNat = sLen s t := rfl
    rw [hl, if_neg (by omega)] at h4
    unfold sLa at h4
    split at h4 <;> omega
  have hm1 : 1 ≤ m := by
    apply Classical.byContradiction
    intro hm
    rw [show m = 0 by omega] at b4
    have : (0 : Int) = u - f := b4
    omega
  refine ⟨m, ⟨b2, ⟨hm1, by omega⟩, fun i hi => b3 i (by omega), fun j hj => ?_, fun j hj x h1 h2 => ?_⟩, b4, by omega⟩
  · obtain ⟨i, hi, c1, c2, c3, c4, -⟩ := b5 j hj
    exact ⟨t, i, ht, by omega, c1, c2, c3, c4⟩
  · obtain ⟨i, hi, hc⟩ := b5 j hj
    have hx := hc.at (x := x) (by omega) h1 h2
    rw [show x - 0 + f = x + f by omega] at hx
    have hmo := sLenTo_mono (S := S) (T := s 1 0) (a := j + 1) (b := m) (by omega) (fun k h3 h4 => by
      obtain ⟨i, hi, c1, c2, c3, c4, -⟩ := b5 k h4
      exact c3)
    exact ⟨fun _ => hx, fun h3 => by omega⟩
theorem cp_both {s : Sg} {t f u v : Int} (I : sI1 s) (hT : s 1 0 < 30) (ht : 0 ≤ t ∧ t < s 1 0) (hv : 0 ≤ v ∧ v < s 1 0) (hf : 0 ≤ f ∧ f < u ∧ u ≤ sLen s t) (h20 : sSpans s t f u + s 7 v ≤ 20) : ∃ m : Nat, SplOk s (sCopy (sCopy (sU s 37 0 0) t f u) v 0 (sLen s v)) t f u v m := by
  have gv := I.tape hv
  obtain ⟨m1, ⟨o1, o2, o3, o4, o5⟩, hlen, hsp⟩ := cp_first I hT ht hf (by omega)
  have e1 : sCopy (sU s 37 0 0) t f u 1 0 = s 1 0 := by rw [sCopy_n (by decide)]; rfl
  have e7v : sCopy (sU s 37 0 0) t f u 7 v = s 7 v := sCopy_7 (by omega)
  have e8 : ∀ i, i < 20 * s 1 0 → sCopy (sU s 37 0 0) t f u 8 i = s 8 i ∧ sCopy (sU s 37 0 0) t f u 9 i = s 9 i ∧ sCopy (sU s 37 0 0) t f u 10 i = s 10 i := fun i hi => ⟨sCopy_c I hT ht hf.2.1 (Or.inl rfl) hi, sCopy_c I hT ht hf.2.1 (Or.inr (Or.inl rfl)) hi, sCopy_c I hT ht hf.2.1 (Or.inr (Or.inr rfl)) hi⟩
  have elv : sLen (sCopy (sU s 37 0 0) t f u) v = sLen s v := sCopy_sLen I hT ht hv hf.2.1
  have glv := sLen_in I hv
  obtain ⟨S, hS⟩ : ∃ S, S = sCopy (sU s 37 0 0) t f u := ⟨_, rfl⟩
  rw [← hS] at o1 o3 o4 o5 hlen e1 e7v e8 elv ⊢
  clear hS
  obtain ⟨m, a1, a2, a3, a4, a5⟩ := cp_at (s := S) (t := v) (f := 0) (u := sLen s v) (m0 := m1) (by rw [e1]; exact o1) (Int.le_refl _) (by omega) (fun j hj => by
    rw [e7v] at hj
    have q := (e8 (20 * v + j) (by omega)).2
    rw [q.1, q.2]
    exact (I.span hv (show 0 ≤ (j : Int) ∧ (j : Int) < s 7 v by omega)).2.2.1) (S 7 v).toNat (by omega)
  have e0 : sCopyTo S v 0 (sLen s v) (S 7 v).toNat = sCopy S v 0 (sLen s v) := rfl
  have hcnt : sCopyTo S v 0 (sLen s v) (S 7 v).toNat 7 (S 1 0) = S 7 (S 1 0) + sSpansTo S v 0 (sLen s v) (S 7 v).toNat := sCopyTo_T (s := S) (fun j hj => by
    rw [e7v] at hj
    have q := (e8 (20 * v + j) (by omega)).2
    have g := (I.span hv (show 0 ≤ (j : Int) ∧ (j : Int) < s 7 v by omega)).2.2.1
    show sLenTo S v j < sLenTo S v j + (S 10 (20 * v + j) - S 9 (20 * v + j))
    rw [q.1, q.2]
    omega) (by omega) (S 7 v).toNat (by omega)
  have hin := sSpansTo_in S v 0 (sLen s v) (S 7 v).toNat
  rw [e0] at a2 a3 a4 a5 hcnt
  rw [e1] at a2 a3 a4 a5 hcnt
  obtain ⟨Q, hQ⟩ : ∃ Q, Q = sCopy S v 0 (sLen s v) := ⟨_, rfl⟩
  rw [← hQ] at a2 a3 a4 a5 hcnt ⊢
  clear hQ e0
  have hlo : ∀ k : Nat, k ≤ m1 → sLenTo Q (s 1 0) k = sLenTo S (s 1 0) k := fun k hk => sLenTo_c k (fun j hj => (a3 _ (Or.inl (by omega))).2.1) (fun j hj => (a3 _ (Or.inl (by omega))).2.2)
  have hpos : ∀ j : Nat, j < m → Q 9 (20 * s 1 0 + j) < Q 10 (20 * s 1 0 + j) := by
    intro j hj
    by_cases h1 : j < m1
    · obtain ⟨b8, b9, b10⟩ := a3 (20 * s 1 0 + j) (Or.inl (by omega))
      obtain ⟨r, i, -, -, -, -, c3, -⟩ := o4 j h1
      rw [b9, b10]; exact c3
    · obtain ⟨i, hi, hc⟩ := a5 j (by omega) hj
      have c3 := hc.2.2.1
      rw [e1] at c3
      exact c3
  have hsecond : ∀ j : Nat, m1 ≤ j → j < m → ∃ i : Nat, i < (s 7 v).toNat ∧ CpSp S Q v 0 (u - f) j i := by
    intro j h1 h2
    obtain ⟨i, hi, hc⟩ := a5 j h1 h2
    rw [hlen] at hc
    exact ⟨i, by rw [← e7v]; exact hi, hc⟩
  refine ⟨m, a2, ⟨by omega, by omega⟩, fun i hi => ?_, fun j hj => ?_, fun j hj x h1 h2 => ?_⟩
  · obtain ⟨b8, b9, b10⟩ := a3 i (Or.inr (by omega))
    obtain ⟨d8, d9, d10⟩ := o3 i hi
    rw [b8, b9, b10]; exact ⟨d8, d9, d10⟩
  · by_cases h1 : j < m1
    · obtain ⟨b8, b9, b10⟩ := a3 (20 * s 1 0 + j) (Or.inl (by omega))
      rw [b8, b9, b10]; exact o4 j h1
    · obtain ⟨i, hi, c1, c2, c3, c4, -⟩ := hsecond j (by omega) hj
      rw [e1] at c1 c2 c3 c4
      obtain ⟨d8, d9, d10⟩ := e8 (20 * v + i) (by omega)
      rw [d8] at c1
      rw [d9] at c2
      rw [d10] at c4
      exact ⟨v, i, hv, by omega, c1, c2, c3, c4⟩
  · by_cases h3 : j < m1
    · obtain ⟨b8, b9, b10⟩ := a3 (20 * s 1 0 + j) (Or.inl (by omega))
      rw [hlo j (by omega)] at h1
      rw [hlo (j + 1) (by omega)] at h2
      rw [b8]
      have hmo := sLenTo_mono (S := S) (T := s 1 0) (a := j + 1) (b := m1) (by omega) (fun k _ h4 => by
        obtain ⟨r, i, -, -, -, -, c3, -⟩ := o4 k h4
        exact c3)
      exact ⟨(o5 j h3 x h1 h2).1, fun h4 => by omega⟩
    · obtain ⟨i, hi, hc⟩ := hsecond j (by omega) hj
      have hx := hc.at (x := x) (by rw [e7v]; omega) (by rw [e1]; exact h1) (by rw [e1]; exact h2)
      rw [show x - (u - f) + 0 = x - (u - f) by omega, e1] at hx
      have hmo := sLenTo_mono (S := Q) (T := s 1 0) (a := m1) (b := j) (by omega) (fun k _ h4 => hpos k (by omega))
      rw [hlo m1 (Nat.le_refl _), hlen] at hmo
      exact ⟨fun h4 => by omega, fun _ => ⟨by omega, (TkAt_o e7v (by omega) (fun k h5 h6 => e8 _ (by omega))).mp hx⟩⟩
theorem g_splice {s e : Sg} {c t f u v w : Int} (h : hInv s e c) (hc : c < 512) (h0 : t_splice s t f u v w = 0) : hInv (n_splice s t f u v w) (eT e (s 1 0) t f u v) (c + 1) := by
  have hn : n_splice s t f u v w = sMakes (sU (sSplT s t f u v) 6 (s 1 0) (-1)) (sSplG s t v + 1) w := if_pos h0
  rw [hn]
  obtain ⟨q1, q2, q3⟩ : sSplA s t v w ∧ (0 ≤ f ∧ f < u ∧ u ≤ sLen s t) ∧ sSplC s t f u v := by
    unfold t_splice at h0
    split at h0
    · omega
    · rename_i a
      split at h0
      · omega
      · rename_i a2
        split at h0
        · rename_i a3; exact ⟨Decidable.of_not_not a, Decidable.of_not_not a2, a3⟩
        · omega
  clear hn h0
  have I := h.1
  have i1 := I.2.1
  have ht : 0 ≤ t ∧ t < s 1 0 := by omega
  have hT : s 1 0 < 30 := q3.2.2.1
  have hf3 := I.2.2.2.1 (s 1 0) (Int.le_refl _) (by omega)
  have hv : v = -1 ∨ (0 ≤ v ∧ v < s 1 0) := by omega
  have N := tnew_spl (s := s) (e := e) I hT ht q2.2.1 hv hf3.2 h.E
  have hln := sLen_in I ht
  have gt := I.tape ht
  have hg : 0 ≤ sSplG s t v + 1 ∧ sSplG s t v + 1 ≤ s 1 0 := by
    unfold sSplG
    split
    · omega
    · have gv := I.tape (t := v) (by omega)
      split <;> omega
  obtain ⟨m, o1, o2, o3, o4, o5⟩ : ∃ m : Nat, SplOk s (sSplT s t f u v) t f u v m := by
    have h20 := q3.2.2.2
    unfold sSplT
    by_cases ev : v = -1
    · rw [if_pos ev] at h20 ⊢
      obtain ⟨m, hm, -⟩ := cp_first I hT ht q2 (by omega)
      rw [ev]
      exact ⟨m, hm⟩
    · rw [if_neg ev] at h20 ⊢
      exact cp_both I hT ht (by omega) q2 h20
  obtain ⟨S, hS⟩ : ∃ S, S = sSplT s t f u v := ⟨_, rfl⟩
  rw [← hS] at N o1 o3 o4 o5 ⊢
  clear hS
  have hk : TkAt (sU S 6 (s 1 0) (-1)) = TkAt S := TkAt_k rfl rfl rfl rfl
  refine N.inv h hc (N.I1 I hT hg q1.2.2 (by omega) (show 1 ≤ S 7 (s 1 0) ∧ S 7 (s 1 0) ≤ 20 by omega) ?_) (fun i h1 h2 => ?_) (N.T I h.T ⟨?_, fun hm => ?_, fun _ => ?_⟩)
  · intro j h1 h2
    have h3 : j < S 7 (s 1 0) := h2
    obtain ⟨j', rfl⟩ : ∃ j' : Nat, j = j' := ⟨j.toNat, by omega⟩
    obtain ⟨r, i, hr, hi, c1, c2, c3, c4⟩ := o4 j' (by omega)
    have gs := I.span hr (show 0 ≤ (i : Int) ∧ (i : Int) < s 7 r by omega)
    show (0 ≤ S 8 (20 * s 1 0 + j') ∧ S 8 (20 * s 1 0 + j') ≤ s 1 0 ∧ 0 ≤ (sU S 6 (s 1 0) (-1)) 6 (S 8 (20 * s 1 0 + j'))) ∧ (0 ≤ S 9 (20 * s 1 0 + j') ∧ S 9 (20 * s 1 0 + j') < S 10 (20 * s 1 0 + j') ∧ S 10 (20 * s 1 0 + j') ≤ 900)
    rw [c1, N.h6 _ (by omega)]
    omega
  · obtain ⟨d8, d9, d10⟩ := o3 i h1
    show S 8 i = 0 ∧ S 9 i = 0 ∧ S 10 i = 0
    rw [d8, d9, d10]
    exact h.Z i (by omega) h2
  · rw [eT_2, N.h6T]; omega
  · rw [eT_2] at hm; omega
  · rw [eT_2, eT_3, eT_4, eT_5, hk]
    refine ⟨ht, by omega, by omega, fun x b hx => ?_⟩
    obtain ⟨j, b1, b2, b3, b4⟩ := hx
    subst b4
    exact o5 j (by omega) x b2 b3
/-- a fresh house -/
theorem hInv_new : hInv sNew (fun _ _ => 0) 0 := by
  obtain ⟨S, hS⟩ : ∃ S, S = sNew := ⟨_, rfl⟩
  have hn : ∀ q, q ≠ 16 ∧ q ≠ 20 ∧ q ≠ 21 → ∀ i, S q i = 0 := fun q h i => by rw [hS, sNew_n h]
  have hm : ∀ q, q = 16 ∨ q = 20 ∨ q = 21 → ∀ i : Int, 0 ≤ i → i < 120 → S q i = -1 := fun q h i h1 h2 => by rw [hS]; exact sNew_m h ⟨h1, h2⟩
  rw [← hS]
  clear hS
  have e0 := hn 0 (by decide) 0
  have e1 := hn 1 (by decide) 0
  have e11 := hn 11 (by decide) 0
  have e13 := hn 13 (by decide) 0
  have e22 := hn 22 (by decide) 0
  have e26 := hn 26 (by decide) 0
  have e28 := hn 28 (by decide) 0
  have e31 := hn 31 (by decide) 0
  refine ⟨⟨by omega, by omega, fun t h1 h2 => by omega, fun t h1 h2 => ⟨hn 7 (by decide) t, hn 3 (by decide) t⟩, fun t j h1 h2 => by omega⟩, ⟨by omega, fun j h1 h2 => by omega⟩, ⟨by omega, fun d q h1 h2 => by omega, fun d h1 h2 => by omega, fun i _ _ => hn 14 (by decide) i, fun i _ _ => hn 15 (by decide) i⟩, ⟨fun k h1 h2 => ?_, fun k h1 h2 => ?_⟩, ⟨by omega, fun d h1 h2 => ?_, fun d h1 h2 => ?_, fun d h1 h2 => by omega, fun d h1 h2 => hn 24 (by decide) d, fun d h1 h2 => hn 25 (by decide) d⟩, ⟨Or.inl e26, fun p h1 h2 => ?_, by omega, fun j h1 h2 => by omega⟩, ⟨by omega, fun j h1 h2 => by omega, fun i h1 h2 => ?_, fun i h1 h2 => ?_⟩, by omega, fun j h1 h2 => by omega, fun i h1 h2 => ⟨hn 8 (by decide) i, hn 9 (by decide) i, hn 10 (by decide) i⟩, fun t h1 h2 => by omega, fun q h1 h2 => ?_⟩
  · have a16 := hm 16 (by decide) k h1 h2
    have a20 := hm 20 (by decide) k h1 h2
    have a21 := hm 21 (by decide) k h1 h2
    have a17 := hn 17 (by decide) k
    have a18 := hn 18 (by decide) k
    have a19 := hn 19 (by decide) k
    omega
  · have a18 := hn 18 (by decide) k
    have a19 := hn 19 (by decide) k
    have d0 : sDiscs S k = 0 := by unfold sDiscs; rw [e22]; rfl
    omega
  · have := hn 24 (by decide) d; omega
  · have := hn 25 (by decide) d; omega
  · have := hn 27 (by decide) p; omega
  · have := hn 34 (by decide) i; omega
  · have := hn 35 (by decide) i; omega
  · rw [hn 36 (by decide) q, e31]; rfl
