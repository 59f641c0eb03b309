theorem house_new {ac : Nat → ClassId} {G0 G : jj_G} {o a1 p p1 a4 a5 f f1 f2 f3 r r1 r2 r3 r4 r5 : Nat} (hL : GL G0 [(o, jj_o 8 [.int (jI 0), .ref a1, .int (jI 0), .ref p, .ref a4, .int (jI 0), .ref a5, .int (jI 0), .ref f, .ref r]), (a1, jj_aq (ac 2) 30 (fun _ => Option.none)), (p, jj_o 1 [.ref p1, .int (jI 0)]), (p1, jj_aq (ac 2) 6 (fun _ => Option.none)), (a4, jj_aq (ac 3) 10 (fun _ => Option.none)), (a5, jj_aq (ac 5) 20 (fun _ => Option.none)), (f, jj_o 5 [.int (jI 0), .ref f1, .ref f2, .ref f3, .int (jI 0)]), (f1, jj_ai (ac 0) 8 (fun _ => 0)), (f2, jj_ai (ac 0) 20 (fun _ => 0)), (f3, jj_ai (ac 0) 20 (fun _ => 0)), (r, jj_o 2 [.ref r1, .ref r2, .ref r3, .ref r4, .ref r5, .int (jI 0)]), (r1, jj_ai (ac 0) 6 (fun _ => 0)), (r2, jj_ai (ac 0) 6 (fun _ => 0)), (r3, jj_ai (ac 0) 6 (fun _ => 0)), (r4, jj_ai (ac 0) 6 (fun _ => 0)), (r5, jj_aq (ac 6) 100 (fun _ => Option.none))] G) : ∃ ad : Ad, ad 0 0 = o ∧ Rep ad (cC ac ad sNew (fun _ _ => 0)) G := by
  obtain ⟨ad, C, h0, hR, c0, c1, c4, c5, c2, c3, c6, c7, c8, c9, c10, c11, c12, c13, c14, c15, hz, hb⟩ := house_rep hL
  refine ⟨ad, h0, hR.congr ?_⟩
  obtain ⟨S, hS⟩ : ∃ S, S = sNew := ⟨_, rfl⟩
  have hn : ∀ q, q ≠ 16 ∧ q ≠ 20 ∧ q ≠ 21 → S q = fun _ => 0 := fun q h => by rw [hS]; exact sNew_n h
  have hm : ∀ i : Int, 0 ≤ i → i < 120 → S 16 i = -1 := fun i h1 h2 => by rw [hS]; exact sNew_m (Or.inl rfl) ⟨h1, h2⟩
  rw [← hS]
  have one : ∀ (k : Nat) (A : va_E) (i : Int), C k 0 = some A → (if i = 0 then some A else Option.none) = C k i := by
    intro k A i hC
    by_cases hi : i = 0
    · rw [if_pos hi, hi, hC]
    · rw [if_neg hi, hz k i hi]
  have rr : ∀ k, rRow ad k 0 = fun _ => Option.none := fun k => by funext j; exact if_neg (by omega)
  have pr : pRow ad S = fun _ => Option.none := by funext j; unfold pRow; exact if_neg (by have e0 : S 11 0 = 0 := (by rw [hn 11 (by decide)]); omega)
  have wz : wn 6 (S 35) = fun _ => 0 := by rw [hn 35 (by decide)]; exact wn_0 (fun _ _ _ => rfl)
  refine kcases (P := fun k => ∀ i, cC ac ad S (fun _ _ => 0) k i = C k i) ?_ ?_ ?_ ?_ ?_ ?_ ?_ ?_ ?_ ?_ ?_ ?_ ?_ ?_ ?_ ?_ ?_ ?_ ?_ ?_ ?_ ?_ ?_ ?_ ?_ ?_ ?_ ?_ ?_ <;> intro i
  · exact one 0 _ i (c0.2.trans (by simp only [fHouse, hn 0 (by decide), hn 1 (by decide), hn 13 (by decide), hn 22 (by decide), c1.1, c4.1, c2.1, c3.1, c6.1, c10.1]))
  · exact one 1 _ i (c1.2.trans (by rw [hn 1 (by decide), rr]))
  · exact one 2 _ i (c2.2.trans (by rw [hn 13 (by decide), rr]))
  · exact one 3 _ i (c3.2.trans (by rw [hn 22 (by decide), rr]))
  · exact one 4 _ i (c4.2.trans (by simp only [fProg, hn 11 (by decide), c5.1]))
  · exact one 5 _ i (c5.2.trans (by rw [pr]))
  · exact one 6 _ i (c6.2.trans (by simp only [fFile, hn 26 (by decide), hn 28 (by decide), c7.1, c8.1, c9.1]))
  · exact one 7 _ i (c7.2.trans (by rw [hn 27 (by decide)]))
  · exact one 8 _ i (c8.2.trans (by rw [hn 29 (by decide)]))
  · exact one 9 _ i (c9.2.trans (by rw [hn 30 (by decide)]))
  · exact one 10 _ i (c10.2.trans (by simp only [fRoy, hn 31 (by decide), c11.1, c12.1, c13.1, c14.1, c15.1]))
  · exact one 11 _ i (c11.2.trans (by rw [wz]))
  · exact one 12 _ i c12.2
  · exact one 13 _ i c13.2
  · exact one 14 _ i (c14.2.trans (by rw [hn 36 (by decide)]))
  · exact one 15 _ i (c15.2.trans (by rw [hn 31 (by decide), rr]))
  all_goals first
    | (refine Eq.trans (if_neg ?_) (hb _ i).symm; have e0 : S 1 0 = 0 := (by rw [hn 1 (by decide)]); omega)
    | (refine Eq.trans (if_neg ?_) (hb _ i).symm; have e0 : S 13 0 = 0 := (by rw [hn 13 (by decide)]); omega)
    | (refine Eq.trans (if_neg ?_) (hb _ i).symm; have e0 : S 22 0 = 0 := (by rw [hn 22 (by decide)]); omega)
    | (refine Eq.trans (if_neg ?_) (hb _ i).symm; have e0 : S 31 0 = 0 := (by rw [hn 31 (by decide)]); omega)
    | (refine Eq.trans (if_neg ?_) (hb _ i).symm; intro h; exact h.2 (hm i h.1.1 h.1.2))
    | exact (hb _ i).symm
    | exact fun i2 => (hb (i + 12) i2).symm
