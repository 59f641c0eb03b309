/-! a fresh house's numbers -/
theorem sNewTo_n {r : Nat} (h : r ≠ 16 ∧ r ≠ 20 ∧ r ≠ 21) (n : Nat) : sNewTo n r = fun _ => 0 := by
  induction n with
  | zero => rfl
  | succ n ih => simp only [sNewTo]; rw [sU_n h.2.2, sU_n h.2.1, sU_n h.1, ih]
theorem sNewTo_m {r : Nat} (h : r = 16 ∨ r = 20 ∨ r = 21) {i : Int} (n : Nat) : sNewTo n r i = if 0 ≤ i ∧ i < n then -1 else 0 := by
  induction n with
  | zero => rw [if_neg (by omega)]; rfl
  | succ n ih =>
    have e : sNewTo (n + 1) r i = if i = n then -1 else sNewTo n r i := by
      simp only [sNewTo]
      rcases h with rfl | rfl | rfl
      · rw [sU_n (by decide), sU_n (by decide)]; rfl
      · rw [sU_n (by decide), sU_k, sU_n (by decide)]; rfl
      · rw [sU_k, sU_n (by decide), sU_n (by decide)]; rfl
    rw [e, ih]
    by_cases h1 : i = n
    · rw [if_pos h1, if_pos (by omega)]
    · rw [if_neg h1]
      by_cases h2 : 0 ≤ i ∧ i < n
      · rw [if_pos h2, if_pos (by omega)]
      · rw [if_neg h2, if_neg (by omega)]
theorem sNew_n {r : Nat} (h : r ≠ 16 ∧ r ≠ 20 ∧ r ≠ 21) : sNew r = fun _ => 0 := sNewTo_n h 120
theorem sNew_m {r : Nat} (h : r = 16 ∨ r = 20 ∨ r = 21) {i : Int} (hi : 0 ≤ i ∧ i < 120) : sNew r i = -1 := by
  have e := sNewTo_m h (i := i) 120
  rw [if_pos (by omega)] at e
  exact e
theorem Rep.nil {ad : Ad} {G : jj_G} : Rep ad (fun _ _ => Option.none) G := And.intro (fun k i x h => absurd h (fun h => nomatch h)) (fun k i k2 i2 h => absurd rfl h)
