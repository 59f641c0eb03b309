theorem sSellTo_32r {s : Sg} {k x : Int} (n : Nat) : sSellTo s k x n 32 = ju (s 32) (s 31 0) k := by
  induction n with
  | zero => simp only [sSellTo]; rw [sU_n (by decide), sU_k, sU_n (by decide), sU_n (by decide)]
  | succ n ih => simp only [sSellTo]; rw [sU_n (by decide), sU_n (by decide), ih]
theorem sSellTo_33r {s : Sg} {k x : Int} (n : Nat) : sSellTo s k x n 33 = ju (s 33) (s 31 0) x := by
  induction n with
  | zero => simp only [sSellTo]; rw [sU_k, sU_n (by decide), sU_n (by decide), sU_n (by decide)]
  | succ n ih => simp only [sSellTo]; rw [sU_n (by decide), sU_n (by decide), ih]
theorem sSellTo_18r {s : Sg} {k x : Int} (n : Nat) : sSellTo s k x n 18 = ju (s 18) k (s 18 k + x) := by
  induction n with
  | zero => simp only [sSellTo]; rw [sU_n (by decide), sU_n (by decide), sU_k, sU_n (by decide)]
  | succ n ih => simp only [sSellTo]; rw [sU_n (by decide), sU_n (by decide), ih]
theorem sell_rows {s B : Sg} {k x : Int} (hB : SaleNew (sU s 18 k (s 18 k + x)) B k x) (h34 : B 34 = sSaleR s (s 31 0) 6 34) (h31 : B 31 = ju (s 31) 0 (s 31 0 + 1)) (r : Nat) (hr : r < 37) : sBook B (s 31 0) 6 r = sU (sSellTo s k x 6) 31 0 (s 31 0 + 1) r := by
  obtain ⟨b1, b2, b3, b4, b5, b6, b7⟩ := hB
  by_cases h1 : r = 36
  · subst h1
    funext i
    rw [sBook_36, sU_n (by decide), sSellTo_36i, b1 36 (by decide) (by decide) (by decide) (by decide) (by decide)]
    have e36 : sU s 18 k (s 18 k + x) 36 = s 36 := sU_n (by decide)
    rw [e36]
    by_cases hi : 0 ≤ i ∧ i < ((6 : Nat) : Int)
    · rw [if_pos hi, if_pos hi]
      have e33 : B 33 (s 31 0) = x := by rw [b4]; exact ju_s
      have e32 : B 32 (s 31 0) = k := by rw [b3]; exact ju_s
      have e34 : B 34 (6 * s 31 0 + i) = s 35 i := (b6 i hi.1 (by omega)).trans (by rw [sU_n (by decide)])
      have e14 : B 14 = s 14 := (b1 14 (by decide) (by decide) (by decide) (by decide) (by decide)).trans (sU_n (by decide))
      unfold sDue
      rw [e33, e34, e32, sSec_c (s := s) (s' := B) e14]
    · rw [if_neg hi, if_neg hi]
  · rw [sBook_n h1]
    by_cases h2 : r = 31
    · subst h2; rw [h31, sU_k, sSellTo_n (by decide)]
    · rw [sU_n h2]
      by_cases h3 : r = 32
      · subst h3; rw [b3, sSellTo_32r]; rfl
      · by_cases h4 : r = 33
        · subst h4; rw [b4, sSellTo_33r]; rfl
        · by_cases h5 : r = 34
          · subst h5
            rw [h34]
            funext i
            rw [sSaleR_34, sSellTo_34]
          · rw [b1 r hr h2 h3 h4 h5]
            by_cases h6 : r = 18
            · subst h6; rw [sSellTo_18r, sU_k]
            · rw [sU_n h6, sSellTo_n ⟨h6, h3, h4, h5, h1, by omega⟩]
