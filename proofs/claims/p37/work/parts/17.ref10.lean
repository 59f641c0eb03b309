/-! ===== a fresh reference ===== -/
def ri_v (a : Nat → Nat) (m k : Nat) : Value := if rm_len k = 0 then .int (jI 0) else if k < m then .ref (a k) else .null
def ri_fs (a : Nat → Nat) (m : Nat) : List Value := (List.range 38).map (ri_v a m)
def RI (cI : ClassId) (o : Nat) (a : Nat → Nat) (m : Nat) (G : jj_G) : Prop :=
  G o = some (jj_o 9 (ri_fs a m)) ∧ (∀ k, k < m → rm_len k ≠ 0 → G (a k) = some (jj_ai cI (rm_len k) (fun _ => 0))) ∧ (∀ k k', k < m → k' < m → rm_len k ≠ 0 → rm_len k' ≠ 0 → a k = a k' → k = k') ∧ (∀ k, k < m → rm_len k ≠ 0 → a k ≠ o)
theorem ri_fs_v {a : Nat → Nat} {m : Nat} : ∀ k, k < 38 → (ri_fs a m)[k]? = some (ri_v a m k) := by
  intro k hk
  simp only [ri_fs, List.getElem?_map, List.getElem?_range hk, Option.map_some]
theorem RI.skip {cI : ClassId} {o : Nat} {a : Nat → Nat} {m m' : Nat} {G : jj_G} (h : RI cI o a m G) (hm : m ≤ m') (hz : ∀ k, k < m' → m ≤ k → rm_len k = 0) : RI cI o a m' G := by
  obtain ⟨h1, h2, h3, h4⟩ := h
  have key : ∀ k, k < m' → rm_len k ≠ 0 → k < m := fun k hk hn => Nat.lt_of_not_le (fun hle => hn (hz k hk hle))
  refine ⟨?_, fun k hk hn => h2 k (key k hk hn) hn, fun k k' hk hk' hn hn' => h3 k k' (key k hk hn) (key k' hk' hn') hn hn', fun k hk hn => h4 k (key k hk hn) hn⟩
  rw [h1]
  congr 2
  unfold ri_fs
  apply List.map_congr_left
  intro k _
  unfold ri_v
  by_cases hl : rm_len k = 0
  · rw [if_pos hl, if_pos hl]
  · rw [if_neg hl, if_neg hl]
    by_cases hk : k < m
    · rw [if_pos hk, if_pos (by omega)]
    · rw [if_neg hk, if_neg (fun h => hk (key k h hl))]
theorem RI.step {cI : ClassId} {o q : Nat} {a : Nat → Nat} {m n : Nat} {G : jj_G} (h : RI cI o a m G) (hq : G q = none) (hm : m < 38) (hn : rm_len m = n) (h0 : n ≠ 0) : RI cI o (fun k => if k = m then q else a k) (m + 1) (jj_u (jj_u G q (jj_ai cI n (fun _ => 0))) o (jj_o 9 ((ri_fs a m).set m (.ref q)))) := by
  subst hn
  obtain ⟨h1, h2, h3, h4⟩ := h
  have hqo : q ≠ o := fun e => by rw [e, h1] at hq; cases hq
  have hqa : ∀ k, k < m → rm_len k ≠ 0 → a k ≠ q := fun k hk hl e => by rw [← e, h2 k hk hl] at hq; cases hq
  refine ⟨?_, fun k hk hl => ?_, fun k k' hk hk' hl hl' => ?_, fun k hk hl => ?_⟩
  · rw [jj_us]
    congr 2
    apply List.ext_getElem?
    intro k
    by_cases hk : k < 38
    · rw [ri_fs_v k hk]
      by_cases hkm : k = m
      · subst hkm
        rw [List.getElem?_set_self (by simp [ri_fs, hk])]
        unfold ri_v
        rw [if_neg h0, if_pos (by omega)]
        simp only [if_true]
      · rw [List.getElem?_set_ne (Ne.symm hkm), ri_fs_v k hk]
        unfold ri_v
        by_cases hl : rm_len k = 0
        · rw [if_pos hl, if_pos hl]
        · rw [if_neg hl, if_neg hl]
          simp only [if_neg hkm]
          by_cases hlt : k < m
          · rw [if_pos hlt, if_pos (by omega)]
          · rw [if_neg hlt, if_neg (by omega)]
    · rw [List.getElem?_eq_none (by simp [ri_fs]; omega), List.getElem?_eq_none (by simp [ri_fs]; omega)]
  · by_cases hkm : k = m
    · subst hkm
      simp only [if_true]
      rw [jj_un hqo, jj_us]
    · simp only [if_neg hkm]
      rw [jj_un (h4 k (by omega) hl), jj_un (hqa k (by omega) hl), h2 k (by omega) hl]
  · by_cases e1 : k = m
    · by_cases e2 : k' = m
      · intro _; rw [e1, e2]
      · simp only [if_pos e1, if_neg e2]
        intro e; exact absurd e.symm (hqa k' (by omega) hl')
    · by_cases e2 : k' = m
      · simp only [if_neg e1, if_pos e2]
        intro e; exact absurd e (hqa k (by omega) hl)
      · simp only [if_neg e1, if_neg e2]
        exact h3 k k' (by omega) (by omega) hl hl'
  · by_cases e1 : k = m
    · simp only [if_pos e1]; exact hqo
    · simp only [if_neg e1]; exact h4 k (by omega) hl
/-- a fresh house -/
def sNewTo : Nat → Sg
  | 0 => fun _ _ => 0
  | n + 1 => sU (sU (sU (sNewTo n) 16 n (-1)) 20 n (-1)) 21 n (-1)
def sNew : Sg := sNewTo 120
