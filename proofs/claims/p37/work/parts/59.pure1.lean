/-! ===== what the law's checks rest on: tapes ===== -/
theorem sLenM {s : Sg} (I : sI1 s) {t : Int} (ht : 0 ≤ t ∧ t < s 1 0) {a b : Nat} (hab : a ≤ b) (hb : (b : Int) ≤ s 7 t) : sLenTo s t a ≤ sLenTo s t b :=
  sLenTo_mono hab (fun j h1 h2 => ((I.2.2.2.2 t j ht.1 ht.2 (by omega) (by omega)).2).2.1)
theorem sHeard_at {s : Sg} (I : sI1 s) {t x : Int} (ht : 0 ≤ t ∧ t < s 1 0) {j : Nat} (hj : (j : Int) < s 7 t) (h1 : sLenTo s t j ≤ x) (h2 : x < sLenTo s t (j + 1)) : sHeard s t x (s 7 t).toNat 0 = 1000 * s 8 (20 * t + j) + s 9 (20 * t + j) + x - sLenTo s t j := by
  have key : ∀ n i : Nat, n + i = (s 7 t).toNat → i ≤ j → sHeard s t x n i = 1000 * s 8 (20 * t + j) + s 9 (20 * t + j) + x - sLenTo s t j := by
    intro n
    induction n with
    | zero => intro i hi hij; omega
    | succ n ih =>
      intro i hi hij
      unfold sHeard
      by_cases e : i = j
      · subst e; rw [if_pos h2]
      · have := sLenM I ht (a := i + 1) (b := j) (by omega) (by omega)
        rw [if_neg (by omega)]
        exact ih (i + 1) (by omega) (by omega)
  exact key _ 0 (by omega) (by omega)
theorem sHeard_end {s : Sg} (I : sI1 s) {t x : Int} (ht : 0 ≤ t ∧ t < s 1 0) (h : sLen s t ≤ x) : sHeard s t x (s 7 t).toNat 0 = -1 := by
  have g := (I.2.2.1 t ht.1 ht.2).2.2.2.2.2
  have key : ∀ n i : Nat, n + i = (s 7 t).toNat → sHeard s t x n i = -1 := by
    intro n
    induction n with
    | zero => intro i _; rfl
    | succ n ih =>
      intro i hi
      have := sLenM I ht (a := i + 1) (b := (s 7 t).toNat) (by omega) (by omega)
      unfold sLen at h
      unfold sHeard
      rw [if_neg (by omega)]
      exact ih (i + 1) (by omega)
  exact key _ 0 (by omega)
theorem sSpanAt {s : Sg} {t x : Int} (hx : 0 ≤ x) (n : Nat) (h : x < sLenTo s t n) : ∃ j : Nat, j < n ∧ sLenTo s t j ≤ x ∧ x < sLenTo s t (j + 1) := by
  induction n with
  | zero => exact absurd h (by show ¬ x < 0; omega)
  | succ n ih =>
    by_cases h2 : x < sLenTo s t n
    · obtain ⟨j, h3, h4⟩ := ih h2
      exact ⟨j, by omega, h4⟩
    · exact ⟨n, by omega, by omega, h⟩
/-- any second of a tape is heard -/
theorem sHeard_in {s : Sg} (I : sI1 s) {t x : Int} (ht : 0 ≤ t ∧ t < s 1 0) (h : 0 ≤ x ∧ x < sLen s t) : ∃ j : Nat, (j : Int) < s 7 t ∧ sLenTo s t j ≤ x ∧ x < sLenTo s t (j + 1) ∧ sHeard s t x (s 7 t).toNat 0 = 1000 * s 8 (20 * t + j) + s 9 (20 * t + j) + x - sLenTo s t j := by
  have g := (I.2.2.1 t ht.1 ht.2).2.2.2.2.2
  obtain ⟨j, h1, h2, h3⟩ := sSpanAt h.1 _ h.2
  exact ⟨j, by omega, h2, h3, sHeard_at I ht (by omega) h2 h3⟩
theorem sHeard_0 {s : Sg} (I : sI1 s) {t : Int} (ht : 0 ≤ t ∧ t < s 1 0) : sHeard s t 0 (s 7 t).toNat 0 = 1000 * s 8 (20 * t) + s 9 (20 * t) := by
  have g := (I.2.2.1 t ht.1 ht.2).2.2.2.2.2
  have g2 := I.2.2.2.2 t 0 ht.1 ht.2 (by omega) (by omega)
  have e1 : sLenTo s t (0 + 1) = 0 + (s 10 (20 * t + ((0 : Nat) : Int)) - s 9 (20 * t + ((0 : Nat) : Int))) := rfl
  have e2 : (20 * t + ((0 : Nat) : Int)) = 20 * t := by omega
  have e3 : 20 * t + 0 = 20 * t := by omega
  rw [e2] at e1
  rw [e3] at g2
  have h := sHeard_at I (x := 0) ht (j := 0) (by omega) (Int.le_refl _) (by omega)
  rw [e2, show sLenTo s t 0 = 0 from rfl] at h
  omega
theorem sHeard_ge {s : Sg} (I : sI1 s) {t x : Int} (ht : 0 ≤ t ∧ t < s 1 0) (h : 0 ≤ x ∧ x < sLen s t) : 0 ≤ sHeard s t x (s 7 t).toNat 0 ∧ sHeard s t x (s 7 t).toNat 0 ≤ 1000000 := by
  obtain ⟨j, h1, h2, h3, h4⟩ := sHeard_in I ht h
  have g := I.2.2.2.2 t j ht.1 ht.2 (by omega) h1
  have b := I.2.1
  have e1 : sLenTo s t (j + 1) = sLenTo s t j + (s 10 (20 * t + j) - s 9 (20 * t + j)) := rfl
  omega
/-- the bit of a take that a tape has -/
theorem sTakes_has {s : Sg} (I : sI1 s) {t : Int} (ht : 0 ≤ t ∧ t < s 1 0) {j : Nat} (hj : (j : Int) < s 7 t) : sHas (sTakes s t) (s 8 (20 * t + j)) = 1 := by
  have b := I.2.1
  have g := I.2.2.2.2 t j ht.1 ht.2 (by omega) hj
  obtain ⟨k, hk⟩ : ∃ k : Nat, s 8 (20 * t + j) = k := ⟨(s 8 (20 * t + j)).toNat, by omega⟩
  rw [hk, sHas_bt _ (by omega)]
  exact (sTakes_bt _ (fun i hi => by have := I.2.2.2.2 t i ht.1 ht.2 (by omega) (by omega); omega) (by omega)).mpr ⟨j, by omega, hk⟩
theorem sTakes_of {s : Sg} (I : sI1 s) {t : Int} (ht : 0 ≤ t ∧ t < s 1 0) {k : Nat} (hk : k < 32) (h : bt (jI (sTakes s t)) k = true) : ∃ j : Nat, (j : Int) < s 7 t ∧ s 8 (20 * t + j) = k := by
  have b := I.2.1
  obtain ⟨j, h1, h2⟩ := (sTakes_bt _ (fun i hi => by have := I.2.2.2.2 t i ht.1 ht.2 (by omega) (by omega); omega) hk).mp h
  exact ⟨j, by omega, h2⟩
theorem has_and {q k : Int} (h : sHas q k = 1) : (jI q >>> (jI k &&& 31)) &&& jI 1 = jI 1 := by
  unfold sHas at h
  split at h
  · assumption
  · exact absurd h (by decide)
theorem first_has {s : Sg} (I : sI1 s) {t : Int} (ht : 0 ≤ t ∧ t < s 1 0) : (jI (sTakes s t) >>> (jI ((1000 * s 8 (20 * t) + s 9 (20 * t)) / 1000) &&& 31)) &&& jI 1 = jI 1 := by
  have g := (I.2.2.1 t ht.1 ht.2).2.2.2.2.2
  have g2 := I.2.2.2.2 t 0 ht.1 ht.2 (by omega) (by omega)
  have h := sTakes_has I ht (j := 0) (by omega)
  rw [show (20 * t + ((0 : Nat) : Int)) = 20 * t by omega] at h
  rw [show 20 * t + 0 = 20 * t by omega] at g2
  rw [show (1000 * s 8 (20 * t) + s 9 (20 * t)) / 1000 = s 8 (20 * t) by omega]
  exact has_and h
theorem gone_no {s : Sg} {t : Int} (h : s 2 t = 3) : sPlay s t = 0 := by
  unfold sPlay
  rw [if_neg (by omega), if_neg (by omega)]
/-- a take that is lost is gone -/
theorem lost_gone {s e : Sg} {c : Int} (hI : hInv s e c) {t : Int} (ht : 0 ≤ t ∧ t < s 1 0) (h6 : ¬ s 6 t = -1) (h2 : ¬ s 2 t = 3) : r_isLost s t = 0 := by
  have T := hI.T t ht.1 ht.2
  have T2 := T.2.1 (T.1.mpr h6)
  have hs := sTakes_has hI.1 ht (j := 0) (by omega)
  rw [show (20 * t + ((0 : Nat) : Int)) = 20 * t by omega, T2.2.1] at hs
  have b := hI.1.2.1
  have e1 : ((t.toNat : Nat) : Int) = t := by omega
  have k1 : sKeptT s t (t.toNat + 1) = 1 := by
    unfold sKeptT
    split
    · rw [e1, if_pos ⟨h2, hs⟩]
    · rfl
  have k2 := sKeptT_up k1 (s 1 0).toNat (by omega)
  have k3 := sKeptS_up (s := s) (x := t) (b := 1) (n := 0) rfl (12 * s 13 0).toNat (by omega)
  unfold r_isLost
  rw [if_pos (by unfold t_isLost; rw [if_pos ⟨by omega, h6⟩]), k2, if_neg (by omega)]
/-! sides -/
theorem sSec_all (s : Sg) (d : Int) : sSec s d 0 + sSec s d 1 + sSec s d 2 + sSec s d 3 + sSec s d 4 + sSec s d 5 = sSec s d (-1) := by
  have e0 := sSec_one s d (q := 0) (by omega)
  have e1 := sSec_one s d (q := 1) (by omega)
  have e2 := sSec_one s d (q := 2) (by omega)
  have e3 := sSec_one s d (q := 3) (by omega)
  have e4 := sSec_one s d (q := 4) (by omega)
  have e5 := sSec_one s d (q := 5) (by omega)
  have e6 : sSec s d (-1) = 0 + s 14 (6 * d + ((0 : Nat) : Int)) + s 14 (6 * d + ((1 : Nat) : Int)) + s 14 (6 * d + ((2 : Nat) : Int)) + s 14 (6 * d + ((3 : Nat) : Int)) + s 14 (6 * d + ((4 : Nat) : Int)) + s 14 (6 * d + ((5 : Nat) : Int)) := by
    unfold sSec
    simp only [sSecTo]
    simp
  rw [e0, e1, e2, e3, e4, e5, e6]
  simp only [Int.add_zero, Int.zero_add, Int.natCast_zero, Int.natCast_one]
  rfl
/-- the seconds of the artists below n -/
def sSumTo (s : Sg) (d : Int) : Nat → Int
  | 0 => 0
  | n + 1 => sSumTo s d n + sSec s d (n : Int)
theorem sSumTo_6 (s : Sg) (d : Int) : sSumTo s d 6 = sSec s d (-1) := by
  rw [← sSec_all]
  simp only [sSumTo]
  simp
theorem sSumTo_in {s : Sg} (h3 : sI3 s) {d : Int} (hd : 0 ≤ d ∧ d < s 13 0) (n : Nat) : 0 ≤ sSumTo s d n ∧ sSumTo s d n ≤ 2000 * n := by
  induction n with
  | zero => exact ⟨Int.le_refl _, Int.le_refl _⟩
  | succ n ih =>
    have := sSec_in h3 hd (n : Int)
    unfold sSumTo
    omega
/-! discs -/
theorem sGrade_in (x : Int) : 0 ≤ sGrade x ∧ sGrade x ≤ 4 := by
  unfold sGrade
  split
  · omega
  · split
    · omega
    · split
      · omega
      · split <;> omega
theorem sGrade_0 {x : Int} (h : sGrade x = 0) : x = 0 := by
  unfold sGrade at h
  split at h
  · assumption
  · split at h
    · omega
    · split at h
      · omega
      · split at h <;> omega
theorem sNoises_0 {s : Sg} {c d : Int} (h5 : sI5 s c) (hc : 0 ≤ c ∧ c ≤ 512) (hd : 0 ≤ d ∧ d < 20) (n : Nat) (hn : n ≤ 8) (h : sNoises s d n = 0) : ∀ p : Nat, p < n → sNoise s d p = 0 := by
  induction n with
  | zero => intro p hp; omega
  | succ n ih =>
    have g := sNoises_in h5 hc hd n (by omega)
    have g2 := sNoise_in h5 hc hd (p := (n : Int)) (by omega)
    unfold sNoises at h
    intro p hp
    by_cases e : p = n
    · subst e; omega
    · exact ih (by omega) (by omega) p (by omega)
/-- what a part's noise is where the grade is 0 -/
theorem grade_0 {s e : Sg} {c : Int} (hI : hInv s e c) {d p : Int} (hd : 0 ≤ d ∧ d < s 22 0) (hp : 0 ≤ p ∧ p ≤ 7) (h : sGrade (sNoises s d 8) = 0) : sNoise s d p = 0 := by
  have b := hI.2.2.2.2.1.1
  have h2 := sNoises_0 hI.2.2.2.2.1 hI.2.2.2.2.2.2.2.1 (d := d) (by omega) 8 (by omega) (sGrade_0 h) p.toNat (by omega)
  rw [show ((p.toNat : Nat) : Int) = p by omega] at h2
  exact h2
theorem noise_in {s e : Sg} {c : Int} (hI : hInv s e c) {d p : Int} (hd : 0 ≤ d ∧ d < s 22 0) (hp : 0 ≤ p ∧ p ≤ 7) : 0 ≤ sNoise s d p ∧ sNoise s d p ≤ 100000 := by
  have b := hI.2.2.2.2.1.1
  exact sNoise_in hI.2.2.2.2.1 hI.2.2.2.2.2.2.2.1 (by omega) (by omega)
/-! a set of one disc -/
theorem sAre_oneK : ∀ n : Nat, n < 21 → ∀ k : Nat, k < n → ¬ sBit (k : Int) = 0 ∧ jI (sBit (k : Int)) &&& (jI (sBit (n : Int) - 1) ^^^ jI (-1)) = 0 := by decide +kernel
theorem sHas_one {k i : Nat} (hk : k < 32) (hi : i < 32) : sHas (sBit (k : Int)) (i : Int) = 1 ↔ i = k := by
  rw [sHas_bt _ hi, b_sBit hk hi, decide_eq_true_iff]
theorem one_side {s : Sg} {k : Nat} (hk : k < 32) (n : Nat) (hn : n ≤ 32) : (n ≤ k → sSideTo s (sBit (k : Int)) n = -1) ∧ sOneTo s (sBit (k : Int)) n = 1 := by
  induction n with
  | zero => exact ⟨fun _ => rfl, rfl⟩
  | succ n ih =>
    obtain ⟨i1, i2⟩ := ih (by omega)
    constructor
    · intro h
      unfold sSideTo
      rw [if_neg (by rw [sHas_one hk (by omega)]; omega)]
      exact i1 (by omega)
    · unfold sOneTo
      by_cases e : n = k
      · rw [if_pos ((sHas_one hk (by omega)).mpr e), if_neg (by omega), if_pos (Or.inl (i1 (by omega)))]
      · rw [if_neg (by rw [sHas_one hk (by omega)]; exact e)]
        exact i2
theorem one_join {s : Sg} {p : Int} {k : Nat} (hk : k < 32) (n : Nat) (hn : n ≤ 32) : sJoinTo s (sBit (k : Int)) p n = if k < n then (k : Int) else -1 := by
  induction n with
  | zero => rw [if_neg (by omega)]; rfl
  | succ n ih =>
    have i1 := ih (by omega)
    unfold sJoinTo
    rw [i1]
    by_cases e : n = k
    · rw [if_pos ⟨(sHas_one hk (by omega)).mpr e, Or.inl (by rw [if_neg (by omega)])⟩, if_pos (by omega), e]
    · rw [if_neg (fun h => e ((sHas_one hk (by omega)).mp h.1))]
      by_cases h2 : k < n
      · rw [if_pos h2, if_pos (by omega)]
      · rw [if_neg h2, if_neg (by omega)]
theorem t_join_one {s : Sg} (h22 : 0 ≤ s 22 0 ∧ s 22 0 ≤ 20) {d p : Int} (hd : 0 ≤ d ∧ d < s 22 0) (hp : 0 ≤ p ∧ p ≤ 7) : t_join s (sBit d) p = 0 ∧ sJoin s (sBit d) p = d := by
  obtain ⟨k, hk⟩ : ∃ k : Nat, d = k := ⟨d.toNat, by omega⟩
  obtain ⟨n, hn⟩ : ∃ n : Nat, s 22 0 = n := ⟨(s 22 0).toNat, by omega⟩
  subst hk
  have h1 := sAre_oneK n (by omega) k (by omega)
  constructor
  · unfold t_join sAre sOne
    rw [if_neg (by omega), hn, if_pos h1, if_neg (by omega), (one_side (by omega) _ (by omega)).2, if_neg (by omega)]
  · unfold sJoin
    rw [hn, one_join (by omega) _ (by omega), if_pos (by omega)]
