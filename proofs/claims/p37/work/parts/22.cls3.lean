theorem c8_lgt {X : jj_X} {own : String} {cc : ByteArray} {rm : Room} {G : jj_G} {kc kn pc nx : Nat} {lv : List (Option Value)} {st : List Value} (F : jj_F X own cc rm) {a b : Int} (h : b < a ∧ -9223372036854775808 ≤ b ∧ a ≤ 9223372036854775807) (d : jj_D cc pc (.lcmp) 1 nx) (kk : jj_J X G kc kn nx lv (.int (jI 1) :: st)) : jj_J X G kc kn pc lv (.long (jL b) :: .long (jL a) :: st) := by
  refine jj_lcmp F d ?_
  rw [show lg_cmp (jL a) (jL b) = jI 1 by
    unfold lg_cmp
    rw [if_pos ((jL_lt ⟨h.2.1, by omega, by omega, h.2.2⟩).mpr h.1)]
    decide]
  exact kk
/-- 1 if discs of a stamper among the first n of a side are sold -/
def sAnyTo (s : Sg) (d : Int) : Nat → Int
  | 0 => 0
  | n + 1 => if sAnyTo s d n = 1 then 1 else if s 19 (12 * d + n) < s 18 (12 * d + n) then 1 else 0
theorem sAnyTo_up {s : Sg} {d : Int} {n : Nat} (h : sAnyTo s d n = 1) : ∀ m, n ≤ m → sAnyTo s d m = 1 := by
  intro m hm
  induction m with
  | zero => rw [show n = 0 by omega] at h; exact h
  | succ m ih =>
    by_cases e : n = m + 1
    · rw [← e]; exact h
    · unfold sAnyTo; rw [if_pos (ih (by omega))]
theorem sPlaysTo_up {s : Sg} {n : Nat} (h : sPlaysTo s n = 0) : ∀ m, n ≤ m → sPlaysTo s m = 0 := by
  intro m hm
  induction m with
  | zero => rw [show n = 0 by omega] at h; exact h
  | succ m ih =>
    by_cases e : n = m + 1
    · rw [← e]; exact h
    · unfold sPlaysTo; rw [if_pos (ih (by omega))]
def sProgS (s : Sg) : Nat → Int
  | 0 => 0
  | n + 1 => sProgS s n + sLen s (s 12 n)
theorem sProgS_eq (s : Sg) (n : Nat) : sProgTo s n = 3 * (s 11 0 - 1) + sProgS s n := by
  induction n with
  | zero => unfold sProgTo sProgS; omega
  | succ n ih => unfold sProgTo sProgS; omega
/-- what all sales brought an artist, by what is left of them -/
def sDues (s : Sg) (q : Int) : Nat → Int
  | 0 => 0
  | n + 1 => sDues s q n + sDue s n q (s 33 n)
abbrev sMk (s : Sg) (k : Int) : Prop := (0 ≤ k ∧ k < 120) ∧ ¬ s 16 k = -1

abbrev rm_X6_stillSold : Room := { frames := 0, cells := 0, slots := 0, locals := 0 }
set_option maxRecDepth 100000 in
set_option maxHeartbeats 400000 in
theorem k6_stillSold {l : Launch} {D : va_G} {ac : Nat → ClassId} (hl : l.stackTraces = false) {ad : Ad} {s e : Sg} {k : Int}  {G : jj_G} (hH : Has ad (cC ac ad s e) G) (hk : sMk s k) : jj_C l D ac yX6_stillSold (.code yX6_stillSold cX6_stillSold 1 (some .int)) rm_X6_stillSold [.ref (ad 23 k)] G (jj_ri (s 18 k - s 19 k) G) (jj_nx) := by
  refine jj_ofx (own := RX6) (lv0 := [some (.ref (ad 23 k))]) hl (by decide +kernel) rfl rfl (Nat.le_of_ble_eq_true rfl) rfl ?_
  intro X B hN hl0 hdg hac hin
  subst hl0; subst hdg; subst hac
  have F := B.F

  refine jj_aload0 F dX6_stillSold_0 ?_
  refine jj_get F (hH.at (k := 23) (i := k) (if_pos (by omega))) cs_6 (by decide) fd_X6_24 rfl dX6_stillSold_1 ?_
  refine jj_aload0 F dX6_stillSold_4 ?_
  refine jj_get F (hH.at (k := 23) (i := k) (if_pos (by omega))) cs_6 (by decide) fd_X6_27 rfl dX6_stillSold_5 ?_
  refine jj_isub F dX6_stillSold_8 ?_
  exact jj_iretr B dX6_stillSold_9 ⟨Nat.le_of_ble_eq_true rfl, Nat.le_of_ble_eq_true rfl⟩ (rfl)
abbrev rm_X6_neverSold : Room := { frames := 0, cells := 0, slots := 0, locals := 0 }
set_option maxRecDepth 100000 in
set_option maxHeartbeats 400000 in
theorem k6_neverSold {l : Launch} {D : va_G} {ac : Nat → ClassId} (hl : l.stackTraces = false) {ad : Ad} {s e : Sg} {k : Int}  {G : jj_G} (hH : Has ad (cC ac ad s e) G) (hk : sMk s k) : jj_C l D ac yX6_neverSold (.code yX6_neverSold cX6_neverSold 1 (some .int)) rm_X6_neverSold [.ref (ad 23 k)] G (jj_ri (s 17 k - s 18 k) G) (jj_nx) := by
  refine jj_ofx (own := RX6) (lv0 := [some (.ref (ad 23 k))]) hl (by decide +kernel) rfl rfl (Nat.le_of_ble_eq_true rfl) rfl ?_
  intro X B hN hl0 hdg hac hin
  subst hl0; subst hdg; subst hac
  have F := B.F

  refine jj_aload0 F dX6_neverSold_0 ?_
  refine jj_get F (hH.at (k := 23) (i := k) (if_pos (by omega))) cs_6 (by decide) fd_X6_21 rfl dX6_neverSold_1 ?_
  refine jj_aload0 F dX6_neverSold_4 ?_
  refine jj_get F (hH.at (k := 23) (i := k) (if_pos (by omega))) cs_6 (by decide) fd_X6_24 rfl dX6_neverSold_5 ?_
  refine jj_isub F dX6_neverSold_8 ?_
  exact jj_iretr B dX6_neverSold_9 ⟨Nat.le_of_ble_eq_true rfl, Nat.le_of_ble_eq_true rfl⟩ (rfl)
abbrev rm_X6_unnamed : Room := { frames := 1, cells := 0, slots := 0, locals := 20 }
set_option maxRecDepth 100000 in
set_option maxHeartbeats 400000 in
theorem k6_unnamed {l : Launch} {D : va_G} {ac : Nat → ClassId} (hl : l.stackTraces = false) {ad : Ad} {s e : Sg} {k : Int}  {G : jj_G} (hH : Has ad (cC ac ad s e) G) (hk : sMk s k) : jj_C l D ac yX6_unnamed (.code yX6_unnamed cX6_unnamed 1 (some .int)) rm_X6_unnamed [.ref (ad 23 k)] G (jj_ri (s 18 k - s 19 k - sDiscs s k) G) (jj_nx) := by
  refine jj_ofx (own := RX6) (lv0 := [some (.ref (ad 23 k))]) hl (by decide +kernel) rfl rfl (Nat.le_of_ble_eq_true rfl) rfl ?_
  intro X B hN hl0 hdg hac hin
  subst hl0; subst hdg; subst hac
  have F := B.F

  refine jj_aload0 F dX6_unnamed_0 ?_
  refine jj_callVr B (k := 0) (n := 0) (k6_stillSold F.tr hH hk) lk_X6_30 (hH.at (k := 23) (i := k) (if_pos (by omega))) cs_6 rfl rfl ⟨Nat.le_of_ble_eq_true rfl, Nat.le_of_ble_eq_true rfl, Nat.le_of_ble_eq_true rfl, Nat.le_of_ble_eq_true rfl, Nat.le_of_ble_eq_true rfl⟩ ⟨Nat.le_of_ble_eq_true rfl, Nat.le_of_ble_eq_true rfl, Nat.le_of_ble_eq_true rfl, Nat.le_of_ble_eq_true rfl⟩ jj_tx0 dX6_unnamed_1 ?_
  refine jj_aload0 F dX6_unnamed_4 ?_
  refine jj_get F (hH.at (k := 23) (i := k) (if_pos (by omega))) cs_6 (by decide) fd_X6_34 rfl dX6_unnamed_5 ?_
  refine jj_isub F dX6_unnamed_8 ?_
  exact jj_iretr B dX6_unnamed_9 ⟨Nat.le_of_ble_eq_true rfl, Nat.le_of_ble_eq_true rfl⟩ (rfl)
abbrev rm_X4_secondsOf : Room := { frames := 0, cells := 0, slots := 0, locals := 0 }
set_option maxRecDepth 100000 in
set_option maxHeartbeats 400000 in
theorem k4_secondsOf {l : Launch} {D : va_G} {ac : Nat → ClassId} (hl : l.stackTraces = false) {ad : Ad} {s e : Sg} {d q : Int}  {G : jj_G} (hH : Has ad (cC ac ad s e) G) (hd : 0 ≤ d ∧ d < s 13 0) (hq : 0 ≤ q ∧ q < 6) : jj_C l D ac yX4_secondsOf (.code yX4_secondsOf cX4_secondsOf 2 (some .int)) rm_X4_secondsOf [.ref (ad 20 d), .int (jI q)] G (jj_ri (s 14 (6 * d + q)) G) (jj_nx) := by
  refine jj_ofx (own := RX4) (lv0 := [some (.ref (ad 20 d)), some (.int (jI q))]) hl (by decide +kernel) rfl rfl (Nat.le_of_ble_eq_true rfl) rfl ?_
  intro X B hN hl0 hdg hac hin
  subst hl0; subst hdg; subst hac
  have F := B.F

  refine jj_iload1 F dX4_secondsOf_0 ?_
  refine jj_if_lt F (tgt := 13) dX4_secondsOf_1 rfl (by omega) (fun c1 => by exfalso; omega) (fun c1 => ?_)
  refine jj_iload1 F dX4_secondsOf_4 ?_
  refine jj_aload0 F dX4_secondsOf_5 ?_
  refine jj_get F (hH.at (k := 20) (i := d) (if_pos (by omega))) cs_4 (by decide) fd_X4_9 rfl dX4_secondsOf_6 ?_
  refine jj_alenI F (hH.at (k := 21) (i := d) (if_pos (by omega))) dX4_secondsOf_9 ?_
  refine jj_icmp_lt F (tgt := 17) dX4_secondsOf_10 rfl (by omega) (fun c10 => ?_) (fun c10 => by exfalso; omega)
  refine jj_aload0 F dX4_secondsOf_17 ?_
  refine jj_get F (hH.at (k := 20) (i := d) (if_pos (by omega))) cs_4 (by decide) fd_X4_9 rfl dX4_secondsOf_18 ?_
  refine jj_iload1 F dX4_secondsOf_21 ?_
  refine c8_ald F (hH.at (k := 21) (i := d) (if_pos (by omega))) (by omega) rfl (by decide) dX4_secondsOf_22 ?_
  exact jj_iretr B dX4_secondsOf_23 ⟨Nat.le_of_ble_eq_true rfl, Nat.le_of_ble_eq_true rfl⟩ (rfl)
abbrev rm_X4_stamperAt : Room := { frames := 0, cells := 0, slots := 0, locals := 0 }
set_option maxRecDepth 100000 in
set_option maxHeartbeats 400000 in
theorem k4_stamperAt {l : Launch} {D : va_G} {ac : Nat → ClassId} (hl : l.stackTraces = false) {ad : Ad} {s e : Sg} {d p : Int}  {G : jj_G} (hH : Has ad (cC ac ad s e) G) (hd : 0 ≤ d ∧ d < s 13 0) (hp : 0 ≤ p ∧ p < 12) : jj_C l D ac yX4_stamperAt (.code yX4_stamperAt cX4_stamperAt 2 (some (.object "MatrixHouse$Stamper"))) rm_X4_stamperAt [.ref (ad 20 d), .int (jI p)] G (jj_pq (fun r G' => r = mRow ad s d p ∧ G' = G)) (jj_nx) := by
  refine jj_ofx (own := RX4) (lv0 := [some (.ref (ad 20 d)), some (.int (jI p))]) hl (by decide +kernel) rfl rfl (Nat.le_of_ble_eq_true rfl) rfl ?_
  intro X B hN hl0 hdg hac hin
  subst hl0; subst hdg; subst hac
  have F := B.F

  refine jj_iload1 F dX4_stamperAt_0 ?_
  refine jj_if_lt F (tgt := 13) dX4_stamperAt_1 rfl (by omega) (fun c1 => by exfalso; omega) (fun c1 => ?_)
  refine jj_iload1 F dX4_stamperAt_4 ?_
  refine jj_aload0 F dX4_stamperAt_5 ?_
  refine jj_get F (hH.at (k := 20) (i := d) (if_pos (by omega))) cs_4 (by decide) fd_X4_17 rfl dX4_stamperAt_6 ?_
  refine jj_alenQ F (fun _ => rfl) (hH.at (k := 22) (i := d) (if_pos (by omega))) dX4_stamperAt_9 ?_
  refine jj_icmp_lt F (tgt := 17) dX4_stamperAt_10 rfl (by omega) (fun c10 => ?_) (fun c10 => by exfalso; omega)
  refine jj_aload0 F dX4_stamperAt_17 ?_
  refine jj_get F (hH.at (k := 20) (i := d) (if_pos (by omega))) cs_4 (by decide) fd_X4_17 rfl dX4_stamperAt_18 ?_
  refine jj_iload1 F dX4_stamperAt_21 ?_
  refine jj_ald F (fun _ => rfl) (hH.at (k := 22) (i := d) (if_pos (by omega))) (by omega) (by decide) dX4_stamperAt_22 ?_
  exact jj_aret B (r := mRow ad s d p) rfl dX4_stamperAt_23 ⟨Nat.le_of_ble_eq_true rfl, Nat.le_of_ble_eq_true rfl⟩ ⟨_, rfl, rfl, rfl⟩
abbrev rm_X4_isAnySold : Room := { frames := 1, cells := 0, slots := 0, locals := 20 }
set_option maxRecDepth 100000 in
set_option maxHeartbeats 400000 in
theorem k4_isAnySold {l : Launch} {D : va_G} {ac : Nat → ClassId} (hl : l.stackTraces = false) {ad : Ad} {s e : Sg} {d : Int}  {G : jj_G} (hH : Has ad (cC ac ad s e) G) (hd : 0 ≤ d ∧ d < s 13 0 ∧ d < 10) (hI4 : sI4 s) : jj_C l D ac yX4_isAnySold (.code yX4_isAnySold cX4_isAnySold 5 (some .boolean)) rm_X4_isAnySold [.ref (ad 20 d)] G (jj_ri (sAnyTo s d 12) G) (jj_nx) := by
  refine jj_ofx (own := RX4) (lv0 := [some (.ref (ad 20 d)), none, none, none, none]) hl (by decide +kernel) rfl rfl (Nat.le_of_ble_eq_true rfl) rfl ?_
  intro X B hN hl0 hdg hac hin
  subst hl0; subst hdg; subst hac
  have F := B.F

  have hbd : ∀ j : Nat, j < 12 → (0 ≤ s 19 (12 * d + j) ∧ s 19 (12 * d + j) ≤ s 18 (12 * d + j) ∧ s 18 (12 * d + j) ≤ 500) ∧ (s 16 (12 * d + j) = -1 → s 18 (12 * d + j) = 0) := by
    intro j hj
    have g := hI4.1 (12 * d + j) (by omega) (by omega)
    exact ⟨by omega, fun h => by have := g.2.2.2.2.2.1 h; omega⟩
  refine jj_aload0 F dX4_isAnySold_0 ?_
  refine jj_get F (hH.at (k := 20) (i := d) (if_pos (by omega))) cs_4 (by decide) fd_X4_17 rfl dX4_isAnySold_1 ?_
  refine jj_astore1 F dX4_isAnySold_4 (hN _ (by decide)) rfl ?_
  refine jj_aload1 F dX4_isAnySold_5 ?_
  refine jj_alenQ F (fun _ => rfl) (hH.at (k := 22) (i := d) (if_pos (by omega))) dX4_isAnySold_6 ?_
  refine jj_istore2 F dX4_isAnySold_7 (hN _ (by decide)) rfl ?_
  refine jj_iconst F dX4_isAnySold_8 ?_
  refine jj_istore3 F dX4_isAnySold_9 (hN _ (by decide)) rfl ?_
  have loop : ∀ (n j : Nat) (x4 : Option Value), n + j = 12 → sAnyTo s d j = 0 → jj_J X G 0 0 10 [some (.ref (ad 20 d)), some (.ref (ad 22 d)), some (.int (jI 12)), some (.int (jI j)), x4] [] := by
    intro n
    induction n with
    | zero =>
      intro j x4 hj h0
      refine jj_iload3 F dX4_isAnySold_10 ?_
      refine jj_iload2 F dX4_isAnySold_11 ?_
      refine jj_icmp_ge F (tgt := 41) dX4_isAnySold_12 rfl (by omega) (fun c12 => ?_) (fun c12 => by exfalso; omega)
      refine jj_iconst F dX4_isAnySold_41 ?_
      exact jj_zretr B dX4_isAnySold_42 ⟨Nat.le_of_ble_eq_true rfl, Nat.le_of_ble_eq_true rfl⟩ (by omega) (by rw [show (12 : Nat) = j by omega, h0])
    | succ n ih =>
      intro j x4 hj h0
      have e1 := hbd j (by omega)
      refine jj_iload3 F dX4_isAnySold_10 ?_
      refine jj_iload2 F dX4_isAnySold_11 ?_
      refine jj_icmp_ge F (tgt := 41) dX4_isAnySold_12 rfl (by omega) (fun c12 => by exfalso; omega) (fun c12 => ?_)
      refine jj_aload1 F dX4_isAnySold_15 ?_
      refine jj_iload3 F dX4_isAnySold_16 ?_
      refine jj_ald F (fun _ => rfl) (hH.at (k := 22) (i := d) (if_pos (by omega))) (by omega) (by decide) dX4_isAnySold_17 ?_
      by_cases hq17 : s 16 (12 * d + j) = -1
      · skip
        refine jj_qn (mRow_no (fun h => h.2 hq17)) ?_
        refine jj_nstore4 F dX4_isAnySold_18 (hN _ (by decide)) rfl ?_
        refine jj_nload4 F dX4_isAnySold_20 ?_
        refine jj_ifnull F (r := none) (tgt := 35) dX4_isAnySold_22 rfl (fun _ => ?_) (fun _ h => by cases h)
        refine jj_iinc3 F dX4_isAnySold_35 (hN _ (by decide)) rfl ?_
        refine jj_goto F (tgt := 10) dX4_isAnySold_38 rfl ?_
        have ih1 := fun x => ih (j + 1) x (by omega) (by unfold sAnyTo; rw [if_neg (by omega), if_neg (by omega)])
        rw [show (((j + 1 : Nat)) : Int) = (j : Int) + 1 from rfl] at ih1
        exact ih1 _
      · skip
        refine jj_qv (mRow_at ⟨by omega, hq17⟩) ?_
        refine jj_astore4 F dX4_isAnySold_18 (hN _ (by decide)) rfl ?_
        refine jj_aload4 F dX4_isAnySold_20 ?_
        refine jj_ifnull F (r := some (ad 23 (12 * d + j))) (tgt := 35) dX4_isAnySold_22 rfl (fun h => by cases h) (fun _ _ => ?_)
        refine jj_aload4 F dX4_isAnySold_25 ?_
        refine jj_callVr B (k := 0) (n := 0) (k6_stillSold F.tr hH ⟨by omega, by omega⟩) lk_X4_34 (hH.at (k := 23) (i := 12 * d + j) (if_pos (by omega))) cs_6 rfl rfl ⟨Nat.le_of_ble_eq_true rfl, Nat.le_of_ble_eq_true rfl, Nat.le_of_ble_eq_true rfl, Nat.le_of_ble_eq_true rfl, Nat.le_of_ble_eq_true rfl⟩ ⟨Nat.le_of_ble_eq_true rfl, Nat.le_of_ble_eq_true rfl, Nat.le_of_ble_eq_true rfl, Nat.le_of_ble_eq_true rfl⟩ jj_tx0 dX4_isAnySold_27 ?_
        refine jj_if_le F (tgt := 35) dX4_isAnySold_30 rfl (by omega) (fun c30 => ?_) (fun c30 => ?_)
        · skip
          refine jj_iinc3 F dX4_isAnySold_35 (hN _ (by decide)) rfl ?_
          refine jj_goto F (tgt := 10) dX4_isAnySold_38 rfl ?_
          have ih1 := fun x => ih (j + 1) x (by omega) (by unfold sAnyTo; rw [if_neg (by omega), if_neg (by omega)])
          rw [show (((j + 1 : Nat)) : Int) = (j : Int) + 1 from rfl] at ih1
          exact ih1 _
        · skip
          refine jj_iconst F dX4_isAnySold_33 ?_
          exact jj_zretr B dX4_isAnySold_34 ⟨Nat.le_of_ble_eq_true rfl, Nat.le_of_ble_eq_true rfl⟩ (by omega) (by rw [sAnyTo_up (s := s) (d := d) (n := j + 1) (by unfold sAnyTo; rw [if_neg (by omega), if_pos (by omega)]) 12 (by omega)])
  exact loop 12 0 none (by omega) rfl
abbrev rm_X0_noiseOf : Room := { frames := 0, cells := 0, slots := 0, locals := 0 }
set_option maxRecDepth 100000 in
set_option maxHeartbeats 400000 in
theorem k0_noiseOf {l : Launch} {D : va_G} {ac : Nat → ClassId} (hl : l.stackTraces = false) {ad : Ad} {s e : Sg} {d p : Int}  {G : jj_G} (hH : Has ad (cC ac ad s e) G) (hd : 0 ≤ d ∧ d < s 22 0) (hp : 0 ≤ p ∧ p < 8) (hw : 0 ≤ s 24 d ∧ s 24 d ≤ 100000) : jj_C l D ac yX0_noiseOf (.code yX0_noiseOf cX0_noiseOf 3 (some .int)) rm_X0_noiseOf [.ref (ad 24 d), .int (jI p)] G (jj_ri (sNoise s d p) G) (jj_nx) := by
  refine jj_ofx (own := RX0) (lv0 := [some (.ref (ad 24 d)), some (.int (jI p)), none]) hl (by decide +kernel) rfl rfl (Nat.le_of_ble_eq_true rfl) rfl ?_
  intro X B hN hl0 hdg hac hin
  subst hl0; subst hdg; subst hac
  have F := B.F

  have hm : 0 ≤ s 24 d * (p + 1) ∧ s 24 d * (p + 1) ≤ 800000 := by
    constructor
    · exact Int.mul_nonneg hw.1 (by omega)
    · have h1 : s 24 d * (p + 1) ≤ 100000 * (p + 1) := Int.mul_le_mul_of_nonneg_right hw.2 (by omega)
      omega
  refine jj_iload1 F dX0_noiseOf_0 ?_
  refine jj_if_lt F (tgt := 13) dX0_noiseOf_1 rfl (by omega) (fun c1 => by exfalso; omega) (fun c1 => ?_)
  refine jj_iload1 F dX0_noiseOf_4 ?_
  refine jj_aload0 F dX0_noiseOf_5 ?_
  refine jj_get F (hH.at (k := 24) (i := d) (if_pos (by omega))) cs_0 (by decide) fd_X0_9 rfl dX0_noiseOf_6 ?_
  refine jj_alenI F (hH.at (k := 25) (i := d) (if_pos (by omega))) dX0_noiseOf_9 ?_
  refine jj_icmp_lt F (tgt := 17) dX0_noiseOf_10 rfl (by omega) (fun c10 => ?_) (fun c10 => by exfalso; omega)
  refine jj_aload0 F dX0_noiseOf_17 ?_
  refine jj_get F (hH.at (k := 24) (i := d) (if_pos (by omega))) cs_0 (by decide) fd_X0_9 rfl dX0_noiseOf_18 ?_
  refine jj_iload1 F dX0_noiseOf_21 ?_
  refine c8_ald F (hH.at (k := 25) (i := d) (if_pos (by omega))) (by omega) rfl (by decide) dX0_noiseOf_22 ?_
  refine jj_istore2 F dX0_noiseOf_23 (hN _ (by decide)) rfl ?_
  refine jj_iconst F dX0_noiseOf_24 ?_
  refine jj_iload2 F dX0_noiseOf_25 ?_
  refine jj_imul F dX0_noiseOf_26 ?_
  refine jj_aload0 F dX0_noiseOf_27 ?_
  refine jj_get F (hH.at (k := 24) (i := d) (if_pos (by omega))) cs_0 (by decide) fd_X0_19 rfl dX0_noiseOf_28 ?_
  refine jj_iload1 F dX0_noiseOf_31 ?_
  refine jj_iconst F dX0_noiseOf_32 ?_
  refine jj_iadd F dX0_noiseOf_33 ?_
  refine jj_imul F dX0_noiseOf_34 ?_
  refine jj_bipush F (by decide) dX0_noiseOf_35 ?_
  refine jj_idiv F ⟨hm.1, by omega, by omega, by omega⟩ dX0_noiseOf_37 ?_
  refine jj_iadd F dX0_noiseOf_38 ?_
  exact jj_iretr B dX0_noiseOf_39 ⟨Nat.le_of_ble_eq_true rfl, Nat.le_of_ble_eq_true rfl⟩ (rfl)
abbrev rm_X0_noiseOfAll : Room := { frames := 1, cells := 0, slots := 0, locals := 22 }
set_option maxRecDepth 100000 in
set_option maxHeartbeats 400000 in
theorem k0_noiseOfAll {l : Launch} {D : va_G} {ac : Nat → ClassId} (hl : l.stackTraces = false) {ad : Ad} {s e : Sg} {d : Int}  {G : jj_G} (hH : Has ad (cC ac ad s e) G) (hd : 0 ≤ d ∧ d < s 22 0) (hw : 0 ≤ s 24 d ∧ s 24 d ≤ 100000) : jj_C l D ac yX0_noiseOfAll (.code yX0_noiseOfAll cX0_noiseOfAll 3 (some .int)) rm_X0_noiseOfAll [.ref (ad 24 d)] G (jj_ri (sNoises s d 8) G) (jj_nx) := by
  refine jj_ofx (own := RX0) (lv0 := [some (.ref (ad 24 d)), none, none]) hl (by decide +kernel) rfl rfl (Nat.le_of_ble_eq_true rfl) rfl ?_
  intro X B hN hl0 hdg hac hin
  subst hl0; subst hdg; subst hac
  have F := B.F

  refine jj_iconst F dX0_noiseOfAll_0 ?_
  refine jj_istore1 F dX0_noiseOfAll_1 (hN _ (by decide)) rfl ?_
  refine jj_iconst F dX0_noiseOfAll_2 ?_
  refine jj_istore2 F dX0_noiseOfAll_3 (hN _ (by decide)) rfl ?_
  have loop : ∀ (n j : Nat), n + j = 8 → jj_J X G 0 0 4 [some (.ref (ad 24 d)), some (.int (jI (sNoises s d j))), some (.int (jI j))] [] := by
    intro n
    induction n with
    | zero =>
      intro j hj
      refine jj_iload2 F dX0_noiseOfAll_4 ?_
      refine jj_bipush F (by decide) dX0_noiseOfAll_5 ?_
      refine jj_icmp_ge F (tgt := 24) dX0_noiseOfAll_7 rfl (by omega) (fun c7 => ?_) (fun c7 => by exfalso; omega)
      refine jj_iload1 F dX0_noiseOfAll_24 ?_
      exact jj_iretr B dX0_noiseOfAll_25 ⟨Nat.le_of_ble_eq_true rfl, Nat.le_of_ble_eq_true rfl⟩ (by rw [show (8 : Nat) = j by omega])
    | succ n ih =>
      intro j hj
      refine jj_iload2 F dX0_noiseOfAll_4 ?_
      refine jj_bipush F (by decide) dX0_noiseOfAll_5 ?_
      refine jj_icmp_ge F (tgt := 24) dX0_noiseOfAll_7 rfl (by omega) (fun c7 => by exfalso; omega) (fun c7 => ?_)
      refine jj_iload1 F dX0_noiseOfAll_10 ?_
      refine jj_aload0 F dX0_noiseOfAll_11 ?_
      refine jj_iload2 F dX0_noiseOfAll_12 ?_
      refine jj_callVr B (k := 0) (n := 0) (k0_noiseOf F.tr hH hd (by omega) hw) lk_X0_23 (hH.at (k := 24) (i := d) (if_pos (by omega))) cs_0 rfl rfl ⟨Nat.le_of_ble_eq_true rfl, Nat.le_of_ble_eq_true rfl, Nat.le_of_ble_eq_true rfl, Nat.le_of_ble_eq_true rfl, Nat.le_of_ble_eq_true rfl⟩ ⟨Nat.le_of_ble_eq_true rfl, Nat.le_of_ble_eq_true rfl, Nat.le_of_ble_eq_true rfl, Nat.le_of_ble_eq_true rfl⟩ jj_tx0 dX0_noiseOfAll_13 ?_
      refine jj_iadd F dX0_noiseOfAll_16 ?_
      refine jj_istore1 F dX0_noiseOfAll_17 (hN _ (by decide)) rfl ?_
      refine jj_iinc2 F dX0_noiseOfAll_18 (hN _ (by decide)) rfl ?_
      refine jj_goto F (tgt := 4) dX0_noiseOfAll_21 rfl ?_
      have ih1 := ih (j + 1) (by omega)
      rw [show (((j + 1 : Nat)) : Int) = (j : Int) + 1 from rfl] at ih1
      exact ih1
  exact loop 8 0 (by omega)
abbrev rm_X1_isPlayable : Room := { frames := 1, cells := 0, slots := 0, locals := 21 }
set_option maxRecDepth 100000 in
set_option maxHeartbeats 400000 in
theorem k1_isPlayable {l : Launch} {D : va_G} {ac : Nat → ClassId} (hl : l.stackTraces = false) {ad : Ad} {s e : Sg}  {G : jj_G} (hH : Has ad (cC ac ad s e) G) (hI : sI1 s) (hI2 : sI2 s)  : jj_C l D ac yX1_isPlayable (.code yX1_isPlayable cX1_isPlayable 6 (some .boolean)) rm_X1_isPlayable [.ref (ad 4 0), .int (jI (s 0 0))] G (jj_ri (sPlaysTo s (s 11 0).toNat) G) (jj_nx) := by
  refine jj_ofx (own := RX1) (lv0 := [some (.ref (ad 4 0)), some (.int (jI (s 0 0))), none, none, none, none]) hl (by decide +kernel) rfl rfl (Nat.le_of_ble_eq_true rfl) rfl ?_
  intro X B hN hl0 hdg hac hin
  subst hl0; subst hdg; subst hac
  have F := B.F

  have hpt : ∀ j : Nat, (j : Int) < s 11 0 → 0 ≤ s 12 j ∧ s 12 j < s 1 0 := fun j hj => hI2.2 j (by omega) hj
  have h11 := hI2.1
  refine jj_aload0 F dX1_isPlayable_0 ?_
  refine jj_get F (hH.at (k := 4) (i := 0) cc_4) cs_1 (by decide) fd_X1_11 rfl dX1_isPlayable_1 ?_
  refine jj_astore2 F dX1_isPlayable_4 (hN _ (by decide)) rfl ?_
  refine jj_aload2 F dX1_isPlayable_5 ?_
  refine jj_alenQ F (fun _ => rfl) (hH.at (k := 5) (i := 0) cc_5) dX1_isPlayable_6 ?_
  refine jj_istore3 F dX1_isPlayable_7 (hN _ (by decide)) rfl ?_
  refine jj_iconst F dX1_isPlayable_8 ?_
  refine jj_istore4 F dX1_isPlayable_9 (hN _ (by decide)) rfl ?_
  have loop : ∀ (n j : Nat) (x5 : Option Value), n + j = 6 → sPlaysTo s (min j (s 11 0).toNat) = 1 → jj_J X G 0 0 11 [some (.ref (ad 4 0)), some (.int (jI (s 0 0))), some (.ref (ad 5 0)), some (.int (jI 6)), some (.int (jI j)), x5] [] := by
    intro n
    induction n with
    | zero =>
      intro j x5 hj h0
      refine jj_iload4 F dX1_isPlayable_11 ?_
      refine jj_iload3 F dX1_isPlayable_13 ?_
      refine jj_icmp_ge F (tgt := 45) dX1_isPlayable_14 rfl (by omega) (fun c14 => ?_) (fun c14 => by exfalso; omega)
      refine jj_iconst F dX1_isPlayable_45 ?_
      exact jj_zretr B dX1_isPlayable_46 ⟨Nat.le_of_ble_eq_true rfl, Nat.le_of_ble_eq_true rfl⟩ (by omega) (by rw [← h0, show min j (s 11 0).toNat = (s 11 0).toNat by omega])
    | succ n ih =>
      intro j x5 hj h0
      refine jj_iload4 F dX1_isPlayable_11 ?_
      refine jj_iload3 F dX1_isPlayable_13 ?_
      refine jj_icmp_ge F (tgt := 45) dX1_isPlayable_14 rfl (by omega) (fun c14 => by exfalso; omega) (fun c14 => ?_)
      refine jj_aload2 F dX1_isPlayable_17 ?_
      refine jj_iload4 F dX1_isPlayable_18 ?_
      refine jj_ald F (fun _ => rfl) (hH.at (k := 5) (i := 0) cc_5) (by omega) (by decide) dX1_isPlayable_20 ?_
      by_cases hq20 : (j : Int) < s 11 0
      · skip
        rw [show min j (s 11 0).toNat = j by omega] at h0
        refine jj_qv (pRow_at ⟨by omega, hq20⟩) ?_
        refine jj_astore5 F dX1_isPlayable_21 (hN _ (by decide)) rfl ?_
        refine jj_aload5 F dX1_isPlayable_23 ?_
        refine jj_ifnull F (r := some (ad 16 (s 12 j))) (tgt := 39) dX1_isPlayable_25 rfl (fun h => by cases h) (fun _ _ => ?_)
        refine jj_aload5 F dX1_isPlayable_28 ?_
        refine jj_iload1 F dX1_isPlayable_30 ?_
        refine jj_callVr B (k := 0) (n := 0) (k7_isPlayable F.tr hH hI (hpt j (by omega)) hI.1) lk_X1_21 (hH.at (k := 16) (i := s 12 j) (if_pos (hpt j (by omega)))) cs_7 rfl rfl ⟨Nat.le_of_ble_eq_true rfl, Nat.le_of_ble_eq_true rfl, Nat.le_of_ble_eq_true rfl, Nat.le_of_ble_eq_true rfl, Nat.le_of_ble_eq_true rfl⟩ ⟨Nat.le_of_ble_eq_true rfl, Nat.le_of_ble_eq_true rfl, Nat.le_of_ble_eq_true rfl, Nat.le_of_ble_eq_true rfl⟩ jj_tx0 dX1_isPlayable_31 ?_
        refine jj_eqi (b := sPlay s (s 12 j)) rfl ?_
        refine jj_if_ne F (tgt := 39) dX1_isPlayable_34 rfl (by have := sPlay_01 s (s 12 j); omega) (fun c34 => ?_) (fun c34 => ?_)
        · skip
          refine jj_iinc4 F dX1_isPlayable_39 (hN _ (by decide)) rfl ?_
          refine jj_goto F (tgt := 11) dX1_isPlayable_42 rfl ?_
          have ih1 := fun x => ih (j + 1) x (by omega) (by rw [show min (j + 1) (s 11 0).toNat = j + 1 by omega]; unfold sPlaysTo; rw [if_neg (by omega)]; have := sPlay_01 s (s 12 j); omega)
          rw [show (((j + 1 : Nat)) : Int) = (j : Int) + 1 from rfl] at ih1
          exact ih1 _
        · skip
          refine jj_iconst F dX1_isPlayable_37 ?_
          exact jj_zretr B dX1_isPlayable_38 ⟨Nat.le_of_ble_eq_true rfl, Nat.le_of_ble_eq_true rfl⟩ (by omega) ((sPlaysTo_up (s := s) (n := j + 1) (by unfold sPlaysTo; rw [if_neg (by omega)]; omega) _ (by omega)).symm)
      · skip
        refine jj_qn (pRow_no (fun h => hq20 h.2)) ?_
        refine jj_nstore5 F dX1_isPlayable_21 (hN _ (by decide)) rfl ?_
        refine jj_nload5 F dX1_isPlayable_23 ?_
        refine jj_ifnull F (r := none) (tgt := 39) dX1_isPlayable_25 rfl (fun _ => ?_) (fun _ h => by cases h)
        refine jj_iinc4 F dX1_isPlayable_39 (hN _ (by decide)) rfl ?_
        refine jj_goto F (tgt := 11) dX1_isPlayable_42 rfl ?_
        have ih1 := fun x => ih (j + 1) x (by omega) (by rw [show min (j + 1) (s 11 0).toNat = min j (s 11 0).toNat by omega]; exact h0)
        rw [show (((j + 1 : Nat)) : Int) = (j : Int) + 1 from rfl] at ih1
        exact ih1 _
  exact loop 6 0 none (by omega) (by rw [show min 0 (s 11 0).toNat = 0 by omega]; rfl)
abbrev rm_X1_length : Room := { frames := 1, cells := 0, slots := 0, locals := 21 }
set_option maxRecDepth 100000 in
set_option maxHeartbeats 400000 in
theorem k1_length {l : Launch} {D : va_G} {ac : Nat → ClassId} (hl : l.stackTraces = false) {ad : Ad} {s e : Sg}  {G : jj_G} (hH : Has ad (cC ac ad s e) G) (hI : sI1 s) (hI2 : sI2 s) (h0 : 1 ≤ s 11 0) : jj_C l D ac yX1_length (.code yX1_length cX1_length 6 (some .int)) rm_X1_length [.ref (ad 4 0)] G (jj_ri (sProgTo s (s 11 0).toNat) G) (jj_nx) := by
  refine jj_ofx (own := RX1) (lv0 := [some (.ref (ad 4 0)), none, none, none, none, none]) hl (by decide +kernel) rfl rfl (Nat.le_of_ble_eq_true rfl) rfl ?_
  intro X B hN hl0 hdg hac hin
  subst hl0; subst hdg; subst hac
  have F := B.F

  have hpt : ∀ j : Nat, (j : Int) < s 11 0 → 0 ≤ s 12 j ∧ s 12 j < s 1 0 := fun j hj => hI2.2 j (by omega) hj
  have h11 := hI2.1
  refine jj_iconst F dX1_length_0 ?_
  refine jj_istore1 F dX1_length_1 (hN _ (by decide)) rfl ?_
  refine jj_aload0 F dX1_length_2 ?_
  refine jj_get F (hH.at (k := 4) (i := 0) cc_4) cs_1 (by decide) fd_X1_11 rfl dX1_length_3 ?_
  refine jj_astore2 F dX1_length_6 (hN _ (by decide)) rfl ?_
  refine jj_aload2 F dX1_length_7 ?_
  refine jj_alenQ F (fun _ => rfl) (hH.at (k := 5) (i := 0) cc_5) dX1_length_8 ?_
  refine jj_istore3 F dX1_length_9 (hN _ (by decide)) rfl ?_
  refine jj_iconst F dX1_length_10 ?_
  refine jj_istore4 F dX1_length_11 (hN _ (by decide)) rfl ?_
  have loop : ∀ (n j : Nat) (x5 : Option Value), n + j = 6 → jj_J X G 0 0 13 [some (.ref (ad 4 0)), some (.int (jI (sProgS s (min j (s 11 0).toNat)))), some (.ref (ad 5 0)), some (.int (jI 6)), some (.int (jI j)), x5] [] := by
    intro n
    induction n with
    | zero =>
      intro j x5 hj
      refine jj_iload4 F dX1_length_13 ?_
      refine jj_iload3 F dX1_length_15 ?_
      refine jj_icmp_ge F (tgt := 44) dX1_length_16 rfl (by omega) (fun c16 => ?_) (fun c16 => by exfalso; omega)
      refine jj_iload1 F dX1_length_44 ?_
      refine jj_iconst F dX1_length_45 ?_
      refine jj_aload0 F dX1_length_46 ?_
      refine jj_get F (hH.at (k := 4) (i := 0) cc_4) cs_1 (by decide) fd_X1_17 rfl dX1_length_47 ?_
      refine jj_iconst F dX1_length_50 ?_
      refine jj_isub F dX1_length_51 ?_
      refine jj_iconst F dX1_length_52 ?_
      refine jj_mmax F ml_X1_28 mmax_s m_i mmax_c ⟨Nat.le_of_ble_eq_true rfl, Nat.le_of_ble_eq_true rfl, Nat.le_of_ble_eq_true rfl, Nat.le_of_ble_eq_true rfl⟩ (by omega) dX1_length_53 ?_
      refine jj_imul F dX1_length_56 ?_
      refine jj_iadd F dX1_length_57 ?_
      exact jj_iretr B dX1_length_58 ⟨Nat.le_of_ble_eq_true rfl, Nat.le_of_ble_eq_true rfl⟩ (by rw [sProgS_eq, show min j (s 11 0).toNat = (s 11 0).toNat by omega, if_neg (by omega)]; omega)
    | succ n ih =>
      intro j x5 hj
      refine jj_iload4 F dX1_length_13 ?_
      refine jj_iload3 F dX1_length_15 ?_
      refine jj_icmp_ge F (tgt := 44) dX1_length_16 rfl (by omega) (fun c16 => by exfalso; omega) (fun c16 => ?_)
      refine jj_aload2 F dX1_length_19 ?_
      refine jj_iload4 F dX1_length_20 ?_
      refine jj_ald F (fun _ => rfl) (hH.at (k := 5) (i := 0) cc_5) (by omega) (by decide) dX1_length_22 ?_
      by_cases hq22 : (j : Int) < s 11 0
      · skip
        refine jj_qv (pRow_at ⟨by omega, hq22⟩) ?_
        refine jj_astore5 F dX1_length_23 (hN _ (by decide)) rfl ?_
        refine jj_aload5 F dX1_length_25 ?_
        refine jj_ifnull F (r := some (ad 16 (s 12 j))) (tgt := 38) dX1_length_27 rfl (fun h => by cases h) (fun _ _ => ?_)
        refine jj_iload1 F dX1_length_30 ?_
        refine jj_aload5 F dX1_length_31 ?_
        refine jj_get F (hH.at (k := 16) (i := s 12 j) (if_pos (hpt j (by omega)))) cs_7 (by decide) fd_X1_25 rfl dX1_length_33 ?_
        refine jj_iadd F dX1_length_36 ?_
        refine jj_istore1 F dX1_length_37 (hN _ (by decide)) rfl ?_
        refine jj_iinc4 F dX1_length_38 (hN _ (by decide)) rfl ?_
        refine jj_goto F (tgt := 13) dX1_length_41 rfl ?_
        have ih1 := fun x => ih (j + 1) x (by omega)
        rw [show (((j + 1 : Nat)) : Int) = (j : Int) + 1 from rfl] at ih1
        rw [show min (j + 1) (s 11 0).toNat = j + 1 by omega] at ih1
        rw [show min j (s 11 0).toNat = j by omega]
        exact ih1 _
      · skip
        refine jj_qn (pRow_no (fun h => hq22 h.2)) ?_
        refine jj_nstore5 F dX1_length_23 (hN _ (by decide)) rfl ?_
        refine jj_nload5 F dX1_length_25 ?_
        refine jj_ifnull F (r := none) (tgt := 38) dX1_length_27 rfl (fun _ => ?_) (fun _ h => by cases h)
        refine jj_iinc4 F dX1_length_38 (hN _ (by decide)) rfl ?_
        refine jj_goto F (tgt := 13) dX1_length_41 rfl ?_
        have ih1 := fun x => ih (j + 1) x (by omega)
        rw [show (((j + 1 : Nat)) : Int) = (j : Int) + 1 from rfl] at ih1
        rw [show min (j + 1) (s 11 0).toNat = min j (s 11 0).toNat by omega] at ih1
        exact ih1 _
  have l0 := loop 6 0 none (by omega)
  rw [show min 0 (s 11 0).toNat = 0 by omega] at l0
  exact l0
abbrev rm_X5_noiseOf : Room := { frames := 0, cells := 0, slots := 0, locals := 0 }
set_option maxRecDepth 100000 in
set_option maxHeartbeats 400000 in
theorem k5_noiseOf {l : Launch} {D : va_G} {ac : Nat → ClassId} (hl : l.stackTraces = false) {ad : Ad} {s e : Sg} {p : Int}  {G : jj_G} (hH : Has ad (cC ac ad s e) G) (hp : 0 ≤ p ∧ p < 8) : jj_C l D ac yX5_noiseOf (.code yX5_noiseOf cX5_noiseOf 2 (some .int)) rm_X5_noiseOf [.ref (ad 6 0), .int (jI p)] G (jj_ri (s 27 p) G) (jj_nx) := by
  refine jj_ofx (own := RX5) (lv0 := [some (.ref (ad 6 0)), some (.int (jI p))]) hl (by decide +kernel) rfl rfl (Nat.le_of_ble_eq_true rfl) rfl ?_
  intro X B hN hl0 hdg hac hin
  subst hl0; subst hdg; subst hac
  have F := B.F

  refine jj_iload1 F dX5_noiseOf_0 ?_
  refine jj_if_lt F (tgt := 13) dX5_noiseOf_1 rfl (by omega) (fun c1 => by exfalso; omega) (fun c1 => ?_)
  refine jj_iload1 F dX5_noiseOf_4 ?_
  refine jj_aload0 F dX5_noiseOf_5 ?_
  refine jj_get F (hH.at (k := 6) (i := 0) cc_6) cs_5 (by decide) fd_X5_9 rfl dX5_noiseOf_6 ?_
  refine jj_alenI F (hH.at (k := 7) (i := 0) cc_7) dX5_noiseOf_9 ?_
  refine jj_icmp_lt F (tgt := 17) dX5_noiseOf_10 rfl (by omega) (fun c10 => ?_) (fun c10 => by exfalso; omega)
  refine jj_aload0 F dX5_noiseOf_17 ?_
  refine jj_get F (hH.at (k := 6) (i := 0) cc_6) cs_5 (by decide) fd_X5_9 rfl dX5_noiseOf_18 ?_
  refine jj_iload1 F dX5_noiseOf_21 ?_
  refine jj_iald F (hH.at (k := 7) (i := 0) cc_7) (by omega) (by decide) dX5_noiseOf_22 ?_
  exact jj_iretr B dX5_noiseOf_23 ⟨Nat.le_of_ble_eq_true rfl, Nat.le_of_ble_eq_true rfl⟩ (rfl)
abbrev rm_X2_isFull : Room := { frames := 0, cells := 0, slots := 0, locals := 0 }
set_option maxRecDepth 100000 in
set_option maxHeartbeats 400000 in
theorem k2_isFull {l : Launch} {D : va_G} {ac : Nat → ClassId} (hl : l.stackTraces = false) {ad : Ad} {s e : Sg}  {G : jj_G} (hH : Has ad (cC ac ad s e) G) (h31 : 0 ≤ s 31 0 ∧ s 31 0 ≤ 100) : jj_C l D ac yX2_isFull (.code yX2_isFull cX2_isFull 1 (some .boolean)) rm_X2_isFull [.ref (ad 10 0)] G (jj_ri (if s 31 0 = 100 then 1 else 0) G) (jj_nx) := by
  refine jj_ofx (own := RX2) (lv0 := [some (.ref (ad 10 0))]) hl (by decide +kernel) rfl rfl (Nat.le_of_ble_eq_true rfl) rfl ?_
  intro X B hN hl0 hdg hac hin
  subst hl0; subst hdg; subst hac
  have F := B.F

  refine jj_aload0 F dX2_isFull_0 ?_
  refine jj_get F (hH.at (k := 10) (i := 0) cc_10) cs_2 (by decide) fd_X2_30 rfl dX2_isFull_1 ?_
  refine jj_aload0 F dX2_isFull_4 ?_
  refine jj_get F (hH.at (k := 10) (i := 0) cc_10) cs_2 (by decide) fd_X2_26 rfl dX2_isFull_5 ?_
  refine jj_alenQ F (fun _ => rfl) (hH.at (k := 15) (i := 0) cc_15) dX2_isFull_8 ?_
  refine jj_icmp_lt F (tgt := 16) dX2_isFull_9 rfl (by omega) (fun c9 => ?_) (fun c9 => ?_)
  · skip
    refine jj_iconst F dX2_isFull_16 ?_
    exact jj_zretr B dX2_isFull_17 ⟨Nat.le_of_ble_eq_true rfl, Nat.le_of_ble_eq_true rfl⟩ (by omega) (by first | rw [if_pos (by omega)] | rw [if_neg (by omega)])
  · skip
    refine jj_iconst F dX2_isFull_12 ?_
    refine jj_goto F (tgt := 17) dX2_isFull_13 rfl ?_
    exact jj_zretr B dX2_isFull_17 ⟨Nat.le_of_ble_eq_true rfl, Nat.le_of_ble_eq_true rfl⟩ (by omega) (by first | rw [if_pos (by omega)] | rw [if_neg (by omega)])
theorem sSec_one (s : Sg) (d : Int) {q : Int} (hq : 0 ≤ q ∧ q < 6) : sSec s d q = s 14 (6 * d + q) := by
  have key : ∀ n : Nat, sSecTo s d q n = if q < n then s 14 (6 * d + q) else 0 := by
    intro n
    induction n with
    | zero => unfold sSecTo; rw [if_neg (by omega)]
    | succ n ih =>
      unfold sSecTo
      rw [ih]
      by_cases h : q = n
      · subst h; rw [if_neg (by omega), if_pos (Or.inr rfl), if_pos (by omega)]; omega
      · rw [if_neg (show ¬ (q = -1 ∨ q = n) by omega)]
        by_cases h2 : q < n
        · rw [if_pos h2, if_pos (by omega)]; omega
        · rw [if_neg h2, if_neg (by omega)]; rfl
  unfold sSec
  rw [key 6, if_pos (by omega)]
abbrev rm_X3_dueTo : Room := { frames := 1, cells := 0, slots := 0, locals := 21 }
set_option maxRecDepth 100000 in
set_option maxHeartbeats 400000 in
theorem k3_dueTo {l : Launch} {D : va_G} {ac : Nat → ClassId} (hl : l.stackTraces = false) {ad : Ad} {s e : Sg} {z q : Int}  {G : jj_G} (hH : Has ad (cC ac ad s e) G) (hz : 0 ≤ z ∧ z < s 31 0) (hq : 0 ≤ q ∧ q < 6) (hm0 : 0 ≤ s 33 z ∧ s 33 z ≤ 500) (h32 : 0 ≤ s 32 z ∧ s 32 z < 12 * s 13 0) (hr : 0 ≤ s 34 (6 * z + q) ∧ s 34 (6 * z + q) ≤ 9999) (hI3 : sI3 s)  : jj_C l D ac yX3_dueTo (.code yX3_dueTo cX3_dueTo 4 (some .int)) rm_X3_dueTo [.ref (ad 26 z), .int (jI q)] G (jj_ri (sDue s z q (s 33 z)) G) (jj_nx) := by
  refine jj_ofx (own := RX3) (lv0 := [some (.ref (ad 26 z)), some (.int (jI q)), none, none]) hl (by decide +kernel) rfl rfl (Nat.le_of_ble_eq_true rfl) rfl ?_
  intro X B hN hl0 hdg hac hin
  subst hl0; subst hdg; subst hac
  have F := B.F

  have hdd : 0 ≤ s 32 z / 12 ∧ s 32 z / 12 < s 13 0 := by omega
  have hse := fun q => sSec_in hI3 hdd q
  have hal := hI3.2.2.1 (s 32 z / 12) hdd.1 hdd.2
  have heq : sSec s (s 32 z / 12) q = s 14 (6 * (s 32 z / 12) + q) := sSec_one s (s 32 z / 12) hq
  have hm : 0 ≤ s 33 z * s 34 (6 * z + q) * sSec s (s 32 z / 12) q ∧ s 33 z * s 34 (6 * z + q) * sSec s (s 32 z / 12) q ≤ 9223372036854775807 := by
    have g1 := hse q
    have g2 : 0 ≤ s 33 z * s 34 (6 * z + q) := Int.mul_nonneg hm0.1 hr.1
    have g3 : s 33 z * s 34 (6 * z + q) ≤ 500 * 9999 := Int.mul_le_mul hm0.2 hr.2 hr.1 (by omega)
    exact ⟨Int.mul_nonneg g2 g1.1, by have := Int.mul_le_mul g3 g1.2 g1.1 (by omega); omega⟩
  refine jj_ldc2 F (v := 100) cn_X3_27 (by decide) dX3_dueTo_0 ?_
  refine jj_aload0 F dX3_dueTo_3 ?_
  refine jj_get F (hH.at (k := 26) (i := z) (if_pos (by omega))) cs_3 (by decide) fd_X3_9 rfl dX3_dueTo_4 ?_
  refine jj_get F (hH.at (k := 20) (i := s 32 z / 12) (if_pos hdd)) cs_4 (by decide) fd_X3_29 rfl dX3_dueTo_7 ?_
  refine jj_i2l F (by omega) dX3_dueTo_10 ?_
  refine jj_lmul F dX3_dueTo_11 ?_
  refine jj_lstoreA F dX3_dueTo_12 (hN _ (by decide)) rfl ?_
  refine jj_lload2 F dX3_dueTo_13 ?_
  refine jj_lconst F (v := 1) (by decide) dX3_dueTo_14 ?_
  refine c8_lgt F (by omega) dX3_dueTo_15 ?_
  refine jj_if_lt F (tgt := 32) dX3_dueTo_16 rfl (by omega) (fun c16 => by exfalso; omega) (fun c16 => ?_)
  refine jj_iload1 F dX3_dueTo_19 ?_
  refine jj_if_lt F (tgt := 32) dX3_dueTo_20 rfl (by omega) (fun c20 => by exfalso; omega) (fun c20 => ?_)
  refine jj_iload1 F dX3_dueTo_23 ?_
  refine jj_aload0 F dX3_dueTo_24 ?_
  refine jj_get F (hH.at (k := 26) (i := z) (if_pos (by omega))) cs_3 (by decide) fd_X3_19 rfl dX3_dueTo_25 ?_
  refine jj_alenI F (hH.at (k := 27) (i := z) (if_pos (by omega))) dX3_dueTo_28 ?_
  refine jj_icmp_lt F (tgt := 34) dX3_dueTo_29 rfl (by omega) (fun c29 => ?_) (fun c29 => by exfalso; omega)
  refine jj_aload0 F dX3_dueTo_34 ?_
  refine jj_get F (hH.at (k := 26) (i := z) (if_pos (by omega))) cs_3 (by decide) fd_X3_23 rfl dX3_dueTo_35 ?_
  refine jj_i2l F (by omega) dX3_dueTo_38 ?_
  refine jj_aload0 F dX3_dueTo_39 ?_
  refine jj_get F (hH.at (k := 26) (i := z) (if_pos (by omega))) cs_3 (by decide) fd_X3_19 rfl dX3_dueTo_40 ?_
  refine jj_iload1 F dX3_dueTo_43 ?_
  refine c8_ald F (hH.at (k := 27) (i := z) (if_pos (by omega))) (by omega) rfl (by decide) dX3_dueTo_44 ?_
  refine jj_i2l F (by omega) dX3_dueTo_45 ?_
  refine jj_lmul F dX3_dueTo_46 ?_
  refine jj_aload0 F dX3_dueTo_47 ?_
  refine jj_get F (hH.at (k := 26) (i := z) (if_pos (by omega))) cs_3 (by decide) fd_X3_9 rfl dX3_dueTo_48 ?_
  refine jj_iload1 F dX3_dueTo_51 ?_
  refine jj_callVr B (k := 0) (n := 0) (k4_secondsOf F.tr hH hdd hq) lk_X3_34 (hH.at (k := 20) (i := s 32 z / 12) (if_pos hdd)) cs_4 rfl rfl ⟨Nat.le_of_ble_eq_true rfl, Nat.le_of_ble_eq_true rfl, Nat.le_of_ble_eq_true rfl, Nat.le_of_ble_eq_true rfl, Nat.le_of_ble_eq_true rfl⟩ ⟨Nat.le_of_ble_eq_true rfl, Nat.le_of_ble_eq_true rfl, Nat.le_of_ble_eq_true rfl, Nat.le_of_ble_eq_true rfl⟩ jj_tx0 dX3_dueTo_52 ?_
  refine jj_eqi heq.symm ?_
  refine jj_i2l F (by have := hse q; omega) dX3_dueTo_55 ?_
  refine jj_lmul F dX3_dueTo_56 ?_
  refine jj_lload2 F dX3_dueTo_57 ?_
  refine jj_ldiv F ⟨hm.1, hm.2, by omega, by omega⟩ dX3_dueTo_58 ?_
  refine jj_l2i F dX3_dueTo_59 ?_
  exact jj_iretr B dX3_dueTo_60 ⟨Nat.le_of_ble_eq_true rfl, Nat.le_of_ble_eq_true rfl⟩ (by unfold sDue; rfl)
abbrev rm_X2_dueOfAllSales : Room := { frames := 2, cells := 0, slots := 0, locals := 44 }
set_option maxRecDepth 100000 in
set_option maxHeartbeats 400000 in
theorem k2_dueOfAllSales {l : Launch} {D : va_G} {ac : Nat → ClassId} (hl : l.stackTraces = false) {ad : Ad} {s e : Sg} {q : Int}  {G : jj_G} (hH : Has ad (cC ac ad s e) G) (hq : 0 ≤ q ∧ q < 6) (hI3 : sI3 s) (hI7 : sI7 s)  : jj_C l D ac yX2_dueOfAllSales (.code yX2_dueOfAllSales cX2_dueOfAllSales 7 (some .int)) rm_X2_dueOfAllSales [.ref (ad 10 0), .int (jI q)] G (jj_ri (sDues s q (s 31 0).toNat) G) (jj_nx) := by
  refine jj_ofx (own := RX2) (lv0 := [some (.ref (ad 10 0)), some (.int (jI q)), none, none, none, none, none]) hl (by decide +kernel) rfl rfl (Nat.le_of_ble_eq_true rfl) rfl ?_
  intro X B hN hl0 hdg hac hin
  subst hl0; subst hdg; subst hac
  have F := B.F

  have i7 := hI7.1
  have i3 := hI3.1
  refine jj_iconst F dX2_dueOfAllSales_0 ?_
  refine jj_istore2 F dX2_dueOfAllSales_1 (hN _ (by decide)) rfl ?_
  refine jj_aload0 F dX2_dueOfAllSales_2 ?_
  refine jj_get F (hH.at (k := 10) (i := 0) cc_10) cs_2 (by decide) fd_X2_26 rfl dX2_dueOfAllSales_3 ?_
  refine jj_astore3 F dX2_dueOfAllSales_6 (hN _ (by decide)) rfl ?_
  refine jj_aload3 F dX2_dueOfAllSales_7 ?_
  refine jj_alenQ F (fun _ => rfl) (hH.at (k := 15) (i := 0) cc_15) dX2_dueOfAllSales_8 ?_
  refine jj_istore4 F dX2_dueOfAllSales_9 (hN _ (by decide)) rfl ?_
  refine jj_iconst F dX2_dueOfAllSales_11 ?_
  refine jj_istore5 F dX2_dueOfAllSales_12 (hN _ (by decide)) rfl ?_
  have loop : ∀ (n j : Nat) (x6 : Option Value), n + j = 100 → jj_J X G 0 0 14 [some (.ref (ad 10 0)), some (.int (jI q)), some (.int (jI (sDues s q (min j (s 31 0).toNat)))), some (.ref (ad 15 0)), some (.int (jI 100)), some (.int (jI j)), x6] [] := by
    intro n
    induction n with
    | zero =>
      intro j x6 hj
      refine jj_iload5 F dX2_dueOfAllSales_14 ?_
      refine jj_iload4 F dX2_dueOfAllSales_16 ?_
      refine jj_icmp_ge F (tgt := 47) dX2_dueOfAllSales_18 rfl (by omega) (fun c18 => ?_) (fun c18 => by exfalso; omega)
      refine jj_iload2 F dX2_dueOfAllSales_47 ?_
      exact jj_iretr B dX2_dueOfAllSales_48 ⟨Nat.le_of_ble_eq_true rfl, Nat.le_of_ble_eq_true rfl⟩ (by rw [show min j (s 31 0).toNat = (s 31 0).toNat by omega])
    | succ n ih =>
      intro j x6 hj
      refine jj_iload5 F dX2_dueOfAllSales_14 ?_
      refine jj_iload4 F dX2_dueOfAllSales_16 ?_
      refine jj_icmp_ge F (tgt := 47) dX2_dueOfAllSales_18 rfl (by omega) (fun c18 => by exfalso; omega) (fun c18 => ?_)
      refine jj_aload3 F dX2_dueOfAllSales_21 ?_
      refine jj_iload5 F dX2_dueOfAllSales_22 ?_
      refine jj_ald F (fun _ => rfl) (hH.at (k := 15) (i := 0) cc_15) (by omega) (by decide) dX2_dueOfAllSales_24 ?_
      by_cases hq24 : (j : Int) < s 31 0
      · skip
        refine jj_qv (rRow_at ⟨by omega, hq24⟩) ?_
        refine jj_astore6 F dX2_dueOfAllSales_25 (hN _ (by decide)) rfl ?_
        refine jj_aload6 F dX2_dueOfAllSales_27 ?_
        refine jj_ifnull F (r := some (ad 26 j)) (tgt := 41) dX2_dueOfAllSales_29 rfl (fun h => by cases h) (fun _ _ => ?_)
        refine jj_iload2 F dX2_dueOfAllSales_32 ?_
        refine jj_aload6 F dX2_dueOfAllSales_33 ?_
        refine jj_iload1 F dX2_dueOfAllSales_35 ?_
        refine jj_callVr B (k := 0) (n := 0) (k3_dueTo F.tr hH (by omega) hq (hI7.2.1 j (by omega) (by omega)).2 (hI7.2.1 j (by omega) (by omega)).1 (hI7.2.2.1 (6 * j + q) (by omega) (by omega)) hI3) lk_X2_34 (hH.at (k := 26) (i := j) (if_pos (by omega))) cs_3 rfl rfl ⟨Nat.le_of_ble_eq_true rfl, Nat.le_of_ble_eq_true rfl, Nat.le_of_ble_eq_true rfl, Nat.le_of_ble_eq_true rfl, Nat.le_of_ble_eq_true rfl⟩ ⟨Nat.le_of_ble_eq_true rfl, Nat.le_of_ble_eq_true rfl, Nat.le_of_ble_eq_true rfl, Nat.le_of_ble_eq_true rfl⟩ jj_tx0 dX2_dueOfAllSales_36 ?_
        refine jj_iadd F dX2_dueOfAllSales_39 ?_
        refine jj_istore2 F dX2_dueOfAllSales_40 (hN _ (by decide)) rfl ?_
        refine jj_iinc5 F dX2_dueOfAllSales_41 (hN _ (by decide)) rfl ?_
        refine jj_goto F (tgt := 14) dX2_dueOfAllSales_44 rfl ?_
        have ih1 := fun x => ih (j + 1) x (by omega)
        rw [show (((j + 1 : Nat)) : Int) = (j : Int) + 1 from rfl] at ih1
        rw [show min (j + 1) (s 31 0).toNat = j + 1 by omega] at ih1
        rw [show min j (s 31 0).toNat = j by omega]
        exact ih1 _
      · skip
        refine jj_qn (rRow_no (fun h => hq24 h.2)) ?_
        refine jj_nstore6 F dX2_dueOfAllSales_25 (hN _ (by decide)) rfl ?_
        refine jj_nload6 F dX2_dueOfAllSales_27 ?_
        refine jj_ifnull F (r := none) (tgt := 41) dX2_dueOfAllSales_29 rfl (fun _ => ?_) (fun _ h => by cases h)
        refine jj_iinc5 F dX2_dueOfAllSales_41 (hN _ (by decide)) rfl ?_
        refine jj_goto F (tgt := 14) dX2_dueOfAllSales_44 rfl ?_
        have ih1 := fun x => ih (j + 1) x (by omega)
        rw [show (((j + 1 : Nat)) : Int) = (j : Int) + 1 from rfl] at ih1
        rw [show min (j + 1) (s 31 0).toNat = min j (s 31 0).toNat by omega] at ih1
        exact ih1 _
  have l0 := loop 100 0 none (by omega)
  rw [show min 0 (s 31 0).toNat = 0 by omega] at l0
  exact l0
