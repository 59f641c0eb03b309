/-! splicing -/
abbrev sSplA (s : Sg) (t v w : Int) : Prop := (0 ≤ t ∧ t ≤ s 1 0 - 1) ∧ (v = -1 ∨ (0 ≤ v ∧ v ≤ s 1 0 - 1)) ∧ (0 ≤ w ∧ w ≤ 3)
abbrev sSplC (s : Sg) (t f u v : Int) : Prop := ¬ sPlay s t = 0 ∧ (v = -1 ∨ ¬ sPlay s v = 0) ∧ s 1 0 < 30 ∧ sSpans s t f u + (if v = -1 then 0 else s 7 v) ≤ 20
def t_splice (s : Sg) (t f u v w : Int) : Int := if ¬ sSplA s t v w then 1 else if ¬ (0 ≤ f ∧ f < u ∧ u ≤ sLen s t) then 2 else if sSplC s t f u v then 0 else 3
def sSplG (s : Sg) (t v : Int) : Int := if v = -1 then s 4 t else if s 4 t < s 4 v then s 4 v else s 4 t
def sSplT (s : Sg) (t f u v : Int) : Sg := if v = -1 then sCopy (sU s 37 0 0) t f u else sCopy (sCopy (sU s 37 0 0) t f u) v 0 (sLen s v)
def n_splice (s : Sg) (t f u v w : Int) : Sg := if t_splice s t f u v w = 0 then sMakes (sU (sSplT s t f u v) 6 (s 1 0) (-1)) (sSplG s t v + 1) w else sU s 37 0 (t_splice s t f u v w)
def r_splice (s : Sg) (t f u v w : Int) : Int := if t_splice s t f u v w = 0 then s 1 0 else 0
theorem sLen_lt {s : Sg} (h1 : sI1 s) {t : Int} (ht : 0 ≤ t ∧ t < s 1 0) (j : Nat) (hj : (j : Int) < s 7 t) : sLenTo s t j < sLenTo s t (j + 1) := by
  have g := (h1.2.2.2.2 t j ht.1 ht.2 (by omega) hj).2
  show _ < sLenTo s t j + _
  omega
theorem sLen_le {s : Sg} (h1 : sI1 s) {t : Int} (ht : 0 ≤ t ∧ t < s 1 0) (j : Nat) (hj : (j : Int) ≤ s 7 t) : (j : Int) ≤ sLenTo s t j ∧ sLenTo s t j ≤ 900 * j := by
  induction j with
  | zero => exact ⟨Int.le_refl _, Int.le_refl _⟩
  | succ j ih =>
    have g1 := ih (by omega)
    have g2 := (h1.2.2.2.2 t j ht.1 ht.2 (by omega) (by omega)).2
    show _ ≤ sLenTo s t j + _ ∧ sLenTo s t j + _ ≤ _
    omega
theorem sLen_in {s : Sg} (h1 : sI1 s) {t : Int} (ht : 0 ≤ t ∧ t < s 1 0) : 1 ≤ sLen s t ∧ sLen s t ≤ 18000 := by
  have g := (h1.2.2.1 t ht.1 ht.2).2.2.2.2.2
  have g2 := sLen_le h1 ht (s 7 t).toNat (by omega)
  unfold sLen
  omega
theorem sLen37 (s : Sg) (x : Int) : sLenTo (sU s 37 0 x) = sLenTo s := by
  funext t j
  exact sLenTo_c j (fun _ _ => rfl) (fun _ _ => rfl)
theorem sSpansTo37 (s : Sg) (x t f u : Int) (n : Nat) : sSpansTo (sU s 37 0 x) t f u n = sSpansTo s t f u n := by
  induction n with
  | zero => rfl
  | succ n ih => unfold sSpansTo; rw [ih, sLen37]
theorem sSpans37 (s : Sg) (x t f u : Int) : sSpans (sU s 37 0 x) t f u = sSpans s t f u := sSpansTo37 s x t f u _
/-- the first copy leaves the tapes that there are -/
theorem sCopy_c {s : Sg} (h1 : sI1 s) (hT : s 1 0 < 30) {t f u : Int} (ht : 0 ≤ t ∧ t < s 1 0) (hfu : f < u) {k : Nat} (hk : k = 8 ∨ k = 9 ∨ k = 10) {i : Int} (hi : i < 20 * s 1 0) : sCopy (sU s 37 0 0) t f u k i = s k i := by
  have g := (h1.2.2.1 t ht.1 ht.2).2.2.2.2.2
  have g2 := (h1.2.2.2.1 (s 1 0) (by omega) (by omega)).1
  have e := sCopyTo_c (s := sU s 37 0 0) (t := t) (f := f) (u := u) (i := i) hk (show 0 ≤ s 7 (s 1 0) by omega) (fun j hj => by rw [sLen37]; exact sLen_lt h1 ht j hj) hfu (s 7 t).toNat (show _ ≤ s 7 t by omega) (show i < 20 * s 1 0 + s 7 (s 1 0) by omega)
  refine Eq.trans e ?_
  rcases hk with rfl | rfl | rfl <;> rfl
theorem sCopy_7 {s : Sg} {t f u i : Int} (h : i ≠ s 1 0) : sCopy (sU s 37 0 0) t f u 7 i = s 7 i := sCopyTo_7 (s := sU s 37 0 0) _ h
theorem sCopy_n {s : Sg} {t f u : Int} {k : Nat} (h : k ≠ 7 ∧ k ≠ 8 ∧ k ≠ 9 ∧ k ≠ 10) : sCopy s t f u k = s k := sCopyTo_n h _
theorem sCopy_T {s : Sg} (h1 : sI1 s) {t f u : Int} (ht : 0 ≤ t ∧ t < s 1 0) (hfu : f < u) : sCopy (sU s 37 0 0) t f u 7 (s 1 0) = s 7 (s 1 0) + sSpans s t f u := by
  have g := (h1.2.2.1 t ht.1 ht.2).2.2.2.2.2
  have e := sCopyTo_T (s := sU s 37 0 0) (t := t) (f := f) (u := u) (fun j hj => by rw [sLen37]; exact sLen_lt h1 ht j hj) hfu (s 7 t).toNat (show _ ≤ s 7 t by omega)
  rw [sSpansTo37] at e
  exact e
theorem sCopy_len {s : Sg} (h1 : sI1 s) (hT : s 1 0 < 30) {t f u v : Int} (ht : 0 ≤ t ∧ t < s 1 0) (hv : 0 ≤ v ∧ v < s 1 0) (hfu : f < u) (j : Nat) (hj : j ≤ 20) : sLenTo (sCopy (sU s 37 0 0) t f u) v j = sLenTo s v j :=
  sLenTo_c j (fun i hi => sCopy_c h1 hT ht hfu (Or.inr (Or.inl rfl)) (by omega)) (fun i hi => sCopy_c h1 hT ht hfu (Or.inr (Or.inr rfl)) (by omega))
theorem sCopy_sLen {s : Sg} (h1 : sI1 s) (hT : s 1 0 < 30) {t f u v : Int} (ht : 0 ≤ t ∧ t < s 1 0) (hv : 0 ≤ v ∧ v < s 1 0) (hfu : f < u) : sLen (sCopy (sU s 37 0 0) t f u) v = sLen s v := by
  have g := (h1.2.2.1 v hv.1 hv.2).2.2.2.2.2
  unfold sLen
  rw [sCopy_7 (by omega), sCopy_len h1 hT ht hv hfu _ (by omega)]

abbrev rm_X9_splice : Room := { frames := 2, cells := 0, slots := 0, locals := 52 }
set_option maxRecDepth 100000 in
set_option maxHeartbeats 4000000 in
theorem k9_splice {l : Launch} {D : va_G} {ac : Nat → ClassId} (hl : l.stackTraces = false) {o : Nat} {a : Nat → Nat} {s : Sg} {t f u v w : Int} {G : jj_G} (hR : RM (ac 0) o a s G) {c : Int} (hI : sInv s c) (ht : jR t) (hf : jR f) (hu : jR u) (hv : jR v) (hw : jR w) : jj_C l D ac yX9_splice (.code yX9_splice cX9_splice 11 (some .int)) rm_X9_splice [.ref o, .int (jI t), .int (jI f), .int (jI u), .int (jI v), .int (jI w)] G (jj_pi (fun r G' => r = r_splice s t f u v w ∧ RM (ac 0) o a (n_splice s t f u v w) G')) (jj_nx) := by
  refine jj_ofx (own := RX9) (lv0 := [some (.ref o), some (.int (jI t)), some (.int (jI f)), some (.int (jI u)), some (.int (jI v)), some (.int (jI w)), none, none, none, none, none]) hl (by decide +kernel) rfl rfl (Nat.le_of_ble_eq_true rfl) rfl ?_
  intro X B hN hl0 hdg hac hin
  subst hl0; subst hdg; subst hac
  have F := B.F

  obtain ⟨hI1, hI2, hI3, hI4, hI5, hI6, hI7, hc⟩ := hI
  have i0 := hI1.1
  have i1 := hI1.2.1
  have r1 := hR.rng 1 0
  have hb : ∀ q : Int, 0 ≤ q → q < s 1 0 → (0 ≤ s 3 q ∧ s 3 q ≤ 9999) ∧ (1 ≤ s 7 q ∧ s 7 q ≤ 20) ∧ (0 ≤ s 4 q ∧ s 4 q ≤ 30) ∧ (1 ≤ sLen s q ∧ sLen s q ≤ 18000) := by
    intro q h1 h2
    have g := hI1.2.2.1 q h1 h2
    exact ⟨g.2.1, g.2.2.2.2.2, by omega, sLen_in hI1 ⟨h1, h2⟩⟩
  have hle : ∀ q : Int, 0 ≤ q → q < s 1 0 → ∀ j : Nat, j ≤ (s 7 q).toNat → 0 ≤ sLenTo s q j ∧ sLenTo s q j ≤ 100000 := by
    intro q h1 h2 j hj
    have g := hb q h1 h2
    have := sLen_le hI1 ⟨h1, h2⟩ j (by omega)
    omega
  have hsp : ∀ q x y : Int, 0 ≤ q → q < s 1 0 → 0 ≤ sSpans s q x y ∧ sSpans s q x y ≤ 20 := by
    intro q x y h1 h2
    have g := hb q h1 h2
    have := sSpansTo_in s q x y (s 7 q).toNat
    unfold sSpans
    omega
  have hT : s 1 0 < 30 → s 7 (s 1 0) = 0 := fun h => (hI1.2.2.2.1 (s 1 0) (by omega) (by omega)).1
  have hnil : ∀ q : Int, 0 ≤ q → q < s 1 0 → ∀ i : Int, 20 * q ≤ i ∧ i < 20 * q + s 7 q → 0 ≤ s 9 i ∧ s 9 i ≤ 900 := by
    intro q h1 h2 i hi
    have g := (hI1.2.2.2.2 q (i - 20 * q) h1 h2 (by omega) (by omega)).2
    rw [show 20 * q + (i - 20 * q) = i by omega] at g
    omega
  refine jj_aload0 F dX9_splice_0 ?_
  refine jj_iload1 F dX9_splice_1 ?_
  refine jj_callVr B (k := 0) (n := 0) (k9_isTape F.tr hR (by omega) (by omega)) lk_X9_129 hR.1 cs_9 rfl rfl ⟨Nat.le_of_ble_eq_true rfl, Nat.le_of_ble_eq_true rfl, Nat.le_of_ble_eq_true rfl, Nat.le_of_ble_eq_true rfl, Nat.le_of_ble_eq_true rfl⟩ ⟨Nat.le_of_ble_eq_true rfl, Nat.le_of_ble_eq_true rfl, Nat.le_of_ble_eq_true rfl, Nat.le_of_ble_eq_true rfl⟩ jj_tx0 dX9_splice_2 ?_
  refine jj_ifb_eq F (tgt := 35) dX9_splice_5 rfl (fun c5 => ?_) (fun c5 => ?_)
  · skip
    refine jj_iconst F dX9_splice_35 ?_
    refine jj_istore6 F dX9_splice_36 (hN _ (by decide)) rfl ?_
    refine jj_iload6 F dX9_splice_38 ?_
    refine jj_if_eq F (tgt := 65) dX9_splice_40 rfl (by omega) (fun c40 => ?_) (fun c40 => by exfalso; omega)
    refine jj_iconst F dX9_splice_65 ?_
    refine jj_istore7 F dX9_splice_66 (hN _ (by decide)) rfl ?_
    refine jj_iload6 F dX9_splice_68 ?_
    refine jj_if_eq F (tgt := 83) dX9_splice_70 rfl (by omega) (fun c70 => ?_) (fun c70 => by exfalso; omega)
    refine jj_iconst F dX9_splice_83 ?_
    refine jj_istore8 F dX9_splice_84 (hN _ (by decide)) rfl ?_
    refine jj_iload7 F dX9_splice_86 ?_
    refine jj_if_eq F (tgt := 155) dX9_splice_88 rfl (by omega) (fun c88 => ?_) (fun c88 => by exfalso; omega)
    refine jj_iconst F dX9_splice_155 ?_
    refine jj_istore9 F dX9_splice_156 (hN _ (by decide)) rfl ?_
    refine jj_aload0 F dX9_splice_158 ?_
    refine jj_iload6 F dX9_splice_159 ?_
    refine jj_if_ne F (tgt := 168) dX9_splice_161 rfl (by omega) (fun c161 => by exfalso; omega) (fun c161 => ?_)
    refine jj_iconst F dX9_splice_164 ?_
    refine jj_goto F (tgt := 187) dX9_splice_165 rfl ?_
    refine jj_callVi B (k := 0) (n := 0) (k9_goes F.tr hR (show jR 1 by decide)) lk_X9_118 hR.1 cs_9 rfl rfl ⟨Nat.le_of_ble_eq_true rfl, Nat.le_of_ble_eq_true rfl, Nat.le_of_ble_eq_true rfl, Nat.le_of_ble_eq_true rfl, Nat.le_of_ble_eq_true rfl⟩ ⟨Nat.le_of_ble_eq_true rfl, Nat.le_of_ble_eq_true rfl, Nat.le_of_ble_eq_true rfl, Nat.le_of_ble_eq_true rfl⟩ jj_tx0 dX9_splice_187 (fun r G h => ?_)
    obtain ⟨rfl, hR⟩ := h
    refine jj_eqi (b := 0) rfl ?_
    refine jj_if_ne F (tgt := 195) dX9_splice_190 rfl (by omega) (fun c190 => by exfalso; omega) (fun c190 => ?_)
    refine jj_iconst F dX9_splice_193 ?_
    have htt : t_splice s t f u v w = 1 := by unfold t_splice; (repeat (first | rw [if_pos (by omega)] | rw [if_neg (by omega)]))
    exact jj_iret B dX9_splice_194 ⟨Nat.le_of_ble_eq_true rfl, Nat.le_of_ble_eq_true rfl⟩ (⟨_, rfl, (by unfold r_splice; first | (refine Eq.trans ?_ (if_pos htt).symm; first | rfl | (rw [sU_n (by decide), sCopy_n (by decide)]; first | rfl | (rw [sCopy_n (by decide)]; rfl))) | (refine Eq.trans ?_ (if_neg (by omega)).symm; rfl)), (by unfold n_splice; first | (rw [if_pos htt]; unfold sSplT sSplG; (repeat (first | rw [if_pos (by omega)] | rw [if_neg (by omega)])); exact hR) | (rw [if_neg (by omega)]; rw [htt]; exact hR) | (rw [htt]; exact hR))⟩)
  · skip
    refine jj_iload4 F dX9_splice_8 ?_
    refine jj_iconst F dX9_splice_10 ?_
    refine jj_icmp_eq F (tgt := 23) dX9_splice_11 rfl (by omega) (fun c11 => ?_) (fun c11 => ?_)
    · skip
      refine jj_iload5 F dX9_splice_23 ?_
      refine jj_callSr B (k := 0) (n := 0) (k9_isVault F.tr (by omega)) lk_X9_115 rfl ⟨Nat.le_of_ble_eq_true rfl, Nat.le_of_ble_eq_true rfl, Nat.le_of_ble_eq_true rfl, Nat.le_of_ble_eq_true rfl, Nat.le_of_ble_eq_true rfl⟩ ⟨Nat.le_of_ble_eq_true rfl, Nat.le_of_ble_eq_true rfl, Nat.le_of_ble_eq_true rfl, Nat.le_of_ble_eq_true rfl⟩ jj_tx0 dX9_splice_25 ?_
      refine jj_ifb_eq F (tgt := 35) dX9_splice_28 rfl (fun c28 => ?_) (fun c28 => ?_)
      · skip
        refine jj_iconst F dX9_splice_35 ?_
        refine jj_istore6 F dX9_splice_36 (hN _ (by decide)) rfl ?_
        refine jj_iload6 F dX9_splice_38 ?_
        refine jj_if_eq F (tgt := 65) dX9_splice_40 rfl (by omega) (fun c40 => ?_) (fun c40 => by exfalso; omega)
        refine jj_iconst F dX9_splice_65 ?_
        refine jj_istore7 F dX9_splice_66 (hN _ (by decide)) rfl ?_
        refine jj_iload6 F dX9_splice_68 ?_
        refine jj_if_eq F (tgt := 83) dX9_splice_70 rfl (by omega) (fun c70 => ?_) (fun c70 => by exfalso; omega)
        refine jj_iconst F dX9_splice_83 ?_
        refine jj_istore8 F dX9_splice_84 (hN _ (by decide)) rfl ?_
        refine jj_iload7 F dX9_splice_86 ?_
        refine jj_if_eq F (tgt := 155) dX9_splice_88 rfl (by omega) (fun c88 => ?_) (fun c88 => by exfalso; omega)
        refine jj_iconst F dX9_splice_155 ?_
        refine jj_istore9 F dX9_splice_156 (hN _ (by decide)) rfl ?_
        refine jj_aload0 F dX9_splice_158 ?_
        refine jj_iload6 F dX9_splice_159 ?_
        refine jj_if_ne F (tgt := 168) dX9_splice_161 rfl (by omega) (fun c161 => by exfalso; omega) (fun c161 => ?_)
        refine jj_iconst F dX9_splice_164 ?_
        refine jj_goto F (tgt := 187) dX9_splice_165 rfl ?_
        refine jj_callVi B (k := 0) (n := 0) (k9_goes F.tr hR (show jR 1 by decide)) lk_X9_118 hR.1 cs_9 rfl rfl ⟨Nat.le_of_ble_eq_true rfl, Nat.le_of_ble_eq_true rfl, Nat.le_of_ble_eq_true rfl, Nat.le_of_ble_eq_true rfl, Nat.le_of_ble_eq_true rfl⟩ ⟨Nat.le_of_ble_eq_true rfl, Nat.le_of_ble_eq_true rfl, Nat.le_of_ble_eq_true rfl, Nat.le_of_ble_eq_true rfl⟩ jj_tx0 dX9_splice_187 (fun r G h => ?_)
        obtain ⟨rfl, hR⟩ := h
        refine jj_eqi (b := 0) rfl ?_
        refine jj_if_ne F (tgt := 195) dX9_splice_190 rfl (by omega) (fun c190 => by exfalso; omega) (fun c190 => ?_)
        refine jj_iconst F dX9_splice_193 ?_
        have htt : t_splice s t f u v w = 1 := by unfold t_splice; (repeat (first | rw [if_pos (by omega)] | rw [if_neg (by omega)]))
        exact jj_iret B dX9_splice_194 ⟨Nat.le_of_ble_eq_true rfl, Nat.le_of_ble_eq_true rfl⟩ (⟨_, rfl, (by unfold r_splice; first | (refine Eq.trans ?_ (if_pos htt).symm; first | rfl | (rw [sU_n (by decide), sCopy_n (by decide)]; first | rfl | (rw [sCopy_n (by decide)]; rfl))) | (refine Eq.trans ?_ (if_neg (by omega)).symm; rfl)), (by unfold n_splice; first | (rw [if_pos htt]; unfold sSplT sSplG; (repeat (first | rw [if_pos (by omega)] | rw [if_neg (by omega)])); exact hR) | (rw [if_neg (by omega)]; rw [htt]; exact hR) | (rw [htt]; exact hR))⟩)
      · skip
        refine jj_iconst F dX9_splice_31 ?_
        refine jj_goto F (tgt := 36) dX9_splice_32 rfl ?_
        refine jj_istore6 F dX9_splice_36 (hN _ (by decide)) rfl ?_
        refine jj_iload6 F dX9_splice_38 ?_
        refine jj_if_eq F (tgt := 65) dX9_splice_40 rfl (by omega) (fun c40 => by exfalso; omega) (fun c40 => ?_)
        refine jj_iload2 F dX9_splice_43 ?_
        refine jj_if_lt F (tgt := 65) dX9_splice_44 rfl (by omega) (fun c44 => ?_) (fun c44 => ?_)
        · skip
          refine jj_iconst F dX9_splice_65 ?_
          refine jj_istore7 F dX9_splice_66 (hN _ (by decide)) rfl ?_
          refine jj_iload6 F dX9_splice_68 ?_
          refine jj_if_eq F (tgt := 83) dX9_splice_70 rfl (by omega) (fun c70 => by exfalso; omega) (fun c70 => ?_)
          refine jj_iload4 F dX9_splice_73 ?_
          refine jj_iconst F dX9_splice_75 ?_
          refine jj_icmp_eq F (tgt := 83) dX9_splice_76 rfl (by omega) (fun c76 => ?_) (fun c76 => by exfalso; omega)
          refine jj_iconst F dX9_splice_83 ?_
          refine jj_istore8 F dX9_splice_84 (hN _ (by decide)) rfl ?_
          refine jj_iload7 F dX9_splice_86 ?_
          refine jj_if_eq F (tgt := 155) dX9_splice_88 rfl (by omega) (fun c88 => ?_) (fun c88 => by exfalso; omega)
          refine jj_iconst F dX9_splice_155 ?_
          refine jj_istore9 F dX9_splice_156 (hN _ (by decide)) rfl ?_
          refine jj_aload0 F dX9_splice_158 ?_
          refine jj_iload6 F dX9_splice_159 ?_
          refine jj_if_ne F (tgt := 168) dX9_splice_161 rfl (by omega) (fun c161 => ?_) (fun c161 => by exfalso; omega)
          refine jj_iload7 F dX9_splice_168 ?_
          refine jj_if_ne F (tgt := 177) dX9_splice_170 rfl (by omega) (fun c170 => by exfalso; omega) (fun c170 => ?_)
          refine jj_iconst F dX9_splice_173 ?_
          refine jj_goto F (tgt := 187) dX9_splice_174 rfl ?_
          refine jj_callVi B (k := 0) (n := 0) (k9_goes F.tr hR (show jR 2 by decide)) lk_X9_118 hR.1 cs_9 rfl rfl ⟨Nat.le_of_ble_eq_true rfl, Nat.le_of_ble_eq_true rfl, Nat.le_of_ble_eq_true rfl, Nat.le_of_ble_eq_true rfl, Nat.le_of_ble_eq_true rfl⟩ ⟨Nat.le_of_ble_eq_true rfl, Nat.le_of_ble_eq_true rfl, Nat.le_of_ble_eq_true rfl, Nat.le_of_ble_eq_true rfl⟩ jj_tx0 dX9_splice_187 (fun r G h => ?_)
          obtain ⟨rfl, hR⟩ := h
          refine jj_eqi (b := 0) rfl ?_
          refine jj_if_ne F (tgt := 195) dX9_splice_190 rfl (by omega) (fun c190 => by exfalso; omega) (fun c190 => ?_)
          refine jj_iconst F dX9_splice_193 ?_
          have htt : t_splice s t f u v w = 2 := by unfold t_splice; (repeat (first | rw [if_pos (by omega)] | rw [if_neg (by omega)]))
          exact jj_iret B dX9_splice_194 ⟨Nat.le_of_ble_eq_true rfl, Nat.le_of_ble_eq_true rfl⟩ (⟨_, rfl, (by unfold r_splice; first | (refine Eq.trans ?_ (if_pos htt).symm; first | rfl | (rw [sU_n (by decide), sCopy_n (by decide)]; first | rfl | (rw [sCopy_n (by decide)]; rfl))) | (refine Eq.trans ?_ (if_neg (by omega)).symm; rfl)), (by unfold n_splice; first | (rw [if_pos htt]; unfold sSplT sSplG; (repeat (first | rw [if_pos (by omega)] | rw [if_neg (by omega)])); exact hR) | (rw [if_neg (by omega)]; rw [htt]; exact hR) | (rw [htt]; exact hR))⟩)
        · skip
          refine jj_iload3 F dX9_splice_47 ?_
          refine jj_iload2 F dX9_splice_48 ?_
          refine jj_icmp_le F (tgt := 65) dX9_splice_49 rfl (by omega) (fun c49 => ?_) (fun c49 => ?_)
          · skip
            refine jj_iconst F dX9_splice_65 ?_
            refine jj_istore7 F dX9_splice_66 (hN _ (by decide)) rfl ?_
            refine jj_iload6 F dX9_splice_68 ?_
            refine jj_if_eq F (tgt := 83) dX9_splice_70 rfl (by omega) (fun c70 => by exfalso; omega) (fun c70 => ?_)
            refine jj_iload4 F dX9_splice_73 ?_
            refine jj_iconst F dX9_splice_75 ?_
            refine jj_icmp_eq F (tgt := 83) dX9_splice_76 rfl (by omega) (fun c76 => ?_) (fun c76 => by exfalso; omega)
            refine jj_iconst F dX9_splice_83 ?_
            refine jj_istore8 F dX9_splice_84 (hN _ (by decide)) rfl ?_
            refine jj_iload7 F dX9_splice_86 ?_
            refine jj_if_eq F (tgt := 155) dX9_splice_88 rfl (by omega) (fun c88 => ?_) (fun c88 => by exfalso; omega)
            refine jj_iconst F dX9_splice_155 ?_
            refine jj_istore9 F dX9_splice_156 (hN _ (by decide)) rfl ?_
            refine jj_aload0 F dX9_splice_158 ?_
            refine jj_iload6 F dX9_splice_159 ?_
            refine jj_if_ne F (tgt := 168) dX9_splice_161 rfl (by omega) (fun c161 => ?_) (fun c161 => by exfalso; omega)
            refine jj_iload7 F dX9_splice_168 ?_
            refine jj_if_ne F (tgt := 177) dX9_splice_170 rfl (by omega) (fun c170 => by exfalso; omega) (fun c170 => ?_)
            refine jj_iconst F dX9_splice_173 ?_
            refine jj_goto F (tgt := 187) dX9_splice_174 rfl ?_
            refine jj_callVi B (k := 0) (n := 0) (k9_goes F.tr hR (show jR 2 by decide)) lk_X9_118 hR.1 cs_9 rfl rfl ⟨Nat.le_of_ble_eq_true rfl, Nat.le_of_ble_eq_true rfl, Nat.le_of_ble_eq_true rfl, Nat.le_of_ble_eq_true rfl, Nat.le_of_ble_eq_true rfl⟩ ⟨Nat.le_of_ble_eq_true rfl, Nat.le_of_ble_eq_true rfl, Nat.le_of_ble_eq_true rfl, Nat.le_of_ble_eq_true rfl⟩ jj_tx0 dX9_splice_187 (fun r G h => ?_)
            obtain ⟨rfl, hR⟩ := h
            refine jj_eqi (b := 0) rfl ?_
            refine jj_if_ne F (tgt := 195) dX9_splice_190 rfl (by omega) (fun c190 => by exfalso; omega) (fun c190 => ?_)
            refine jj_iconst F dX9_splice_193 ?_
            have htt : t_splice s t f u v w = 2 := by unfold t_splice; (repeat (first | rw [if_pos (by omega)] | rw [if_neg (by omega)]))
            exact jj_iret B dX9_splice_194 ⟨Nat.le_of_ble_eq_true rfl, Nat.le_of_ble_eq_true rfl⟩ (⟨_, rfl, (by unfold r_splice; first | (refine Eq.trans ?_ (if_pos htt).symm; first | rfl | (rw [sU_n (by decide), sCopy_n (by decide)]; first | rfl | (rw [sCopy_n (by decide)]; rfl))) | (refine Eq.trans ?_ (if_neg (by omega)).symm; rfl)), (by unfold n_splice; first | (rw [if_pos htt]; unfold sSplT sSplG; (repeat (first | rw [if_pos (by omega)] | rw [if_neg (by omega)])); exact hR) | (rw [if_neg (by omega)]; rw [htt]; exact hR) | (rw [htt]; exact hR))⟩)
          · skip
            refine jj_iload3 F dX9_splice_52 ?_
            refine jj_aload0 F dX9_splice_53 ?_
            refine jj_iload1 F dX9_splice_54 ?_
            refine jj_callVr B (k := 0) (n := 0) (k9_length F.tr hR (by omega) (by have := hb t (by omega) (by omega); omega)) lk_X9_132 hR.1 cs_9 rfl rfl ⟨Nat.le_of_ble_eq_true rfl, Nat.le_of_ble_eq_true rfl, Nat.le_of_ble_eq_true rfl, Nat.le_of_ble_eq_true rfl, Nat.le_of_ble_eq_true rfl⟩ ⟨Nat.le_of_ble_eq_true rfl, Nat.le_of_ble_eq_true rfl, Nat.le_of_ble_eq_true rfl, Nat.le_of_ble_eq_true rfl⟩ jj_tx0 dX9_splice_55 ?_
            refine jj_icmp_gt F (tgt := 65) dX9_splice_58 rfl (by have := hb t (by omega) (by omega); omega) (fun c58 => ?_) (fun c58 => ?_)
            · skip
              refine jj_iconst F dX9_splice_65 ?_
              refine jj_istore7 F dX9_splice_66 (hN _ (by decide)) rfl ?_
              refine jj_iload6 F dX9_splice_68 ?_
              refine jj_if_eq F (tgt := 83) dX9_splice_70 rfl (by omega) (fun c70 => by exfalso; omega) (fun c70 => ?_)
              refine jj_iload4 F dX9_splice_73 ?_
              refine jj_iconst F dX9_splice_75 ?_
              refine jj_icmp_eq F (tgt := 83) dX9_splice_76 rfl (by omega) (fun c76 => ?_) (fun c76 => by exfalso; omega)
              refine jj_iconst F dX9_splice_83 ?_
              refine jj_istore8 F dX9_splice_84 (hN _ (by decide)) rfl ?_
              refine jj_iload7 F dX9_splice_86 ?_
              refine jj_if_eq F (tgt := 155) dX9_splice_88 rfl (by omega) (fun c88 => ?_) (fun c88 => by exfalso; omega)
              refine jj_iconst F dX9_splice_155 ?_
              refine jj_istore9 F dX9_splice_156 (hN _ (by decide)) rfl ?_
              refine jj_aload0 F dX9_splice_158 ?_
              refine jj_iload6 F dX9_splice_159 ?_
              refine jj_if_ne F (tgt := 168) dX9_splice_161 rfl (by omega) (fun c161 => ?_) (fun c161 => by exfalso; omega)
              refine jj_iload7 F dX9_splice_168 ?_
              refine jj_if_ne F (tgt := 177) dX9_splice_170 rfl (by omega) (fun c170 => by exfalso; omega) (fun c170 => ?_)
              refine jj_iconst F dX9_splice_173 ?_
              refine jj_goto F (tgt := 187) dX9_splice_174 rfl ?_
              refine jj_callVi B (k := 0) (n := 0) (k9_goes F.tr hR (show jR 2 by decide)) lk_X9_118 hR.1 cs_9 rfl rfl ⟨Nat.le_of_ble_eq_true rfl, Nat.le_of_ble_eq_true rfl, Nat.le_of_ble_eq_true rfl, Nat.le_of_ble_eq_true rfl, Nat.le_of_ble_eq_true rfl⟩ ⟨Nat.le_of_ble_eq_true rfl, Nat.le_of_ble_eq_true rfl, Nat.le_of_ble_eq_true rfl, Nat.le_of_ble_eq_true rfl⟩ jj_tx0 dX9_splice_187 (fun r G h => ?_)
              obtain ⟨rfl, hR⟩ := h
              refine jj_eqi (b := 0) rfl ?_
              refine jj_if_ne F (tgt := 195) dX9_splice_190 rfl (by omega) (fun c190 => by exfalso; omega) (fun c190 => ?_)
              refine jj_iconst F dX9_splice_193 ?_
              have htt : t_splice s t f u v w = 2 := by unfold t_splice; (repeat (first | rw [if_pos (by omega)] | rw [if_neg (by omega)]))
              exact jj_iret B dX9_splice_194 ⟨Nat.le_of_ble_eq_true rfl, Nat.le_of_ble_eq_true rfl⟩ (⟨_, rfl, (by unfold r_splice; first | (refine Eq.trans ?_ (if_pos htt).symm; first | rfl | (rw [sU_n (by decide), sCopy_n (by decide)]; first | rfl | (rw [sCopy_n (by decide)]; rfl))) | (refine Eq.trans ?_ (if_neg (by omega)).symm; rfl)), (by unfold n_splice; first | (rw [if_pos htt]; unfold sSplT sSplG; (repeat (first | rw [if_pos (by omega)] | rw [if_neg (by omega)])); exact hR) | (rw [if_neg (by omega)]; rw [htt]; exact hR) | (rw [htt]; exact hR))⟩)
            · skip
              refine jj_iconst F dX9_splice_61 ?_
              refine jj_goto F (tgt := 66) dX9_splice_62 rfl ?_
              refine jj_istore7 F dX9_splice_66 (hN _ (by decide)) rfl ?_
              refine jj_iload6 F dX9_splice_68 ?_
              refine jj_if_eq F (tgt := 83) dX9_splice_70 rfl (by omega) (fun c70 => by exfalso; omega) (fun c70 => ?_)
              refine jj_iload4 F dX9_splice_73 ?_
              refine jj_iconst F dX9_splice_75 ?_
              refine jj_icmp_eq F (tgt := 83) dX9_splice_76 rfl (by omega) (fun c76 => ?_) (fun c76 => by exfalso; omega)
              refine jj_iconst F dX9_splice_83 ?_
              refine jj_istore8 F dX9_splice_84 (hN _ (by decide)) rfl ?_
              refine jj_iload7 F dX9_splice_86 ?_
              refine jj_if_eq F (tgt := 155) dX9_splice_88 rfl (by omega) (fun c88 => by exfalso; omega) (fun c88 => ?_)
              refine jj_aload0 F dX9_splice_91 ?_
              refine jj_iload1 F dX9_splice_92 ?_
              refine jj_callVr B (k := 0) (n := 0) (k9_isPlayable F.tr hR (by omega) i0 (by have := hb t (by omega) (by omega); omega)) lk_X9_136 hR.1 cs_9 rfl rfl ⟨Nat.le_of_ble_eq_true rfl, Nat.le_of_ble_eq_true rfl, Nat.le_of_ble_eq_true rfl, Nat.le_of_ble_eq_true rfl, Nat.le_of_ble_eq_true rfl⟩ ⟨Nat.le_of_ble_eq_true rfl, Nat.le_of_ble_eq_true rfl, Nat.le_of_ble_eq_true rfl, Nat.le_of_ble_eq_true rfl⟩ jj_tx0 dX9_splice_93 ?_
              refine jj_if_eq F (tgt := 155) dX9_splice_96 rfl (sPlay_r _ _) (fun c96 => ?_) (fun c96 => ?_)
              · skip
                refine jj_iconst F dX9_splice_155 ?_
                refine jj_istore9 F dX9_splice_156 (hN _ (by decide)) rfl ?_
                refine jj_aload0 F dX9_splice_158 ?_
                refine jj_iload6 F dX9_splice_159 ?_
                refine jj_if_ne F (tgt := 168) dX9_splice_161 rfl (by omega) (fun c161 => ?_) (fun c161 => by exfalso; omega)
                refine jj_iload7 F dX9_splice_168 ?_
                refine jj_if_ne F (tgt := 177) dX9_splice_170 rfl (by omega) (fun c170 => ?_) (fun c170 => by exfalso; omega)
                refine jj_iload9 F dX9_splice_177 ?_
                refine jj_if_eq F (tgt := 186) dX9_splice_179 rfl (by omega) (fun c179 => ?_) (fun c179 => by exfalso; omega)
                refine jj_iconst F dX9_splice_186 ?_
                refine jj_callVi B (k := 0) (n := 0) (k9_goes F.tr hR (show jR 3 by decide)) lk_X9_118 hR.1 cs_9 rfl rfl ⟨Nat.le_of_ble_eq_true rfl, Nat.le_of_ble_eq_true rfl, Nat.le_of_ble_eq_true rfl, Nat.le_of_ble_eq_true rfl, Nat.le_of_ble_eq_true rfl⟩ ⟨Nat.le_of_ble_eq_true rfl, Nat.le_of_ble_eq_true rfl, Nat.le_of_ble_eq_true rfl, Nat.le_of_ble_eq_true rfl⟩ jj_tx0 dX9_splice_187 (fun r G h => ?_)
                obtain ⟨rfl, hR⟩ := h
                refine jj_eqi (b := 0) rfl ?_
                refine jj_if_ne F (tgt := 195) dX9_splice_190 rfl (by omega) (fun c190 => by exfalso; omega) (fun c190 => ?_)
                refine jj_iconst F dX9_splice_193 ?_
                have htt : t_splice s t f u v w = 3 := by unfold t_splice; (repeat (first | rw [if_pos (by omega)] | rw [if_neg (by omega)]))
                exact jj_iret B dX9_splice_194 ⟨Nat.le_of_ble_eq_true rfl, Nat.le_of_ble_eq_true rfl⟩ (⟨_, rfl, (by unfold r_splice; first | (refine Eq.trans ?_ (if_pos htt).symm; first | rfl | (rw [sU_n (by decide), sCopy_n (by decide)]; first | rfl | (rw [sCopy_n (by decide)]; rfl))) | (refine Eq.trans ?_ (if_neg (by omega)).symm; rfl)), (by unfold n_splice; first | (rw [if_pos htt]; unfold sSplT sSplG; (repeat (first | rw [if_pos (by omega)] | rw [if_neg (by omega)])); exact hR) | (rw [if_neg (by omega)]; rw [htt]; exact hR) | (rw [htt]; exact hR))⟩)
              · skip
                refine jj_iload8 F dX9_splice_99 ?_
                refine jj_if_eq F (tgt := 113) dX9_splice_101 rfl (by omega) (fun c101 => ?_) (fun c101 => by exfalso; omega)
                refine jj_aload0 F dX9_splice_113 ?_
                refine m9_get F hR fd_X9_101 (by decide) rfl dX9_splice_114 ?_
                refine jj_bipush F (by decide) dX9_splice_117 ?_
                refine jj_icmp_ge F (tgt := 155) dX9_splice_119 rfl (by omega) (fun c119 => ?_) (fun c119 => ?_)
                · skip
                  refine jj_iconst F dX9_splice_155 ?_
                  refine jj_istore9 F dX9_splice_156 (hN _ (by decide)) rfl ?_
                  refine jj_aload0 F dX9_splice_158 ?_
                  refine jj_iload6 F dX9_splice_159 ?_
                  refine jj_if_ne F (tgt := 168) dX9_splice_161 rfl (by omega) (fun c161 => ?_) (fun c161 => by exfalso; omega)
                  refine jj_iload7 F dX9_splice_168 ?_
                  refine jj_if_ne F (tgt := 177) dX9_splice_170 rfl (by omega) (fun c170 => ?_) (fun c170 => by exfalso; omega)
                  refine jj_iload9 F dX9_splice_177 ?_
                  refine jj_if_eq F (tgt := 186) dX9_splice_179 rfl (by omega) (fun c179 => ?_) (fun c179 => by exfalso; omega)
                  refine jj_iconst F dX9_splice_186 ?_
                  refine jj_callVi B (k := 0) (n := 0) (k9_goes F.tr hR (show jR 3 by decide)) lk_X9_118 hR.1 cs_9 rfl rfl ⟨Nat.le_of_ble_eq_true rfl, Nat.le_of_ble_eq_true rfl, Nat.le_of_ble_eq_true rfl, Nat.le_of_ble_eq_true rfl, Nat.le_of_ble_eq_true rfl⟩ ⟨Nat.le_of_ble_eq_true rfl, Nat.le_of_ble_eq_true rfl, Nat.le_of_ble_eq_true rfl, Nat.le_of_ble_eq_true rfl⟩ jj_tx0 dX9_splice_187 (fun r G h => ?_)
                  obtain ⟨rfl, hR⟩ := h
                  refine jj_eqi (b := 0) rfl ?_
                  refine jj_if_ne F (tgt := 195) dX9_splice_190 rfl (by omega) (fun c190 => by exfalso; omega) (fun c190 => ?_)
                  refine jj_iconst F dX9_splice_193 ?_
                  have htt : t_splice s t f u v w = 3 := by unfold t_splice; (repeat (first | rw [if_pos (by omega)] | rw [if_neg (by omega)]))
                  exact jj_iret B dX9_splice_194 ⟨Nat.le_of_ble_eq_true rfl, Nat.le_of_ble_eq_true rfl⟩ (⟨_, rfl, (by unfold r_splice; first | (refine Eq.trans ?_ (if_pos htt).symm; first | rfl | (rw [sU_n (by decide), sCopy_n (by decide)]; first | rfl | (rw [sCopy_n (by decide)]; rfl))) | (refine Eq.trans ?_ (if_neg (by omega)).symm; rfl)), (by unfold n_splice; first | (rw [if_pos htt]; unfold sSplT sSplG; (repeat (first | rw [if_pos (by omega)] | rw [if_neg (by omega)])); exact hR) | (rw [if_neg (by omega)]; rw [htt]; exact hR) | (rw [htt]; exact hR))⟩)
                · skip
                  refine jj_aload0 F dX9_splice_122 ?_
                  refine jj_iload1 F dX9_splice_123 ?_
                  refine jj_iload2 F dX9_splice_124 ?_
                  refine jj_iload3 F dX9_splice_125 ?_
                  refine jj_callVr B (k := 0) (n := 0) (k9_spansIn F.tr hR (by omega) (by have := hb t (by omega) (by omega); omega) (by omega) (by omega) (hle t (by omega) (by omega))) lk_X9_139 hR.1 cs_9 rfl rfl ⟨Nat.le_of_ble_eq_true rfl, Nat.le_of_ble_eq_true rfl, Nat.le_of_ble_eq_true rfl, Nat.le_of_ble_eq_true rfl, Nat.le_of_ble_eq_true rfl⟩ ⟨Nat.le_of_ble_eq_true rfl, Nat.le_of_ble_eq_true rfl, Nat.le_of_ble_eq_true rfl, Nat.le_of_ble_eq_true rfl⟩ jj_tx0 dX9_splice_126 ?_
                  refine jj_iload8 F dX9_splice_129 ?_
                  refine jj_if_eq F (tgt := 144) dX9_splice_131 rfl (by omega) (fun c131 => ?_) (fun c131 => by exfalso; omega)
                  refine jj_iconst F dX9_splice_144 ?_
                  refine jj_iadd F dX9_splice_145 ?_
                  refine jj_bipush F (by decide) dX9_splice_146 ?_
                  refine jj_icmp_gt F (tgt := 155) dX9_splice_148 rfl (by have := hsp t f u (by omega) (by omega); first | (have := hb v (by omega) (by omega); omega) | omega) (fun c148 => ?_) (fun c148 => ?_)
                  · skip
                    refine jj_iconst F dX9_splice_155 ?_
                    refine jj_istore9 F dX9_splice_156 (hN _ (by decide)) rfl ?_
                    refine jj_aload0 F dX9_splice_158 ?_
                    refine jj_iload6 F dX9_splice_159 ?_
                    refine jj_if_ne F (tgt := 168) dX9_splice_161 rfl (by omega) (fun c161 => ?_) (fun c161 => by exfalso; omega)
                    refine jj_iload7 F dX9_splice_168 ?_
                    refine jj_if_ne F (tgt := 177) dX9_splice_170 rfl (by omega) (fun c170 => ?_) (fun c170 => by exfalso; omega)
                    refine jj_iload9 F dX9_splice_177 ?_
                    refine jj_if_eq F (tgt := 186) dX9_splice_179 rfl (by omega) (fun c179 => ?_) (fun c179 => by exfalso; omega)
                    refine jj_iconst F dX9_splice_186 ?_
                    refine jj_callVi B (k := 0) (n := 0) (k9_goes F.tr hR (show jR 3 by decide)) lk_X9_118 hR.1 cs_9 rfl rfl ⟨Nat.le_of_ble_eq_true rfl, Nat.le_of_ble_eq_true rfl, Nat.le_of_ble_eq_true rfl, Nat.le_of_ble_eq_true rfl, Nat.le_of_ble_eq_true rfl⟩ ⟨Nat.le_of_ble_eq_true rfl, Nat.le_of_ble_eq_true rfl, Nat.le_of_ble_eq_true rfl, Nat.le_of_ble_eq_true rfl⟩ jj_tx0 dX9_splice_187 (fun r G h => ?_)
                    obtain ⟨rfl, hR⟩ := h
                    refine jj_eqi (b := 0) rfl ?_
                    refine jj_if_ne F (tgt := 195) dX9_splice_190 rfl (by omega) (fun c190 => by exfalso; omega) (fun c190 => ?_)
                    refine jj_iconst F dX9_splice_193 ?_
                    have htt : t_splice s t f u v w = 3 := by unfold t_splice; (repeat (first | rw [if_pos (by omega)] | rw [if_neg (by omega)]))
                    exact jj_iret B dX9_splice_194 ⟨Nat.le_of_ble_eq_true rfl, Nat.le_of_ble_eq_true rfl⟩ (⟨_, rfl, (by unfold r_splice; first | (refine Eq.trans ?_ (if_pos htt).symm; first | rfl | (rw [sU_n (by decide), sCopy_n (by decide)]; first | rfl | (rw [sCopy_n (by decide)]; rfl))) | (refine Eq.trans ?_ (if_neg (by omega)).symm; rfl)), (by unfold n_splice; first | (rw [if_pos htt]; unfold sSplT sSplG; (repeat (first | rw [if_pos (by omega)] | rw [if_neg (by omega)])); exact hR) | (rw [if_neg (by omega)]; rw [htt]; exact hR) | (rw [htt]; exact hR))⟩)
                  · skip
                    refine jj_iconst F dX9_splice_151 ?_
                    refine jj_goto F (tgt := 156) dX9_splice_152 rfl ?_
                    refine jj_istore9 F dX9_splice_156 (hN _ (by decide)) rfl ?_
                    refine jj_aload0 F dX9_splice_158 ?_
                    refine jj_iload6 F dX9_splice_159 ?_
                    refine jj_if_ne F (tgt := 168) dX9_splice_161 rfl (by omega) (fun c161 => ?_) (fun c161 => by exfalso; omega)
                    refine jj_iload7 F dX9_splice_168 ?_
                    refine jj_if_ne F (tgt := 177) dX9_splice_170 rfl (by omega) (fun c170 => ?_) (fun c170 => by exfalso; omega)
                    refine jj_iload9 F dX9_splice_177 ?_
                    refine jj_if_eq F (tgt := 186) dX9_splice_179 rfl (by omega) (fun c179 => by exfalso; omega) (fun c179 => ?_)
                    refine jj_iconst F dX9_splice_182 ?_
                    refine jj_goto F (tgt := 187) dX9_splice_183 rfl ?_
                    refine jj_callVi B (k := 0) (n := 0) (k9_goes F.tr hR (show jR 0 by decide)) lk_X9_118 hR.1 cs_9 rfl rfl ⟨Nat.le_of_ble_eq_true rfl, Nat.le_of_ble_eq_true rfl, Nat.le_of_ble_eq_true rfl, Nat.le_of_ble_eq_true rfl, Nat.le_of_ble_eq_true rfl⟩ ⟨Nat.le_of_ble_eq_true rfl, Nat.le_of_ble_eq_true rfl, Nat.le_of_ble_eq_true rfl, Nat.le_of_ble_eq_true rfl⟩ jj_tx0 dX9_splice_187 (fun r G h => ?_)
                    obtain ⟨rfl, hR⟩ := h
                    refine jj_eqi (b := 1) rfl ?_
                    refine jj_if_ne F (tgt := 195) dX9_splice_190 rfl (by omega) (fun c190 => ?_) (fun c190 => by exfalso; omega)
                    refine jj_aload0 F dX9_splice_195 ?_
                    refine m9_get F hR fd_X9_16 (by decide) rfl dX9_splice_196 ?_
                    refine jj_iload1 F dX9_splice_199 ?_
                    refine m9_ald F hR (n := 30) rfl (by omega) (by decide) dX9_splice_200 (fun r_200 => ?_)
                    refine jj_eqi (b := s 4 t) rfl ?_
                    refine jj_istore10 F dX9_splice_201 (hN _ (by decide)) rfl ?_
                    refine jj_aload0 F dX9_splice_203 ?_
                    refine jj_iload1 F dX9_splice_204 ?_
                    refine jj_iload2 F dX9_splice_205 ?_
                    refine jj_iload3 F dX9_splice_206 ?_
                    refine jj_callVv B (k := 0) (n := 0) (k9_copies F.tr hR (show 0 ≤ s 1 0 ∧ s 1 0 < 30 by omega) (show 0 ≤ t ∧ t < s 1 0 by omega) (show 0 ≤ s 7 t ∧ s 7 t ≤ 20 by have := hb t (by omega) (by omega); omega) (show 0 ≤ s 7 (s 1 0) ∧ s 7 (s 1 0) ≤ 20 by rw [hT (by omega)]; omega) (show sU s 37 0 0 7 (s 1 0) + sSpans (sU s 37 0 0) t f u ≤ 20 by rw [sSpans37]; show s 7 (s 1 0) + _ ≤ _; rw [hT (by omega)]; first | omega | (have := hb v (by omega) (by omega); omega)) (by omega) (by have := hb t (by omega) (by omega); omega) (by have := hb t (by omega) (by omega); omega) (hnil t (by omega) (by omega)) (fun j hj => by rw [sLen37]; exact sLen_lt hI1 (show 0 ≤ t ∧ t < s 1 0 by omega) j hj) (fun j hj => by rw [sLen37]; exact hle t (by omega) (by omega) j hj)) lk_X9_143 hR.1 cs_9 rfl rfl ⟨Nat.le_of_ble_eq_true rfl, Nat.le_of_ble_eq_true rfl, Nat.le_of_ble_eq_true rfl, Nat.le_of_ble_eq_true rfl, Nat.le_of_ble_eq_true rfl⟩ ⟨Nat.le_of_ble_eq_true rfl, Nat.le_of_ble_eq_true rfl, Nat.le_of_ble_eq_true rfl, Nat.le_of_ble_eq_true rfl⟩ jj_tx0 dX9_splice_207 (fun G hR => ?_)
                    refine jj_iload8 F dX9_splice_210 ?_
                    refine jj_if_eq F (tgt := 254) dX9_splice_212 rfl (by omega) (fun c212 => ?_) (fun c212 => by exfalso; omega)
                    refine jj_aload0 F dX9_splice_254 ?_
                    refine m9_get F hR fd_X9_22 (by decide) rfl dX9_splice_255 ?_
                    refine jj_aload0 F dX9_splice_258 ?_
                    refine m9_get F hR fd_X9_101 (by decide) rfl dX9_splice_259 ?_
                    refine jj_eqi (b := s 1 0) (by first | (rw [sCopy_n (by decide), sCopy_n (by decide)]; rfl) | (rw [sCopy_n (by decide)]; rfl)) ?_
                    refine jj_iconst F dX9_splice_262 ?_
                    refine m9_ast F hR (n := 30) rfl (by omega) (by decide) (by omega) dX9_splice_263 (fun G hR => ?_)
                    refine jj_aload0 F dX9_splice_264 ?_
                    refine jj_iload10 F dX9_splice_265 ?_
                    refine jj_iconst F dX9_splice_267 ?_
                    refine jj_iadd F dX9_splice_268 ?_
                    refine jj_iload5 F dX9_splice_269 ?_
                    refine jj_callVi B (k := 0) (n := 0) (k9_makes F.tr hR (by first | (rw [sU_n (by decide), sCopy_n (by decide), sCopy_n (by decide)]; exact (show 0 ≤ s 1 0 ∧ s 1 0 < 30 by omega)) | (rw [sU_n (by decide), sCopy_n (by decide)]; exact (show 0 ≤ s 1 0 ∧ s 1 0 < 30 by omega))) (by have := hb t (by omega) (by omega); first | omega | (have := hb v (by omega) (by omega); omega)) (by omega)) lk_X9_125 hR.1 cs_9 rfl rfl ⟨Nat.le_of_ble_eq_true rfl, Nat.le_of_ble_eq_true rfl, Nat.le_of_ble_eq_true rfl, Nat.le_of_ble_eq_true rfl, Nat.le_of_ble_eq_true rfl⟩ ⟨Nat.le_of_ble_eq_true rfl, Nat.le_of_ble_eq_true rfl, Nat.le_of_ble_eq_true rfl, Nat.le_of_ble_eq_true rfl⟩ jj_tx0 dX9_splice_271 (fun r G h => ?_)
                    obtain ⟨rfl, hR⟩ := h
                    have htt : t_splice s t f u v w = 0 := by unfold t_splice; (repeat (first | rw [if_pos (by omega)] | rw [if_neg (by omega)]))
                    exact jj_iret B dX9_splice_274 ⟨Nat.le_of_ble_eq_true rfl, Nat.le_of_ble_eq_true rfl⟩ (⟨_, rfl, (by unfold r_splice; first | (refine Eq.trans ?_ (if_pos htt).symm; first | rfl | (rw [sU_n (by decide), sCopy_n (by decide)]; first | rfl | (rw [sCopy_n (by decide)]; rfl))) | (refine Eq.trans ?_ (if_neg (by omega)).symm; rfl)), (by unfold n_splice; first | (rw [if_pos htt]; unfold sSplT sSplG; (repeat (first | rw [if_pos (by omega)] | rw [if_neg (by omega)])); exact hR) | (rw [if_neg (by omega)]; rw [htt]; exact hR) | (rw [htt]; exact hR))⟩)
    · skip
      refine jj_aload0 F dX9_splice_14 ?_
      refine jj_iload4 F dX9_splice_15 ?_
      refine jj_callVr B (k := 0) (n := 0) (k9_isTape F.tr hR (by omega) (by omega)) lk_X9_129 hR.1 cs_9 rfl rfl ⟨Nat.le_of_ble_eq_true rfl, Nat.le_of_ble_eq_true rfl, Nat.le_of_ble_eq_true rfl, Nat.le_of_ble_eq_true rfl, Nat.le_of_ble_eq_true rfl⟩ ⟨Nat.le_of_ble_eq_true rfl, Nat.le_of_ble_eq_true rfl, Nat.le_of_ble_eq_true rfl, Nat.le_of_ble_eq_true rfl⟩ jj_tx0 dX9_splice_17 ?_
      refine jj_ifb_eq F (tgt := 35) dX9_splice_20 rfl (fun c20 => ?_) (fun c20 => ?_)
      · skip
        refine jj_iconst F dX9_splice_35 ?_
        refine jj_istore6 F dX9_splice_36 (hN _ (by decide)) rfl ?_
        refine jj_iload6 F dX9_splice_38 ?_
        refine jj_if_eq F (tgt := 65) dX9_splice_40 rfl (by omega) (fun c40 => ?_) (fun c40 => by exfalso; omega)
        refine jj_iconst F dX9_splice_65 ?_
        refine jj_istore7 F dX9_splice_66 (hN _ (by decide)) rfl ?_
        refine jj_iload6 F dX9_splice_68 ?_
        refine jj_if_eq F (tgt := 83) dX9_splice_70 rfl (by omega) (fun c70 => ?_) (fun c70 => by exfalso; omega)
        refine jj_iconst F dX9_splice_83 ?_
        refine jj_istore8 F dX9_splice_84 (hN _ (by decide)) rfl ?_
        refine jj_iload7 F dX9_splice_86 ?_
        refine jj_if_eq F (tgt := 155) dX9_splice_88 rfl (by omega) (fun c88 => ?_) (fun c88 => by exfalso; omega)
        refine jj_iconst F dX9_splice_155 ?_
        refine jj_istore9 F dX9_splice_156 (hN _ (by decide)) rfl ?_
        refine jj_aload0 F dX9_splice_158 ?_
        refine jj_iload6 F dX9_splice_159 ?_
        refine jj_if_ne F (tgt := 168) dX9_splice_161 rfl (by omega) (fun c161 => by exfalso; omega) (fun c161 => ?_)
        refine jj_iconst F dX9_splice_164 ?_
        refine jj_goto F (tgt := 187) dX9_splice_165 rfl ?_
        refine jj_callVi B (k := 0) (n := 0) (k9_goes F.tr hR (show jR 1 by decide)) lk_X9_118 hR.1 cs_9 rfl rfl ⟨Nat.le_of_ble_eq_true rfl, Nat.le_of_ble_eq_true rfl, Nat.le_of_ble_eq_true rfl, Nat.le_of_ble_eq_true rfl, Nat.le_of_ble_eq_true rfl⟩ ⟨Nat.le_of_ble_eq_true rfl, Nat.le_of_ble_eq_true rfl, Nat.le_of_ble_eq_true rfl, Nat.le_of_ble_eq_true rfl⟩ jj_tx0 dX9_splice_187 (fun r G h => ?_)
        obtain ⟨rfl, hR⟩ := h
        refine jj_eqi (b := 0) rfl ?_
        refine jj_if_ne F (tgt := 195) dX9_splice_190 rfl (by omega) (fun c190 => by exfalso; omega) (fun c190 => ?_)
        refine jj_iconst F dX9_splice_193 ?_
        have htt : t_splice s t f u v w = 1 := by unfold t_splice; (repeat (first | rw [if_pos (by omega)] | rw [if_neg (by omega)]))
        exact jj_iret B dX9_splice_194 ⟨Nat.le_of_ble_eq_true rfl, Nat.le_of_ble_eq_true rfl⟩ (⟨_, rfl, (by unfold r_splice; first | (refine Eq.trans ?_ (if_pos htt).symm; first | rfl | (rw [sU_n (by decide), sCopy_n (by decide)]; first | rfl | (rw [sCopy_n (by decide)]; rfl))) | (refine Eq.trans ?_ (if_neg (by omega)).symm; rfl)), (by unfold n_splice; first | (rw [if_pos htt]; unfold sSplT sSplG; (repeat (first | rw [if_pos (by omega)] | rw [if_neg (by omega)])); exact hR) | (rw [if_neg (by omega)]; rw [htt]; exact hR) | (rw [htt]; exact hR))⟩)
      · skip
        refine jj_iload5 F dX9_splice_23 ?_
        refine jj_callSr B (k := 0) (n := 0) (k9_isVault F.tr (by omega)) lk_X9_115 rfl ⟨Nat.le_of_ble_eq_true rfl, Nat.le_of_ble_eq_true rfl, Nat.le_of_ble_eq_true rfl, Nat.le_of_ble_eq_true rfl, Nat.le_of_ble_eq_true rfl⟩ ⟨Nat.le_of_ble_eq_true rfl, Nat.le_of_ble_eq_true rfl, Nat.le_of_ble_eq_true rfl, Nat.le_of_ble_eq_true rfl⟩ jj_tx0 dX9_splice_25 ?_
        refine jj_ifb_eq F (tgt := 35) dX9_splice_28 rfl (fun c28 => ?_) (fun c28 => ?_)
        · skip
          refine jj_iconst F dX9_splice_35 ?_
          refine jj_istore6 F dX9_splice_36 (hN _ (by decide)) rfl ?_
          refine jj_iload6 F dX9_splice_38 ?_
          refine jj_if_eq F (tgt := 65) dX9_splice_40 rfl (by omega) (fun c40 => ?_) (fun c40 => by exfalso; omega)
          refine jj_iconst F dX9_splice_65 ?_
          refine jj_istore7 F dX9_splice_66 (hN _ (by decide)) rfl ?_
          refine jj_iload6 F dX9_splice_68 ?_
          refine jj_if_eq F (tgt := 83) dX9_splice_70 rfl (by omega) (fun c70 => ?_) (fun c70 => by exfalso; omega)
          refine jj_iconst F dX9_splice_83 ?_
          refine jj_istore8 F dX9_splice_84 (hN _ (by decide)) rfl ?_
          refine jj_iload7 F dX9_splice_86 ?_
          refine jj_if_eq F (tgt := 155) dX9_splice_88 rfl (by omega) (fun c88 => ?_) (fun c88 => by exfalso; omega)
          refine jj_iconst F dX9_splice_155 ?_
          refine jj_istore9 F dX9_splice_156 (hN _ (by decide)) rfl ?_
          refine jj_aload0 F dX9_splice_158 ?_
          refine jj_iload6 F dX9_splice_159 ?_
          refine jj_if_ne F (tgt := 168) dX9_splice_161 rfl (by omega) (fun c161 => by exfalso; omega) (fun c161 => ?_)
          refine jj_iconst F dX9_splice_164 ?_
          refine jj_goto F (tgt := 187) dX9_splice_165 rfl ?_
          refine jj_callVi B (k := 0) (n := 0) (k9_goes F.tr hR (show jR 1 by decide)) lk_X9_118 hR.1 cs_9 rfl rfl ⟨Nat.le_of_ble_eq_true rfl, Nat.le_of_ble_eq_true rfl, Nat.le_of_ble_eq_true rfl, Nat.le_of_ble_eq_true rfl, Nat.le_of_ble_eq_true rfl⟩ ⟨Nat.le_of_ble_eq_true rfl, Nat.le_of_ble_eq_true rfl, Nat.le_of_ble_eq_true rfl, Nat.le_of_ble_eq_true rfl⟩ jj_tx0 dX9_splice_187 (fun r G h => ?_)
          obtain ⟨rfl, hR⟩ := h
          refine jj_eqi (b := 0) rfl ?_
          refine jj_if_ne F (tgt := 195) dX9_splice_190 rfl (by omega) (fun c190 => by exfalso; omega) (fun c190 => ?_)
          refine jj_iconst F dX9_splice_193 ?_
          have htt : t_splice s t f u v w = 1 := by unfold t_splice; (repeat (first | rw [if_pos (by omega)] | rw [if_neg (by omega)]))
          exact jj_iret B dX9_splice_194 ⟨Nat.le_of_ble_eq_true rfl, Nat.le_of_ble_eq_true rfl⟩ (⟨_, rfl, (by unfold r_splice; first | (refine Eq.trans ?_ (if_pos htt).symm; first | rfl | (rw [sU_n (by decide), sCopy_n (by decide)]; first | rfl | (rw [sCopy_n (by decide)]; rfl))) | (refine Eq.trans ?_ (if_neg (by omega)).symm; rfl)), (by unfold n_splice; first | (rw [if_pos htt]; unfold sSplT sSplG; (repeat (first | rw [if_pos (by omega)] | rw [if_neg (by omega)])); exact hR) | (rw [if_neg (by omega)]; rw [htt]; exact hR) | (rw [htt]; exact hR))⟩)
        · skip
          refine jj_iconst F dX9_splice_31 ?_
          refine jj_goto F (tgt := 36) dX9_splice_32 rfl ?_
          refine jj_istore6 F dX9_splice_36 (hN _ (by decide)) rfl ?_
          refine jj_iload6 F dX9_splice_38 ?_
          refine jj_if_eq F (tgt := 65) dX9_splice_40 rfl (by omega) (fun c40 => by exfalso; omega) (fun c40 => ?_)
          refine jj_iload2 F dX9_splice_43 ?_
          refine jj_if_lt F (tgt := 65) dX9_splice_44 rfl (by omega) (fun c44 => ?_) (fun c44 => ?_)
          · skip
            refine jj_iconst F dX9_splice_65 ?_
            refine jj_istore7 F dX9_splice_66 (hN _ (by decide)) rfl ?_
            refine jj_iload6 F dX9_splice_68 ?_
            refine jj_if_eq F (tgt := 83) dX9_splice_70 rfl (by omega) (fun c70 => by exfalso; omega) (fun c70 => ?_)
            refine jj_iload4 F dX9_splice_73 ?_
            refine jj_iconst F dX9_splice_75 ?_
            refine jj_icmp_eq F (tgt := 83) dX9_splice_76 rfl (by omega) (fun c76 => by exfalso; omega) (fun c76 => ?_)
            refine jj_iconst F dX9_splice_79 ?_
            refine jj_goto F (tgt := 84) dX9_splice_80 rfl ?_
            refine jj_istore8 F dX9_splice_84 (hN _ (by decide)) rfl ?_
            refine jj_iload7 F dX9_splice_86 ?_
            refine jj_if_eq F (tgt := 155) dX9_splice_88 rfl (by omega) (fun c88 => ?_) (fun c88 => by exfalso; omega)
            refine jj_iconst F dX9_splice_155 ?_
            refine jj_istore9 F dX9_splice_156 (hN _ (by decide)) rfl ?_
            refine jj_aload0 F dX9_splice_158 ?_
            refine jj_iload6 F dX9_splice_159 ?_
            refine jj_if_ne F (tgt := 168) dX9_splice_161 rfl (by omega) (fun c161 => ?_) (fun c161 => by exfalso; omega)
            refine jj_iload7 F dX9_splice_168 ?_
            refine jj_if_ne F (tgt := 177) dX9_splice_170 rfl (by omega) (fun c170 => by exfalso; omega) (fun c170 => ?_)
            refine jj_iconst F dX9_splice_173 ?_
            refine jj_goto F (tgt := 187) dX9_splice_174 rfl ?_
            refine jj_callVi B (k := 0) (n := 0) (k9_goes F.tr hR (show jR 2 by decide)) lk_X9_118 hR.1 cs_9 rfl rfl ⟨Nat.le_of_ble_eq_true rfl, Nat.le_of_ble_eq_true rfl, Nat.le_of_ble_eq_true rfl, Nat.le_of_ble_eq_true rfl, Nat.le_of_ble_eq_true rfl⟩ ⟨Nat.le_of_ble_eq_true rfl, Nat.le_of_ble_eq_true rfl, Nat.le_of_ble_eq_true rfl, Nat.le_of_ble_eq_true rfl⟩ jj_tx0 dX9_splice_187 (fun r G h => ?_)
            obtain ⟨rfl, hR⟩ := h
            refine jj_eqi (b := 0) rfl ?_
            refine jj_if_ne F (tgt := 195) dX9_splice_190 rfl (by omega) (fun c190 => by exfalso; omega) (fun c190 => ?_)
            refine jj_iconst F dX9_splice_193 ?_
            have htt : t_splice s t f u v w = 2 := by unfold t_splice; (repeat (first | rw [if_pos (by omega)] | rw [if_neg (by omega)]))
            exact jj_iret B dX9_splice_194 ⟨Nat.le_of_ble_eq_true rfl, Nat.le_of_ble_eq_true rfl⟩ (⟨_, rfl, (by unfold r_splice; first | (refine Eq.trans ?_ (if_pos htt).symm; first | rfl | (rw [sU_n (by decide), sCopy_n (by decide)]; first | rfl | (rw [sCopy_n (by decide)]; rfl))) | (refine Eq.trans ?_ (if_neg (by omega)).symm; rfl)), (by unfold n_splice; first | (rw [if_pos htt]; unfold sSplT sSplG; (repeat (first | rw [if_pos (by omega)] | rw [if_neg (by omega)])); exact hR) | (rw [if_neg (by omega)]; rw [htt]; exact hR) | (rw [htt]; exact hR))⟩)
          · skip
            refine jj_iload3 F dX9_splice_47 ?_
            refine jj_iload2 F dX9_splice_48 ?_
            refine jj_icmp_le F (tgt := 65) dX9_splice_49 rfl (by omega) (fun c49 => ?_) (fun c49 => ?_)
            · skip
              refine jj_iconst F dX9_splice_65 ?_
              refine jj_istore7 F dX9_splice_66 (hN _ (by decide)) rfl ?_
              refine jj_iload6 F dX9_splice_68 ?_
              refine jj_if_eq F (tgt := 83) dX9_splice_70 rfl (by omega) (fun c70 => by exfalso; omega) (fun c70 => ?_)
              refine jj_iload4 F dX9_splice_73 ?_
              refine jj_iconst F dX9_splice_75 ?_
              refine jj_icmp_eq F (tgt := 83) dX9_splice_76 rfl (by omega) (fun c76 => by exfalso; omega) (fun c76 => ?_)
              refine jj_iconst F dX9_splice_79 ?_
              refine jj_goto F (tgt := 84) dX9_splice_80 rfl ?_
              refine jj_istore8 F dX9_splice_84 (hN _ (by decide)) rfl ?_
              refine jj_iload7 F dX9_splice_86 ?_
              refine jj_if_eq F (tgt := 155) dX9_splice_88 rfl (by omega) (fun c88 => ?_) (fun c88 => by exfalso; omega)
              refine jj_iconst F dX9_splice_155 ?_
              refine jj_istore9 F dX9_splice_156 (hN _ (by decide)) rfl ?_
              refine jj_aload0 F dX9_splice_158 ?_
              refine jj_iload6 F dX9_splice_159 ?_
              refine jj_if_ne F (tgt := 168) dX9_splice_161 rfl (by omega) (fun c161 => ?_) (fun c161 => by exfalso; omega)
              refine jj_iload7 F dX9_splice_168 ?_
              refine jj_if_ne F (tgt := 177) dX9_splice_170 rfl (by omega) (fun c170 => by exfalso; omega) (fun c170 => ?_)
              refine jj_iconst F dX9_splice_173 ?_
              refine jj_goto F (tgt := 187) dX9_splice_174 rfl ?_
              refine jj_callVi B (k := 0) (n := 0) (k9_goes F.tr hR (show jR 2 by decide)) lk_X9_118 hR.1 cs_9 rfl rfl ⟨Nat.le_of_ble_eq_true rfl, Nat.le_of_ble_eq_true rfl, Nat.le_of_ble_eq_true rfl, Nat.le_of_ble_eq_true rfl, Nat.le_of_ble_eq_true rfl⟩ ⟨Nat.le_of_ble_eq_true rfl, Nat.le_of_ble_eq_true rfl, Nat.le_of_ble_eq_true rfl, Nat.le_of_ble_eq_true rfl⟩ jj_tx0 dX9_splice_187 (fun r G h => ?_)
              obtain ⟨rfl, hR⟩ := h
              refine jj_eqi (b := 0) rfl ?_
              refine jj_if_ne F (tgt := 195) dX9_splice_190 rfl (by omega) (fun c190 => by exfalso; omega) (fun c190 => ?_)
              refine jj_iconst F dX9_splice_193 ?_
              have htt : t_splice s t f u v w = 2 := by unfold t_splice; (repeat (first | rw [if_pos (by omega)] | rw [if_neg (by omega)]))
              exact jj_iret B dX9_splice_194 ⟨Nat.le_of_ble_eq_true rfl, Nat.le_of_ble_eq_true rfl⟩ (⟨_, rfl, (by unfold r_splice; first | (refine Eq.trans ?_ (if_pos htt).symm; first | rfl | (rw [sU_n (by decide), sCopy_n (by decide)]; first | rfl | (rw [sCopy_n (by decide)]; rfl))) | (refine Eq.trans ?_ (if_neg (by omega)).symm; rfl)), (by unfold n_splice; first | (rw [if_pos htt]; unfold sSplT sSplG; (repeat (first | rw [if_pos (by omega)] | rw [if_neg (by omega)])); exact hR) | (rw [if_neg (by omega)]; rw [htt]; exact hR) | (rw [htt]; exact hR))⟩)
            · skip
              refine jj_iload3 F dX9_splice_52 ?_
              refine jj_aload0 F dX9_splice_53 ?_
              refine jj_iload1 F dX9_splice_54 ?_
              refine jj_callVr B (k := 0) (n := 0) (k9_length F.tr hR (by omega) (by have := hb t (by omega) (by omega); omega)) lk_X9_132 hR.1 cs_9 rfl rfl ⟨Nat.le_of_ble_eq_true rfl, Nat.le_of_ble_eq_true rfl, Nat.le_of_ble_eq_true rfl, Nat.le_of_ble_eq_true rfl, Nat.le_of_ble_eq_true rfl⟩ ⟨Nat.le_of_ble_eq_true rfl, Nat.le_of_ble_eq_true rfl, Nat.le_of_ble_eq_true rfl, Nat.le_of_ble_eq_true rfl⟩ jj_tx0 dX9_splice_55 ?_
              refine jj_icmp_gt F (tgt := 65) dX9_splice_58 rfl (by have := hb t (by omega) (by omega); omega) (fun c58 => ?_) (fun c58 => ?_)
              · skip
                refine jj_iconst F dX9_splice_65 ?_
                refine jj_istore7 F dX9_splice_66 (hN _ (by decide)) rfl ?_
                refine jj_iload6 F dX9_splice_68 ?_
                refine jj_if_eq F (tgt := 83) dX9_splice_70 rfl (by omega) (fun c70 => by exfalso; omega) (fun c70 => ?_)
                refine jj_iload4 F dX9_splice_73 ?_
                refine jj_iconst F dX9_splice_75 ?_
                refine jj_icmp_eq F (tgt := 83) dX9_splice_76 rfl (by omega) (fun c76 => by exfalso; omega) (fun c76 => ?_)
                refine jj_iconst F dX9_splice_79 ?_
                refine jj_goto F (tgt := 84) dX9_splice_80 rfl ?_
                refine jj_istore8 F dX9_splice_84 (hN _ (by decide)) rfl ?_
                refine jj_iload7 F dX9_splice_86 ?_
                refine jj_if_eq F (tgt := 155) dX9_splice_88 rfl (by omega) (fun c88 => ?_) (fun c88 => by exfalso; omega)
                refine jj_iconst F dX9_splice_155 ?_
                refine jj_istore9 F dX9_splice_156 (hN _ (by decide)) rfl ?_
                refine jj_aload0 F dX9_splice_158 ?_
                refine jj_iload6 F dX9_splice_159 ?_
                refine jj_if_ne F (tgt := 168) dX9_splice_161 rfl (by omega) (fun c161 => ?_) (fun c161 => by exfalso; omega)
                refine jj_iload7 F dX9_splice_168 ?_
                refine jj_if_ne F (tgt := 177) dX9_splice_170 rfl (by omega) (fun c170 => by exfalso; omega) (fun c170 => ?_)
                refine jj_iconst F dX9_splice_173 ?_
                refine jj_goto F (tgt := 187) dX9_splice_174 rfl ?_
                refine jj_callVi B (k := 0) (n := 0) (k9_goes F.tr hR (show jR 2 by decide)) lk_X9_118 hR.1 cs_9 rfl rfl ⟨Nat.le_of_ble_eq_true rfl, Nat.le_of_ble_eq_true rfl, Nat.le_of_ble_eq_true rfl, Nat.le_of_ble_eq_true rfl, Nat.le_of_ble_eq_true rfl⟩ ⟨Nat.le_of_ble_eq_true rfl, Nat.le_of_ble_eq_true rfl, Nat.le_of_ble_eq_true rfl, Nat.le_of_ble_eq_true rfl⟩ jj_tx0 dX9_splice_187 (fun r G h => ?_)
                obtain ⟨rfl, hR⟩ := h
                refine jj_eqi (b := 0) rfl ?_
                refine jj_if_ne F (tgt := 195) dX9_splice_190 rfl (by omega) (fun c190 => by exfalso; omega) (fun c190 => ?_)
                refine jj_iconst F dX9_splice_193 ?_
                have htt : t_splice s t f u v w = 2 := by unfold t_splice; (repeat (first | rw [if_pos (by omega)] | rw [if_neg (by omega)]))
                exact jj_iret B dX9_splice_194 ⟨Nat.le_of_ble_eq_true rfl, Nat.le_of_ble_eq_true rfl⟩ (⟨_, rfl, (by unfold r_splice; first | (refine Eq.trans ?_ (if_pos htt).symm; first | rfl | (rw [sU_n (by decide), sCopy_n (by decide)]; first | rfl | (rw [sCopy_n (by decide)]; rfl))) | (refine Eq.trans ?_ (if_neg (by omega)).symm; rfl)), (by unfold n_splice; first | (rw [if_pos htt]; unfold sSplT sSplG; (repeat (first | rw [if_pos (by omega)] | rw [if_neg (by omega)])); exact hR) | (rw [if_neg (by omega)]; rw [htt]; exact hR) | (rw [htt]; exact hR))⟩)
              · skip
                refine jj_iconst F dX9_splice_61 ?_
                refine jj_goto F (tgt := 66) dX9_splice_62 rfl ?_
                refine jj_istore7 F dX9_splice_66 (hN _ (by decide)) rfl ?_
                refine jj_iload6 F dX9_splice_68 ?_
                refine jj_if_eq F (tgt := 83) dX9_splice_70 rfl (by omega) (fun c70 => by exfalso; omega) (fun c70 => ?_)
                refine jj_iload4 F dX9_splice_73 ?_
                refine jj_iconst F dX9_splice_75 ?_
                refine jj_icmp_eq F (tgt := 83) dX9_splice_76 rfl (by omega) (fun c76 => by exfalso; omega) (fun c76 => ?_)
                refine jj_iconst F dX9_splice_79 ?_
                refine jj_goto F (tgt := 84) dX9_splice_80 rfl ?_
                refine jj_istore8 F dX9_splice_84 (hN _ (by decide)) rfl ?_
                refine jj_iload7 F dX9_splice_86 ?_
                refine jj_if_eq F (tgt := 155) dX9_splice_88 rfl (by omega) (fun c88 => by exfalso; omega) (fun c88 => ?_)
                refine jj_aload0 F dX9_splice_91 ?_
                refine jj_iload1 F dX9_splice_92 ?_
                refine jj_callVr B (k := 0) (n := 0) (k9_isPlayable F.tr hR (by omega) i0 (by have := hb t (by omega) (by omega); omega)) lk_X9_136 hR.1 cs_9 rfl rfl ⟨Nat.le_of_ble_eq_true rfl, Nat.le_of_ble_eq_true rfl, Nat.le_of_ble_eq_true rfl, Nat.le_of_ble_eq_true rfl, Nat.le_of_ble_eq_true rfl⟩ ⟨Nat.le_of_ble_eq_true rfl, Nat.le_of_ble_eq_true rfl, Nat.le_of_ble_eq_true rfl, Nat.le_of_ble_eq_true rfl⟩ jj_tx0 dX9_splice_93 ?_
                refine jj_if_eq F (tgt := 155) dX9_splice_96 rfl (sPlay_r _ _) (fun c96 => ?_) (fun c96 => ?_)
                · skip
                  refine jj_iconst F dX9_splice_155 ?_
                  refine jj_istore9 F dX9_splice_156 (hN _ (by decide)) rfl ?_
                  refine jj_aload0 F dX9_splice_158 ?_
                  refine jj_iload6 F dX9_splice_159 ?_
                  refine jj_if_ne F (tgt := 168) dX9_splice_161 rfl (by omega) (fun c161 => ?_) (fun c161 => by exfalso; omega)
                  refine jj_iload7 F dX9_splice_168 ?_
                  refine jj_if_ne F (tgt := 177) dX9_splice_170 rfl (by omega) (fun c170 => ?_) (fun c170 => by exfalso; omega)
                  refine jj_iload9 F dX9_splice_177 ?_
                  refine jj_if_eq F (tgt := 186) dX9_splice_179 rfl (by omega) (fun c179 => ?_) (fun c179 => by exfalso; omega)
                  refine jj_iconst F dX9_splice_186 ?_
                  refine jj_callVi B (k := 0) (n := 0) (k9_goes F.tr hR (show jR 3 by decide)) lk_X9_118 hR.1 cs_9 rfl rfl ⟨Nat.le_of_ble_eq_true rfl, Nat.le_of_ble_eq_true rfl, Nat.le_of_ble_eq_true rfl, Nat.le_of_ble_eq_true rfl, Nat.le_of_ble_eq_true rfl⟩ ⟨Nat.le_of_ble_eq_true rfl, Nat.le_of_ble_eq_true rfl, Nat.le_of_ble_eq_true rfl, Nat.le_of_ble_eq_true rfl⟩ jj_tx0 dX9_splice_187 (fun r G h => ?_)
                  obtain ⟨rfl, hR⟩ := h
                  refine jj_eqi (b := 0) rfl ?_
                  refine jj_if_ne F (tgt := 195) dX9_splice_190 rfl (by omega) (fun c190 => by exfalso; omega) (fun c190 => ?_)
                  refine jj_iconst F dX9_splice_193 ?_
                  have htt : t_splice s t f u v w = 3 := by unfold t_splice; (repeat (first | rw [if_pos (by omega)] | rw [if_neg (by omega)]))
                  exact jj_iret B dX9_splice_194 ⟨Nat.le_of_ble_eq_true rfl, Nat.le_of_ble_eq_true rfl⟩ (⟨_, rfl, (by unfold r_splice; first | (refine Eq.trans ?_ (if_pos htt).symm; first | rfl | (rw [sU_n (by decide), sCopy_n (by decide)]; first | rfl | (rw [sCopy_n (by decide)]; rfl))) | (refine Eq.trans ?_ (if_neg (by omega)).symm; rfl)), (by unfold n_splice; first | (rw [if_pos htt]; unfold sSplT sSplG; (repeat (first | rw [if_pos (by omega)] | rw [if_neg (by omega)])); exact hR) | (rw [if_neg (by omega)]; rw [htt]; exact hR) | (rw [htt]; exact hR))⟩)
                · skip
                  refine jj_iload8 F dX9_splice_99 ?_
                  refine jj_if_eq F (tgt := 113) dX9_splice_101 rfl (by omega) (fun c101 => by exfalso; omega) (fun c101 => ?_)
                  refine jj_aload0 F dX9_splice_104 ?_
                  refine jj_iload4 F dX9_splice_105 ?_
                  refine jj_callVr B (k := 0) (n := 0) (k9_isPlayable F.tr hR (by omega) i0 (by have := hb v (by omega) (by omega); omega)) lk_X9_136 hR.1 cs_9 rfl rfl ⟨Nat.le_of_ble_eq_true rfl, Nat.le_of_ble_eq_true rfl, Nat.le_of_ble_eq_true rfl, Nat.le_of_ble_eq_true rfl, Nat.le_of_ble_eq_true rfl⟩ ⟨Nat.le_of_ble_eq_true rfl, Nat.le_of_ble_eq_true rfl, Nat.le_of_ble_eq_true rfl, Nat.le_of_ble_eq_true rfl⟩ jj_tx0 dX9_splice_107 ?_
                  refine jj_if_eq F (tgt := 155) dX9_splice_110 rfl (sPlay_r _ _) (fun c110 => ?_) (fun c110 => ?_)
                  · skip
                    refine jj_iconst F dX9_splice_155 ?_
                    refine jj_istore9 F dX9_splice_156 (hN _ (by decide)) rfl ?_
                    refine jj_aload0 F dX9_splice_158 ?_
                    refine jj_iload6 F dX9_splice_159 ?_
                    refine jj_if_ne F (tgt := 168) dX9_splice_161 rfl (by omega) (fun c161 => ?_) (fun c161 => by exfalso; omega)
                    refine jj_iload7 F dX9_splice_168 ?_
                    refine jj_if_ne F (tgt := 177) dX9_splice_170 rfl (by omega) (fun c170 => ?_) (fun c170 => by exfalso; omega)
                    refine jj_iload9 F dX9_splice_177 ?_
                    refine jj_if_eq F (tgt := 186) dX9_splice_179 rfl (by omega) (fun c179 => ?_) (fun c179 => by exfalso; omega)
                    refine jj_iconst F dX9_splice_186 ?_
                    refine jj_callVi B (k := 0) (n := 0) (k9_goes F.tr hR (show jR 3 by decide)) lk_X9_118 hR.1 cs_9 rfl rfl ⟨Nat.le_of_ble_eq_true rfl, Nat.le_of_ble_eq_true rfl, Nat.le_of_ble_eq_true rfl, Nat.le_of_ble_eq_true rfl, Nat.le_of_ble_eq_true rfl⟩ ⟨Nat.le_of_ble_eq_true rfl, Nat.le_of_ble_eq_true rfl, Nat.le_of_ble_eq_true rfl, Nat.le_of_ble_eq_true rfl⟩ jj_tx0 dX9_splice_187 (fun r G h => ?_)
                    obtain ⟨rfl, hR⟩ := h
                    refine jj_eqi (b := 0) rfl ?_
                    refine jj_if_ne F (tgt := 195) dX9_splice_190 rfl (by omega) (fun c190 => by exfalso; omega) (fun c190 => ?_)
                    refine jj_iconst F dX9_splice_193 ?_
                    have htt : t_splice s t f u v w = 3 := by unfold t_splice; (repeat (first | rw [if_pos (by omega)] | rw [if_neg (by omega)]))
                    exact jj_iret B dX9_splice_194 ⟨Nat.le_of_ble_eq_true rfl, Nat.le_of_ble_eq_true rfl⟩ (⟨_, rfl, (by unfold r_splice; first | (refine Eq.trans ?_ (if_pos htt).symm; first | rfl | (rw [sU_n (by decide), sCopy_n (by decide)]; first | rfl | (rw [sCopy_n (by decide)]; rfl))) | (refine Eq.trans ?_ (if_neg (by omega)).symm; rfl)), (by unfold n_splice; first | (rw [if_pos htt]; unfold sSplT sSplG; (repeat (first | rw [if_pos (by omega)] | rw [if_neg (by omega)])); exact hR) | (rw [if_neg (by omega)]; rw [htt]; exact hR) | (rw [htt]; exact hR))⟩)
                  · skip
                    refine jj_aload0 F dX9_splice_113 ?_
                    refine m9_get F hR fd_X9_101 (by decide) rfl dX9_splice_114 ?_
                    refine jj_bipush F (by decide) dX9_splice_117 ?_
                    refine jj_icmp_ge F (tgt := 155) dX9_splice_119 rfl (by omega) (fun c119 => ?_) (fun c119 => ?_)
                    · skip
                      refine jj_iconst F dX9_splice_155 ?_
                      refine jj_istore9 F dX9_splice_156 (hN _ (by decide)) rfl ?_
                      refine jj_aload0 F dX9_splice_158 ?_
                      refine jj_iload6 F dX9_splice_159 ?_
                      refine jj_if_ne F (tgt := 168) dX9_splice_161 rfl (by omega) (fun c161 => ?_) (fun c161 => by exfalso; omega)
                      refine jj_iload7 F dX9_splice_168 ?_
                      refine jj_if_ne F (tgt := 177) dX9_splice_170 rfl (by omega) (fun c170 => ?_) (fun c170 => by exfalso; omega)
                      refine jj_iload9 F dX9_splice_177 ?_
                      refine jj_if_eq F (tgt := 186) dX9_splice_179 rfl (by omega) (fun c179 => ?_) (fun c179 => by exfalso; omega)
                      refine jj_iconst F dX9_splice_186 ?_
                      refine jj_callVi B (k := 0) (n := 0) (k9_goes F.tr hR (show jR 3 by decide)) lk_X9_118 hR.1 cs_9 rfl rfl ⟨Nat.le_of_ble_eq_true rfl, Nat.le_of_ble_eq_true rfl, Nat.le_of_ble_eq_true rfl, Nat.le_of_ble_eq_true rfl, Nat.le_of_ble_eq_true rfl⟩ ⟨Nat.le_of_ble_eq_true rfl, Nat.le_of_ble_eq_true rfl, Nat.le_of_ble_eq_true rfl, Nat.le_of_ble_eq_true rfl⟩ jj_tx0 dX9_splice_187 (fun r G h => ?_)
                      obtain ⟨rfl, hR⟩ := h
                      refine jj_eqi (b := 0) rfl ?_
                      refine jj_if_ne F (tgt := 195) dX9_splice_190 rfl (by omega) (fun c190 => by exfalso; omega) (fun c190 => ?_)
                      refine jj_iconst F dX9_splice_193 ?_
                      have htt : t_splice s t f u v w = 3 := by unfold t_splice; (repeat (first | rw [if_pos (by omega)] | rw [if_neg (by omega)]))
                      exact jj_iret B dX9_splice_194 ⟨Nat.le_of_ble_eq_true rfl, Nat.le_of_ble_eq_true rfl⟩ (⟨_, rfl, (by unfold r_splice; first | (refine Eq.trans ?_ (if_pos htt).symm; first | rfl | (rw [sU_n (by decide), sCopy_n (by decide)]; first | rfl | (rw [sCopy_n (by decide)]; rfl))) | (refine Eq.trans ?_ (if_neg (by omega)).symm; rfl)), (by unfold n_splice; first | (rw [if_pos htt]; unfold sSplT sSplG; (repeat (first | rw [if_pos (by omega)] | rw [if_neg (by omega)])); exact hR) | (rw [if_neg (by omega)]; rw [htt]; exact hR) | (rw [htt]; exact hR))⟩)
                    · skip
                      refine jj_aload0 F dX9_splice_122 ?_
                      refine jj_iload1 F dX9_splice_123 ?_
                      refine jj_iload2 F dX9_splice_124 ?_
                      refine jj_iload3 F dX9_splice_125 ?_
                      refine jj_callVr B (k := 0) (n := 0) (k9_spansIn F.tr hR (by omega) (by have := hb t (by omega) (by omega); omega) (by omega) (by omega) (hle t (by omega) (by omega))) lk_X9_139 hR.1 cs_9 rfl rfl ⟨Nat.le_of_ble_eq_true rfl, Nat.le_of_ble_eq_true rfl, Nat.le_of_ble_eq_true rfl, Nat.le_of_ble_eq_true rfl, Nat.le_of_ble_eq_true rfl⟩ ⟨Nat.le_of_ble_eq_true rfl, Nat.le_of_ble_eq_true rfl, Nat.le_of_ble_eq_true rfl, Nat.le_of_ble_eq_true rfl⟩ jj_tx0 dX9_splice_126 ?_
                      refine jj_iload8 F dX9_splice_129 ?_
                      refine jj_if_eq F (tgt := 144) dX9_splice_131 rfl (by omega) (fun c131 => by exfalso; omega) (fun c131 => ?_)
                      refine jj_aload0 F dX9_splice_134 ?_
                      refine m9_get F hR fd_X9_25 (by decide) rfl dX9_splice_135 ?_
                      refine jj_iload4 F dX9_splice_138 ?_
                      refine m9_ald F hR (n := 30) rfl (by omega) (by decide) dX9_splice_140 (fun r_140 => ?_)
                      refine jj_goto F (tgt := 145) dX9_splice_141 rfl ?_
                      refine jj_iadd F dX9_splice_145 ?_
                      refine jj_bipush F (by decide) dX9_splice_146 ?_
                      refine jj_icmp_gt F (tgt := 155) dX9_splice_148 rfl (by have := hsp t f u (by omega) (by omega); first | (have := hb v (by omega) (by omega); omega) | omega) (fun c148 => ?_) (fun c148 => ?_)
                      · skip
                        refine jj_iconst F dX9_splice_155 ?_
                        refine jj_istore9 F dX9_splice_156 (hN _ (by decide)) rfl ?_
                        refine jj_aload0 F dX9_splice_158 ?_
                        refine jj_iload6 F dX9_splice_159 ?_
                        refine jj_if_ne F (tgt := 168) dX9_splice_161 rfl (by omega) (fun c161 => ?_) (fun c161 => by exfalso; omega)
                        refine jj_iload7 F dX9_splice_168 ?_
                        refine jj_if_ne F (tgt := 177) dX9_splice_170 rfl (by omega) (fun c170 => ?_) (fun c170 => by exfalso; omega)
                        refine jj_iload9 F dX9_splice_177 ?_
                        refine jj_if_eq F (tgt := 186) dX9_splice_179 rfl (by omega) (fun c179 => ?_) (fun c179 => by exfalso; omega)
                        refine jj_iconst F dX9_splice_186 ?_
                        refine jj_callVi B (k := 0) (n := 0) (k9_goes F.tr hR (show jR 3 by decide)) lk_X9_118 hR.1 cs_9 rfl rfl ⟨Nat.le_of_ble_eq_true rfl, Nat.le_of_ble_eq_true rfl, Nat.le_of_ble_eq_true rfl, Nat.le_of_ble_eq_true rfl, Nat.le_of_ble_eq_true rfl⟩ ⟨Nat.le_of_ble_eq_true rfl, Nat.le_of_ble_eq_true rfl, Nat.le_of_ble_eq_true rfl, Nat.le_of_ble_eq_true rfl⟩ jj_tx0 dX9_splice_187 (fun r G h => ?_)
                        obtain ⟨rfl, hR⟩ := h
                        refine jj_eqi (b := 0) rfl ?_
                        refine jj_if_ne F (tgt := 195) dX9_splice_190 rfl (by omega) (fun c190 => by exfalso; omega) (fun c190 => ?_)
                        refine jj_iconst F dX9_splice_193 ?_
                        have htt : t_splice s t f u v w = 3 := by unfold t_splice; (repeat (first | rw [if_pos (by omega)] | rw [if_neg (by omega)]))
                        exact jj_iret B dX9_splice_194 ⟨Nat.le_of_ble_eq_true rfl, Nat.le_of_ble_eq_true rfl⟩ (⟨_, rfl, (by unfold r_splice; first | (refine Eq.trans ?_ (if_pos htt).symm; first | rfl | (rw [sU_n (by decide), sCopy_n (by decide)]; first | rfl | (rw [sCopy_n (by decide)]; rfl))) | (refine Eq.trans ?_ (if_neg (by omega)).symm; rfl)), (by unfold n_splice; first | (rw [if_pos htt]; unfold sSplT sSplG; (repeat (first | rw [if_pos (by omega)] | rw [if_neg (by omega)])); exact hR) | (rw [if_neg (by omega)]; rw [htt]; exact hR) | (rw [htt]; exact hR))⟩)
                      · skip
                        refine jj_iconst F dX9_splice_151 ?_
                        refine jj_goto F (tgt := 156) dX9_splice_152 rfl ?_
                        refine jj_istore9 F dX9_splice_156 (hN _ (by decide)) rfl ?_
                        refine jj_aload0 F dX9_splice_158 ?_
                        refine jj_iload6 F dX9_splice_159 ?_
                        refine jj_if_ne F (tgt := 168) dX9_splice_161 rfl (by omega) (fun c161 => ?_) (fun c161 => by exfalso; omega)
                        refine jj_iload7 F dX9_splice_168 ?_
                        refine jj_if_ne F (tgt := 177) dX9_splice_170 rfl (by omega) (fun c170 => ?_) (fun c170 => by exfalso; omega)
                        refine jj_iload9 F dX9_splice_177 ?_
                        refine jj_if_eq F (tgt := 186) dX9_splice_179 rfl (by omega) (fun c179 => by exfalso; omega) (fun c179 => ?_)
                        refine jj_iconst F dX9_splice_182 ?_
                        refine jj_goto F (tgt := 187) dX9_splice_183 rfl ?_
                        refine jj_callVi B (k := 0) (n := 0) (k9_goes F.tr hR (show jR 0 by decide)) lk_X9_118 hR.1 cs_9 rfl rfl ⟨Nat.le_of_ble_eq_true rfl, Nat.le_of_ble_eq_true rfl, Nat.le_of_ble_eq_true rfl, Nat.le_of_ble_eq_true rfl, Nat.le_of_ble_eq_true rfl⟩ ⟨Nat.le_of_ble_eq_true rfl, Nat.le_of_ble_eq_true rfl, Nat.le_of_ble_eq_true rfl, Nat.le_of_ble_eq_true rfl⟩ jj_tx0 dX9_splice_187 (fun r G h => ?_)
                        obtain ⟨rfl, hR⟩ := h
                        refine jj_eqi (b := 1) rfl ?_
                        refine jj_if_ne F (tgt := 195) dX9_splice_190 rfl (by omega) (fun c190 => ?_) (fun c190 => by exfalso; omega)
                        refine jj_aload0 F dX9_splice_195 ?_
                        refine m9_get F hR fd_X9_16 (by decide) rfl dX9_splice_196 ?_
                        refine jj_iload1 F dX9_splice_199 ?_
                        refine m9_ald F hR (n := 30) rfl (by omega) (by decide) dX9_splice_200 (fun r_200 => ?_)
                        refine jj_eqi (b := s 4 t) rfl ?_
                        refine jj_istore10 F dX9_splice_201 (hN _ (by decide)) rfl ?_
                        refine jj_aload0 F dX9_splice_203 ?_
                        refine jj_iload1 F dX9_splice_204 ?_
                        refine jj_iload2 F dX9_splice_205 ?_
                        refine jj_iload3 F dX9_splice_206 ?_
                        refine jj_callVv B (k := 0) (n := 0) (k9_copies F.tr hR (show 0 ≤ s 1 0 ∧ s 1 0 < 30 by omega) (show 0 ≤ t ∧ t < s 1 0 by omega) (show 0 ≤ s 7 t ∧ s 7 t ≤ 20 by have := hb t (by omega) (by omega); omega) (show 0 ≤ s 7 (s 1 0) ∧ s 7 (s 1 0) ≤ 20 by rw [hT (by omega)]; omega) (show sU s 37 0 0 7 (s 1 0) + sSpans (sU s 37 0 0) t f u ≤ 20 by rw [sSpans37]; show s 7 (s 1 0) + _ ≤ _; rw [hT (by omega)]; first | omega | (have := hb v (by omega) (by omega); omega)) (by omega) (by have := hb t (by omega) (by omega); omega) (by have := hb t (by omega) (by omega); omega) (hnil t (by omega) (by omega)) (fun j hj => by rw [sLen37]; exact sLen_lt hI1 (show 0 ≤ t ∧ t < s 1 0 by omega) j hj) (fun j hj => by rw [sLen37]; exact hle t (by omega) (by omega) j hj)) lk_X9_143 hR.1 cs_9 rfl rfl ⟨Nat.le_of_ble_eq_true rfl, Nat.le_of_ble_eq_true rfl, Nat.le_of_ble_eq_true rfl, Nat.le_of_ble_eq_true rfl, Nat.le_of_ble_eq_true rfl⟩ ⟨Nat.le_of_ble_eq_true rfl, Nat.le_of_ble_eq_true rfl, Nat.le_of_ble_eq_true rfl, Nat.le_of_ble_eq_true rfl⟩ jj_tx0 dX9_splice_207 (fun G hR => ?_)
                        refine jj_iload8 F dX9_splice_210 ?_
                        refine jj_if_eq F (tgt := 254) dX9_splice_212 rfl (by omega) (fun c212 => by exfalso; omega) (fun c212 => ?_)
                        refine jj_aload0 F dX9_splice_215 ?_
                        refine jj_iload4 F dX9_splice_216 ?_
                        refine jj_iconst F dX9_splice_218 ?_
                        refine jj_aload0 F dX9_splice_219 ?_
                        refine jj_iload4 F dX9_splice_220 ?_
                        refine jj_callVr B (k := 0) (n := 0) (k9_length F.tr hR (by omega) (show 0 ≤ sCopy (sU s 37 0 0) t f u 7 v ∧ sCopy (sU s 37 0 0) t f u 7 v ≤ 20 by rw [sCopy_7 (by omega)]; have := hb v (by omega) (by omega); omega)) lk_X9_132 hR.1 cs_9 rfl rfl ⟨Nat.le_of_ble_eq_true rfl, Nat.le_of_ble_eq_true rfl, Nat.le_of_ble_eq_true rfl, Nat.le_of_ble_eq_true rfl, Nat.le_of_ble_eq_true rfl⟩ ⟨Nat.le_of_ble_eq_true rfl, Nat.le_of_ble_eq_true rfl, Nat.le_of_ble_eq_true rfl, Nat.le_of_ble_eq_true rfl⟩ jj_tx0 dX9_splice_222 ?_
                        refine jj_eqi (sCopy_sLen hI1 (by omega) (by omega) (by omega) (by omega)) ?_
                        have hv7 : sCopy (sU s 37 0 0) t f u 7 v = s 7 v := sCopy_7 (by omega)
                        have h10 : sCopy (sU s 37 0 0) t f u 1 0 = s 1 0 := by rw [sCopy_n (by decide)]; rfl
                        have h7T : sCopy (sU s 37 0 0) t f u 7 (s 1 0) = sSpans s t f u := by rw [sCopy_T hI1 (by omega) (by omega), hT (by omega)]; omega
                        have hbv := hb v (by omega) (by omega)
                        have hln : ∀ j : Nat, j ≤ 20 → sLenTo (sCopy (sU s 37 0 0) t f u) v j = sLenTo s v j := sCopy_len hI1 (by omega) (by omega) (by omega) (by omega)
                        have hs2 := sSpansTo_in (sCopy (sU s 37 0 0) t f u) v 0 (sLen s v) (sCopy (sU s 37 0 0) t f u 7 v).toNat
                        refine jj_callVv B (k := 0) (n := 0) (k9_copies F.tr hR (by rw [h10]; omega) (by rw [h10]; omega) (by rw [hv7]; omega) (by rw [h10, h7T]; have := hsp t f u (by omega) (by omega); omega) (by rw [h10, h7T]; show sSpans s t f u + sSpansTo _ v 0 (sLen s v) (sCopy (sU s 37 0 0) t f u 7 v).toNat ≤ 20; omega) (by omega) (by omega) (by omega) (fun i hi => by rw [hv7] at hi; rw [sCopy_c hI1 (by omega) (by omega) (by omega) (Or.inr (Or.inl rfl)) (by omega)]; exact hnil v (by omega) (by omega) i hi) (fun j hj => by rw [hv7] at hj; rw [hln j (by omega), hln (j + 1) (by omega)]; exact sLen_lt hI1 (by omega) j hj) (fun j hj => by rw [hv7] at hj; rw [hln j (by omega)]; exact hle v (by omega) (by omega) j hj)) lk_X9_143 hR.1 cs_9 rfl rfl ⟨Nat.le_of_ble_eq_true rfl, Nat.le_of_ble_eq_true rfl, Nat.le_of_ble_eq_true rfl, Nat.le_of_ble_eq_true rfl, Nat.le_of_ble_eq_true rfl⟩ ⟨Nat.le_of_ble_eq_true rfl, Nat.le_of_ble_eq_true rfl, Nat.le_of_ble_eq_true rfl, Nat.le_of_ble_eq_true rfl⟩ jj_tx0 dX9_splice_225 (fun G hR => ?_)
                        refine jj_aload0 F dX9_splice_228 ?_
                        refine m9_get F hR fd_X9_16 (by decide) rfl dX9_splice_229 ?_
                        refine jj_iload4 F dX9_splice_232 ?_
                        refine m9_ald F hR (n := 30) rfl (by omega) (by decide) dX9_splice_234 (fun r_234 => ?_)
                        refine jj_eqi (b := s 4 v) (by first | (rw [sCopy_n (by decide), sCopy_n (by decide)]; rfl) | (rw [sCopy_n (by decide)]; rfl)) ?_
                        refine jj_iload10 F dX9_splice_235 ?_
                        refine jj_icmp_le F (tgt := 250) dX9_splice_237 rfl (by have g1 := hb v (by omega) (by omega); have g2 := hb t (by omega) (by omega); omega) (fun c237 => ?_) (fun c237 => ?_)
                        · skip
                          refine jj_iload10 F dX9_splice_250 ?_
                          refine jj_istore10 F dX9_splice_252 (hN _ (by decide)) rfl ?_
                          refine jj_aload0 F dX9_splice_254 ?_
                          refine m9_get F hR fd_X9_22 (by decide) rfl dX9_splice_255 ?_
                          refine jj_aload0 F dX9_splice_258 ?_
                          refine m9_get F hR fd_X9_101 (by decide) rfl dX9_splice_259 ?_
                          refine jj_eqi (b := s 1 0) (by first | (rw [sCopy_n (by decide), sCopy_n (by decide)]; rfl) | (rw [sCopy_n (by decide)]; rfl)) ?_
                          refine jj_iconst F dX9_splice_262 ?_
                          refine m9_ast F hR (n := 30) rfl (by omega) (by decide) (by omega) dX9_splice_263 (fun G hR => ?_)
                          refine jj_aload0 F dX9_splice_264 ?_
                          refine jj_iload10 F dX9_splice_265 ?_
                          refine jj_iconst F dX9_splice_267 ?_
                          refine jj_iadd F dX9_splice_268 ?_
                          refine jj_iload5 F dX9_splice_269 ?_
                          refine jj_callVi B (k := 0) (n := 0) (k9_makes F.tr hR (by first | (rw [sU_n (by decide), sCopy_n (by decide), sCopy_n (by decide)]; exact (show 0 ≤ s 1 0 ∧ s 1 0 < 30 by omega)) | (rw [sU_n (by decide), sCopy_n (by decide)]; exact (show 0 ≤ s 1 0 ∧ s 1 0 < 30 by omega))) (by have := hb t (by omega) (by omega); first | omega | (have := hb v (by omega) (by omega); omega)) (by omega)) lk_X9_125 hR.1 cs_9 rfl rfl ⟨Nat.le_of_ble_eq_true rfl, Nat.le_of_ble_eq_true rfl, Nat.le_of_ble_eq_true rfl, Nat.le_of_ble_eq_true rfl, Nat.le_of_ble_eq_true rfl⟩ ⟨Nat.le_of_ble_eq_true rfl, Nat.le_of_ble_eq_true rfl, Nat.le_of_ble_eq_true rfl, Nat.le_of_ble_eq_true rfl⟩ jj_tx0 dX9_splice_271 (fun r G h => ?_)
                          obtain ⟨rfl, hR⟩ := h
                          have htt : t_splice s t f u v w = 0 := by unfold t_splice; (repeat (first | rw [if_pos (by omega)] | rw [if_neg (by omega)]))
                          exact jj_iret B dX9_splice_274 ⟨Nat.le_of_ble_eq_true rfl, Nat.le_of_ble_eq_true rfl⟩ (⟨_, rfl, (by unfold r_splice; first | (refine Eq.trans ?_ (if_pos htt).symm; first | rfl | (rw [sU_n (by decide), sCopy_n (by decide)]; first | rfl | (rw [sCopy_n (by decide)]; rfl))) | (refine Eq.trans ?_ (if_neg (by omega)).symm; rfl)), (by unfold n_splice; first | (rw [if_pos htt]; unfold sSplT sSplG; (repeat (first | rw [if_pos (by omega)] | rw [if_neg (by omega)])); exact hR) | (rw [if_neg (by omega)]; rw [htt]; exact hR) | (rw [htt]; exact hR))⟩)
                        · skip
                          refine jj_aload0 F dX9_splice_240 ?_
                          refine m9_get F hR fd_X9_16 (by decide) rfl dX9_splice_241 ?_
                          refine jj_iload4 F dX9_splice_244 ?_
                          refine m9_ald F hR (n := 30) rfl (by omega) (by decide) dX9_splice_246 (fun r_246 => ?_)
                          refine jj_eqi (b := s 4 v) (by first | (rw [sCopy_n (by decide), sCopy_n (by decide)]; rfl) | (rw [sCopy_n (by decide)]; rfl)) ?_
                          refine jj_goto F (tgt := 252) dX9_splice_247 rfl ?_
                          refine jj_istore10 F dX9_splice_252 (hN _ (by decide)) rfl ?_
                          refine jj_aload0 F dX9_splice_254 ?_
                          refine m9_get F hR fd_X9_22 (by decide) rfl dX9_splice_255 ?_
                          refine jj_aload0 F dX9_splice_258 ?_
                          refine m9_get F hR fd_X9_101 (by decide) rfl dX9_splice_259 ?_
                          refine jj_eqi (b := s 1 0) (by first | (rw [sCopy_n (by decide), sCopy_n (by decide)]; rfl) | (rw [sCopy_n (by decide)]; rfl)) ?_
                          refine jj_iconst F dX9_splice_262 ?_
                          refine m9_ast F hR (n := 30) rfl (by omega) (by decide) (by omega) dX9_splice_263 (fun G hR => ?_)
                          refine jj_aload0 F dX9_splice_264 ?_
                          refine jj_iload10 F dX9_splice_265 ?_
                          refine jj_iconst F dX9_splice_267 ?_
                          refine jj_iadd F dX9_splice_268 ?_
                          refine jj_iload5 F dX9_splice_269 ?_
                          refine jj_callVi B (k := 0) (n := 0) (k9_makes F.tr hR (by first | (rw [sU_n (by decide), sCopy_n (by decide), sCopy_n (by decide)]; exact (show 0 ≤ s 1 0 ∧ s 1 0 < 30 by omega)) | (rw [sU_n (by decide), sCopy_n (by decide)]; exact (show 0 ≤ s 1 0 ∧ s 1 0 < 30 by omega))) (by have := hb t (by omega) (by omega); first | omega | (have := hb v (by omega) (by omega); omega)) (by omega)) lk_X9_125 hR.1 cs_9 rfl rfl ⟨Nat.le_of_ble_eq_true rfl, Nat.le_of_ble_eq_true rfl, Nat.le_of_ble_eq_true rfl, Nat.le_of_ble_eq_true rfl, Nat.le_of_ble_eq_true rfl⟩ ⟨Nat.le_of_ble_eq_true rfl, Nat.le_of_ble_eq_true rfl, Nat.le_of_ble_eq_true rfl, Nat.le_of_ble_eq_true rfl⟩ jj_tx0 dX9_splice_271 (fun r G h => ?_)
                          obtain ⟨rfl, hR⟩ := h
                          have htt : t_splice s t f u v w = 0 := by unfold t_splice; (repeat (first | rw [if_pos (by omega)] | rw [if_neg (by omega)]))
                          exact jj_iret B dX9_splice_274 ⟨Nat.le_of_ble_eq_true rfl, Nat.le_of_ble_eq_true rfl⟩ (⟨_, rfl, (by unfold r_splice; first | (refine Eq.trans ?_ (if_pos htt).symm; first | rfl | (rw [sU_n (by decide), sCopy_n (by decide)]; first | rfl | (rw [sCopy_n (by decide)]; rfl))) | (refine Eq.trans ?_ (if_neg (by omega)).symm; rfl)), (by unfold n_splice; first | (rw [if_pos htt]; unfold sSplT sSplG; (repeat (first | rw [if_pos (by omega)] | rw [if_neg (by omega)])); exact hR) | (rw [if_neg (by omega)]; rw [htt]; exact hR) | (rw [htt]; exact hR))⟩)
