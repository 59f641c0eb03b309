theorem Rep.grow1 {ad : Ad} {C : Cm} {G G' : jj_G} {q : Nat} {x : va_E} (hR : Rep ad C G) (hL : GL G [(q, x)] G') {k : Nat} {i : Int} (hc : C k i = none) : Rep (aU ad k i q) (cU C k i x) G' := (hR.new hc hL.first x).heap hL.peel
theorem sMadeTo_set {s : Sg} {d p x : Int} (hp : 0 ≤ p ∧ p < 12) (h0 : s 16 (12 * d + p) = -1) (hx : ¬ x = -1) (n : Nat) : sMadeTo (sU s 16 (12 * d + p) x) d n = sMadeTo s d n + (if p < n then 1 else 0) := by
  induction n with
  | zero => rw [if_neg (by omega)]; rfl
  | succ n ih =>
    simp only [sMadeTo]
    rw [ih]
    by_cases h : p = n
    · subst h
      rw [sU_s, if_neg hx, h0, if_pos rfl, if_neg (by omega), if_pos (by omega)]
    · rw [sU_i (by omega)]
      by_cases h2 : p < n
      · rw [if_pos h2, if_pos (show p < ((n + 1 : Nat) : Int) by omega)]; omega
      · rw [if_neg h2, if_neg (show ¬ p < ((n + 1 : Nat) : Int) by omega)]; omega
theorem sMadeTo_oth {s : Sg} {d d' p x : Int} (hp : 0 ≤ p ∧ p < 12) (hd : d' ≠ d) (n : Nat) (hn : n ≤ 12) : sMadeTo (sU s 16 (12 * d + p) x) d' n = sMadeTo s d' n := by
  induction n with
  | zero => rfl
  | succ n ih => simp only [sMadeTo]; rw [ih (by omega), sU_i (by omega)]
theorem mRow_set {ad : Ad} {s : Sg} {d p x : Int} {q : Nat} (hp : 0 ≤ p ∧ p < 12) (hx : ¬ x = -1) : mRow (aU ad 23 (12 * d + p) q) (sU s 16 (12 * d + p) x) d = ju (mRow ad s d) p (some q) := by
  funext j
  unfold mRow ju
  by_cases h : j = p
  · subst h; rw [if_pos ⟨hp, by rw [sU_s]; exact hx⟩, if_pos rfl, aU_s]
  · rw [if_neg h, sU_i (by omega)]
    show _ = (if (0 ≤ j ∧ j < 12) ∧ ¬ s 16 (12 * d + j) = -1 then some (ad 23 (12 * d + j)) else none)
    by_cases h2 : (0 ≤ j ∧ j < 12) ∧ ¬ s 16 (12 * d + j) = -1
    · rw [if_pos h2, if_pos h2, aU_i (by omega)]
    · rw [if_neg h2, if_neg h2]
theorem mRow_oth {ad : Ad} {s : Sg} {d d' p x : Int} {q : Nat} (hp : 0 ≤ p ∧ p < 12) (hd : d' ≠ d) : mRow (aU ad 23 (12 * d + p) q) (sU s 16 (12 * d + p) x) d' = mRow ad s d' := by
  funext j
  unfold mRow
  by_cases hj : 0 ≤ j ∧ j < 12
  · rw [sU_i (by omega)]
    by_cases h2 : (0 ≤ j ∧ j < 12) ∧ ¬ s 16 (12 * d' + j) = -1
    · rw [if_pos h2, if_pos h2, aU_i (by omega)]
    · rw [if_neg h2, if_neg h2]
  · rw [if_neg (fun h => hj h.1), if_neg (fun h => hj h.1)]
section MK
variable {ac : Nat → ClassId} {ad : Ad} {s e : Sg} {d p x : Int} {q : Nat}
theorem mk_20 {C : Cm} (hC : ∀ i, i ≠ d → C 20 i = if 0 ≤ i ∧ i < s 13 0 then some (jj_o 4 (fSide ad s i)) else none) (hd : 0 ≤ d ∧ d < s 13 0) (hp : 0 ≤ p ∧ p < 12) (h0 : s 16 (12 * d + p) = -1) (hx : ¬ x = -1) : ∀ i, cC ac (aU ad 23 (12 * d + p) q) (sU s 16 (12 * d + p) x) e 20 i = cU C 20 d (jj_o 4 ((fSide ad s d).set 2 (.int (jI (sMadeTo s d 12 + 1))))) 20 i :=
  ki (C := C) hC hd (congrArg (jj_o 4) (by
    show ([.ref (ad 21 d), .ref (ad 22 d), .int (jI (sMadeTo (sU s 16 (12 * d + p) x) d 12)), .int (jI (sSec (sU s 16 (12 * d + p) x) d (-1))), .int (jI (s 15 d))] : List Value) = _
    rw [sMadeTo_set hp h0 hx, if_pos (by omega), sSec_c (s := s) (s' := sU s 16 (12 * d + p) x) rfl]; rfl)) (fun i _ => Iff.rfl) (fun i hi _ => congrArg (jj_o 4) (by
    show ([.ref (ad 21 i), .ref (ad 22 i), .int (jI (sMadeTo (sU s 16 (12 * d + p) x) i 12)), .int (jI (sSec (sU s 16 (12 * d + p) x) i (-1))), .int (jI (s 15 i))] : List Value) = _
    rw [sMadeTo_oth hp hi 12 (by omega), sSec_c (s := s) (s' := sU s 16 (12 * d + p) x) rfl]))
theorem mk_22 {C : Cm} (hC : ∀ i, i ≠ d → C 22 i = if 0 ≤ i ∧ i < s 13 0 then some (jj_aq (ac 4) 12 (mRow ad s i)) else none) (hd : 0 ≤ d ∧ d < s 13 0) (hp : 0 ≤ p ∧ p < 12) (hx : ¬ x = -1) : ∀ i, cC ac (aU ad 23 (12 * d + p) q) (sU s 16 (12 * d + p) x) e 22 i = cU C 22 d (jj_aq (ac 4) 12 (ju (mRow ad s d) p (some q))) 22 i :=
  ki (C := C) hC hd (congrArg (jj_aq (ac 4) 12) (mRow_set hp hx)) (fun i _ => Iff.rfl) (fun i hi _ => congrArg (jj_aq (ac 4) 12) (mRow_oth hp hi))
theorem mk_23 {k : Int} (hk : 0 ≤ k ∧ k < 120) (hx : ¬ x = -1) (h17 : s 17 k = 0) (h18 : s 18 k = 0) (h19 : s 19 k = 0) (h20 : s 20 k = -1) (h21 : s 21 k = -1) (hD : sDiscs s k = 0) : ∀ i, cC ac (aU ad 23 k q) (sU s 16 k x) e 23 i = cU (cC ac ad s e) 23 k (jj_o 6 [.int (jI x), .int (jI 0), .int (jI (-1)), .int (jI (-1)), .int (jI 0), .int (jI 0), .int (jI 0)]) 23 i :=
  ki (C := cC ac ad s e) (fun i _ => rfl) ⟨hk, by rw [sU_s]; exact hx⟩ (congrArg (jj_o 6) (by
    show ([.int (jI (sU s 16 k x 16 k)), .int (jI (s 17 k)), .int (jI (s 20 k)), .int (jI (s 21 k)), .int (jI (s 18 k)), .int (jI (s 19 k)), .int (jI (sDiscs (sU s 16 k x) k))] : List Value) = _
    rw [sU_s, sDiscs_c (s := s) (s' := sU s 16 k x) rfl rfl, h17, h18, h19, h20, h21, hD])) (fun i hi => by rw [sU_i hi]) (fun i hi _ => congrArg (jj_o 6) (by
    show ([.int (jI (sU s 16 k x 16 i)), .int (jI (s 17 i)), .int (jI (s 20 i)), .int (jI (s 21 i)), .int (jI (s 18 i)), .int (jI (s 19 i)), .int (jI (sDiscs (sU s 16 k x) i))] : List Value) = _
    rw [sU_i hi, sDiscs_c (s := s) (s' := sU s 16 k x) rfl rfl]))
theorem mk_26 {k : Int} (h0 : s 16 k = -1) (hcs : ∀ j : Int, 0 ≤ j → j < s 31 0 → ¬ s 16 (s 32 j) = -1) : ∀ i, cC ac (aU ad 23 k q) (sU s 16 k x) e 26 i = cC ac ad s e 26 i :=
  kj (fun i => Iff.rfl) (fun i hi => congrArg (jj_o 3) (by
    show ([.ref (ad 20 (s 32 i / 12)), .ref (aU ad 23 k q 23 (s 32 i)), .ref (ad 27 i), .int (jI (s 33 i))] : List Value) = _
    rw [aU_i (fun h => hcs i hi.1 hi.2 (by rw [h]; exact h0))]))
end MK

abbrev rm_X4_make : Room := { frames := 2, cells := 1, slots := 7, locals := 33 }
set_option maxRecDepth 100000 in
set_option maxHeartbeats 400000 in
theorem k4_make {l : Launch} {D : va_G} {ac : Nat → ClassId} (hl : l.stackTraces = false) {ad : Ad} {s e : Sg} {d p x : Int}  {G : jj_G} (hR : Rep ad (cC ac ad s e) G) (hd : 0 ≤ d ∧ d < s 13 0) (hd2 : d < 10) (hp : 0 ≤ p ∧ p < 12) (h0 : s 16 (12 * d + p) = -1) (hx : ¬ x = -1) (g : s 17 (12 * d + p) = 0 ∧ s 18 (12 * d + p) = 0 ∧ s 19 (12 * d + p) = 0 ∧ s 20 (12 * d + p) = -1 ∧ s 21 (12 * d + p) = -1 ∧ sDiscs s (12 * d + p) = 0) (hcs : ∀ j : Int, 0 ≤ j → j < s 31 0 → ¬ s 16 (s 32 j) = -1) : jj_C l D ac yX4_make (.code yX4_make cX4_make 3 none) rm_X4_make [.ref (ad 20 d), .int (jI p), .int (jI x)] G (jj_pv (fun G' => ∃ q, Rep (aU ad 23 (12 * d + p) q) (cC ac (aU ad 23 (12 * d + p) q) (sU s 16 (12 * d + p) x) e) G')) (jj_nx) := by
  refine jj_ofx (own := RX4) (lv0 := [some (.ref (ad 20 d)), some (.int (jI p)), some (.int (jI x))]) hl (by decide +kernel) rfl rfl (Nat.le_of_ble_eq_true rfl) rfl ?_
  intro X B hN hl0 hdg hac hin
  subst hl0; subst hdg; subst hac
  have F := B.F

  refine jj_iload1 F dX4_make_0 ?_
  refine jj_if_lt F (tgt := 37) dX4_make_1 rfl (by omega) (fun c1 => by exfalso; omega) (fun c1 => ?_)
  refine jj_iload1 F dX4_make_4 ?_
  refine jj_aload0 F dX4_make_5 ?_
  refine jj_get F (hR.at (k := 20) (i := d) (if_pos hd)) cs_4 (by decide) fd_X4_17 rfl dX4_make_6 ?_
  refine jj_alenQ F (fun _ => rfl) (hR.at (k := 22) (i := d) (if_pos hd)) dX4_make_9 ?_
  refine jj_icmp_ge F (tgt := 37) dX4_make_10 rfl (by omega) (fun c10 => by exfalso; omega) (fun c10 => ?_)
  refine jj_aload0 F dX4_make_13 ?_
  refine jj_get F (hR.at (k := 20) (i := d) (if_pos hd)) cs_4 (by decide) fd_X4_17 rfl dX4_make_14 ?_
  refine jj_iload1 F dX4_make_17 ?_
  refine jj_new F (k := 1) (n := 7) (fs := [.int (jI 0), .int (jI 0), .int (jI 0), .int (jI 0), .int (jI 0), .int (jI 0), .int (jI 0)]) cs_6 cl_X4_15 ins_6 ini_6 (fun j hj => match j, hj with | 0, _ => rfl | 1, _ => rfl | 2, _ => rfl | 3, _ => rfl | 4, _ => rfl | 5, _ => rfl | 6, _ => rfl | q + 7, h => absurd h (by omega)) ⟨Nat.le_of_ble_eq_true rfl, Nat.le_of_ble_eq_true rfl, Nat.le_of_ble_eq_true rfl, Nat.le_of_ble_eq_true rfl⟩ dX4_make_18 (fun q18 hq18 => ?_)
  have hL := GL.one hq18 (x := jj_o 6 [.int (jI 0), .int (jI 0), .int (jI 0), .int (jI 0), .int (jI 0), .int (jI 0), .int (jI 0)])
  refine jj_dup F rfl dX4_make_21 ?_
  refine jj_iload2 F dX4_make_22 ?_
  refine jj_callIv B (k := 1) (n := 7) (k6_init F.tr hL) lk_X4_28 rfl ⟨Nat.le_of_ble_eq_true rfl, Nat.le_of_ble_eq_true rfl, Nat.le_of_ble_eq_true rfl, Nat.le_of_ble_eq_true rfl, Nat.le_of_ble_eq_true rfl⟩ ⟨Nat.le_of_ble_eq_true rfl, Nat.le_of_ble_eq_true rfl, Nat.le_of_ble_eq_true rfl, Nat.le_of_ble_eq_true rfl⟩ jj_tx0 dX4_make_23 (fun G1 hL => ?_)
  have hR := hR.grow1 hL (k := 23) (i := 12 * d + p) (if_neg (fun h => h.2 h0))
  refine c8_ast F (ad := (aU ad 23 (12 * d + p) q18)) (fun _ => rfl) hR (k := 22) (i := d) ((cU_k (by decide)).trans (if_pos hd)) (hL.at (m := 0) rfl) cs_6 (by omega) (by decide) dX4_make_26 (fun G hR => ?_)
  refine jj_aload0 F dX4_make_27 ?_
  refine jj_dup F rfl dX4_make_28 ?_
  refine jj_get F (hR.at (k := 20) (i := d) ((cU_k (by decide)).trans ((cU_k (by decide)).trans (if_pos hd)))) cs_4 (by decide) fd_X4_31 rfl dX4_make_29 ?_
  refine jj_iconst F dX4_make_32 ?_
  refine jj_iadd F dX4_make_33 ?_
  refine c8_put F (ad := (aU ad 23 (12 * d + p) q18)) hR (k := 20) (i := d) ((cU_k (by decide)).trans ((cU_k (by decide)).trans (if_pos hd))) cs_4 (by decide) fd_X4_31 rfl rfl rfl (Nat.le_of_ble_eq_true rfl) dX4_make_34 (fun G hR => ?_)
  have hR := hR.congr (C' := cC (jj_ac X) (aU ad 23 (12 * d + p) q18) (sU s 16 (12 * d + p) x) (e)) (kcases (fun i => kc_0 (ac := jj_ac X) (ad := (aU ad 23 (12 * d + p) q18)) (s := s) (e := (e)) (s' := (sU s 16 (12 * d + p) x)) (e' := (e)) rfl rfl rfl rfl i) (fun i => kc_1 (ac := jj_ac X) (ad := (aU ad 23 (12 * d + p) q18)) (s := s) (e := (e)) (s' := (sU s 16 (12 * d + p) x)) (e' := (e)) rfl i) (fun i => kc_2 (ac := jj_ac X) (ad := (aU ad 23 (12 * d + p) q18)) (s := s) (e := (e)) (s' := (sU s 16 (12 * d + p) x)) (e' := (e)) rfl i) (fun i => kc_3 (ac := jj_ac X) (ad := (aU ad 23 (12 * d + p) q18)) (s := s) (e := (e)) (s' := (sU s 16 (12 * d + p) x)) (e' := (e)) rfl i) (fun i => kc_4 (ac := jj_ac X) (ad := (aU ad 23 (12 * d + p) q18)) (s := s) (e := (e)) (s' := (sU s 16 (12 * d + p) x)) (e' := (e)) rfl i) (fun i => kc_5 (ac := jj_ac X) (ad := (aU ad 23 (12 * d + p) q18)) (s := s) (e := (e)) (s' := (sU s 16 (12 * d + p) x)) (e' := (e)) rfl rfl i) (fun i => kc_6 (ac := jj_ac X) (ad := (aU ad 23 (12 * d + p) q18)) (s := s) (e := (e)) (s' := (sU s 16 (12 * d + p) x)) (e' := (e)) rfl rfl i) (fun i => kc_7 (ac := jj_ac X) (ad := (aU ad 23 (12 * d + p) q18)) (s := s) (e := (e)) (s' := (sU s 16 (12 * d + p) x)) (e' := (e)) rfl i) (fun i => kc_8 (ac := jj_ac X) (ad := (aU ad 23 (12 * d + p) q18)) (s := s) (e := (e)) (s' := (sU s 16 (12 * d + p) x)) (e' := (e)) rfl i) (fun i => kc_9 (ac := jj_ac X) (ad := (aU ad 23 (12 * d + p) q18)) (s := s) (e := (e)) (s' := (sU s 16 (12 * d + p) x)) (e' := (e)) rfl i) (fun i => kc_10 (ac := jj_ac X) (ad := (aU ad 23 (12 * d + p) q18)) (s := s) (e := (e)) (s' := (sU s 16 (12 * d + p) x)) (e' := (e)) rfl i) (fun i => kc_11 (ac := jj_ac X) (ad := (aU ad 23 (12 * d + p) q18)) (s := s) (e := (e)) (s' := (sU s 16 (12 * d + p) x)) (e' := (e)) rfl i) (fun i => kc_12 (ac := jj_ac X) (ad := (aU ad 23 (12 * d + p) q18)) (s := s) (e := (e)) (s' := (sU s 16 (12 * d + p) x)) (e' := (e)) rfl i) (fun i => kc_13 (ac := jj_ac X) (ad := (aU ad 23 (12 * d + p) q18)) (s := s) (e := (e)) (s' := (sU s 16 (12 * d + p) x)) (e' := (e)) rfl i) (fun i => kc_14 (ac := jj_ac X) (ad := (aU ad 23 (12 * d + p) q18)) (s := s) (e := (e)) (s' := (sU s 16 (12 * d + p) x)) (e' := (e)) rfl i) (fun i => kc_15 (ac := jj_ac X) (ad := (aU ad 23 (12 * d + p) q18)) (s := s) (e := (e)) (s' := (sU s 16 (12 * d + p) x)) (e' := (e)) rfl i) (fun i => kc_16 (ac := jj_ac X) (ad := (aU ad 23 (12 * d + p) q18)) (s := s) (e := (e)) (s' := (sU s 16 (12 * d + p) x)) (e' := (e)) rfl rfl rfl rfl rfl rfl rfl rfl rfl rfl rfl rfl rfl i) (fun i => kc_17 (ac := jj_ac X) (ad := (aU ad 23 (12 * d + p) q18)) (s := s) (e := (e)) (s' := (sU s 16 (12 * d + p) x)) (e' := (e)) rfl rfl i) (fun i => kc_18 (ac := jj_ac X) (ad := (aU ad 23 (12 * d + p) q18)) (s := s) (e := (e)) (s' := (sU s 16 (12 * d + p) x)) (e' := (e)) rfl rfl i) (fun i => kc_19 (ac := jj_ac X) (ad := (aU ad 23 (12 * d + p) q18)) (s := s) (e := (e)) (s' := (sU s 16 (12 * d + p) x)) (e' := (e)) rfl rfl i) (mk_20 (fun i _ => rfl) hd hp h0 hx) (fun i => kc_21 (ac := jj_ac X) (ad := (aU ad 23 (12 * d + p) q18)) (s := s) (e := (e)) (s' := (sU s 16 (12 * d + p) x)) (e' := (e)) rfl rfl i) (fun i => by rw [cU_k (k := 20) (k' := 22) (by decide)]; exact mk_22 (fun i _ => rfl) hd hp hx i) (fun i => by rw [cU_k (k := 20) (k' := 23) (by decide), cU_k (k := 22) (k' := 23) (by decide)]; exact mk_23 (by omega) hx g.1 g.2.1 g.2.2.1 g.2.2.2.1 g.2.2.2.2.1 g.2.2.2.2.2 i) (fun i => kc_24 (ac := jj_ac X) (ad := (aU ad 23 (12 * d + p) q18)) (s := s) (e := (e)) (s' := (sU s 16 (12 * d + p) x)) (e' := (e)) rfl rfl rfl i) (fun i => kc_25 (ac := jj_ac X) (ad := (aU ad 23 (12 * d + p) q18)) (s := s) (e := (e)) (s' := (sU s 16 (12 * d + p) x)) (e' := (e)) rfl rfl i) (fun i => by rw [cU_k (k := 20) (k' := 26) (by decide), cU_k (k := 22) (k' := 26) (by decide), cU_k (k := 23) (k' := 26) (by decide)]; exact mk_26 h0 hcs i) (fun i => kc_27 (ac := jj_ac X) (ad := (aU ad 23 (12 * d + p) q18)) (s := s) (e := (e)) (s' := (sU s 16 (12 * d + p) x)) (e' := (e)) rfl rfl i) (fun k i => rfl))
  exact jj_vret B dX4_make_37 ⟨Nat.le_of_ble_eq_true rfl, Nat.le_of_ble_eq_true rfl⟩ (⟨rfl, _, hR⟩)
abbrev rm_X8_stamper : Room := { frames := 7, cells := 4, slots := 25, locals := 112 }
set_option maxRecDepth 100000 in
set_option maxHeartbeats 400000 in
theorem x8_stamper {l : Launch} {D : va_G} {ac : Nat → ClassId} (hl : l.stackTraces = false) {ad : Ad} {s e : Sg} {d m e1 : Int}  {G : jj_G} (hR : Rep ad (cC ac ad s e) G) {c : Int} (hI : sInv s c) (hd : jR d) (hm : jR m) (he1 : jR e1) (hcs : ∀ j : Int, 0 ≤ j → j < s 31 0 → ¬ s 16 (s 32 j) = -1) : jj_C l D ac yX8_stamper (.code yX8_stamper cX8_stamper 6 (some .int)) rm_X8_stamper [.ref (ad 0 0), .int (jI d), .int (jI m), .int (jI e1)] G (jj_pi (fun r G' => t_stamper s d m e1 = 0 ∧ r = r_stamper s d m e1 ∧ ∃ ad', ad' 0 0 = ad 0 0 ∧ Rep ad' (cC ac ad' (n_stamper s d m e1) (e)) G')) (jp2 (t_stamper s d m e1) eB eS) := by
  refine jj_ofx (own := RX8) (lv0 := [some (.ref (ad 0 0)), some (.int (jI d)), some (.int (jI m)), some (.int (jI e1)), none, none]) hl (by decide +kernel) rfl rfl (Nat.le_of_ble_eq_true rfl) rfl ?_
  intro X B hN hl0 hdg hac hin
  subst hl0; subst hdg; subst hac
  have F := B.F

  obtain ⟨hI1, hI2, hI3, hI4, hI5, hI6, hI7, hc⟩ := hI
  have i0 := hI1.1
  have i1 := hI1.2.1
  have i3 := hI3.1
  refine jj_aload0 F dX8_stamper_0 ?_
  refine jj_iload1 F dX8_stamper_1 ?_
  refine jj_callVq B (k := 1) (n := 6) (k8_sideAt F.tr hR.1 (by omega) i3.2) lk_X8_187 (hR.at (k := 0) (i := 0) cc_0) cs_8 rfl rfl ⟨Nat.le_of_ble_eq_true rfl, Nat.le_of_ble_eq_true rfl, Nat.le_of_ble_eq_true rfl, Nat.le_of_ble_eq_true rfl, Nat.le_of_ble_eq_true rfl⟩ ⟨Nat.le_of_ble_eq_true rfl, Nat.le_of_ble_eq_true rfl, Nat.le_of_ble_eq_true rfl, Nat.le_of_ble_eq_true rfl⟩ (fun E h => ⟨rfl, by obtain ⟨rfl, hh⟩ := h; exact (Or.inl ⟨(by unfold t_stamper; (try rw [← hk]); (repeat (first | rw [if_pos (by omega)] | rw [if_neg (by omega)]))), rfl⟩)⟩) dX8_stamper_2 (fun r G h => ?_)
  obtain ⟨rfl, hrg, rfl⟩ := h
  refine jj_astore4 F dX8_stamper_5 (hN _ (by decide)) rfl ?_
  refine jj_iload2 F dX8_stamper_7 ?_
  refine jj_iload3 F dX8_stamper_8 ?_
  refine jj_callSi B (k := 2) (n := 12) (k8_placeOf F.tr (by omega) (by omega)) lk_X8_197 rfl ⟨Nat.le_of_ble_eq_true rfl, Nat.le_of_ble_eq_true rfl, Nat.le_of_ble_eq_true rfl, Nat.le_of_ble_eq_true rfl, Nat.le_of_ble_eq_true rfl⟩ ⟨Nat.le_of_ble_eq_true rfl, Nat.le_of_ble_eq_true rfl, Nat.le_of_ble_eq_true rfl, Nat.le_of_ble_eq_true rfl⟩ (fun E h => ⟨rfl, by obtain ⟨rfl, hh⟩ := h; exact (Or.inl ⟨(by unfold t_stamper; (try rw [← hk]); (repeat (first | rw [if_pos (by omega)] | rw [if_neg (by omega)]))), rfl⟩)⟩) dX8_stamper_9 (fun r G h => ?_)
  obtain ⟨rfl, hpl, rfl⟩ := h
  refine jj_istore5 F dX8_stamper_12 (hN _ (by decide)) rfl ?_
  refine jj_aload4 F dX8_stamper_14 ?_
  refine jj_iload5 F dX8_stamper_16 ?_
  refine jj_callVq B (k := 2) (n := 12) (k4_stamperAt F.tr hR.1 (by omega) (by omega)) lk_X8_200 (hR.at (k := 20) (i := d) (if_pos (show 0 ≤ d ∧ d < s 13 0 by omega))) cs_4 rfl rfl ⟨Nat.le_of_ble_eq_true rfl, Nat.le_of_ble_eq_true rfl, Nat.le_of_ble_eq_true rfl, Nat.le_of_ble_eq_true rfl, Nat.le_of_ble_eq_true rfl⟩ ⟨Nat.le_of_ble_eq_true rfl, Nat.le_of_ble_eq_true rfl, Nat.le_of_ble_eq_true rfl, Nat.le_of_ble_eq_true rfl⟩ jj_tx0 dX8_stamper_18 (fun r G h => ?_)
  obtain ⟨rfl, rfl⟩ := h
  obtain ⟨k, hk⟩ : ∃ k, k = sSt d m e1 := ⟨_, rfl⟩
  have hk2 : 12 * d + (4 * m + e1) = k := by rw [hk]; unfold sSt; omega
  have hkr : 0 ≤ k ∧ k < 120 := by omega
  have g := hI4.1 k hkr.1 hkr.2
  have g2 := hI4.2 k hkr.1 hkr.2
  have g3 := sDiscs_0 s k
  by_cases hq18 : s 16 k = -1
  · skip
    refine jj_qn (mRow_n hk2 hq18) ?_
    refine jj_ifnull F (r := none) (tgt := 34) dX8_stamper_21 rfl (fun _ => ?_) (fun _ h => by cases h)
    refine jj_aload4 F dX8_stamper_34 ?_
    refine jj_iload5 F dX8_stamper_36 ?_
    refine jj_callSr B (k := 2) (n := 12) (k8_hasWhatItNeeds F.tr hR.1 (by omega) (by omega)) lk_X8_206 rfl ⟨Nat.le_of_ble_eq_true rfl, Nat.le_of_ble_eq_true rfl, Nat.le_of_ble_eq_true rfl, Nat.le_of_ble_eq_true rfl, Nat.le_of_ble_eq_true rfl⟩ ⟨Nat.le_of_ble_eq_true rfl, Nat.le_of_ble_eq_true rfl, Nat.le_of_ble_eq_true rfl, Nat.le_of_ble_eq_true rfl⟩ jj_tx0 dX8_stamper_38 ?_
    refine jj_eqi (b := sNeeds s k) (by rw [hk2]) ?_
    refine jj_if_ne F (tgt := 54) dX8_stamper_41 rfl (by unfold sNeeds; split <;> omega) (fun c41 => ?_) (fun c41 => ?_)
    · skip
      have hnd : sNeed k = -1 ∨ ¬ s 16 (sNeed k) = -1 := Classical.byContradiction fun h => c41 (if_neg h)
      refine jj_aload4 F dX8_stamper_54 ?_
      refine jj_iload5 F dX8_stamper_56 ?_
      refine jj_aload0 F dX8_stamper_58 ?_
      refine jj_get F (hR.at (k := 0) (i := 0) cc_0) cs_8 (by decide) fd_X8_108 rfl dX8_stamper_59 ?_
      refine jj_callVv B (k := 3) (n := 19) (k4_make F.tr hR (d := d) (p := 4 * m + e1) (by omega) (by omega) (by omega) (by rw [hk2]; assumption) (by omega) (by rw [hk2]; have g5 := g.2.2.2.2.2.1 (by assumption); omega) hcs) lk_X8_212 (hR.at (k := 20) (i := d) (if_pos (show 0 ≤ d ∧ d < s 13 0 by omega))) cs_4 rfl rfl ⟨Nat.le_of_ble_eq_true rfl, Nat.le_of_ble_eq_true rfl, Nat.le_of_ble_eq_true rfl, Nat.le_of_ble_eq_true rfl, Nat.le_of_ble_eq_true rfl⟩ ⟨Nat.le_of_ble_eq_true rfl, Nat.le_of_ble_eq_true rfl, Nat.le_of_ble_eq_true rfl, Nat.le_of_ble_eq_true rfl⟩ jj_tx0 dX8_stamper_62 (fun G h => ?_)
      obtain ⟨q, hR⟩ := h
      refine jj_aload4 F dX8_stamper_65 ?_
      refine jj_get F (hR.at (k := 20) (i := d) (if_pos (show 0 ≤ d ∧ d < s 13 0 by omega))) cs_4 (by decide) fd_X8_216 rfl dX8_stamper_67 ?_
      refine jj_eqi (b := sMadeTo (sU s 16 k (s 0 0)) d 12) (by rw [hk2]) ?_
      have htt : t_stamper s d m e1 = 0 := by unfold t_stamper; (try rw [← hk]); (repeat (first | rw [if_pos (by omega)] | rw [if_neg (by omega)]))
      rw [hk2] at hR
      have hR := hR.congr (C' := cC (jj_ac X) (aU ad 23 k q) (sU (sU s 37 0 0) 16 k (s 0 0)) e) (kcases (fun i => kc_0 (ac := jj_ac X) (ad := (aU ad 23 k q)) (s := (sU s 16 k (s 0 0))) (e := e) (s' := (sU (sU s 37 0 0) 16 k (s 0 0))) (e' := e) rfl rfl rfl rfl i) (fun i => kc_1 (ac := jj_ac X) (ad := (aU ad 23 k q)) (s := (sU s 16 k (s 0 0))) (e := e) (s' := (sU (sU s 37 0 0) 16 k (s 0 0))) (e' := e) rfl i) (fun i => kc_2 (ac := jj_ac X) (ad := (aU ad 23 k q)) (s := (sU s 16 k (s 0 0))) (e := e) (s' := (sU (sU s 37 0 0) 16 k (s 0 0))) (e' := e) rfl i) (fun i => kc_3 (ac := jj_ac X) (ad := (aU ad 23 k q)) (s := (sU s 16 k (s 0 0))) (e := e) (s' := (sU (sU s 37 0 0) 16 k (s 0 0))) (e' := e) rfl i) (fun i => kc_4 (ac := jj_ac X) (ad := (aU ad 23 k q)) (s := (sU s 16 k (s 0 0))) (e := e) (s' := (sU (sU s 37 0 0) 16 k (s 0 0))) (e' := e) rfl i) (fun i => kc_5 (ac := jj_ac X) (ad := (aU ad 23 k q)) (s := (sU s 16 k (s 0 0))) (e := e) (s' := (sU (sU s 37 0 0) 16 k (s 0 0))) (e' := e) rfl rfl i) (fun i => kc_6 (ac := jj_ac X) (ad := (aU ad 23 k q)) (s := (sU s 16 k (s 0 0))) (e := e) (s' := (sU (sU s 37 0 0) 16 k (s 0 0))) (e' := e) rfl rfl i) (fun i => kc_7 (ac := jj_ac X) (ad := (aU ad 23 k q)) (s := (sU s 16 k (s 0 0))) (e := e) (s' := (sU (sU s 37 0 0) 16 k (s 0 0))) (e' := e) rfl i) (fun i => kc_8 (ac := jj_ac X) (ad := (aU ad 23 k q)) (s := (sU s 16 k (s 0 0))) (e := e) (s' := (sU (sU s 37 0 0) 16 k (s 0 0))) (e' := e) rfl i) (fun i => kc_9 (ac := jj_ac X) (ad := (aU ad 23 k q)) (s := (sU s 16 k (s 0 0))) (e := e) (s' := (sU (sU s 37 0 0) 16 k (s 0 0))) (e' := e) rfl i) (fun i => kc_10 (ac := jj_ac X) (ad := (aU ad 23 k q)) (s := (sU s 16 k (s 0 0))) (e := e) (s' := (sU (sU s 37 0 0) 16 k (s 0 0))) (e' := e) rfl i) (fun i => kc_11 (ac := jj_ac X) (ad := (aU ad 23 k q)) (s := (sU s 16 k (s 0 0))) (e := e) (s' := (sU (sU s 37 0 0) 16 k (s 0 0))) (e' := e) rfl i) (fun i => kc_12 (ac := jj_ac X) (ad := (aU ad 23 k q)) (s := (sU s 16 k (s 0 0))) (e := e) (s' := (sU (sU s 37 0 0) 16 k (s 0 0))) (e' := e) rfl i) (fun i => kc_13 (ac := jj_ac X) (ad := (aU ad 23 k q)) (s := (sU s 16 k (s 0 0))) (e := e) (s' := (sU (sU s 37 0 0) 16 k (s 0 0))) (e' := e) rfl i) (fun i => kc_14 (ac := jj_ac X) (ad := (aU ad 23 k q)) (s := (sU s 16 k (s 0 0))) (e := e) (s' := (sU (sU s 37 0 0) 16 k (s 0 0))) (e' := e) rfl i) (fun i => kc_15 (ac := jj_ac X) (ad := (aU ad 23 k q)) (s := (sU s 16 k (s 0 0))) (e := e) (s' := (sU (sU s 37 0 0) 16 k (s 0 0))) (e' := e) rfl i) (fun i => kc_16 (ac := jj_ac X) (ad := (aU ad 23 k q)) (s := (sU s 16 k (s 0 0))) (e := e) (s' := (sU (sU s 37 0 0) 16 k (s 0 0))) (e' := e) rfl rfl rfl rfl rfl rfl rfl rfl rfl rfl rfl rfl rfl i) (fun i => kc_17 (ac := jj_ac X) (ad := (aU ad 23 k q)) (s := (sU s 16 k (s 0 0))) (e := e) (s' := (sU (sU s 37 0 0) 16 k (s 0 0))) (e' := e) rfl rfl i) (fun i => kc_18 (ac := jj_ac X) (ad := (aU ad 23 k q)) (s := (sU s 16 k (s 0 0))) (e := e) (s' := (sU (sU s 37 0 0) 16 k (s 0 0))) (e' := e) rfl rfl i) (fun i => kc_19 (ac := jj_ac X) (ad := (aU ad 23 k q)) (s := (sU s 16 k (s 0 0))) (e := e) (s' := (sU (sU s 37 0 0) 16 k (s 0 0))) (e' := e) rfl rfl i) (fun i => kc_20 (ac := jj_ac X) (ad := (aU ad 23 k q)) (s := (sU s 16 k (s 0 0))) (e := e) (s' := (sU (sU s 37 0 0) 16 k (s 0 0))) (e' := e) rfl rfl rfl rfl i) (fun i => kc_21 (ac := jj_ac X) (ad := (aU ad 23 k q)) (s := (sU s 16 k (s 0 0))) (e := e) (s' := (sU (sU s 37 0 0) 16 k (s 0 0))) (e' := e) rfl rfl i) (fun i => kc_22 (ac := jj_ac X) (ad := (aU ad 23 k q)) (s := (sU s 16 k (s 0 0))) (e := e) (s' := (sU (sU s 37 0 0) 16 k (s 0 0))) (e' := e) rfl rfl i) (fun i => kc_23 (ac := jj_ac X) (ad := (aU ad 23 k q)) (s := (sU s 16 k (s 0 0))) (e := e) (s' := (sU (sU s 37 0 0) 16 k (s 0 0))) (e' := e) rfl rfl rfl rfl rfl rfl rfl rfl i) (fun i => kc_24 (ac := jj_ac X) (ad := (aU ad 23 k q)) (s := (sU s 16 k (s 0 0))) (e := e) (s' := (sU (sU s 37 0 0) 16 k (s 0 0))) (e' := e) rfl rfl rfl i) (fun i => kc_25 (ac := jj_ac X) (ad := (aU ad 23 k q)) (s := (sU s 16 k (s 0 0))) (e := e) (s' := (sU (sU s 37 0 0) 16 k (s 0 0))) (e' := e) rfl rfl i) (fun i => kc_26 (ac := jj_ac X) (ad := (aU ad 23 k q)) (s := (sU s 16 k (s 0 0))) (e := e) (s' := (sU (sU s 37 0 0) 16 k (s 0 0))) (e' := e) rfl rfl rfl i) (fun i => kc_27 (ac := jj_ac X) (ad := (aU ad 23 k q)) (s := (sU s 16 k (s 0 0))) (e := e) (s' := (sU (sU s 37 0 0) 16 k (s 0 0))) (e' := e) rfl rfl i) (fun k i => rfl))
      rw [hk] at hR
      exact jj_iret B dX8_stamper_70 ⟨Nat.le_of_ble_eq_true rfl, Nat.le_of_ble_eq_true rfl⟩ (⟨_, rfl, htt, (by unfold r_stamper; refine Eq.trans ?_ (if_pos htt).symm; unfold n_stamper; rw [if_pos htt, ← hk]; exact congrFun (congrFun (sMadeTo_c rfl) _) _), (aU ad 23 (sSt d m e1) q), rfl, (by unfold n_stamper; first | (rw [if_pos htt]; exact hR) | exact hR | exact hR.c37)⟩)
    · skip
      have hnd : ¬ (sNeed k = -1 ∨ ¬ s 16 (sNeed k) = -1) := fun h => by unfold sNeeds at c41; rw [if_pos h] at c41; omega
      exact jj_throwS B th_3 sr_X8_210 rfl (Or.inr ⟨(by unfold t_stamper; (try rw [← hk]); (repeat (first | rw [if_pos (by omega)] | rw [if_neg (by omega)]))), rfl⟩) ⟨Nat.le_of_ble_eq_true rfl, Nat.le_of_ble_eq_true rfl, Nat.le_of_ble_eq_true rfl, Nat.le_of_ble_eq_true rfl⟩ dX8_stamper_44 dX8_stamper_47 dX8_stamper_48 dX8_stamper_50 dX8_stamper_53
  · skip
    refine jj_qv (mRow_k (by omega) hk2 hq18) ?_
    refine jj_ifnull F (r := some (ad 23 k)) (tgt := 34) dX8_stamper_21 rfl (fun h => by cases h) (fun _ _ => ?_)
    exact jj_throwS B th_3 sr_X8_204 rfl (Or.inr ⟨(by unfold t_stamper; (try rw [← hk]); (repeat (first | rw [if_pos (by omega)] | rw [if_neg (by omega)]))), rfl⟩) ⟨Nat.le_of_ble_eq_true rfl, Nat.le_of_ble_eq_true rfl, Nat.le_of_ble_eq_true rfl, Nat.le_of_ble_eq_true rfl⟩ dX8_stamper_24 dX8_stamper_27 dX8_stamper_28 dX8_stamper_30 dX8_stamper_33
