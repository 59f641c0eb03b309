theorem jj_eqx {X : jj_X} {G : jj_G} {kc kn pc : Nat} {lv : List (Option Value)} {st : List Value} {a b : Int} (h : jI a = jI b) (kk : jj_J X G kc kn pc lv (.int (jI b) :: st)) : jj_J X G kc kn pc lv (.int (jI a) :: st) := by rw [h]; exact kk
theorem sU_comm {s : Sg} {k k' : Nat} {i i' x y : Int} (h : k ≠ k') : sU (sU s k i x) k' i' y = sU (sU s k' i' y) k i x := by
  funext q
  unfold sU
  by_cases h1 : q = k'
  · subst h1
    rw [if_pos rfl, if_neg (Ne.symm h), if_neg (Ne.symm h), if_pos rfl]
  · rw [if_neg h1]
    by_cases h2 : q = k
    · subst h2; rw [if_pos rfl, if_pos rfl, if_neg h]
    · rw [if_neg h2, if_neg h2, if_neg h1]
theorem sOff_19 {s : Sg} {z m i y : Int} : sOff (sU s 19 i y) z m = sU (sOff s z m) 19 i y := by
  have key : ∀ n, sOffTo (sU s 19 i y) z m n = sU (sOffTo s z m n) 19 i y := by
    intro n
    induction n with
    | zero => rfl
    | succ n ih =>
      simp only [sOffTo]
      rw [ih, sU_comm (by decide), sU_n (k := 19) (k' := 36) (by decide), sU_n (k := 19) (k' := 33) (by decide), sDue_c (s := s) (s' := sU s 19 i y) rfl rfl rfl]
  unfold sOff
  rw [key, sU_comm (by decide), sU_n (k := 19) (k' := 33) (by decide)]
theorem sBackR_19 {s : Sg} {k x i y : Int} (n : Nat) : sBackR (sU s 19 i y) k x n = sBackR s k x n := by
  induction n with
  | zero => rfl
  | succ n ih => simp only [sBackR]; rw [ih]; rfl
theorem sBackS_19 {s : Sg} {k x i y : Int} (n : Nat) : sBackS (sU s 19 i y) k x n = sU (sBackS s k x n) 19 i y := by
  induction n with
  | zero => exact sU_comm (by decide)
  | succ n ih =>
    simp only [sBackS]
    rw [ih, sBackR_19, sOff_19, sU_n (k := 19) (k' := 32) (by decide), sU_n (k := 19) (k' := 33) (by decide), sU_n (k := 19) (k' := 31) (by decide)]
    split <;> rfl
theorem sI5_c {s s' : Sg} {c : Int} (h13 : s' 13 = s 13) (h22 : s' 22 = s 22) (h23 : s' 23 = s 23) (h24 : s' 24 = s 24) (h25 : s' 25 = s 25) (h : sI5 s c) : sI5 s' c := by
  unfold sI5 at h ⊢
  rw [h13, h22, h23, h24, h25]
  exact h
theorem sAre_c {s s' : Sg} (h22 : s' 22 = s 22) (q : Int) : sAre s' q = sAre s q := by unfold sAre; rw [h22]
theorem sKeptT_up {s : Sg} {x : Int} {n : Nat} (h : sKeptT s x n = 1) : ∀ m, n ≤ m → sKeptT s x m = 1 := by
  intro m hm
  induction m with
  | zero => rw [show n = 0 by omega] at h; exact h
  | succ m ih =>
    by_cases e : n = m + 1
    · rw [← e]; exact h
    · simp only [sKeptT]; rw [ih (by omega), if_neg (by decide)]
theorem sKeptS_up {s : Sg} {x b : Int} {n : Nat} (h : sKeptS s x b n = 1) : ∀ m, n ≤ m → sKeptS s x b m = 1 := by
  intro m hm
  induction m with
  | zero => rw [show n = 0 by omega] at h; exact h
  | succ m ih =>
    by_cases e : n = m + 1
    · rw [← e]; exact h
    · simp only [sKeptS]; rw [ih (by omega), if_neg (by decide)]
theorem sAnyTo_01 (s : Sg) (d : Int) (n : Nat) : sAnyTo s d n = 0 ∨ sAnyTo s d n = 1 := by
  induction n with
  | zero => exact Or.inl rfl
  | succ n ih => simp only [sAnyTo]; split; exact Or.inr rfl; split; exact Or.inr rfl; exact Or.inl rfl
theorem sKeptS_side {s : Sg} {x b : Int} {d : Nat} (h : sKeptS s x b (12 * d) = 0) (p : Nat) (hp : p ≤ 12) : sKeptS s x b (12 * d + p) = if sHas (s 15 d) x = 1 ∧ sAnyTo s d p = 1 then 1 else 0 := by
  induction p with
  | zero => rw [if_neg (fun h => by have := h.2; simp [sAnyTo] at this)]; exact h
  | succ p ih =>
    have e := ih (by omega)
    have e2 : (((12 * d + p : Nat)) : Int) = 12 * d + p := by omega
    have e3 : (12 * (d : Int) + p) / 12 = d := by omega
    have hs : sKeptS s x b (12 * d + (p + 1)) = if sKeptS s x b (12 * d + p) = 0 then (if s 19 ((12 * d + p : Nat) : Int) < s 18 ((12 * d + p : Nat) : Int) ∧ sHas (s 15 (((12 * d + p : Nat) : Int) / 12)) x = 1 then 1 else 0) else 1 := rfl
    have hA : sAnyTo s d (p + 1) = if sAnyTo s d p = 1 then 1 else if s 19 (12 * d + p) < s 18 (12 * d + p) then 1 else 0 := rfl
    rw [hs, e, e2, e3]
    rcases sAnyTo_01 s d p with h0 | h0
    · rw [if_neg (show ¬ (sHas (s 15 d) x = 1 ∧ sAnyTo s d p = 1) from fun h => by have := h.2; omega), if_pos rfl]
      rw [if_neg (show ¬ sAnyTo s d p = 1 by omega)] at hA
      by_cases h1 : s 19 (12 * d + p) < s 18 (12 * d + p)
      · rw [if_pos h1] at hA
        by_cases h2 : sHas (s 15 d) x = 1
        · rw [if_pos ⟨h1, h2⟩, if_pos ⟨h2, hA⟩]
        · rw [if_neg (fun h => h2 h.2), if_neg (fun h => h2 h.1)]
      · rw [if_neg h1] at hA
        rw [if_neg (fun h => h1 h.1), if_neg (fun h => by have := h.2; omega)]
    · rw [if_pos h0] at hA
      by_cases h2 : sHas (s 15 d) x = 1
      · rw [if_pos (show sHas (s 15 d) x = 1 ∧ sAnyTo s d p = 1 from ⟨h2, h0⟩), if_neg (by decide), if_pos ⟨h2, hA⟩]
      · rw [if_neg (show ¬ (sHas (s 15 d) x = 1 ∧ sAnyTo s d p = 1) from fun h => h2 h.1), if_pos rfl, if_neg (fun h => h2 h.2), if_neg (fun h => h2 h.1)]

abbrev rm_X8_pass : Room := { frames := 6, cells := 1, slots := 6, locals := 90 }
set_option maxRecDepth 100000 in
set_option maxHeartbeats 400000 in
theorem x8_pass {l : Launch} {D : va_G} {ac : Nat → ClassId} (hl : l.stackTraces = false) {ad : Ad} {s e : Sg} {x : Int}  {G : jj_G} (hR : Rep ad (cC ac ad s e) G) {c : Int} (hI : sInv s c) (hx : jR x) : jj_C l D ac yX8_pass (.code yX8_pass cX8_pass 2 (some .int)) rm_X8_pass [.ref (ad 0 0), .int (jI x)] G (jj_pi (fun r G' => t_pass s x = 0 ∧ r = r_pass s x ∧ ∃ ad', ad' 0 0 = ad 0 0 ∧ Rep ad' (cC ac ad' (n_pass s x) (e)) G')) (jp2 (t_pass s x) eA eS) := by
  refine jj_ofx (own := RX8) (lv0 := [some (.ref (ad 0 0)), some (.int (jI x))]) hl (by decide +kernel) rfl rfl (Nat.le_of_ble_eq_true rfl) rfl ?_
  intro X B hN hl0 hdg hac hin
  subst hl0; subst hdg; subst hac
  have F := B.F

  obtain ⟨hI1, hI2, hI3, hI4, hI5, hI6, hI7, hc⟩ := hI
  have i0 := hI1.1
  have i1 := hI1.2.1
  have i3 := hI3.1
  refine jj_iload1 F dX8_pass_0 ?_
  refine jj_iconst F dX8_pass_1 ?_
  refine jj_icmp_lt F (tgt := 12) dX8_pass_2 rfl (by omega) (fun c2 => ?_) (fun c2 => ?_)
  · skip
    exact jj_throwSW B th_2 sr_X8_368 rfl (Or.inl ⟨(by unfold t_pass; (try rw [← hk]); (repeat (first | rw [if_pos (by omega)] | rw [if_neg (by omega)]))), rfl⟩) ⟨Nat.le_of_ble_eq_true rfl, Nat.le_of_ble_eq_true rfl, Nat.le_of_ble_eq_true rfl, Nat.le_of_ble_eq_true rfl⟩ dX8_pass_12 dX8_pass_15 dX8_pass_16 dX8_pass_19 dX8_pass_22
  · skip
    refine jj_iload1 F dX8_pass_5 ?_
    refine jj_sipush F (by decide) dX8_pass_6 ?_
    refine jj_icmp_le F (tgt := 23) dX8_pass_9 rfl (by omega) (fun c9 => ?_) (fun c9 => ?_)
    · skip
      refine jj_aload0 F dX8_pass_23 ?_
      refine jj_get F (hR.at (k := 0) (i := 0) cc_0) cs_8 (by decide) fd_X8_108 rfl dX8_pass_24 ?_
      refine jj_iload1 F dX8_pass_27 ?_
      refine jj_iadd F dX8_pass_28 ?_
      refine jj_sipush F (by decide) dX8_pass_29 ?_
      refine jj_icmp_le F (tgt := 46) dX8_pass_32 rfl (by omega) (fun c32 => ?_) (fun c32 => ?_)
      · skip
        refine jj_aload0 F dX8_pass_46 ?_
        refine jj_dup F rfl dX8_pass_47 ?_
        refine jj_get F (hR.at (k := 0) (i := 0) cc_0) cs_8 (by decide) fd_X8_108 rfl dX8_pass_48 ?_
        refine jj_iload1 F dX8_pass_51 ?_
        refine jj_iadd F dX8_pass_52 ?_
        refine c8_put F (ad := ad) hR (k := 0) (i := 0) cc_0 cs_8 (by decide) fd_X8_108 rfl rfl rfl (Nat.le_of_ble_eq_true rfl) dX8_pass_53 (fun G hR => ?_)
        have hR := hR.congr (C' := cC (jj_ac X) ad (sU s 0 0 (s 0 0 + x)) (e)) (kcases (fun i => by exact kz (fun i hi => by simp [cU, cC, hi]) (rfl) i) (fun i => kc_1 (s := s) (e := (e)) (s' := (sU s 0 0 (s 0 0 + x))) (e' := (e)) rfl i) (fun i => kc_2 (s := s) (e := (e)) (s' := (sU s 0 0 (s 0 0 + x))) (e' := (e)) rfl i) (fun i => kc_3 (s := s) (e := (e)) (s' := (sU s 0 0 (s 0 0 + x))) (e' := (e)) rfl i) (fun i => kc_4 (s := s) (e := (e)) (s' := (sU s 0 0 (s 0 0 + x))) (e' := (e)) rfl i) (fun i => kc_5 (s := s) (e := (e)) (s' := (sU s 0 0 (s 0 0 + x))) (e' := (e)) rfl rfl i) (fun i => kc_6 (s := s) (e := (e)) (s' := (sU s 0 0 (s 0 0 + x))) (e' := (e)) rfl rfl i) (fun i => kc_7 (s := s) (e := (e)) (s' := (sU s 0 0 (s 0 0 + x))) (e' := (e)) rfl i) (fun i => kc_8 (s := s) (e := (e)) (s' := (sU s 0 0 (s 0 0 + x))) (e' := (e)) rfl i) (fun i => kc_9 (s := s) (e := (e)) (s' := (sU s 0 0 (s 0 0 + x))) (e' := (e)) rfl i) (fun i => kc_10 (s := s) (e := (e)) (s' := (sU s 0 0 (s 0 0 + x))) (e' := (e)) rfl i) (fun i => kc_11 (s := s) (e := (e)) (s' := (sU s 0 0 (s 0 0 + x))) (e' := (e)) rfl i) (fun i => kc_12 (s := s) (e := (e)) (s' := (sU s 0 0 (s 0 0 + x))) (e' := (e)) rfl i) (fun i => kc_13 (s := s) (e := (e)) (s' := (sU s 0 0 (s 0 0 + x))) (e' := (e)) rfl i) (fun i => kc_14 (s := s) (e := (e)) (s' := (sU s 0 0 (s 0 0 + x))) (e' := (e)) rfl i) (fun i => kc_15 (s := s) (e := (e)) (s' := (sU s 0 0 (s 0 0 + x))) (e' := (e)) rfl i) (fun i => kc_16 (s := s) (e := (e)) (s' := (sU s 0 0 (s 0 0 + x))) (e' := (e)) rfl rfl rfl rfl rfl rfl rfl rfl rfl rfl rfl rfl rfl i) (fun i => kc_17 (s := s) (e := (e)) (s' := (sU s 0 0 (s 0 0 + x))) (e' := (e)) rfl rfl i) (fun i => kc_18 (s := s) (e := (e)) (s' := (sU s 0 0 (s 0 0 + x))) (e' := (e)) rfl rfl i) (fun i => kc_19 (s := s) (e := (e)) (s' := (sU s 0 0 (s 0 0 + x))) (e' := (e)) rfl rfl i) (fun i => kc_20 (s := s) (e := (e)) (s' := (sU s 0 0 (s 0 0 + x))) (e' := (e)) rfl rfl rfl rfl i) (fun i => kc_21 (s := s) (e := (e)) (s' := (sU s 0 0 (s 0 0 + x))) (e' := (e)) rfl rfl i) (fun i => kc_22 (s := s) (e := (e)) (s' := (sU s 0 0 (s 0 0 + x))) (e' := (e)) rfl rfl i) (fun i => kc_23 (s := s) (e := (e)) (s' := (sU s 0 0 (s 0 0 + x))) (e' := (e)) rfl rfl rfl rfl rfl rfl rfl rfl i) (fun i => kc_24 (s := s) (e := (e)) (s' := (sU s 0 0 (s 0 0 + x))) (e' := (e)) rfl rfl rfl i) (fun i => kc_25 (s := s) (e := (e)) (s' := (sU s 0 0 (s 0 0 + x))) (e' := (e)) rfl rfl i) (fun i => kc_26 (s := s) (e := (e)) (s' := (sU s 0 0 (s 0 0 + x))) (e' := (e)) rfl rfl rfl i) (fun i => kc_27 (s := s) (e := (e)) (s' := (sU s 0 0 (s 0 0 + x))) (e' := (e)) rfl rfl i) (fun k i => rfl))
        refine jj_aload0 F dX8_pass_56 ?_
        refine jj_get F (hR.at (k := 0) (i := 0) cc_0) cs_8 (by decide) fd_X8_108 rfl dX8_pass_57 ?_
        refine jj_eqi (b := s 0 0 + x) sU_s ?_
        have htt : t_pass s x = 0 := by unfold t_pass; (try rw [← hk]); (repeat (first | rw [if_pos (by omega)] | rw [if_neg (by omega)]))
        have hR := hR.congr (C' := cC (jj_ac X) ad (sU (sU s 37 0 0) 0 0 (s 0 0 + x)) (e)) (kcases (fun i => kc_0 (s := (sU s 0 0 (s 0 0 + x))) (e := (e)) (s' := (sU (sU s 37 0 0) 0 0 (s 0 0 + x))) (e' := (e)) rfl rfl rfl rfl i) (fun i => kc_1 (s := (sU s 0 0 (s 0 0 + x))) (e := (e)) (s' := (sU (sU s 37 0 0) 0 0 (s 0 0 + x))) (e' := (e)) rfl i) (fun i => kc_2 (s := (sU s 0 0 (s 0 0 + x))) (e := (e)) (s' := (sU (sU s 37 0 0) 0 0 (s 0 0 + x))) (e' := (e)) rfl i) (fun i => kc_3 (s := (sU s 0 0 (s 0 0 + x))) (e := (e)) (s' := (sU (sU s 37 0 0) 0 0 (s 0 0 + x))) (e' := (e)) rfl i) (fun i => kc_4 (s := (sU s 0 0 (s 0 0 + x))) (e := (e)) (s' := (sU (sU s 37 0 0) 0 0 (s 0 0 + x))) (e' := (e)) rfl i) (fun i => kc_5 (s := (sU s 0 0 (s 0 0 + x))) (e := (e)) (s' := (sU (sU s 37 0 0) 0 0 (s 0 0 + x))) (e' := (e)) rfl rfl i) (fun i => kc_6 (s := (sU s 0 0 (s 0 0 + x))) (e := (e)) (s' := (sU (sU s 37 0 0) 0 0 (s 0 0 + x))) (e' := (e)) rfl rfl i) (fun i => kc_7 (s := (sU s 0 0 (s 0 0 + x))) (e := (e)) (s' := (sU (sU s 37 0 0) 0 0 (s 0 0 + x))) (e' := (e)) rfl i) (fun i => kc_8 (s := (sU s 0 0 (s 0 0 + x))) (e := (e)) (s' := (sU (sU s 37 0 0) 0 0 (s 0 0 + x))) (e' := (e)) rfl i) (fun i => kc_9 (s := (sU s 0 0 (s 0 0 + x))) (e := (e)) (s' := (sU (sU s 37 0 0) 0 0 (s 0 0 + x))) (e' := (e)) rfl i) (fun i => kc_10 (s := (sU s 0 0 (s 0 0 + x))) (e := (e)) (s' := (sU (sU s 37 0 0) 0 0 (s 0 0 + x))) (e' := (e)) rfl i) (fun i => kc_11 (s := (sU s 0 0 (s 0 0 + x))) (e := (e)) (s' := (sU (sU s 37 0 0) 0 0 (s 0 0 + x))) (e' := (e)) rfl i) (fun i => kc_12 (s := (sU s 0 0 (s 0 0 + x))) (e := (e)) (s' := (sU (sU s 37 0 0) 0 0 (s 0 0 + x))) (e' := (e)) rfl i) (fun i => kc_13 (s := (sU s 0 0 (s 0 0 + x))) (e := (e)) (s' := (sU (sU s 37 0 0) 0 0 (s 0 0 + x))) (e' := (e)) rfl i) (fun i => kc_14 (s := (sU s 0 0 (s 0 0 + x))) (e := (e)) (s' := (sU (sU s 37 0 0) 0 0 (s 0 0 + x))) (e' := (e)) rfl i) (fun i => kc_15 (s := (sU s 0 0 (s 0 0 + x))) (e := (e)) (s' := (sU (sU s 37 0 0) 0 0 (s 0 0 + x))) (e' := (e)) rfl i) (fun i => kc_16 (s := (sU s 0 0 (s 0 0 + x))) (e := (e)) (s' := (sU (sU s 37 0 0) 0 0 (s 0 0 + x))) (e' := (e)) rfl rfl rfl rfl rfl rfl rfl rfl rfl rfl rfl rfl rfl i) (fun i => kc_17 (s := (sU s 0 0 (s 0 0 + x))) (e := (e)) (s' := (sU (sU s 37 0 0) 0 0 (s 0 0 + x))) (e' := (e)) rfl rfl i) (fun i => kc_18 (s := (sU s 0 0 (s 0 0 + x))) (e := (e)) (s' := (sU (sU s 37 0 0) 0 0 (s 0 0 + x))) (e' := (e)) rfl rfl i) (fun i => kc_19 (s := (sU s 0 0 (s 0 0 + x))) (e := (e)) (s' := (sU (sU s 37 0 0) 0 0 (s 0 0 + x))) (e' := (e)) rfl rfl i) (fun i => kc_20 (s := (sU s 0 0 (s 0 0 + x))) (e := (e)) (s' := (sU (sU s 37 0 0) 0 0 (s 0 0 + x))) (e' := (e)) rfl rfl rfl rfl i) (fun i => kc_21 (s := (sU s 0 0 (s 0 0 + x))) (e := (e)) (s' := (sU (sU s 37 0 0) 0 0 (s 0 0 + x))) (e' := (e)) rfl rfl i) (fun i => kc_22 (s := (sU s 0 0 (s 0 0 + x))) (e := (e)) (s' := (sU (sU s 37 0 0) 0 0 (s 0 0 + x))) (e' := (e)) rfl rfl i) (fun i => kc_23 (s := (sU s 0 0 (s 0 0 + x))) (e := (e)) (s' := (sU (sU s 37 0 0) 0 0 (s 0 0 + x))) (e' := (e)) rfl rfl rfl rfl rfl rfl rfl rfl i) (fun i => kc_24 (s := (sU s 0 0 (s 0 0 + x))) (e := (e)) (s' := (sU (sU s 37 0 0) 0 0 (s 0 0 + x))) (e' := (e)) rfl rfl rfl i) (fun i => kc_25 (s := (sU s 0 0 (s 0 0 + x))) (e := (e)) (s' := (sU (sU s 37 0 0) 0 0 (s 0 0 + x))) (e' := (e)) rfl rfl i) (fun i => kc_26 (s := (sU s 0 0 (s 0 0 + x))) (e := (e)) (s' := (sU (sU s 37 0 0) 0 0 (s 0 0 + x))) (e' := (e)) rfl rfl rfl i) (fun i => kc_27 (s := (sU s 0 0 (s 0 0 + x))) (e := (e)) (s' := (sU (sU s 37 0 0) 0 0 (s 0 0 + x))) (e' := (e)) rfl rfl i) (fun k i => rfl))
        exact jj_iret B dX8_pass_60 ⟨Nat.le_of_ble_eq_true rfl, Nat.le_of_ble_eq_true rfl⟩ (⟨_, rfl, htt, (by unfold r_pass; refine Eq.trans ?_ (if_pos htt).symm; rfl), ad, rfl, (by unfold n_pass; first | (rw [if_pos htt]; exact hR) | exact hR | exact hR.c37)⟩)
      · skip
        exact jj_throwSW B th_3 sr_X8_370 rfl (Or.inr ⟨(by unfold t_pass; (try rw [← hk]); (repeat (first | rw [if_pos (by omega)] | rw [if_neg (by omega)]))), rfl⟩) ⟨Nat.le_of_ble_eq_true rfl, Nat.le_of_ble_eq_true rfl, Nat.le_of_ble_eq_true rfl, Nat.le_of_ble_eq_true rfl⟩ dX8_pass_35 dX8_pass_38 dX8_pass_39 dX8_pass_42 dX8_pass_45
    · skip
      exact jj_throwSW B th_2 sr_X8_368 rfl (Or.inl ⟨(by unfold t_pass; (try rw [← hk]); (repeat (first | rw [if_pos (by omega)] | rw [if_neg (by omega)]))), rfl⟩) ⟨Nat.le_of_ble_eq_true rfl, Nat.le_of_ble_eq_true rfl, Nat.le_of_ble_eq_true rfl, Nat.le_of_ble_eq_true rfl⟩ dX8_pass_12 dX8_pass_15 dX8_pass_16 dX8_pass_19 dX8_pass_22
abbrev rm_X8_accountAnew : Room := { frames := 7, cells := 2, slots := 12, locals := 110 }
set_option maxRecDepth 100000 in
set_option maxHeartbeats 400000 in
theorem x8_accountAnew {l : Launch} {D : va_G} {ac : Nat → ClassId} (hl : l.stackTraces = false) {ad : Ad} {s e : Sg} {a : Int}  {G : jj_G} (hR : Rep ad (cC ac ad s e) G) {c : Int} (hI : sInv s c) (ha : jR a) (hK : ∀ q : Int, 0 ≤ q → q < 6 → jI (s 36 q) = jI (sDues s q (s 31 0).toNat - e 0 q - e 1 q)) : jj_C l D ac yX8_accountAnew (.code yX8_accountAnew cX8_accountAnew 2 (some .int)) rm_X8_accountAnew [.ref (ad 0 0), .int (jI a)] G (jj_pi (fun r G' => t_artist a = 0 ∧ r = r_account s a ∧ ∃ ad', ad' 0 0 = ad 0 0 ∧ Rep ad' (cC ac ad' (n_account s a) (e)) G')) (jp1 (t_artist a) eB) := by
  refine jj_ofx (own := RX8) (lv0 := [some (.ref (ad 0 0)), some (.int (jI a))]) hl (by decide +kernel) rfl rfl (Nat.le_of_ble_eq_true rfl) rfl ?_
  intro X B hN hl0 hdg hac hin
  subst hl0; subst hdg; subst hac
  have F := B.F

  obtain ⟨hI1, hI2, hI3, hI4, hI5, hI6, hI7, hc⟩ := hI
  have i0 := hI1.1
  have i1 := hI1.2.1
  have i3 := hI3.1
  refine jj_iload1 F dX8_accountAnew_0 ?_
  refine jj_callSv B (k := 1) (n := 6) (k8_requireArtist F.tr (by omega)) lk_X8_48 rfl ⟨Nat.le_of_ble_eq_true rfl, Nat.le_of_ble_eq_true rfl, Nat.le_of_ble_eq_true rfl, Nat.le_of_ble_eq_true rfl, Nat.le_of_ble_eq_true rfl⟩ ⟨Nat.le_of_ble_eq_true rfl, Nat.le_of_ble_eq_true rfl, Nat.le_of_ble_eq_true rfl, Nat.le_of_ble_eq_true rfl⟩ (fun E h => ⟨rfl, by obtain ⟨rfl, hh⟩ := h; exact ⟨(by unfold t_artist; (try rw [← hk]); (repeat (first | rw [if_pos (by omega)] | rw [if_neg (by omega)]))), rfl⟩⟩) dX8_accountAnew_1 (fun G h => ?_)
  obtain ⟨hra, rfl⟩ := h
  refine jj_aload0 F dX8_accountAnew_4 ?_
  refine jj_get F (hR.at (k := 0) (i := 0) cc_0) cs_8 (by decide) fd_X8_44 rfl dX8_accountAnew_5 ?_
  refine jj_iload1 F dX8_accountAnew_8 ?_
  refine jj_callVr B (k := 1) (n := 6) (k2_dueOfAllSales F.tr hR.1 (by omega) hI3 hI7) lk_X8_357 (hR.at (k := 10) (i := 0) cc_10) cs_2 rfl rfl ⟨Nat.le_of_ble_eq_true rfl, Nat.le_of_ble_eq_true rfl, Nat.le_of_ble_eq_true rfl, Nat.le_of_ble_eq_true rfl, Nat.le_of_ble_eq_true rfl⟩ ⟨Nat.le_of_ble_eq_true rfl, Nat.le_of_ble_eq_true rfl, Nat.le_of_ble_eq_true rfl, Nat.le_of_ble_eq_true rfl⟩ jj_tx0 dX8_accountAnew_9 ?_
  refine jj_aload0 F dX8_accountAnew_12 ?_
  refine jj_get F (hR.at (k := 0) (i := 0) cc_0) cs_8 (by decide) fd_X8_44 rfl dX8_accountAnew_13 ?_
  refine jj_get F (hR.at (k := 10) (i := 0) cc_10) cs_2 (by decide) fd_X8_351 rfl dX8_accountAnew_16 ?_
  refine jj_iload1 F dX8_accountAnew_19 ?_
  refine jj_iald F (hR.at (k := 12) (i := 0) cc_12) (by omega) (by decide) dX8_accountAnew_20 ?_
  refine jj_isub F dX8_accountAnew_21 ?_
  refine jj_aload0 F dX8_accountAnew_22 ?_
  refine jj_get F (hR.at (k := 0) (i := 0) cc_0) cs_8 (by decide) fd_X8_44 rfl dX8_accountAnew_23 ?_
  refine jj_get F (hR.at (k := 10) (i := 0) cc_10) cs_2 (by decide) fd_X8_360 rfl dX8_accountAnew_26 ?_
  refine jj_iload1 F dX8_accountAnew_29 ?_
  refine jj_iald F (hR.at (k := 13) (i := 0) cc_13) (by omega) (by decide) dX8_accountAnew_30 ?_
  refine jj_isub F dX8_accountAnew_31 ?_
  refine jj_eqx (hK a hra.1 (by omega)).symm ?_
  have htt : t_artist a = 0 := by unfold t_artist; (try rw [← hk]); (repeat (first | rw [if_pos (by omega)] | rw [if_neg (by omega)]))
  exact jj_iret B dX8_accountAnew_32 ⟨Nat.le_of_ble_eq_true rfl, Nat.le_of_ble_eq_true rfl⟩ (⟨_, rfl, htt, (by unfold r_account; refine Eq.trans ?_ (if_pos htt).symm; rfl), ad, rfl, (by unfold n_account; first | (rw [if_pos htt]; exact hR) | exact hR | exact hR.c37)⟩)
abbrev rm_X8_back : Room := { frames := 7, cells := 4, slots := 24, locals := 112 }
set_option maxRecDepth 100000 in
set_option maxHeartbeats 400000 in
theorem x8_back {l : Launch} {D : va_G} {ac : Nat → ClassId} (hl : l.stackTraces = false) {ad : Ad} {s e : Sg} {d m e1 x : Int}  {G : jj_G} (hR : Rep ad (cC ac ad s e) G) {c : Int} (hI : sInv s c) (hd : jR d) (hm : jR m) (he1 : jR e1) (hx : jR x) (hj : ∀ i, jR (s 36 i)) (hcs : ∀ j : Int, 0 ≤ j → j < s 31 0 → ¬ s 16 (s 32 j) = -1) : jj_C l D ac yX8_back (.code yX8_back cX8_back 6 (some .int)) rm_X8_back [.ref (ad 0 0), .int (jI d), .int (jI m), .int (jI e1), .int (jI x)] G (jj_pi (fun r G' => t_back s d m e1 x = 0 ∧ r = r_back s d m e1 x ∧ ∃ ad', ad' 0 0 = ad 0 0 ∧ Rep ad' (cC ac ad' (n_back s d m e1 x) (e)) G')) (jp3 (t_back s d m e1 x) eB eA eS) := by
  refine jj_ofx (own := RX8) (lv0 := [some (.ref (ad 0 0)), some (.int (jI d)), some (.int (jI m)), some (.int (jI e1)), some (.int (jI x)), none]) hl (by decide +kernel) rfl rfl (Nat.le_of_ble_eq_true rfl) rfl ?_
  intro X B hN hl0 hdg hac hin
  subst hl0; subst hdg; subst hac
  have F := B.F

  obtain ⟨hI1, hI2, hI3, hI4, hI5, hI6, hI7, hc⟩ := hI
  have i0 := hI1.1
  have i1 := hI1.2.1
  have i3 := hI3.1
  refine jj_aload0 F dX8_back_0 ?_
  refine jj_iload1 F dX8_back_1 ?_
  refine jj_callVq B (k := 1) (n := 6) (k8_sideAt F.tr hR.1 (by omega) i3.2) lk_X8_187 (hR.at (k := 0) (i := 0) cc_0) cs_8 rfl rfl ⟨Nat.le_of_ble_eq_true rfl, Nat.le_of_ble_eq_true rfl, Nat.le_of_ble_eq_true rfl, Nat.le_of_ble_eq_true rfl, Nat.le_of_ble_eq_true rfl⟩ ⟨Nat.le_of_ble_eq_true rfl, Nat.le_of_ble_eq_true rfl, Nat.le_of_ble_eq_true rfl, Nat.le_of_ble_eq_true rfl⟩ (fun E h => ⟨rfl, by obtain ⟨rfl, hh⟩ := h; exact (Or.inl ⟨(by unfold t_back; (try rw [← hk]); (repeat (first | rw [if_pos (by omega)] | rw [if_neg (by omega)]))), rfl⟩)⟩) dX8_back_2 (fun r G h => ?_)
  obtain ⟨rfl, hrg, rfl⟩ := h
  refine jj_iload2 F dX8_back_5 ?_
  refine jj_iload3 F dX8_back_6 ?_
  refine jj_callSi B (k := 2) (n := 12) (k8_placeOf F.tr (by omega) (by omega)) lk_X8_197 rfl ⟨Nat.le_of_ble_eq_true rfl, Nat.le_of_ble_eq_true rfl, Nat.le_of_ble_eq_true rfl, Nat.le_of_ble_eq_true rfl, Nat.le_of_ble_eq_true rfl⟩ ⟨Nat.le_of_ble_eq_true rfl, Nat.le_of_ble_eq_true rfl, Nat.le_of_ble_eq_true rfl, Nat.le_of_ble_eq_true rfl⟩ (fun E h => ⟨rfl, by obtain ⟨rfl, hh⟩ := h; exact (Or.inl ⟨(by unfold t_back; (try rw [← hk]); (repeat (first | rw [if_pos (by omega)] | rw [if_neg (by omega)]))), rfl⟩)⟩) dX8_back_7 (fun r G h => ?_)
  obtain ⟨rfl, hpl, rfl⟩ := h
  refine jj_callVq B (k := 2) (n := 12) (k4_stamperAt F.tr hR.1 (by omega) (by omega)) lk_X8_200 (hR.at (k := 20) (i := d) (if_pos (show 0 ≤ d ∧ d < s 13 0 by omega))) cs_4 rfl rfl ⟨Nat.le_of_ble_eq_true rfl, Nat.le_of_ble_eq_true rfl, Nat.le_of_ble_eq_true rfl, Nat.le_of_ble_eq_true rfl, Nat.le_of_ble_eq_true rfl⟩ ⟨Nat.le_of_ble_eq_true rfl, Nat.le_of_ble_eq_true rfl, Nat.le_of_ble_eq_true rfl, Nat.le_of_ble_eq_true rfl⟩ jj_tx0 dX8_back_10 (fun r G h => ?_)
  obtain ⟨rfl, rfl⟩ := h
  obtain ⟨k, hk⟩ : ∃ k, k = sSt d m e1 := ⟨_, rfl⟩
  have hk2 : 12 * d + (4 * m + e1) = k := by rw [hk]; unfold sSt; omega
  have hkr : 0 ≤ k ∧ k < 120 := by omega
  have g := hI4.1 k hkr.1 hkr.2
  have g2 := hI4.2 k hkr.1 hkr.2
  have g3 := sDiscs_0 s k
  by_cases hq10 : s 16 k = -1
  · skip
    refine jj_qn (mRow_n hk2 hq10) ?_
    refine jj_nstore5 F dX8_back_13 (hN _ (by decide)) rfl ?_
    refine jj_iload4 F dX8_back_15 ?_
    refine jj_callSv B (k := 3) (n := 18) (k8_requireDiscCount F.tr (by omega)) lk_X8_219 rfl ⟨Nat.le_of_ble_eq_true rfl, Nat.le_of_ble_eq_true rfl, Nat.le_of_ble_eq_true rfl, Nat.le_of_ble_eq_true rfl, Nat.le_of_ble_eq_true rfl⟩ ⟨Nat.le_of_ble_eq_true rfl, Nat.le_of_ble_eq_true rfl, Nat.le_of_ble_eq_true rfl, Nat.le_of_ble_eq_true rfl⟩ (fun E h => ⟨rfl, by obtain ⟨rfl, hh⟩ := h; exact (Or.inr (Or.inl ⟨(by unfold t_back; (try rw [← hk]); (repeat (first | rw [if_pos (by omega)] | rw [if_neg (by omega)]))), rfl⟩))⟩) dX8_back_17 (fun G h => ?_)
    obtain ⟨hrd, rfl⟩ := h
    refine jj_nload5 F dX8_back_20 ?_
    refine jj_ifnull F (r := none) (tgt := 35) dX8_back_22 rfl (fun _ => ?_) (fun _ h => by cases h)
    exact jj_throwSW B th_3 sr_X8_275 rfl (Or.inr (Or.inr ⟨(by unfold t_back; (try rw [← hk]); (repeat (first | rw [if_pos (by omega)] | rw [if_neg (by omega)]))), rfl⟩)) ⟨Nat.le_of_ble_eq_true rfl, Nat.le_of_ble_eq_true rfl, Nat.le_of_ble_eq_true rfl, Nat.le_of_ble_eq_true rfl⟩ dX8_back_35 dX8_back_38 dX8_back_39 dX8_back_42 dX8_back_45
  · skip
    refine jj_qv (mRow_k (by omega) hk2 hq10) ?_
    refine jj_astore5 F dX8_back_13 (hN _ (by decide)) rfl ?_
    refine jj_iload4 F dX8_back_15 ?_
    refine jj_callSv B (k := 3) (n := 18) (k8_requireDiscCount F.tr (by omega)) lk_X8_219 rfl ⟨Nat.le_of_ble_eq_true rfl, Nat.le_of_ble_eq_true rfl, Nat.le_of_ble_eq_true rfl, Nat.le_of_ble_eq_true rfl, Nat.le_of_ble_eq_true rfl⟩ ⟨Nat.le_of_ble_eq_true rfl, Nat.le_of_ble_eq_true rfl, Nat.le_of_ble_eq_true rfl, Nat.le_of_ble_eq_true rfl⟩ (fun E h => ⟨rfl, by obtain ⟨rfl, hh⟩ := h; exact (Or.inr (Or.inl ⟨(by unfold t_back; (try rw [← hk]); (repeat (first | rw [if_pos (by omega)] | rw [if_neg (by omega)]))), rfl⟩))⟩) dX8_back_17 (fun G h => ?_)
    obtain ⟨hrd, rfl⟩ := h
    refine jj_aload5 F dX8_back_20 ?_
    refine jj_ifnull F (r := some (ad 23 k)) (tgt := 35) dX8_back_22 rfl (fun h => by cases h) (fun _ _ => ?_)
    refine jj_aload5 F dX8_back_25 ?_
    refine jj_callVr B (k := 3) (n := 18) (k6_unnamed F.tr hR.1 ⟨hkr, by assumption⟩) lk_X8_272 (hR.at (k := 23) (i := k) (if_pos (show sMk s k from ⟨hkr, by assumption⟩))) cs_6 rfl rfl ⟨Nat.le_of_ble_eq_true rfl, Nat.le_of_ble_eq_true rfl, Nat.le_of_ble_eq_true rfl, Nat.le_of_ble_eq_true rfl, Nat.le_of_ble_eq_true rfl⟩ ⟨Nat.le_of_ble_eq_true rfl, Nat.le_of_ble_eq_true rfl, Nat.le_of_ble_eq_true rfl, Nat.le_of_ble_eq_true rfl⟩ jj_tx0 dX8_back_27 ?_
    refine jj_iload4 F dX8_back_30 ?_
    refine jj_icmp_ge F (tgt := 46) dX8_back_32 rfl (by omega) (fun c32 => ?_) (fun c32 => ?_)
    · skip
      refine jj_aload5 F dX8_back_46 ?_
      refine jj_dup F rfl dX8_back_48 ?_
      refine jj_get F (hR.at (k := 23) (i := k) (if_pos (show sMk s k from ⟨hkr, by assumption⟩))) cs_6 (by decide) fd_X8_277 rfl dX8_back_49 ?_
      refine jj_iload4 F dX8_back_52 ?_
      refine jj_iadd F dX8_back_54 ?_
      refine c8_put F (ad := ad) hR (k := 23) (i := k) (if_pos (show sMk s k from ⟨hkr, by assumption⟩)) cs_6 (by decide) fd_X8_277 rfl rfl rfl (Nat.le_of_ble_eq_true rfl) dX8_back_55 (fun G hR => ?_)
      have hR := hR.congr (C' := cC (jj_ac X) ad (sU s 19 k (s 19 k + x)) (e)) (kcases (fun i => kc_0 (s := s) (e := (e)) (s' := (sU s 19 k (s 19 k + x))) (e' := (e)) rfl rfl rfl rfl i) (fun i => kc_1 (s := s) (e := (e)) (s' := (sU s 19 k (s 19 k + x))) (e' := (e)) rfl i) (fun i => kc_2 (s := s) (e := (e)) (s' := (sU s 19 k (s 19 k + x))) (e' := (e)) rfl i) (fun i => kc_3 (s := s) (e := (e)) (s' := (sU s 19 k (s 19 k + x))) (e' := (e)) rfl i) (fun i => kc_4 (s := s) (e := (e)) (s' := (sU s 19 k (s 19 k + x))) (e' := (e)) rfl i) (fun i => kc_5 (s := s) (e := (e)) (s' := (sU s 19 k (s 19 k + x))) (e' := (e)) rfl rfl i) (fun i => kc_6 (s := s) (e := (e)) (s' := (sU s 19 k (s 19 k + x))) (e' := (e)) rfl rfl i) (fun i => kc_7 (s := s) (e := (e)) (s' := (sU s 19 k (s 19 k + x))) (e' := (e)) rfl i) (fun i => kc_8 (s := s) (e := (e)) (s' := (sU s 19 k (s 19 k + x))) (e' := (e)) rfl i) (fun i => kc_9 (s := s) (e := (e)) (s' := (sU s 19 k (s 19 k + x))) (e' := (e)) rfl i) (fun i => kc_10 (s := s) (e := (e)) (s' := (sU s 19 k (s 19 k + x))) (e' := (e)) rfl i) (fun i => kc_11 (s := s) (e := (e)) (s' := (sU s 19 k (s 19 k + x))) (e' := (e)) rfl i) (fun i => kc_12 (s := s) (e := (e)) (s' := (sU s 19 k (s 19 k + x))) (e' := (e)) rfl i) (fun i => kc_13 (s := s) (e := (e)) (s' := (sU s 19 k (s 19 k + x))) (e' := (e)) rfl i) (fun i => kc_14 (s := s) (e := (e)) (s' := (sU s 19 k (s 19 k + x))) (e' := (e)) rfl i) (fun i => kc_15 (s := s) (e := (e)) (s' := (sU s 19 k (s 19 k + x))) (e' := (e)) rfl i) (fun i => kc_16 (s := s) (e := (e)) (s' := (sU s 19 k (s 19 k + x))) (e' := (e)) rfl rfl rfl rfl rfl rfl rfl rfl rfl rfl rfl rfl rfl i) (fun i => kc_17 (s := s) (e := (e)) (s' := (sU s 19 k (s 19 k + x))) (e' := (e)) rfl rfl i) (fun i => kc_18 (s := s) (e := (e)) (s' := (sU s 19 k (s 19 k + x))) (e' := (e)) rfl rfl i) (fun i => kc_19 (s := s) (e := (e)) (s' := (sU s 19 k (s 19 k + x))) (e' := (e)) rfl rfl i) (fun i => kc_20 (s := s) (e := (e)) (s' := (sU s 19 k (s 19 k + x))) (e' := (e)) rfl rfl rfl rfl i) (fun i => kc_21 (s := s) (e := (e)) (s' := (sU s 19 k (s 19 k + x))) (e' := (e)) rfl rfl i) (fun i => kc_22 (s := s) (e := (e)) (s' := (sU s 19 k (s 19 k + x))) (e' := (e)) rfl rfl i) (ks_19 ⟨hkr, by assumption⟩) (fun i => kc_24 (s := s) (e := (e)) (s' := (sU s 19 k (s 19 k + x))) (e' := (e)) rfl rfl rfl i) (fun i => kc_25 (s := s) (e := (e)) (s' := (sU s 19 k (s 19 k + x))) (e' := (e)) rfl rfl i) (fun i => kc_26 (s := s) (e := (e)) (s' := (sU s 19 k (s 19 k + x))) (e' := (e)) rfl rfl rfl i) (fun i => kc_27 (s := s) (e := (e)) (s' := (sU s 19 k (s 19 k + x))) (e' := (e)) rfl rfl i) (fun k i => rfl))
      refine jj_aload0 F dX8_back_58 ?_
      refine jj_get F (hR.at (k := 0) (i := 0) cc_0) cs_8 (by decide) fd_X8_44 rfl dX8_back_59 ?_
      refine jj_aload5 F dX8_back_62 ?_
      refine jj_iload4 F dX8_back_64 ?_
      refine jj_callVv B (k := 3) (n := 18) (k2_takeBack (s := sU s 19 k (s 19 k + x)) F.tr hR (sI3_c rfl rfl rfl hI3) (show sI7 s from hI7) (show ∀ j : Int, 0 ≤ j → j < s 31 0 → ¬ s 16 (s 32 j) = -1 from hcs) (show sMk s k from ⟨hkr, by assumption⟩) (by omega) (show ∀ q, jR (s 36 q) from hj)) lk_X8_280 (hR.at (k := 10) (i := 0) cc_10) cs_2 rfl rfl ⟨Nat.le_of_ble_eq_true rfl, Nat.le_of_ble_eq_true rfl, Nat.le_of_ble_eq_true rfl, Nat.le_of_ble_eq_true rfl, Nat.le_of_ble_eq_true rfl⟩ ⟨Nat.le_of_ble_eq_true rfl, Nat.le_of_ble_eq_true rfl, Nat.le_of_ble_eq_true rfl, Nat.le_of_ble_eq_true rfl⟩ jj_tx0 dX8_back_66 (fun G hR => ?_)
      rw [sBackS_19] at hR
      obtain ⟨S, hS⟩ : ∃ S, S = sU (sBackS s k x (s 31 0).toNat) 19 k (s 19 k + x) := ⟨_, rfl⟩
      have hS16 : S 16 = s 16 := by rw [hS, sU_n (by decide), sBackS_n (by decide)]
      have hRS : Rep ad (cC (jj_ac X) ad S e) G := by rw [hS]; exact hR
      refine jj_aload5 F dX8_back_69 ?_
      refine jj_callVr B (k := 3) (n := 18) (k6_stillSold (s := S) F.tr hRS.1 ⟨hkr, by rw [hS16]; assumption⟩) lk_X8_238 (hRS.at (C := cC (jj_ac X) ad S e) (k := 23) (i := k) (if_pos (show sMk S k from ⟨hkr, by rw [hS16]; assumption⟩))) cs_6 rfl rfl ⟨Nat.le_of_ble_eq_true rfl, Nat.le_of_ble_eq_true rfl, Nat.le_of_ble_eq_true rfl, Nat.le_of_ble_eq_true rfl, Nat.le_of_ble_eq_true rfl⟩ ⟨Nat.le_of_ble_eq_true rfl, Nat.le_of_ble_eq_true rfl, Nat.le_of_ble_eq_true rfl, Nat.le_of_ble_eq_true rfl⟩ jj_tx0 dX8_back_71 ?_
      refine jj_eqi (b := s 18 k - (s 19 k + x)) (by rw [hS, sU_s, sU_n (by decide), sBackS_n (by decide)]) ?_
      have htt : t_back s d m e1 x = 0 := by unfold t_back; (try rw [← hk]); (repeat (first | rw [if_pos (by omega)] | rw [if_neg (by omega)]))
      rw [hk] at hR
      exact jj_iret B dX8_back_74 ⟨Nat.le_of_ble_eq_true rfl, Nat.le_of_ble_eq_true rfl⟩ (⟨_, rfl, htt, (by unfold r_back; refine Eq.trans ?_ (if_pos htt).symm; rw [← hk]), ad, rfl, (by unfold n_back; first | (rw [if_pos htt]; exact hR) | exact hR | exact hR.c37)⟩)
    · skip
      exact jj_throwSW B th_3 sr_X8_275 rfl (Or.inr (Or.inr ⟨(by unfold t_back; (try rw [← hk]); (repeat (first | rw [if_pos (by omega)] | rw [if_neg (by omega)]))), rfl⟩)) ⟨Nat.le_of_ble_eq_true rfl, Nat.le_of_ble_eq_true rfl, Nat.le_of_ble_eq_true rfl, Nat.le_of_ble_eq_true rfl⟩ dX8_back_35 dX8_back_38 dX8_back_39 dX8_back_42 dX8_back_45
abbrev rm_X8_fire : Room := { frames := 7, cells := 2, slots := 12, locals := 110 }
set_option maxRecDepth 100000 in
set_option maxHeartbeats 400000 in
theorem x8_fire {l : Launch} {D : va_G} {ac : Nat → ClassId} (hl : l.stackTraces = false) {ad : Ad} {s e : Sg} {v : Int}  {G : jj_G} (hR : Rep ad (cC ac ad s e) G) {c : Int} (hI : sInv s c) (hv : jR v) : jj_C l D ac yX8_fire (.code yX8_fire cX8_fire 7 (some .int)) rm_X8_fire [.ref (ad 0 0), .int (jI v)] G (jj_pi (fun r G' => t_vault v = 0 ∧ r = r_fire s v ∧ ∃ ad', ad' 0 0 = ad 0 0 ∧ Rep ad' (cC ac ad' (n_fire s v) (e)) G')) (jp1 (t_vault v) eB) := by
  refine jj_ofx (own := RX8) (lv0 := [some (.ref (ad 0 0)), some (.int (jI v)), none, none, none, none, none]) hl (by decide +kernel) rfl rfl (Nat.le_of_ble_eq_true rfl) rfl ?_
  intro X B hN hl0 hdg hac hin
  subst hl0; subst hdg; subst hac
  have F := B.F

  obtain ⟨hI1, hI2, hI3, hI4, hI5, hI6, hI7, hc⟩ := hI
  have i0 := hI1.1
  have i1 := hI1.2.1
  have i3 := hI3.1
  refine jj_iload1 F dX8_fire_0 ?_
  refine jj_callSv B (k := 1) (n := 6) (k8_requireVault F.tr (by omega)) lk_X8_52 rfl ⟨Nat.le_of_ble_eq_true rfl, Nat.le_of_ble_eq_true rfl, Nat.le_of_ble_eq_true rfl, Nat.le_of_ble_eq_true rfl, Nat.le_of_ble_eq_true rfl⟩ ⟨Nat.le_of_ble_eq_true rfl, Nat.le_of_ble_eq_true rfl, Nat.le_of_ble_eq_true rfl, Nat.le_of_ble_eq_true rfl⟩ (fun E h => ⟨rfl, by obtain ⟨rfl, hh⟩ := h; exact ⟨(by unfold t_vault; (try rw [← hk]); (repeat (first | rw [if_pos (by omega)] | rw [if_neg (by omega)]))), rfl⟩⟩) dX8_fire_1 (fun G h => ?_)
  obtain ⟨hrv, rfl⟩ := h
  refine jj_iconst F dX8_fire_4 ?_
  refine jj_istore2 F dX8_fire_5 (hN _ (by decide)) rfl ?_
  refine jj_aload0 F dX8_fire_6 ?_
  refine jj_get F (hR.at (k := 0) (i := 0) cc_0) cs_8 (by decide) fd_X8_11 rfl dX8_fire_7 ?_
  refine jj_astore3 F dX8_fire_10 (hN _ (by decide)) rfl ?_
  refine jj_aload3 F dX8_fire_11 ?_
  refine jj_alenQ F (fun _ => rfl) (hR.at (k := 1) (i := 0) cc_1) dX8_fire_12 ?_
  refine jj_istore4 F dX8_fire_13 (hN _ (by decide)) rfl ?_
  refine jj_iconst F dX8_fire_15 ?_
  refine jj_istore5 F dX8_fire_16 (hN _ (by decide)) rfl ?_
  obtain ⟨T, hT⟩ : ∃ T, T = (s 1 0).toNat := ⟨_, rfl⟩
  have loop : ∀ (n j : Nat) (x6 : Option Value) (G : jj_G), n + j = 30 → Rep ad (cC (jj_ac X) ad (sFire s v (min j T)) e) G → jj_J X G 1 6 18 [some (.ref (ad 0 0)), some (.int (jI v)), some (.int (jI (sFireN s v (min j T)))), some (.ref (ad 1 0)), some (.int (jI 30)), some (.int (jI j)), x6] [] := by
    intro n
    induction n with
    | zero =>
      intro j x6 G hj hR
      rw [show min j T = T by omega] at hR ⊢
      refine jj_iload5 F dX8_fire_18 ?_
      refine jj_iload4 F dX8_fire_20 ?_
      refine jj_icmp_ge F (tgt := 69) dX8_fire_22 rfl (by omega) (fun c22 => ?_) (fun c22 => by exfalso; omega)
      refine jj_iload2 F dX8_fire_69 ?_
      have htt : t_vault v = 0 := by unfold t_vault; (try rw [← hk]); (repeat (first | rw [if_pos (by omega)] | rw [if_neg (by omega)]))
      rw [hT] at hR
      exact jj_iret B dX8_fire_70 ⟨Nat.le_of_ble_eq_true rfl, Nat.le_of_ble_eq_true rfl⟩ (⟨_, rfl, htt, (by unfold r_fire; refine Eq.trans ?_ (if_pos htt).symm; rw [hT]), ad, rfl, (by unfold n_fire; first | (rw [if_pos htt]; exact hR) | exact hR | exact hR.c37)⟩)
    | succ n ih =>
      intro j x6 G hj hR
      refine jj_iload5 F dX8_fire_18 ?_
      refine jj_iload4 F dX8_fire_20 ?_
      refine jj_icmp_ge F (tgt := 69) dX8_fire_22 rfl (by omega) (fun c22 => by exfalso; omega) (fun c22 => ?_)
      refine jj_aload3 F dX8_fire_25 ?_
      refine jj_iload5 F dX8_fire_26 ?_
      refine jj_ald F (fun _ => rfl) (hR.at (k := 1) (i := 0) cc_1) (by omega) (by decide) dX8_fire_28 ?_
      by_cases hq28 : (j : Int) < s 1 0
      · skip
        rw [show min j T = j by omega] at hR ⊢
        have g := hI1.tape (t := j) (by omega)
        refine jj_qv (rRow_at (show 0 ≤ (j : Int) ∧ (j : Int) < sFire s v j 1 0 by rw [sFire_n (by decide)]; omega)) ?_
        refine jj_astore6 F dX8_fire_29 (hN _ (by decide)) rfl ?_
        refine jj_aload6 F dX8_fire_31 ?_
        refine jj_ifnull F (r := some (ad 16 ((j : Int)))) (tgt := 63) dX8_fire_33 rfl (fun h => by cases h) (fun _ _ => ?_)
        refine jj_aload6 F dX8_fire_36 ?_
        refine jj_get F (hR.at (k := 16) (i := (j : Int)) (if_pos (show 0 ≤ (j : Int) ∧ (j : Int) < sFire s v j 1 0 by rw [sFire_n (by decide)]; omega))) cs_7 (by decide) fd_X8_114 rfl dX8_fire_38 ?_
        refine jj_eqi (b := s 5 j) (congrFun (sFire_n (by decide) j) _) ?_
        refine jj_iload1 F dX8_fire_41 ?_
        refine jj_icmp_ne F (tgt := 63) dX8_fire_42 rfl (by omega) (fun c42 => ?_) (fun c42 => ?_)
        · skip
          refine jj_iinc5 F dX8_fire_63 (hN _ (by decide)) rfl ?_
          refine jj_goto F (tgt := 18) dX8_fire_66 rfl ?_
          have ih1 := fun x6 hR => ih (j + 1) x6 G (by omega) hR
          rw [show (((j + 1 : Nat)) : Int) = (j : Int) + 1 from rfl] at ih1
          rw [show min (j + 1) T = j + 1 by omega] at ih1
          simp only [sFire, sFireN] at ih1
          rw [if_neg (by omega), if_neg (by omega), Int.add_zero] at ih1
          exact ih1 _ hR
        · skip
          refine jj_aload6 F dX8_fire_45 ?_
          refine jj_get F (hR.at (k := 16) (i := (j : Int)) (if_pos (show 0 ≤ (j : Int) ∧ (j : Int) < sFire s v j 1 0 by rw [sFire_n (by decide)]; omega))) cs_7 (by decide) fd_X8_101 rfl dX8_fire_47 ?_
          refine jj_eqi (b := s 2 j) (sFire_2 j (Int.le_refl _)) ?_
          refine jj_iconst F dX8_fire_50 ?_
          refine jj_icmp_eq F (tgt := 63) dX8_fire_51 rfl (by omega) (fun c51 => ?_) (fun c51 => ?_)
          · skip
            refine jj_iinc5 F dX8_fire_63 (hN _ (by decide)) rfl ?_
            refine jj_goto F (tgt := 18) dX8_fire_66 rfl ?_
            have ih1 := fun x6 hR => ih (j + 1) x6 G (by omega) hR
            rw [show (((j + 1 : Nat)) : Int) = (j : Int) + 1 from rfl] at ih1
            rw [show min (j + 1) T = j + 1 by omega] at ih1
            simp only [sFire, sFireN] at ih1
            rw [if_neg (by omega), if_neg (by omega), Int.add_zero] at ih1
            exact ih1 _ hR
          · skip
            refine jj_aload6 F dX8_fire_54 ?_
            refine jj_iconst F dX8_fire_56 ?_
            refine c8_put F (ad := ad) hR (k := 16) (i := (j : Int)) (if_pos (show 0 ≤ (j : Int) ∧ (j : Int) < sFire s v j 1 0 by rw [sFire_n (by decide)]; omega)) cs_7 (by decide) fd_X8_101 rfl rfl rfl (Nat.le_of_ble_eq_true rfl) dX8_fire_57 (fun G hR => ?_)
            have hR := hR.congr (C' := cC (jj_ac X) ad (sU (sFire s v j) 2 j 3) (e)) (kcases (fun i => kc_0 (s := (sFire s v j)) (e := (e)) (s' := (sU (sFire s v j) 2 j 3)) (e' := (e)) rfl rfl rfl rfl i) (fun i => kc_1 (s := (sFire s v j)) (e := (e)) (s' := (sU (sFire s v j) 2 j 3)) (e' := (e)) rfl i) (fun i => kc_2 (s := (sFire s v j)) (e := (e)) (s' := (sU (sFire s v j) 2 j 3)) (e' := (e)) rfl i) (fun i => kc_3 (s := (sFire s v j)) (e := (e)) (s' := (sU (sFire s v j) 2 j 3)) (e' := (e)) rfl i) (fun i => kc_4 (s := (sFire s v j)) (e := (e)) (s' := (sU (sFire s v j) 2 j 3)) (e' := (e)) rfl i) (fun i => kc_5 (s := (sFire s v j)) (e := (e)) (s' := (sU (sFire s v j) 2 j 3)) (e' := (e)) rfl rfl i) (fun i => kc_6 (s := (sFire s v j)) (e := (e)) (s' := (sU (sFire s v j) 2 j 3)) (e' := (e)) rfl rfl i) (fun i => kc_7 (s := (sFire s v j)) (e := (e)) (s' := (sU (sFire s v j) 2 j 3)) (e' := (e)) rfl i) (fun i => kc_8 (s := (sFire s v j)) (e := (e)) (s' := (sU (sFire s v j) 2 j 3)) (e' := (e)) rfl i) (fun i => kc_9 (s := (sFire s v j)) (e := (e)) (s' := (sU (sFire s v j) 2 j 3)) (e' := (e)) rfl i) (fun i => kc_10 (s := (sFire s v j)) (e := (e)) (s' := (sU (sFire s v j) 2 j 3)) (e' := (e)) rfl i) (fun i => kc_11 (s := (sFire s v j)) (e := (e)) (s' := (sU (sFire s v j) 2 j 3)) (e' := (e)) rfl i) (fun i => kc_12 (s := (sFire s v j)) (e := (e)) (s' := (sU (sFire s v j) 2 j 3)) (e' := (e)) rfl i) (fun i => kc_13 (s := (sFire s v j)) (e := (e)) (s' := (sU (sFire s v j) 2 j 3)) (e' := (e)) rfl i) (fun i => kc_14 (s := (sFire s v j)) (e := (e)) (s' := (sU (sFire s v j) 2 j 3)) (e' := (e)) rfl i) (fun i => kc_15 (s := (sFire s v j)) (e := (e)) (s' := (sU (sFire s v j) 2 j 3)) (e' := (e)) rfl i) (kt_2 (s := sFire s v j) (show 0 ≤ (j : Int) ∧ (j : Int) < sFire s v j 1 0 by rw [sFire_n (by decide)]; omega)) (fun i => kc_17 (s := (sFire s v j)) (e := (e)) (s' := (sU (sFire s v j) 2 j 3)) (e' := (e)) rfl rfl i) (fun i => kc_18 (s := (sFire s v j)) (e := (e)) (s' := (sU (sFire s v j) 2 j 3)) (e' := (e)) rfl rfl i) (fun i => kc_19 (s := (sFire s v j)) (e := (e)) (s' := (sU (sFire s v j) 2 j 3)) (e' := (e)) rfl rfl i) (fun i => kc_20 (s := (sFire s v j)) (e := (e)) (s' := (sU (sFire s v j) 2 j 3)) (e' := (e)) rfl rfl rfl rfl i) (fun i => kc_21 (s := (sFire s v j)) (e := (e)) (s' := (sU (sFire s v j) 2 j 3)) (e' := (e)) rfl rfl i) (fun i => kc_22 (s := (sFire s v j)) (e := (e)) (s' := (sU (sFire s v j) 2 j 3)) (e' := (e)) rfl rfl i) (fun i => kc_23 (s := (sFire s v j)) (e := (e)) (s' := (sU (sFire s v j) 2 j 3)) (e' := (e)) rfl rfl rfl rfl rfl rfl rfl rfl i) (fun i => kc_24 (s := (sFire s v j)) (e := (e)) (s' := (sU (sFire s v j) 2 j 3)) (e' := (e)) rfl rfl rfl i) (fun i => kc_25 (s := (sFire s v j)) (e := (e)) (s' := (sU (sFire s v j) 2 j 3)) (e' := (e)) rfl rfl i) (fun i => kc_26 (s := (sFire s v j)) (e := (e)) (s' := (sU (sFire s v j) 2 j 3)) (e' := (e)) rfl rfl rfl i) (fun i => kc_27 (s := (sFire s v j)) (e := (e)) (s' := (sU (sFire s v j) 2 j 3)) (e' := (e)) rfl rfl i) (fun k i => rfl))
            refine jj_iinc2 F dX8_fire_60 (hN _ (by decide)) rfl ?_
            refine jj_iinc5 F dX8_fire_63 (hN _ (by decide)) rfl ?_
            refine jj_goto F (tgt := 18) dX8_fire_66 rfl ?_
            have ih1 := fun x6 hR => ih (j + 1) x6 G (by omega) hR
            rw [show (((j + 1 : Nat)) : Int) = (j : Int) + 1 from rfl] at ih1
            rw [show min (j + 1) T = j + 1 by omega] at ih1
            simp only [sFire, sFireN] at ih1
            rw [if_pos ⟨by omega, by omega⟩, if_pos ⟨by omega, by omega⟩] at ih1
            exact ih1 _ hR
      · skip
        refine jj_qn (rRow_no (fun h => hq28 (by have := h.2; rw [sFire_n (by decide)] at this; exact this))) ?_
        refine jj_nstore6 F dX8_fire_29 (hN _ (by decide)) rfl ?_
        refine jj_nload6 F dX8_fire_31 ?_
        refine jj_ifnull F (r := none) (tgt := 63) dX8_fire_33 rfl (fun _ => ?_) (fun _ h => by cases h)
        refine jj_iinc5 F dX8_fire_63 (hN _ (by decide)) rfl ?_
        refine jj_goto F (tgt := 18) dX8_fire_66 rfl ?_
        have ih1 := fun x6 hR => ih (j + 1) x6 G (by omega) hR
        rw [show (((j + 1 : Nat)) : Int) = (j : Int) + 1 from rfl] at ih1
        rw [show min (j + 1) T = min j T by omega] at ih1
        exact ih1 _ hR
  have l0 := fun hR => loop 30 0 none G (by omega) hR
  rw [show min 0 T = 0 by omega] at l0
  exact l0 hR.c37
