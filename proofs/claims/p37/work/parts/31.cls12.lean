/-! ===== the class's calls ===== -/
theorem jj_ldcW {X : jj_X} {own : String} {cc : ByteArray} {rm : Room} {G : jj_G} {kc kn pc nx : Nat} {lv : List (Option Value)} {st : List Value} (F : jj_F X own cc rm) {i : Nat} {w : Int32} {v : Int} (hw : Cond.constant own i w ∈ jj_GW) (hv : w = jI v) (d : jj_D cc pc (.ldc_w i) 3 nx) (kk : jj_J X G kc kn nx lv (.int (jI v) :: st)) : jj_J X G kc kn pc lv st := by
  obtain ⟨p, l, e, R, s, m, args, below, meth, c, nL, A, D, ac, Q⟩ := X
  obtain ⟨hx, hb, hml, hown, hR, hA, hE, hs, hk, hts, -⟩ := F
  obtain ⟨rfl, hd⟩ := d
  intro H locs ls hW hS hl
  subst hv
  exact lv_ldcw hx hb hown (hts _ hw) hd (kk H locs ls hW hS hl)
theorem Rep.c37 {ac : Nat → ClassId} {ad : Ad} {s e : Sg} {G : jj_G} {x : Int} (hR : Rep ad (cC ac ad s e) G) : Rep ad (cC ac ad (sU s 37 0 x) e) G :=
  hR.congr (kcases (fun i => kc_0 (s := s) (e := e) (s' := (sU s 37 0 x)) (e' := e) rfl rfl rfl rfl i) (fun i => kc_1 (s := s) (e := e) (s' := (sU s 37 0 x)) (e' := e) rfl i) (fun i => kc_2 (s := s) (e := e) (s' := (sU s 37 0 x)) (e' := e) rfl i) (fun i => kc_3 (s := s) (e := e) (s' := (sU s 37 0 x)) (e' := e) rfl i) (fun i => kc_4 (s := s) (e := e) (s' := (sU s 37 0 x)) (e' := e) rfl i) (fun i => kc_5 (s := s) (e := e) (s' := (sU s 37 0 x)) (e' := e) rfl rfl i) (fun i => kc_6 (s := s) (e := e) (s' := (sU s 37 0 x)) (e' := e) rfl rfl i) (fun i => kc_7 (s := s) (e := e) (s' := (sU s 37 0 x)) (e' := e) rfl i) (fun i => kc_8 (s := s) (e := e) (s' := (sU s 37 0 x)) (e' := e) rfl i) (fun i => kc_9 (s := s) (e := e) (s' := (sU s 37 0 x)) (e' := e) rfl i) (fun i => kc_10 (s := s) (e := e) (s' := (sU s 37 0 x)) (e' := e) rfl i) (fun i => kc_11 (s := s) (e := e) (s' := (sU s 37 0 x)) (e' := e) rfl i) (fun i => kc_12 (s := s) (e := e) (s' := (sU s 37 0 x)) (e' := e) rfl i) (fun i => kc_13 (s := s) (e := e) (s' := (sU s 37 0 x)) (e' := e) rfl i) (fun i => kc_14 (s := s) (e := e) (s' := (sU s 37 0 x)) (e' := e) rfl i) (fun i => kc_15 (s := s) (e := e) (s' := (sU s 37 0 x)) (e' := e) rfl i) (fun i => kc_16 (s := s) (e := e) (s' := (sU s 37 0 x)) (e' := e) rfl rfl rfl rfl rfl rfl rfl rfl rfl rfl rfl rfl rfl i) (fun i => kc_17 (s := s) (e := e) (s' := (sU s 37 0 x)) (e' := e) rfl rfl i) (fun i => kc_18 (s := s) (e := e) (s' := (sU s 37 0 x)) (e' := e) rfl rfl i) (fun i => kc_19 (s := s) (e := e) (s' := (sU s 37 0 x)) (e' := e) rfl rfl i) (fun i => kc_20 (s := s) (e := e) (s' := (sU s 37 0 x)) (e' := e) rfl rfl rfl rfl i) (fun i => kc_21 (s := s) (e := e) (s' := (sU s 37 0 x)) (e' := e) rfl rfl i) (fun i => kc_22 (s := s) (e := e) (s' := (sU s 37 0 x)) (e' := e) rfl rfl i) (fun i => kc_23 (s := s) (e := e) (s' := (sU s 37 0 x)) (e' := e) rfl rfl rfl rfl rfl rfl rfl rfl i) (fun i => kc_24 (s := s) (e := e) (s' := (sU s 37 0 x)) (e' := e) rfl rfl rfl i) (fun i => kc_25 (s := s) (e := e) (s' := (sU s 37 0 x)) (e' := e) rfl rfl i) (fun i => kc_26 (s := s) (e := e) (s' := (sU s 37 0 x)) (e' := e) rfl rfl rfl i) (fun i => kc_27 (s := s) (e := e) (s' := (sU s 37 0 x)) (e' := e) rfl rfl i) (fun k i => rfl))
theorem fTape_2 {ad : Ad} {s e : Sg} {t x : Int} : fTape ad (sU s 2 t x) e t = (fTape ad s e t).set 13 (.int (jI x)) := by
  show [.int (jI t), .int (jI (s 5 t)), .int (jI (s 4 t)), .int (jI (s 6 t)), va_rf (oRef ad (e 2 t)), .int (jI (e 3 t)), .int (jI (e 4 t)), va_rf (oRef ad (e 5 t)), .ref (ad 17 t), .ref (ad 18 t), .ref (ad 19 t), .int (jI (s 7 t)), .int (jI (sLen (sU s 2 t x) t)), .int (jI (sU s 2 t x 2 t)), .int (jI (s 3 t))] = _
  rw [sU_s, sLen_c (s := s) (s' := sU s 2 t x) rfl rfl rfl]; rfl
theorem fTape_3 {ad : Ad} {s e : Sg} {t x : Int} : fTape ad (sU s 3 t x) e t = (fTape ad s e t).set 14 (.int (jI x)) := by
  show [.int (jI t), .int (jI (s 5 t)), .int (jI (s 4 t)), .int (jI (s 6 t)), va_rf (oRef ad (e 2 t)), .int (jI (e 3 t)), .int (jI (e 4 t)), va_rf (oRef ad (e 5 t)), .ref (ad 17 t), .ref (ad 18 t), .ref (ad 19 t), .int (jI (s 7 t)), .int (jI (sLen (sU s 3 t x) t)), .int (jI (s 2 t)), .int (jI (sU s 3 t x 3 t))] = _
  rw [sU_s, sLen_c (s := s) (s' := sU s 3 t x) rfl rfl rfl]; rfl
theorem fTape_c {ad : Ad} {s s' e : Sg} {t : Int} (h2 : s' 2 t = s 2 t) (h3 : s' 3 t = s 3 t) (h4 : s' 4 = s 4) (h5 : s' 5 = s 5) (h6 : s' 6 = s 6) (h7 : s' 7 = s 7) (h9 : s' 9 = s 9) (h10 : s' 10 = s 10) : fTape ad s' e t = fTape ad s e t := by
  simp only [fTape, h2, h3, h4, h5, h6, h7, sLen_c h7 h9 h10]
theorem kt_2 {ac : Nat → ClassId} {ad : Ad} {s e : Sg} {t x : Int} (ht : 0 ≤ t ∧ t < s 1 0) : ∀ i, cC ac ad (sU s 2 t x) e 16 i = cU (cC ac ad s e) 16 t (jj_o 7 ((fTape ad s e t).set 13 (.int (jI x)))) 16 i :=
  ki (C := cC ac ad s e) (fun i _ => rfl) ht (congrArg (jj_o 7) fTape_2) (fun i _ => Iff.rfl) (fun i hi _ => congrArg (jj_o 7) (fTape_c (by rw [sU_i hi]) rfl rfl rfl rfl rfl rfl rfl))
theorem kt_3 {ac : Nat → ClassId} {ad : Ad} {s e : Sg} {t x : Int} (ht : 0 ≤ t ∧ t < s 1 0) : ∀ i, cC ac ad (sU s 3 t x) e 16 i = cU (cC ac ad s e) 16 t (jj_o 7 ((fTape ad s e t).set 14 (.int (jI x)))) 16 i :=
  ki (C := cC ac ad s e) (fun i _ => rfl) ht (congrArg (jj_o 7) fTape_3) (fun i _ => Iff.rfl) (fun i hi _ => congrArg (jj_o 7) (fTape_c rfl (by rw [sU_i hi]) rfl rfl rfl rfl rfl rfl))

abbrev rm_X8_shed : Room := { frames := 7, cells := 2, slots := 12, locals := 112 }
set_option maxRecDepth 100000 in
set_option maxHeartbeats 400000 in
theorem x8_shed {l : Launch} {D : va_G} {ac : Nat → ClassId} (hl : l.stackTraces = false) {ad : Ad} {s e : Sg} {t : Int}  {G : jj_G} (hR : Rep ad (cC ac ad s e) G) {c : Int} (hI : sInv s c) (ht : jR t) : jj_C l D ac yX8_shed (.code yX8_shed cX8_shed 3 none) rm_X8_shed [.ref (ad 0 0), .int (jI t)] G (jj_pv (fun G' => t_tape s t 0 = 0 ∧ ∃ ad', ad' 0 0 = ad 0 0 ∧ Rep ad' (cC ac ad' (n_shed s t) (e)) G')) (jp2 (t_tape s t 0) eB eS) := by
  refine jj_ofx (own := RX8) (lv0 := [some (.ref (ad 0 0)), some (.int (jI t)), none]) hl (by decide +kernel) rfl rfl (Nat.le_of_ble_eq_true rfl) rfl ?_
  intro X B hN hl0 hdg hac hin
  subst hl0; subst hdg; subst hac
  have F := B.F

  obtain ⟨hI1, hI2, hI3, hI4, hI5, hI6, hI7, hc⟩ := hI
  have i0 := hI1.1
  have i1 := hI1.2.1
  have i3 := hI3.1
  refine jj_aload0 F dX8_shed_0 ?_
  refine jj_iload1 F dX8_shed_1 ?_
  refine jj_callVq B (k := 1) (n := 6) (k8_tapeAt F.tr hR.1 (by omega) i1.2) lk_X8_73 (hR.at (k := 0) (i := 0) cc_0) cs_8 rfl rfl ⟨Nat.le_of_ble_eq_true rfl, Nat.le_of_ble_eq_true rfl, Nat.le_of_ble_eq_true rfl, Nat.le_of_ble_eq_true rfl, Nat.le_of_ble_eq_true rfl⟩ ⟨Nat.le_of_ble_eq_true rfl, Nat.le_of_ble_eq_true rfl, Nat.le_of_ble_eq_true rfl, Nat.le_of_ble_eq_true rfl⟩ (fun E h => ⟨rfl, by obtain ⟨rfl, hh⟩ := h; exact (Or.inl ⟨(by unfold t_tape; (try rw [← hk]); (repeat (first | rw [if_pos (by omega)] | rw [if_neg (by omega)]))), rfl⟩)⟩) dX8_shed_2 (fun r G h => ?_)
  obtain ⟨rfl, hrg, rfl⟩ := h
  refine jj_astore2 F dX8_shed_5 (hN _ (by decide)) rfl ?_
  refine jj_aload2 F dX8_shed_6 ?_
  refine jj_get F (hR.at (k := 16) (i := t) (if_pos (show 0 ≤ t ∧ t < s 1 0 by omega))) cs_7 (by decide) fd_X8_101 rfl dX8_shed_7 ?_
  refine jj_if_eq F (tgt := 23) dX8_shed_10 rfl (by have := hI1.tape (t := t) (by omega); omega) (fun c10 => ?_) (fun c10 => ?_)
  · skip
    refine jj_aload2 F dX8_shed_23 ?_
    refine jj_iconst F dX8_shed_24 ?_
    refine c8_put F (ad := ad) hR (k := 16) (i := t) (if_pos (show 0 ≤ t ∧ t < s 1 0 by omega)) cs_7 (by decide) fd_X8_101 rfl rfl rfl (Nat.le_of_ble_eq_true rfl) dX8_shed_25 (fun G hR => ?_)
    have htt : t_tape s t 0 = 0 := by unfold t_tape; (try rw [← hk]); (repeat (first | rw [if_pos (by omega)] | rw [if_neg (by omega)]))
    have hR := hR.congr (C' := cC (jj_ac X) ad (sU s 2 t 1) (e)) (kcases (fun i => kc_0 (s := s) (e := (e)) (s' := (sU s 2 t 1)) (e' := (e)) rfl rfl rfl rfl i) (fun i => kc_1 (s := s) (e := (e)) (s' := (sU s 2 t 1)) (e' := (e)) rfl i) (fun i => kc_2 (s := s) (e := (e)) (s' := (sU s 2 t 1)) (e' := (e)) rfl i) (fun i => kc_3 (s := s) (e := (e)) (s' := (sU s 2 t 1)) (e' := (e)) rfl i) (fun i => kc_4 (s := s) (e := (e)) (s' := (sU s 2 t 1)) (e' := (e)) rfl i) (fun i => kc_5 (s := s) (e := (e)) (s' := (sU s 2 t 1)) (e' := (e)) rfl rfl i) (fun i => kc_6 (s := s) (e := (e)) (s' := (sU s 2 t 1)) (e' := (e)) rfl rfl i) (fun i => kc_7 (s := s) (e := (e)) (s' := (sU s 2 t 1)) (e' := (e)) rfl i) (fun i => kc_8 (s := s) (e := (e)) (s' := (sU s 2 t 1)) (e' := (e)) rfl i) (fun i => kc_9 (s := s) (e := (e)) (s' := (sU s 2 t 1)) (e' := (e)) rfl i) (fun i => kc_10 (s := s) (e := (e)) (s' := (sU s 2 t 1)) (e' := (e)) rfl i) (fun i => kc_11 (s := s) (e := (e)) (s' := (sU s 2 t 1)) (e' := (e)) rfl i) (fun i => kc_12 (s := s) (e := (e)) (s' := (sU s 2 t 1)) (e' := (e)) rfl i) (fun i => kc_13 (s := s) (e := (e)) (s' := (sU s 2 t 1)) (e' := (e)) rfl i) (fun i => kc_14 (s := s) (e := (e)) (s' := (sU s 2 t 1)) (e' := (e)) rfl i) (fun i => kc_15 (s := s) (e := (e)) (s' := (sU s 2 t 1)) (e' := (e)) rfl i) (kt_2 (by omega)) (fun i => kc_17 (s := s) (e := (e)) (s' := (sU s 2 t 1)) (e' := (e)) rfl rfl i) (fun i => kc_18 (s := s) (e := (e)) (s' := (sU s 2 t 1)) (e' := (e)) rfl rfl i) (fun i => kc_19 (s := s) (e := (e)) (s' := (sU s 2 t 1)) (e' := (e)) rfl rfl i) (fun i => kc_20 (s := s) (e := (e)) (s' := (sU s 2 t 1)) (e' := (e)) rfl rfl rfl rfl i) (fun i => kc_21 (s := s) (e := (e)) (s' := (sU s 2 t 1)) (e' := (e)) rfl rfl i) (fun i => kc_22 (s := s) (e := (e)) (s' := (sU s 2 t 1)) (e' := (e)) rfl rfl i) (fun i => kc_23 (s := s) (e := (e)) (s' := (sU s 2 t 1)) (e' := (e)) rfl rfl rfl rfl rfl rfl rfl rfl i) (fun i => kc_24 (s := s) (e := (e)) (s' := (sU s 2 t 1)) (e' := (e)) rfl rfl rfl i) (fun i => kc_25 (s := s) (e := (e)) (s' := (sU s 2 t 1)) (e' := (e)) rfl rfl i) (fun i => kc_26 (s := s) (e := (e)) (s' := (sU s 2 t 1)) (e' := (e)) rfl rfl rfl i) (fun i => kc_27 (s := s) (e := (e)) (s' := (sU s 2 t 1)) (e' := (e)) rfl rfl i) (fun k i => rfl))
    have hR := hR.congr (C' := cC (jj_ac X) ad (sU (sU s 37 0 0) 2 t 1) (e)) (kcases (fun i => kc_0 (s := (sU s 2 t 1)) (e := (e)) (s' := (sU (sU s 37 0 0) 2 t 1)) (e' := (e)) rfl rfl rfl rfl i) (fun i => kc_1 (s := (sU s 2 t 1)) (e := (e)) (s' := (sU (sU s 37 0 0) 2 t 1)) (e' := (e)) rfl i) (fun i => kc_2 (s := (sU s 2 t 1)) (e := (e)) (s' := (sU (sU s 37 0 0) 2 t 1)) (e' := (e)) rfl i) (fun i => kc_3 (s := (sU s 2 t 1)) (e := (e)) (s' := (sU (sU s 37 0 0) 2 t 1)) (e' := (e)) rfl i) (fun i => kc_4 (s := (sU s 2 t 1)) (e := (e)) (s' := (sU (sU s 37 0 0) 2 t 1)) (e' := (e)) rfl i) (fun i => kc_5 (s := (sU s 2 t 1)) (e := (e)) (s' := (sU (sU s 37 0 0) 2 t 1)) (e' := (e)) rfl rfl i) (fun i => kc_6 (s := (sU s 2 t 1)) (e := (e)) (s' := (sU (sU s 37 0 0) 2 t 1)) (e' := (e)) rfl rfl i) (fun i => kc_7 (s := (sU s 2 t 1)) (e := (e)) (s' := (sU (sU s 37 0 0) 2 t 1)) (e' := (e)) rfl i) (fun i => kc_8 (s := (sU s 2 t 1)) (e := (e)) (s' := (sU (sU s 37 0 0) 2 t 1)) (e' := (e)) rfl i) (fun i => kc_9 (s := (sU s 2 t 1)) (e := (e)) (s' := (sU (sU s 37 0 0) 2 t 1)) (e' := (e)) rfl i) (fun i => kc_10 (s := (sU s 2 t 1)) (e := (e)) (s' := (sU (sU s 37 0 0) 2 t 1)) (e' := (e)) rfl i) (fun i => kc_11 (s := (sU s 2 t 1)) (e := (e)) (s' := (sU (sU s 37 0 0) 2 t 1)) (e' := (e)) rfl i) (fun i => kc_12 (s := (sU s 2 t 1)) (e := (e)) (s' := (sU (sU s 37 0 0) 2 t 1)) (e' := (e)) rfl i) (fun i => kc_13 (s := (sU s 2 t 1)) (e := (e)) (s' := (sU (sU s 37 0 0) 2 t 1)) (e' := (e)) rfl i) (fun i => kc_14 (s := (sU s 2 t 1)) (e := (e)) (s' := (sU (sU s 37 0 0) 2 t 1)) (e' := (e)) rfl i) (fun i => kc_15 (s := (sU s 2 t 1)) (e := (e)) (s' := (sU (sU s 37 0 0) 2 t 1)) (e' := (e)) rfl i) (fun i => kc_16 (s := (sU s 2 t 1)) (e := (e)) (s' := (sU (sU s 37 0 0) 2 t 1)) (e' := (e)) rfl rfl rfl rfl rfl rfl rfl rfl rfl rfl rfl rfl rfl i) (fun i => kc_17 (s := (sU s 2 t 1)) (e := (e)) (s' := (sU (sU s 37 0 0) 2 t 1)) (e' := (e)) rfl rfl i) (fun i => kc_18 (s := (sU s 2 t 1)) (e := (e)) (s' := (sU (sU s 37 0 0) 2 t 1)) (e' := (e)) rfl rfl i) (fun i => kc_19 (s := (sU s 2 t 1)) (e := (e)) (s' := (sU (sU s 37 0 0) 2 t 1)) (e' := (e)) rfl rfl i) (fun i => kc_20 (s := (sU s 2 t 1)) (e := (e)) (s' := (sU (sU s 37 0 0) 2 t 1)) (e' := (e)) rfl rfl rfl rfl i) (fun i => kc_21 (s := (sU s 2 t 1)) (e := (e)) (s' := (sU (sU s 37 0 0) 2 t 1)) (e' := (e)) rfl rfl i) (fun i => kc_22 (s := (sU s 2 t 1)) (e := (e)) (s' := (sU (sU s 37 0 0) 2 t 1)) (e' := (e)) rfl rfl i) (fun i => kc_23 (s := (sU s 2 t 1)) (e := (e)) (s' := (sU (sU s 37 0 0) 2 t 1)) (e' := (e)) rfl rfl rfl rfl rfl rfl rfl rfl i) (fun i => kc_24 (s := (sU s 2 t 1)) (e := (e)) (s' := (sU (sU s 37 0 0) 2 t 1)) (e' := (e)) rfl rfl rfl i) (fun i => kc_25 (s := (sU s 2 t 1)) (e := (e)) (s' := (sU (sU s 37 0 0) 2 t 1)) (e' := (e)) rfl rfl i) (fun i => kc_26 (s := (sU s 2 t 1)) (e := (e)) (s' := (sU (sU s 37 0 0) 2 t 1)) (e' := (e)) rfl rfl rfl i) (fun i => kc_27 (s := (sU s 2 t 1)) (e := (e)) (s' := (sU (sU s 37 0 0) 2 t 1)) (e' := (e)) rfl rfl i) (fun k i => rfl))
    exact jj_vret B dX8_shed_28 ⟨Nat.le_of_ble_eq_true rfl, Nat.le_of_ble_eq_true rfl⟩ (⟨rfl, htt, ad, rfl, (by unfold n_shed; first | (rw [if_pos htt]; exact hR) | exact hR | exact hR.c37)⟩)
  · skip
    exact jj_throwS B th_3 sr_X8_104 rfl (Or.inr ⟨(by unfold t_tape; (try rw [← hk]); (repeat (first | rw [if_pos (by omega)] | rw [if_neg (by omega)]))), rfl⟩) ⟨Nat.le_of_ble_eq_true rfl, Nat.le_of_ble_eq_true rfl, Nat.le_of_ble_eq_true rfl, Nat.le_of_ble_eq_true rfl⟩ dX8_shed_13 dX8_shed_16 dX8_shed_17 dX8_shed_19 dX8_shed_22
abbrev rm_X8_bake : Room := { frames := 7, cells := 2, slots := 12, locals := 112 }
set_option maxRecDepth 100000 in
set_option maxHeartbeats 400000 in
theorem x8_bake {l : Launch} {D : va_G} {ac : Nat → ClassId} (hl : l.stackTraces = false) {ad : Ad} {s e : Sg} {t : Int}  {G : jj_G} (hR : Rep ad (cC ac ad s e) G) {c : Int} (hI : sInv s c) (ht : jR t) : jj_C l D ac yX8_bake (.code yX8_bake cX8_bake 3 (some .int)) rm_X8_bake [.ref (ad 0 0), .int (jI t)] G (jj_pi (fun r G' => t_tape s t 1 = 0 ∧ r = r_bake s t ∧ ∃ ad', ad' 0 0 = ad 0 0 ∧ Rep ad' (cC ac ad' (n_bake s t) (e)) G')) (jp2 (t_tape s t 1) eB eS) := by
  refine jj_ofx (own := RX8) (lv0 := [some (.ref (ad 0 0)), some (.int (jI t)), none]) hl (by decide +kernel) rfl rfl (Nat.le_of_ble_eq_true rfl) rfl ?_
  intro X B hN hl0 hdg hac hin
  subst hl0; subst hdg; subst hac
  have F := B.F

  obtain ⟨hI1, hI2, hI3, hI4, hI5, hI6, hI7, hc⟩ := hI
  have i0 := hI1.1
  have i1 := hI1.2.1
  have i3 := hI3.1
  refine jj_aload0 F dX8_bake_0 ?_
  refine jj_iload1 F dX8_bake_1 ?_
  refine jj_callVq B (k := 1) (n := 6) (k8_tapeAt F.tr hR.1 (by omega) i1.2) lk_X8_73 (hR.at (k := 0) (i := 0) cc_0) cs_8 rfl rfl ⟨Nat.le_of_ble_eq_true rfl, Nat.le_of_ble_eq_true rfl, Nat.le_of_ble_eq_true rfl, Nat.le_of_ble_eq_true rfl, Nat.le_of_ble_eq_true rfl⟩ ⟨Nat.le_of_ble_eq_true rfl, Nat.le_of_ble_eq_true rfl, Nat.le_of_ble_eq_true rfl, Nat.le_of_ble_eq_true rfl⟩ (fun E h => ⟨rfl, by obtain ⟨rfl, hh⟩ := h; exact (Or.inl ⟨(by unfold t_tape; (try rw [← hk]); (repeat (first | rw [if_pos (by omega)] | rw [if_neg (by omega)]))), rfl⟩)⟩) dX8_bake_2 (fun r G h => ?_)
  obtain ⟨rfl, hrg, rfl⟩ := h
  refine jj_astore2 F dX8_bake_5 (hN _ (by decide)) rfl ?_
  refine jj_aload2 F dX8_bake_6 ?_
  refine jj_get F (hR.at (k := 16) (i := t) (if_pos (show 0 ≤ t ∧ t < s 1 0 by omega))) cs_7 (by decide) fd_X8_101 rfl dX8_bake_7 ?_
  refine jj_iconst F dX8_bake_10 ?_
  refine jj_icmp_eq F (tgt := 24) dX8_bake_11 rfl (by have := hI1.tape (t := t) (by omega); omega) (fun c11 => ?_) (fun c11 => ?_)
  · skip
    refine jj_aload2 F dX8_bake_24 ?_
    refine jj_iconst F dX8_bake_25 ?_
    refine c8_put F (ad := ad) hR (k := 16) (i := t) (if_pos (show 0 ≤ t ∧ t < s 1 0 by omega)) cs_7 (by decide) fd_X8_101 rfl rfl rfl (Nat.le_of_ble_eq_true rfl) dX8_bake_26 (fun G hR => ?_)
    have hR := hR.congr (C' := cC (jj_ac X) ad (sU s 2 t 2) (e)) (kcases (fun i => kc_0 (s := s) (e := (e)) (s' := (sU s 2 t 2)) (e' := (e)) rfl rfl rfl rfl i) (fun i => kc_1 (s := s) (e := (e)) (s' := (sU s 2 t 2)) (e' := (e)) rfl i) (fun i => kc_2 (s := s) (e := (e)) (s' := (sU s 2 t 2)) (e' := (e)) rfl i) (fun i => kc_3 (s := s) (e := (e)) (s' := (sU s 2 t 2)) (e' := (e)) rfl i) (fun i => kc_4 (s := s) (e := (e)) (s' := (sU s 2 t 2)) (e' := (e)) rfl i) (fun i => kc_5 (s := s) (e := (e)) (s' := (sU s 2 t 2)) (e' := (e)) rfl rfl i) (fun i => kc_6 (s := s) (e := (e)) (s' := (sU s 2 t 2)) (e' := (e)) rfl rfl i) (fun i => kc_7 (s := s) (e := (e)) (s' := (sU s 2 t 2)) (e' := (e)) rfl i) (fun i => kc_8 (s := s) (e := (e)) (s' := (sU s 2 t 2)) (e' := (e)) rfl i) (fun i => kc_9 (s := s) (e := (e)) (s' := (sU s 2 t 2)) (e' := (e)) rfl i) (fun i => kc_10 (s := s) (e := (e)) (s' := (sU s 2 t 2)) (e' := (e)) rfl i) (fun i => kc_11 (s := s) (e := (e)) (s' := (sU s 2 t 2)) (e' := (e)) rfl i) (fun i => kc_12 (s := s) (e := (e)) (s' := (sU s 2 t 2)) (e' := (e)) rfl i) (fun i => kc_13 (s := s) (e := (e)) (s' := (sU s 2 t 2)) (e' := (e)) rfl i) (fun i => kc_14 (s := s) (e := (e)) (s' := (sU s 2 t 2)) (e' := (e)) rfl i) (fun i => kc_15 (s := s) (e := (e)) (s' := (sU s 2 t 2)) (e' := (e)) rfl i) (kt_2 (by omega)) (fun i => kc_17 (s := s) (e := (e)) (s' := (sU s 2 t 2)) (e' := (e)) rfl rfl i) (fun i => kc_18 (s := s) (e := (e)) (s' := (sU s 2 t 2)) (e' := (e)) rfl rfl i) (fun i => kc_19 (s := s) (e := (e)) (s' := (sU s 2 t 2)) (e' := (e)) rfl rfl i) (fun i => kc_20 (s := s) (e := (e)) (s' := (sU s 2 t 2)) (e' := (e)) rfl rfl rfl rfl i) (fun i => kc_21 (s := s) (e := (e)) (s' := (sU s 2 t 2)) (e' := (e)) rfl rfl i) (fun i => kc_22 (s := s) (e := (e)) (s' := (sU s 2 t 2)) (e' := (e)) rfl rfl i) (fun i => kc_23 (s := s) (e := (e)) (s' := (sU s 2 t 2)) (e' := (e)) rfl rfl rfl rfl rfl rfl rfl rfl i) (fun i => kc_24 (s := s) (e := (e)) (s' := (sU s 2 t 2)) (e' := (e)) rfl rfl rfl i) (fun i => kc_25 (s := s) (e := (e)) (s' := (sU s 2 t 2)) (e' := (e)) rfl rfl i) (fun i => kc_26 (s := s) (e := (e)) (s' := (sU s 2 t 2)) (e' := (e)) rfl rfl rfl i) (fun i => kc_27 (s := s) (e := (e)) (s' := (sU s 2 t 2)) (e' := (e)) rfl rfl i) (fun k i => rfl))
    refine jj_aload2 F dX8_bake_29 ?_
    refine jj_aload0 F dX8_bake_30 ?_
    refine jj_get F (hR.at (k := 0) (i := 0) cc_0) cs_8 (by decide) fd_X8_108 rfl dX8_bake_31 ?_
    refine c8_put F (ad := ad) hR (k := 16) (i := t) (if_pos (show 0 ≤ t ∧ t < s 1 0 by omega)) cs_7 (by decide) fd_X8_111 rfl rfl rfl (Nat.le_of_ble_eq_true rfl) dX8_bake_34 (fun G hR => ?_)
    refine jj_aload0 F dX8_bake_37 ?_
    refine jj_get F (hR.at (k := 0) (i := 0) ((cU_k (by decide)).trans cc_0)) cs_8 (by decide) fd_X8_108 rfl dX8_bake_38 ?_
    refine jj_bipush F (by decide) dX8_bake_41 ?_
    refine jj_iadd F dX8_bake_43 ?_
    have htt : t_tape s t 1 = 0 := by unfold t_tape; (try rw [← hk]); (repeat (first | rw [if_pos (by omega)] | rw [if_neg (by omega)]))
    have hR := hR.congr (C' := cC (jj_ac X) ad (sU (sU s 2 t 2) 3 t (s 0 0)) (e)) (kcases (fun i => kc_0 (s := (sU s 2 t 2)) (e := (e)) (s' := (sU (sU s 2 t 2) 3 t (s 0 0))) (e' := (e)) rfl rfl rfl rfl i) (fun i => kc_1 (s := (sU s 2 t 2)) (e := (e)) (s' := (sU (sU s 2 t 2) 3 t (s 0 0))) (e' := (e)) rfl i) (fun i => kc_2 (s := (sU s 2 t 2)) (e := (e)) (s' := (sU (sU s 2 t 2) 3 t (s 0 0))) (e' := (e)) rfl i) (fun i => kc_3 (s := (sU s 2 t 2)) (e := (e)) (s' := (sU (sU s 2 t 2) 3 t (s 0 0))) (e' := (e)) rfl i) (fun i => kc_4 (s := (sU s 2 t 2)) (e := (e)) (s' := (sU (sU s 2 t 2) 3 t (s 0 0))) (e' := (e)) rfl i) (fun i => kc_5 (s := (sU s 2 t 2)) (e := (e)) (s' := (sU (sU s 2 t 2) 3 t (s 0 0))) (e' := (e)) rfl rfl i) (fun i => kc_6 (s := (sU s 2 t 2)) (e := (e)) (s' := (sU (sU s 2 t 2) 3 t (s 0 0))) (e' := (e)) rfl rfl i) (fun i => kc_7 (s := (sU s 2 t 2)) (e := (e)) (s' := (sU (sU s 2 t 2) 3 t (s 0 0))) (e' := (e)) rfl i) (fun i => kc_8 (s := (sU s 2 t 2)) (e := (e)) (s' := (sU (sU s 2 t 2) 3 t (s 0 0))) (e' := (e)) rfl i) (fun i => kc_9 (s := (sU s 2 t 2)) (e := (e)) (s' := (sU (sU s 2 t 2) 3 t (s 0 0))) (e' := (e)) rfl i) (fun i => kc_10 (s := (sU s 2 t 2)) (e := (e)) (s' := (sU (sU s 2 t 2) 3 t (s 0 0))) (e' := (e)) rfl i) (fun i => kc_11 (s := (sU s 2 t 2)) (e := (e)) (s' := (sU (sU s 2 t 2) 3 t (s 0 0))) (e' := (e)) rfl i) (fun i => kc_12 (s := (sU s 2 t 2)) (e := (e)) (s' := (sU (sU s 2 t 2) 3 t (s 0 0))) (e' := (e)) rfl i) (fun i => kc_13 (s := (sU s 2 t 2)) (e := (e)) (s' := (sU (sU s 2 t 2) 3 t (s 0 0))) (e' := (e)) rfl i) (fun i => kc_14 (s := (sU s 2 t 2)) (e := (e)) (s' := (sU (sU s 2 t 2) 3 t (s 0 0))) (e' := (e)) rfl i) (fun i => kc_15 (s := (sU s 2 t 2)) (e := (e)) (s' := (sU (sU s 2 t 2) 3 t (s 0 0))) (e' := (e)) rfl i) (kt_3 (s := sU s 2 t 2) (x := s 0 0) (show 0 ≤ t ∧ t < s 1 0 by omega)) (fun i => kc_17 (s := (sU s 2 t 2)) (e := (e)) (s' := (sU (sU s 2 t 2) 3 t (s 0 0))) (e' := (e)) rfl rfl i) (fun i => kc_18 (s := (sU s 2 t 2)) (e := (e)) (s' := (sU (sU s 2 t 2) 3 t (s 0 0))) (e' := (e)) rfl rfl i) (fun i => kc_19 (s := (sU s 2 t 2)) (e := (e)) (s' := (sU (sU s 2 t 2) 3 t (s 0 0))) (e' := (e)) rfl rfl i) (fun i => kc_20 (s := (sU s 2 t 2)) (e := (e)) (s' := (sU (sU s 2 t 2) 3 t (s 0 0))) (e' := (e)) rfl rfl rfl rfl i) (fun i => kc_21 (s := (sU s 2 t 2)) (e := (e)) (s' := (sU (sU s 2 t 2) 3 t (s 0 0))) (e' := (e)) rfl rfl i) (fun i => kc_22 (s := (sU s 2 t 2)) (e := (e)) (s' := (sU (sU s 2 t 2) 3 t (s 0 0))) (e' := (e)) rfl rfl i) (fun i => kc_23 (s := (sU s 2 t 2)) (e := (e)) (s' := (sU (sU s 2 t 2) 3 t (s 0 0))) (e' := (e)) rfl rfl rfl rfl rfl rfl rfl rfl i) (fun i => kc_24 (s := (sU s 2 t 2)) (e := (e)) (s' := (sU (sU s 2 t 2) 3 t (s 0 0))) (e' := (e)) rfl rfl rfl i) (fun i => kc_25 (s := (sU s 2 t 2)) (e := (e)) (s' := (sU (sU s 2 t 2) 3 t (s 0 0))) (e' := (e)) rfl rfl i) (fun i => kc_26 (s := (sU s 2 t 2)) (e := (e)) (s' := (sU (sU s 2 t 2) 3 t (s 0 0))) (e' := (e)) rfl rfl rfl i) (fun i => kc_27 (s := (sU s 2 t 2)) (e := (e)) (s' := (sU (sU s 2 t 2) 3 t (s 0 0))) (e' := (e)) rfl rfl i) (fun k i => rfl))
    have hR := hR.congr (C' := cC (jj_ac X) ad (sU (sU (sU s 37 0 0) 2 t 2) 3 t (s 0 0)) (e)) (kcases (fun i => kc_0 (s := (sU (sU s 2 t 2) 3 t (s 0 0))) (e := (e)) (s' := (sU (sU (sU s 37 0 0) 2 t 2) 3 t (s 0 0))) (e' := (e)) rfl rfl rfl rfl i) (fun i => kc_1 (s := (sU (sU s 2 t 2) 3 t (s 0 0))) (e := (e)) (s' := (sU (sU (sU s 37 0 0) 2 t 2) 3 t (s 0 0))) (e' := (e)) rfl i) (fun i => kc_2 (s := (sU (sU s 2 t 2) 3 t (s 0 0))) (e := (e)) (s' := (sU (sU (sU s 37 0 0) 2 t 2) 3 t (s 0 0))) (e' := (e)) rfl i) (fun i => kc_3 (s := (sU (sU s 2 t 2) 3 t (s 0 0))) (e := (e)) (s' := (sU (sU (sU s 37 0 0) 2 t 2) 3 t (s 0 0))) (e' := (e)) rfl i) (fun i => kc_4 (s := (sU (sU s 2 t 2) 3 t (s 0 0))) (e := (e)) (s' := (sU (sU (sU s 37 0 0) 2 t 2) 3 t (s 0 0))) (e' := (e)) rfl i) (fun i => kc_5 (s := (sU (sU s 2 t 2) 3 t (s 0 0))) (e := (e)) (s' := (sU (sU (sU s 37 0 0) 2 t 2) 3 t (s 0 0))) (e' := (e)) rfl rfl i) (fun i => kc_6 (s := (sU (sU s 2 t 2) 3 t (s 0 0))) (e := (e)) (s' := (sU (sU (sU s 37 0 0) 2 t 2) 3 t (s 0 0))) (e' := (e)) rfl rfl i) (fun i => kc_7 (s := (sU (sU s 2 t 2) 3 t (s 0 0))) (e := (e)) (s' := (sU (sU (sU s 37 0 0) 2 t 2) 3 t (s 0 0))) (e' := (e)) rfl i) (fun i => kc_8 (s := (sU (sU s 2 t 2) 3 t (s 0 0))) (e := (e)) (s' := (sU (sU (sU s 37 0 0) 2 t 2) 3 t (s 0 0))) (e' := (e)) rfl i) (fun i => kc_9 (s := (sU (sU s 2 t 2) 3 t (s 0 0))) (e := (e)) (s' := (sU (sU (sU s 37 0 0) 2 t 2) 3 t (s 0 0))) (e' := (e)) rfl i) (fun i => kc_10 (s := (sU (sU s 2 t 2) 3 t (s 0 0))) (e := (e)) (s' := (sU (sU (sU s 37 0 0) 2 t 2) 3 t (s 0 0))) (e' := (e)) rfl i) (fun i => kc_11 (s := (sU (sU s 2 t 2) 3 t (s 0 0))) (e := (e)) (s' := (sU (sU (sU s 37 0 0) 2 t 2) 3 t (s 0 0))) (e' := (e)) rfl i) (fun i => kc_12 (s := (sU (sU s 2 t 2) 3 t (s 0 0))) (e := (e)) (s' := (sU (sU (sU s 37 0 0) 2 t 2) 3 t (s 0 0))) (e' := (e)) rfl i) (fun i => kc_13 (s := (sU (sU s 2 t 2) 3 t (s 0 0))) (e := (e)) (s' := (sU (sU (sU s 37 0 0) 2 t 2) 3 t (s 0 0))) (e' := (e)) rfl i) (fun i => kc_14 (s := (sU (sU s 2 t 2) 3 t (s 0 0))) (e := (e)) (s' := (sU (sU (sU s 37 0 0) 2 t 2) 3 t (s 0 0))) (e' := (e)) rfl i) (fun i => kc_15 (s := (sU (sU s 2 t 2) 3 t (s 0 0))) (e := (e)) (s' := (sU (sU (sU s 37 0 0) 2 t 2) 3 t (s 0 0))) (e' := (e)) rfl i) (fun i => kc_16 (s := (sU (sU s 2 t 2) 3 t (s 0 0))) (e := (e)) (s' := (sU (sU (sU s 37 0 0) 2 t 2) 3 t (s 0 0))) (e' := (e)) rfl rfl rfl rfl rfl rfl rfl rfl rfl rfl rfl rfl rfl i) (fun i => kc_17 (s := (sU (sU s 2 t 2) 3 t (s 0 0))) (e := (e)) (s' := (sU (sU (sU s 37 0 0) 2 t 2) 3 t (s 0 0))) (e' := (e)) rfl rfl i) (fun i => kc_18 (s := (sU (sU s 2 t 2) 3 t (s 0 0))) (e := (e)) (s' := (sU (sU (sU s 37 0 0) 2 t 2) 3 t (s 0 0))) (e' := (e)) rfl rfl i) (fun i => kc_19 (s := (sU (sU s 2 t 2) 3 t (s 0 0))) (e := (e)) (s' := (sU (sU (sU s 37 0 0) 2 t 2) 3 t (s 0 0))) (e' := (e)) rfl rfl i) (fun i => kc_20 (s := (sU (sU s 2 t 2) 3 t (s 0 0))) (e := (e)) (s' := (sU (sU (sU s 37 0 0) 2 t 2) 3 t (s 0 0))) (e' := (e)) rfl rfl rfl rfl i) (fun i => kc_21 (s := (sU (sU s 2 t 2) 3 t (s 0 0))) (e := (e)) (s' := (sU (sU (sU s 37 0 0) 2 t 2) 3 t (s 0 0))) (e' := (e)) rfl rfl i) (fun i => kc_22 (s := (sU (sU s 2 t 2) 3 t (s 0 0))) (e := (e)) (s' := (sU (sU (sU s 37 0 0) 2 t 2) 3 t (s 0 0))) (e' := (e)) rfl rfl i) (fun i => kc_23 (s := (sU (sU s 2 t 2) 3 t (s 0 0))) (e := (e)) (s' := (sU (sU (sU s 37 0 0) 2 t 2) 3 t (s 0 0))) (e' := (e)) rfl rfl rfl rfl rfl rfl rfl rfl i) (fun i => kc_24 (s := (sU (sU s 2 t 2) 3 t (s 0 0))) (e := (e)) (s' := (sU (sU (sU s 37 0 0) 2 t 2) 3 t (s 0 0))) (e' := (e)) rfl rfl rfl i) (fun i => kc_25 (s := (sU (sU s 2 t 2) 3 t (s 0 0))) (e := (e)) (s' := (sU (sU (sU s 37 0 0) 2 t 2) 3 t (s 0 0))) (e' := (e)) rfl rfl i) (fun i => kc_26 (s := (sU (sU s 2 t 2) 3 t (s 0 0))) (e := (e)) (s' := (sU (sU (sU s 37 0 0) 2 t 2) 3 t (s 0 0))) (e' := (e)) rfl rfl rfl i) (fun i => kc_27 (s := (sU (sU s 2 t 2) 3 t (s 0 0))) (e := (e)) (s' := (sU (sU (sU s 37 0 0) 2 t 2) 3 t (s 0 0))) (e' := (e)) rfl rfl i) (fun k i => rfl))
    exact jj_iret B dX8_bake_44 ⟨Nat.le_of_ble_eq_true rfl, Nat.le_of_ble_eq_true rfl⟩ (⟨_, rfl, htt, (by unfold r_bake; refine Eq.trans ?_ (if_pos htt).symm; rfl), ad, rfl, (by unfold n_bake; first | (rw [if_pos htt]; exact hR) | exact hR | exact hR.c37)⟩)
  · skip
    exact jj_throwS B th_3 sr_X8_106 rfl (Or.inr ⟨(by unfold t_tape; (try rw [← hk]); (repeat (first | rw [if_pos (by omega)] | rw [if_neg (by omega)]))), rfl⟩) ⟨Nat.le_of_ble_eq_true rfl, Nat.le_of_ble_eq_true rfl, Nat.le_of_ble_eq_true rfl, Nat.le_of_ble_eq_true rfl⟩ dX8_bake_14 dX8_bake_17 dX8_bake_18 dX8_bake_20 dX8_bake_23
abbrev rm_X8_tapeIs : Room := { frames := 7, cells := 2, slots := 12, locals := 112 }
set_option maxRecDepth 100000 in
set_option maxHeartbeats 400000 in
theorem x8_tapeIs {l : Launch} {D : va_G} {ac : Nat → ClassId} (hl : l.stackTraces = false) {ad : Ad} {s e : Sg} {t x : Int}  {G : jj_G} (hR : Rep ad (cC ac ad s e) G) {c : Int} (hI : sInv s c) (ht : jR t) (hx : jR x) : jj_C l D ac yX8_tapeIs (.code yX8_tapeIs cX8_tapeIs 4 (some .int)) rm_X8_tapeIs [.ref (ad 0 0), .int (jI t), .int (jI x)] G (jj_pi (fun r G' => t_tapeIs s t x = 0 ∧ r = r_tapeIs s t x ∧ ∃ ad', ad' 0 0 = ad 0 0 ∧ Rep ad' (cC ac ad' (n_tapeIs s t x) (e)) G')) (jp2 (t_tapeIs s t x) eB eA) := by
  refine jj_ofx (own := RX8) (lv0 := [some (.ref (ad 0 0)), some (.int (jI t)), some (.int (jI x)), none]) hl (by decide +kernel) rfl rfl (Nat.le_of_ble_eq_true rfl) rfl ?_
  intro X B hN hl0 hdg hac hin
  subst hl0; subst hdg; subst hac
  have F := B.F

  obtain ⟨hI1, hI2, hI3, hI4, hI5, hI6, hI7, hc⟩ := hI
  have i0 := hI1.1
  have i1 := hI1.2.1
  have i3 := hI3.1
  refine jj_aload0 F dX8_tapeIs_0 ?_
  refine jj_iload1 F dX8_tapeIs_1 ?_
  refine jj_callVq B (k := 1) (n := 6) (k8_tapeAt F.tr hR.1 (by omega) i1.2) lk_X8_73 (hR.at (k := 0) (i := 0) cc_0) cs_8 rfl rfl ⟨Nat.le_of_ble_eq_true rfl, Nat.le_of_ble_eq_true rfl, Nat.le_of_ble_eq_true rfl, Nat.le_of_ble_eq_true rfl, Nat.le_of_ble_eq_true rfl⟩ ⟨Nat.le_of_ble_eq_true rfl, Nat.le_of_ble_eq_true rfl, Nat.le_of_ble_eq_true rfl, Nat.le_of_ble_eq_true rfl⟩ (fun E h => ⟨rfl, by obtain ⟨rfl, hh⟩ := h; exact (Or.inl ⟨(by unfold t_tapeIs; (try rw [← hk]); (repeat (first | rw [if_pos (by omega)] | rw [if_neg (by omega)]))), rfl⟩)⟩) dX8_tapeIs_2 (fun r G h => ?_)
  obtain ⟨rfl, hrg, rfl⟩ := h
  refine jj_astore3 F dX8_tapeIs_5 (hN _ (by decide)) rfl ?_
  refine jj_iload2 F dX8_tapeIs_6 ?_
  have hsw7 : (x < 0 ∨ 5 < x) ∨ x = 0 ∨ x = 1 ∨ x = 2 ∨ x = 3 ∨ x = 4 ∨ x = 5 := by omega
  rcases hsw7 with hsw7 | hsw7 | hsw7 | hsw7 | hsw7 | hsw7 | hsw7
  · skip
    refine jj_tableOut F (tgt := 86) dX8_tapeIs_7 rfl (by omega) hsw7 ?_
    exact jj_throwS B th_2 sr_X8_124 rfl (Or.inr ⟨(by unfold t_tapeIs; (try rw [← hk]); (repeat (first | rw [if_pos (by omega)] | rw [if_neg (by omega)]))), rfl⟩) ⟨Nat.le_of_ble_eq_true rfl, Nat.le_of_ble_eq_true rfl, Nat.le_of_ble_eq_true rfl, Nat.le_of_ble_eq_true rfl⟩ dX8_tapeIs_86 dX8_tapeIs_89 dX8_tapeIs_90 dX8_tapeIs_92 dX8_tapeIs_95
  · skip
    refine jj_tableIn F (off := 37) (tgt := 44) dX8_tapeIs_7 (by omega) (by omega) (by rw [hsw7]; rfl) rfl ?_
    refine jj_aload3 F dX8_tapeIs_44 ?_
    refine jj_get F (hR.at (k := 16) (i := t) (if_pos (show 0 ≤ t ∧ t < s 1 0 by omega))) cs_7 (by decide) fd_X8_101 rfl dX8_tapeIs_45 ?_
    have htt : t_tapeIs s t x = 0 := by unfold t_tapeIs; (try rw [← hk]); (repeat (first | rw [if_pos (by omega)] | rw [if_neg (by omega)]))
    exact jj_iret B dX8_tapeIs_48 ⟨Nat.le_of_ble_eq_true rfl, Nat.le_of_ble_eq_true rfl⟩ (⟨_, rfl, htt, (by unfold r_tapeIs; refine Eq.trans ?_ (if_pos htt).symm; have hpl := sPlay_01 s t; (repeat (first | rw [if_pos (by omega)] | rw [if_neg (by omega)])); try (first | rfl | omega)), ad, rfl, (by unfold n_tapeIs; first | (rw [if_pos htt]; exact hR) | exact hR | exact hR.c37)⟩)
  · skip
    refine jj_tableIn F (off := 42) (tgt := 49) dX8_tapeIs_7 (by omega) (by omega) (by rw [hsw7]; rfl) rfl ?_
    refine jj_aload3 F dX8_tapeIs_49 ?_
    refine jj_aload0 F dX8_tapeIs_50 ?_
    refine jj_get F (hR.at (k := 0) (i := 0) cc_0) cs_8 (by decide) fd_X8_108 rfl dX8_tapeIs_51 ?_
    refine jj_callVr B (k := 1) (n := 6) (k7_isPlayable F.tr hR.1 hI1 (by omega) hI1.1) lk_X8_117 (hR.at (k := 16) (i := t) (if_pos (show 0 ≤ t ∧ t < s 1 0 by omega))) cs_7 rfl rfl ⟨Nat.le_of_ble_eq_true rfl, Nat.le_of_ble_eq_true rfl, Nat.le_of_ble_eq_true rfl, Nat.le_of_ble_eq_true rfl, Nat.le_of_ble_eq_true rfl⟩ ⟨Nat.le_of_ble_eq_true rfl, Nat.le_of_ble_eq_true rfl, Nat.le_of_ble_eq_true rfl, Nat.le_of_ble_eq_true rfl⟩ jj_tx0 dX8_tapeIs_54 ?_
    refine jj_eqi (b := sPlay s t) rfl ?_
    refine jj_if_eq F (tgt := 64) dX8_tapeIs_57 rfl (by have := sPlay_01 s t; omega) (fun c57 => ?_) (fun c57 => ?_)
    · skip
      refine jj_iconst F dX8_tapeIs_64 ?_
      have htt : t_tapeIs s t x = 0 := by unfold t_tapeIs; (try rw [← hk]); (repeat (first | rw [if_pos (by omega)] | rw [if_neg (by omega)]))
      exact jj_iret B dX8_tapeIs_65 ⟨Nat.le_of_ble_eq_true rfl, Nat.le_of_ble_eq_true rfl⟩ (⟨_, rfl, htt, (by unfold r_tapeIs; refine Eq.trans ?_ (if_pos htt).symm; have hpl := sPlay_01 s t; (repeat (first | rw [if_pos (by omega)] | rw [if_neg (by omega)])); try (first | rfl | omega)), ad, rfl, (by unfold n_tapeIs; first | (rw [if_pos htt]; exact hR) | exact hR | exact hR.c37)⟩)
    · skip
      refine jj_iconst F dX8_tapeIs_60 ?_
      refine jj_goto F (tgt := 65) dX8_tapeIs_61 rfl ?_
      have htt : t_tapeIs s t x = 0 := by unfold t_tapeIs; (try rw [← hk]); (repeat (first | rw [if_pos (by omega)] | rw [if_neg (by omega)]))
      exact jj_iret B dX8_tapeIs_65 ⟨Nat.le_of_ble_eq_true rfl, Nat.le_of_ble_eq_true rfl⟩ (⟨_, rfl, htt, (by unfold r_tapeIs; refine Eq.trans ?_ (if_pos htt).symm; have hpl := sPlay_01 s t; (repeat (first | rw [if_pos (by omega)] | rw [if_neg (by omega)])); try (first | rfl | omega)), ad, rfl, (by unfold n_tapeIs; first | (rw [if_pos htt]; exact hR) | exact hR | exact hR.c37)⟩)
  · skip
    refine jj_tableIn F (off := 59) (tgt := 66) dX8_tapeIs_7 (by omega) (by omega) (by rw [hsw7]; rfl) rfl ?_
    refine jj_aload3 F dX8_tapeIs_66 ?_
    refine jj_get F (hR.at (k := 16) (i := t) (if_pos (show 0 ≤ t ∧ t < s 1 0 by omega))) cs_7 (by decide) fd_X8_77 rfl dX8_tapeIs_67 ?_
    have htt : t_tapeIs s t x = 0 := by unfold t_tapeIs; (try rw [← hk]); (repeat (first | rw [if_pos (by omega)] | rw [if_neg (by omega)]))
    exact jj_iret B dX8_tapeIs_70 ⟨Nat.le_of_ble_eq_true rfl, Nat.le_of_ble_eq_true rfl⟩ (⟨_, rfl, htt, (by unfold r_tapeIs; refine Eq.trans ?_ (if_pos htt).symm; have hpl := sPlay_01 s t; (repeat (first | rw [if_pos (by omega)] | rw [if_neg (by omega)])); try (first | rfl | omega)), ad, rfl, (by unfold n_tapeIs; first | (rw [if_pos htt]; exact hR) | exact hR | exact hR.c37)⟩)
  · skip
    refine jj_tableIn F (off := 64) (tgt := 71) dX8_tapeIs_7 (by omega) (by omega) (by rw [hsw7]; rfl) rfl ?_
    refine jj_aload3 F dX8_tapeIs_71 ?_
    refine jj_get F (hR.at (k := 16) (i := t) (if_pos (show 0 ≤ t ∧ t < s 1 0 by omega))) cs_7 (by decide) fd_X8_121 rfl dX8_tapeIs_72 ?_
    have htt : t_tapeIs s t x = 0 := by unfold t_tapeIs; (try rw [← hk]); (repeat (first | rw [if_pos (by omega)] | rw [if_neg (by omega)]))
    exact jj_iret B dX8_tapeIs_75 ⟨Nat.le_of_ble_eq_true rfl, Nat.le_of_ble_eq_true rfl⟩ (⟨_, rfl, htt, (by unfold r_tapeIs; refine Eq.trans ?_ (if_pos htt).symm; have hpl := sPlay_01 s t; (repeat (first | rw [if_pos (by omega)] | rw [if_neg (by omega)])); try (first | rfl | omega)), ad, rfl, (by unfold n_tapeIs; first | (rw [if_pos htt]; exact hR) | exact hR | exact hR.c37)⟩)
  · skip
    refine jj_tableIn F (off := 69) (tgt := 76) dX8_tapeIs_7 (by omega) (by omega) (by rw [hsw7]; rfl) rfl ?_
    refine jj_aload3 F dX8_tapeIs_76 ?_
    refine jj_get F (hR.at (k := 16) (i := t) (if_pos (show 0 ≤ t ∧ t < s 1 0 by omega))) cs_7 (by decide) fd_X8_114 rfl dX8_tapeIs_77 ?_
    have htt : t_tapeIs s t x = 0 := by unfold t_tapeIs; (try rw [← hk]); (repeat (first | rw [if_pos (by omega)] | rw [if_neg (by omega)]))
    exact jj_iret B dX8_tapeIs_80 ⟨Nat.le_of_ble_eq_true rfl, Nat.le_of_ble_eq_true rfl⟩ (⟨_, rfl, htt, (by unfold r_tapeIs; refine Eq.trans ?_ (if_pos htt).symm; have hpl := sPlay_01 s t; (repeat (first | rw [if_pos (by omega)] | rw [if_neg (by omega)])); try (first | rfl | omega)), ad, rfl, (by unfold n_tapeIs; first | (rw [if_pos htt]; exact hR) | exact hR | exact hR.c37)⟩)
  · skip
    refine jj_tableIn F (off := 74) (tgt := 81) dX8_tapeIs_7 (by omega) (by omega) (by rw [hsw7]; rfl) rfl ?_
    refine jj_aload3 F dX8_tapeIs_81 ?_
    refine jj_get F (hR.at (k := 16) (i := t) (if_pos (show 0 ≤ t ∧ t < s 1 0 by omega))) cs_7 (by decide) fd_X8_90 rfl dX8_tapeIs_82 ?_
    have htt : t_tapeIs s t x = 0 := by unfold t_tapeIs; (try rw [← hk]); (repeat (first | rw [if_pos (by omega)] | rw [if_neg (by omega)]))
    exact jj_iret B dX8_tapeIs_85 ⟨Nat.le_of_ble_eq_true rfl, Nat.le_of_ble_eq_true rfl⟩ (⟨_, rfl, htt, (by unfold r_tapeIs; refine Eq.trans ?_ (if_pos htt).symm; have hpl := sPlay_01 s t; (repeat (first | rw [if_pos (by omega)] | rw [if_neg (by omega)])); try (first | rfl | omega)), ad, rfl, (by unfold n_tapeIs; first | (rw [if_pos htt]; exact hR) | exact hR | exact hR.c37)⟩)
abbrev rm_X8_heard : Room := { frames := 7, cells := 2, slots := 12, locals := 112 }
set_option maxRecDepth 100000 in
set_option maxHeartbeats 400000 in
theorem x8_heard {l : Launch} {D : va_G} {ac : Nat → ClassId} (hl : l.stackTraces = false) {ad : Ad} {s e : Sg} {t x : Int}  {G : jj_G} (hR : Rep ad (cC ac ad s e) G) {c : Int} (hI : sInv s c) (ht : jR t) (hx : jR x) : jj_C l D ac yX8_heard (.code yX8_heard cX8_heard 4 (some .int)) rm_X8_heard [.ref (ad 0 0), .int (jI t), .int (jI x)] G (jj_pi (fun r G' => t_heard s t x = 0 ∧ r = r_heard s t x ∧ ∃ ad', ad' 0 0 = ad 0 0 ∧ Rep ad' (cC ac ad' (n_heard s t x) (e)) G')) (jp2 (t_heard s t x) eB eA) := by
  refine jj_ofx (own := RX8) (lv0 := [some (.ref (ad 0 0)), some (.int (jI t)), some (.int (jI x)), none]) hl (by decide +kernel) rfl rfl (Nat.le_of_ble_eq_true rfl) rfl ?_
  intro X B hN hl0 hdg hac hin
  subst hl0; subst hdg; subst hac
  have F := B.F

  obtain ⟨hI1, hI2, hI3, hI4, hI5, hI6, hI7, hc⟩ := hI
  have i0 := hI1.1
  have i1 := hI1.2.1
  have i3 := hI3.1
  refine jj_aload0 F dX8_heard_0 ?_
  refine jj_iload1 F dX8_heard_1 ?_
  refine jj_callVq B (k := 1) (n := 6) (k8_tapeAt F.tr hR.1 (by omega) i1.2) lk_X8_73 (hR.at (k := 0) (i := 0) cc_0) cs_8 rfl rfl ⟨Nat.le_of_ble_eq_true rfl, Nat.le_of_ble_eq_true rfl, Nat.le_of_ble_eq_true rfl, Nat.le_of_ble_eq_true rfl, Nat.le_of_ble_eq_true rfl⟩ ⟨Nat.le_of_ble_eq_true rfl, Nat.le_of_ble_eq_true rfl, Nat.le_of_ble_eq_true rfl, Nat.le_of_ble_eq_true rfl⟩ (fun E h => ⟨rfl, by obtain ⟨rfl, hh⟩ := h; exact (Or.inl ⟨(by unfold t_heard; (try rw [← hk]); (repeat (first | rw [if_pos (by omega)] | rw [if_neg (by omega)]))), rfl⟩)⟩) dX8_heard_2 (fun r G h => ?_)
  obtain ⟨rfl, hrg, rfl⟩ := h
  refine jj_astore3 F dX8_heard_5 (hN _ (by decide)) rfl ?_
  refine jj_iload2 F dX8_heard_6 ?_
  refine jj_if_ge F (tgt := 20) dX8_heard_7 rfl (by omega) (fun c7 => ?_) (fun c7 => ?_)
  · skip
    refine jj_aload3 F dX8_heard_20 ?_
    refine jj_iload2 F dX8_heard_21 ?_
    refine jj_callVr B (k := 1) (n := 6) (k7_heardAt F.tr hR.1 hI1 (by omega) hx) lk_X8_128 (hR.at (k := 16) (i := t) (if_pos (show 0 ≤ t ∧ t < s 1 0 by omega))) cs_7 rfl rfl ⟨Nat.le_of_ble_eq_true rfl, Nat.le_of_ble_eq_true rfl, Nat.le_of_ble_eq_true rfl, Nat.le_of_ble_eq_true rfl, Nat.le_of_ble_eq_true rfl⟩ ⟨Nat.le_of_ble_eq_true rfl, Nat.le_of_ble_eq_true rfl, Nat.le_of_ble_eq_true rfl, Nat.le_of_ble_eq_true rfl⟩ jj_tx0 dX8_heard_22 ?_
    have htt : t_heard s t x = 0 := by unfold t_heard; (try rw [← hk]); (repeat (first | rw [if_pos (by omega)] | rw [if_neg (by omega)]))
    exact jj_iret B dX8_heard_25 ⟨Nat.le_of_ble_eq_true rfl, Nat.le_of_ble_eq_true rfl⟩ (⟨_, rfl, htt, (by unfold r_heard; refine Eq.trans ?_ (if_pos htt).symm; rfl), ad, rfl, (by unfold n_heard; first | (rw [if_pos htt]; exact hR) | exact hR | exact hR.c37)⟩)
  · skip
    exact jj_throwS B th_2 sr_X8_126 rfl (Or.inr ⟨(by unfold t_heard; (try rw [← hk]); (repeat (first | rw [if_pos (by omega)] | rw [if_neg (by omega)]))), rfl⟩) ⟨Nat.le_of_ble_eq_true rfl, Nat.le_of_ble_eq_true rfl, Nat.le_of_ble_eq_true rfl, Nat.le_of_ble_eq_true rfl⟩ dX8_heard_10 dX8_heard_13 dX8_heard_14 dX8_heard_16 dX8_heard_19
abbrev rm_X8_takes : Room := { frames := 7, cells := 2, slots := 12, locals := 112 }
set_option maxRecDepth 100000 in
set_option maxHeartbeats 400000 in
theorem x8_takes {l : Launch} {D : va_G} {ac : Nat → ClassId} (hl : l.stackTraces = false) {ad : Ad} {s e : Sg} {t : Int}  {G : jj_G} (hR : Rep ad (cC ac ad s e) G) {c : Int} (hI : sInv s c) (ht : jR t) : jj_C l D ac yX8_takes (.code yX8_takes cX8_takes 2 (some .int)) rm_X8_takes [.ref (ad 0 0), .int (jI t)] G (jj_pi (fun r G' => t_is s t = 0 ∧ r = r_takes s t ∧ ∃ ad', ad' 0 0 = ad 0 0 ∧ Rep ad' (cC ac ad' (n_takes s t) (e)) G')) (jp1 (t_is s t) eB) := by
  refine jj_ofx (own := RX8) (lv0 := [some (.ref (ad 0 0)), some (.int (jI t))]) hl (by decide +kernel) rfl rfl (Nat.le_of_ble_eq_true rfl) rfl ?_
  intro X B hN hl0 hdg hac hin
  subst hl0; subst hdg; subst hac
  have F := B.F

  obtain ⟨hI1, hI2, hI3, hI4, hI5, hI6, hI7, hc⟩ := hI
  have i0 := hI1.1
  have i1 := hI1.2.1
  have i3 := hI3.1
  refine jj_aload0 F dX8_takes_0 ?_
  refine jj_iload1 F dX8_takes_1 ?_
  refine jj_callVq B (k := 1) (n := 6) (k8_tapeAt F.tr hR.1 (by omega) i1.2) lk_X8_73 (hR.at (k := 0) (i := 0) cc_0) cs_8 rfl rfl ⟨Nat.le_of_ble_eq_true rfl, Nat.le_of_ble_eq_true rfl, Nat.le_of_ble_eq_true rfl, Nat.le_of_ble_eq_true rfl, Nat.le_of_ble_eq_true rfl⟩ ⟨Nat.le_of_ble_eq_true rfl, Nat.le_of_ble_eq_true rfl, Nat.le_of_ble_eq_true rfl, Nat.le_of_ble_eq_true rfl⟩ (fun E h => ⟨rfl, by obtain ⟨rfl, hh⟩ := h; exact ⟨(by unfold t_is; (try rw [← hk]); (repeat (first | rw [if_pos (by omega)] | rw [if_neg (by omega)]))), rfl⟩⟩) dX8_takes_2 (fun r G h => ?_)
  obtain ⟨rfl, hrg, rfl⟩ := h
  refine jj_callVr B (k := 1) (n := 6) (k7_takeSet F.tr hR.1 hI1 (by omega)) lk_X8_132 (hR.at (k := 16) (i := t) (if_pos (show 0 ≤ t ∧ t < s 1 0 by omega))) cs_7 rfl rfl ⟨Nat.le_of_ble_eq_true rfl, Nat.le_of_ble_eq_true rfl, Nat.le_of_ble_eq_true rfl, Nat.le_of_ble_eq_true rfl, Nat.le_of_ble_eq_true rfl⟩ ⟨Nat.le_of_ble_eq_true rfl, Nat.le_of_ble_eq_true rfl, Nat.le_of_ble_eq_true rfl, Nat.le_of_ble_eq_true rfl⟩ jj_tx0 dX8_takes_5 ?_
  have htt : t_is s t = 0 := by unfold t_is; (try rw [← hk]); (repeat (first | rw [if_pos (by omega)] | rw [if_neg (by omega)]))
  exact jj_iret B dX8_takes_8 ⟨Nat.le_of_ble_eq_true rfl, Nat.le_of_ble_eq_true rfl⟩ (⟨_, rfl, htt, (by unfold r_takes; refine Eq.trans ?_ (if_pos htt).symm; rfl), ad, rfl, (by unfold n_takes; first | (rw [if_pos htt]; exact hR) | exact hR | exact hR.c37)⟩)
