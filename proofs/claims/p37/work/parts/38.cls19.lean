theorem sU_ne {s : Sg} {k k' : Nat} {i j x : Int} (h : i ≠ j) : sU s k j x k' i = s k' i := by
  by_cases hk : k' = k
  · subst hk; exact sU_i h
  · rw [sU_n hk]
abbrev eT (e : Sg) (T a f u b : Int) : Sg := sU (sU (sU (sU e 2 T a) 3 T f) 4 T u) 5 T b
theorem eT_he {e : Sg} {T a f u b : Int} : ∀ k i, i ≠ T → eT e T a f u b k i = e k i := fun k i hi => by unfold eT; rw [sU_ne hi, sU_ne hi, sU_ne hi, sU_ne hi]
theorem eT_hk {e : Sg} {T a f u b : Int} : ∀ k, k < 2 → eT e T a f u b k = e k := fun k hk => by unfold eT; rw [sU_n (by omega), sU_n (by omega), sU_n (by omega), sU_n (by omega)]
theorem eT_2 {e : Sg} {T a f u b : Int} : eT e T a f u b 2 T = a := by unfold eT; rw [sU_n (by decide), sU_n (by decide), sU_n (by decide), sU_s]
theorem eT_3 {e : Sg} {T a f u b : Int} : eT e T a f u b 3 T = f := by unfold eT; rw [sU_n (by decide), sU_n (by decide), sU_s]
theorem eT_4 {e : Sg} {T a f u b : Int} : eT e T a f u b 4 T = u := by unfold eT; rw [sU_n (by decide), sU_s]
theorem eT_5 {e : Sg} {T a f u b : Int} : eT e T a f u b 5 T = b := by unfold eT; rw [sU_s]
theorem tnew_ses {s e : Sg} {x y : Int} (h7 : s 7 (s 1 0) = 0) (h3 : s 3 (s 1 0) = 0) (hE : ∀ i, 0 ≤ i → i < s 1 0 → e 2 i < s 1 0 ∧ e 5 i < s 1 0) : TapeNew s e (eT e (s 1 0) (-1) 0 0 (-1)) (sPuts (sU (sU s 37 0 0) 6 (s 1 0) x) (s 1 0) 0 y) x 0 0 := by
  refine ⟨rfl, fun k hk => by rw [sPuts_n (by omega), sU_n (by omega), sU_n (by omega)], fun i hi => by rw [sPuts_n (by decide), sU_i hi]; rfl, by rw [sPuts_n (by decide), sU_s], fun i hi => by rw [sPuts_7]; exact ju_n hi, fun i hi => ?_, h3, eT_he, eT_hk, eT_3, eT_4, hE⟩
  have hne : i ≠ 20 * s 1 0 + s 7 (s 1 0) := by omega
  rw [sPuts_8, sPuts_9, sPuts_10]
  exact ⟨ju_n hne, ju_n hne, ju_n hne⟩
theorem sSplT_n {s : Sg} {t f u v : Int} {k : Nat} (h : k ≠ 7 ∧ k ≠ 8 ∧ k ≠ 9 ∧ k ≠ 10) : sSplT s t f u v k = sU s 37 0 0 k := by
  unfold sSplT
  split
  · rw [sCopy_n h]
  · rw [sCopy_n h, sCopy_n h]
theorem sSplT_7 {s : Sg} {t f u v i : Int} (h : i ≠ s 1 0) : sSplT s t f u v 7 i = s 7 i := by
  unfold sSplT
  split
  · exact sCopy_7 h
  · have e : sCopy (sU s 37 0 0) t f u 1 0 = s 1 0 := by rw [sCopy_n (by decide)]; rfl
    have h2 := sCopyTo_7 (s := sCopy (sU s 37 0 0) t f u) (t := v) (f := 0) (u := sLen s v) (i := i) (sCopy (sU s 37 0 0) t f u 7 v).toNat (by rw [e]; exact h)
    exact h2.trans (sCopy_7 h)
theorem sSplT_8 {s : Sg} {t f u v : Int} (h1 : sI1 s) (hT : s 1 0 < 30) (ht : 0 ≤ t ∧ t < s 1 0) (hfu : f < u) (hv : v = -1 ∨ (0 ≤ v ∧ v < s 1 0)) {k : Nat} (hk : k = 8 ∨ k = 9 ∨ k = 10) {i : Int} (hi : i < 20 * s 1 0) : sSplT s t f u v k i = s k i := by
  unfold sSplT
  split
  · exact sCopy_c h1 hT ht hfu hk hi
  · have hv2 : 0 ≤ v ∧ v < s 1 0 := by omega
    have e : sCopy (sU s 37 0 0) t f u 1 0 = s 1 0 := by rw [sCopy_n (by decide)]; rfl
    have gv := h1.tape hv2
    have e7 : sCopy (sU s 37 0 0) t f u 7 v = s 7 v := sCopy_7 (by omega)
    have eT : 0 ≤ sCopy (sU s 37 0 0) t f u 7 (s 1 0) := by
      rw [sCopy_T h1 ht hfu, (h1.2.2.2.1 (s 1 0) (by omega) (by omega)).1]
      have := sSpansTo_in s t f u (s 7 t).toNat
      unfold sSpans; omega
    have h2 := sCopyTo_c (s := sCopy (sU s 37 0 0) t f u) (t := v) (f := 0) (u := sLen s v) (i := i) hk (by rw [e]; exact eT) (fun j hj => by
      rw [e7] at hj
      rw [sCopy_len h1 hT ht hv2 hfu j (by omega), sCopy_len h1 hT ht hv2 hfu (j + 1) (by omega)]
      exact sLen_lt h1 hv2 j hj) (by have := sLen_in h1 hv2; omega) (sCopy (sU s 37 0 0) t f u 7 v).toNat (by rw [e7]; omega) (by rw [e]; omega)
    exact h2.trans (sCopy_c h1 hT ht hfu hk hi)
theorem tnew_spl {s e : Sg} {t f u v : Int} (h1 : sI1 s) (hT : s 1 0 < 30) (ht : 0 ≤ t ∧ t < s 1 0) (hfu : f < u) (hv : v = -1 ∨ (0 ≤ v ∧ v < s 1 0)) (h3 : s 3 (s 1 0) = 0) (hE : ∀ i, 0 ≤ i → i < s 1 0 → e 2 i < s 1 0 ∧ e 5 i < s 1 0) : TapeNew s e (eT e (s 1 0) t f u v) (sU (sSplT s t f u v) 6 (s 1 0) (-1)) (-1) f u := by
  refine ⟨by rw [sU_n (by decide), sSplT_n (by decide)]; rfl, fun k hk => by rw [sU_n (by omega), sSplT_n (by omega), sU_n (by omega)], fun i hi => by rw [sU_i hi, sSplT_n (by decide)]; rfl, sU_s, fun i hi => by rw [sU_n (by decide), sSplT_7 hi], fun i hi => ?_, h3, eT_he, eT_hk, eT_3, eT_4, hE⟩
  exact ⟨by rw [sU_n (by decide)]; exact sSplT_8 h1 hT ht hfu hv (by omega) hi, by rw [sU_n (by decide)]; exact sSplT_8 h1 hT ht hfu hv (by omega) hi, by rw [sU_n (by decide)]; exact sSplT_8 h1 hT ht hfu hv (by omega) hi⟩
theorem tNew_6 {cI : ClassId} {S : Sg} {i y : Int} {v0 v1 v2 v3 v4 v5 v6 v7 : Value} {o a1 a2 a3 : Nat} : tNew cI S v0 v1 v2 v3 v4 v5 v6 v7 o a1 a2 a3 = tNew cI (sU S 6 i y) v0 v1 v2 v3 v4 v5 v6 v7 o a1 a2 a3 := by
  show _ = [(o, jj_o 7 [v0, v1, v2, v3, v4, v5, v6, v7, .ref a1, .ref a2, .ref a3, .int (jI (S 7 (S 1 0))), .int (jI (sLen (sU S 6 i y) (S 1 0))), .int (jI 0), .int (jI 0)]), _, _, _]
  rw [sLen_c (s := S) (s' := sU S 6 i y) rfl rfl rfl]; rfl
section TL
variable {ac : Nat → ClassId} {ad : Ad} {s e e' S : Sg} {g v x f u : Int} {q a1 a2 a3 : Nat}
theorem tHouse (h : TapeNew s e e' S x f u) : jj_o 8 (fHouse (aT ad (s 1 0) q a1 a2 a3) (sMakes S g v)) = jj_o 8 ((fHouse ad s).set 2 (.int (jI (s 1 0 + 1)))) := by
  show jj_o 8 [.int (jI (S 0 0)), .ref (ad 1 0), .int (jI (S 1 0 + 1)), .ref (ad 4 0), .ref (ad 2 0), .int (jI (S 13 0)), .ref (ad 3 0), .int (jI (S 22 0)), .ref (ad 6 0), .ref (ad 10 0)] = _
  rw [h.h1, h.hr 0 (by omega), h.hr 13 (by omega), h.hr 22 (by omega)]; rfl
theorem tRow (h : TapeNew s e e' S x f u) (h0 : 0 ≤ s 1 0) : jj_aq (ac 2) 30 (rRow (aT ad (s 1 0) q a1 a2 a3) 16 (sMakes S g v 1 0)) = jj_aq (ac 2) 30 (ju (rRow ad 16 (s 1 0)) (s 1 0) (some q)) := by
  rw [show sMakes S g v 1 0 = s 1 0 + 1 from congrArg (· + 1) h.h1, rRow_grow h0 (fun j h1 h2 => aT_16 (by omega)) aT_16s]
end TL

abbrev rm_X8_session : Room := { frames := 7, cells := 10, slots := 110, locals := 110 }
set_option maxRecDepth 100000 in
set_option maxHeartbeats 400000 in
theorem x8_session {l : Launch} {D : va_G} {ac : Nat → ClassId} (hl : l.stackTraces = false) {ad : Ad} {s e : Sg} {x y z : Int}  {G : jj_G} (hR : Rep ad (cC ac ad s e) G) {c : Int} (hI : sInv s c) (hx : jR x) (hy : jR y) (hz : jR z) (hE : ∀ i, 0 ≤ i → i < s 1 0 → e 2 i < s 1 0 ∧ e 5 i < s 1 0) (hz : ∀ i, 20 * s 1 0 ≤ i → i < 600 → s 8 i = 0 ∧ s 9 i = 0 ∧ s 10 i = 0) : jj_C l D ac yX8_session (.code yX8_session cX8_session 5 (some .int)) rm_X8_session [.ref (ad 0 0), .int (jI x), .int (jI y), .int (jI z)] G (jj_pi (fun r G' => t_session s x y z = 0 ∧ r = r_session s x y z ∧ ∃ ad', ad' 0 0 = ad 0 0 ∧ Rep ad' (cC ac ad' (n_session s x y z) (eT e (s 1 0) (-1) 0 0 (-1))) G')) (jp3 (t_session s x y z) eB eA eS) := by
  refine jj_ofx (own := RX8) (lv0 := [some (.ref (ad 0 0)), some (.int (jI x)), some (.int (jI y)), some (.int (jI z)), none]) hl (by decide +kernel) rfl rfl (Nat.le_of_ble_eq_true rfl) rfl ?_
  intro X B hN hl0 hdg hac hin
  subst hl0; subst hdg; subst hac
  have F := B.F

  obtain ⟨hI1, hI2, hI3, hI4, hI5, hI6, hI7, hc⟩ := hI
  have i0 := hI1.1
  have i1 := hI1.2.1
  have i3 := hI3.1
  refine jj_iload1 F dX8_session_0 ?_
  refine jj_callSv B (k := 1) (n := 6) (k8_requireArtist F.tr (by omega)) lk_X8_48 rfl ⟨Nat.le_of_ble_eq_true rfl, Nat.le_of_ble_eq_true rfl, Nat.le_of_ble_eq_true rfl, Nat.le_of_ble_eq_true rfl, Nat.le_of_ble_eq_true rfl⟩ ⟨Nat.le_of_ble_eq_true rfl, Nat.le_of_ble_eq_true rfl, Nat.le_of_ble_eq_true rfl, Nat.le_of_ble_eq_true rfl⟩ (fun E h => ⟨rfl, by obtain ⟨rfl, hh⟩ := h; exact (Or.inl ⟨(by unfold t_session; (try rw [← hk]); (repeat (first | rw [if_pos (by omega)] | rw [if_neg (by omega)]))), rfl⟩)⟩) dX8_session_1 (fun G h => ?_)
  obtain ⟨hra, rfl⟩ := h
  refine jj_iload3 F dX8_session_4 ?_
  refine jj_callSv B (k := 2) (n := 12) (k8_requireVault F.tr (by omega)) lk_X8_52 rfl ⟨Nat.le_of_ble_eq_true rfl, Nat.le_of_ble_eq_true rfl, Nat.le_of_ble_eq_true rfl, Nat.le_of_ble_eq_true rfl, Nat.le_of_ble_eq_true rfl⟩ ⟨Nat.le_of_ble_eq_true rfl, Nat.le_of_ble_eq_true rfl, Nat.le_of_ble_eq_true rfl, Nat.le_of_ble_eq_true rfl⟩ (fun E h => ⟨rfl, by obtain ⟨rfl, hh⟩ := h; exact (Or.inl ⟨(by unfold t_session; (try rw [← hk]); (repeat (first | rw [if_pos (by omega)] | rw [if_neg (by omega)]))), rfl⟩)⟩) dX8_session_5 (fun G h => ?_)
  obtain ⟨hrv, rfl⟩ := h
  refine jj_iload2 F dX8_session_8 ?_
  refine jj_iconst F dX8_session_9 ?_
  refine jj_icmp_lt F (tgt := 20) dX8_session_10 rfl (by omega) (fun c10 => ?_) (fun c10 => ?_)
  · skip
    exact jj_throwS B th_2 sr_X8_57 rfl (Or.inr (Or.inl ⟨(by unfold t_session; (try rw [← hk]); (repeat (first | rw [if_pos (by omega)] | rw [if_neg (by omega)]))), rfl⟩)) ⟨Nat.le_of_ble_eq_true rfl, Nat.le_of_ble_eq_true rfl, Nat.le_of_ble_eq_true rfl, Nat.le_of_ble_eq_true rfl⟩ dX8_session_20 dX8_session_23 dX8_session_24 dX8_session_26 dX8_session_29
  · skip
    refine jj_iload2 F dX8_session_13 ?_
    refine jj_sipush F (by decide) dX8_session_14 ?_
    refine jj_icmp_le F (tgt := 30) dX8_session_17 rfl (by omega) (fun c17 => ?_) (fun c17 => ?_)
    · skip
      refine jj_aload0 F dX8_session_30 ?_
      refine jj_callVi B (k := 3) (n := 18) (k8_nextTape F.tr hR.1 i1) lk_X8_62 (hR.at (k := 0) (i := 0) cc_0) cs_8 rfl rfl ⟨Nat.le_of_ble_eq_true rfl, Nat.le_of_ble_eq_true rfl, Nat.le_of_ble_eq_true rfl, Nat.le_of_ble_eq_true rfl, Nat.le_of_ble_eq_true rfl⟩ ⟨Nat.le_of_ble_eq_true rfl, Nat.le_of_ble_eq_true rfl, Nat.le_of_ble_eq_true rfl, Nat.le_of_ble_eq_true rfl⟩ (fun E h => ⟨rfl, by obtain ⟨rfl, hh⟩ := h; exact (Or.inr (Or.inr ⟨(by unfold t_session; (try rw [← hk]); (repeat (first | rw [if_pos (by omega)] | rw [if_neg (by omega)]))), rfl⟩))⟩) dX8_session_31 (fun r G h => ?_)
      obtain ⟨rfl, hnt, rfl⟩ := h
      have hT := hI1.2.2.2.1 (s 1 0) (by omega) (by omega)
      have hN1 := tnew_ses (s := s) (e := e) (x := x) (y := y) hT.1 hT.2 hE
      refine jj_istore4 F dX8_session_34 (hN _ (by decide)) rfl ?_
      refine jj_aload0 F dX8_session_36 ?_
      refine jj_get F (hR.at (k := 0) (i := 0) cc_0) cs_8 (by decide) fd_X8_11 rfl dX8_session_37 ?_
      refine jj_iload4 F dX8_session_40 ?_
      refine jj_new F (k := 4) (n := 33) (fs := [.int (jI 0), .int (jI 0), .int (jI 0), .int (jI 0), .null, .int (jI 0), .int (jI 0), .null, .null, .null, .null, .int (jI 0), .int (jI 0), .int (jI 0), .int (jI 0)]) cs_7 cl_X8_9 ins_7 ini_7 (fun j hj => match j, hj with | 0, _ => rfl | 1, _ => rfl | 2, _ => rfl | 3, _ => rfl | 4, _ => rfl | 5, _ => rfl | 6, _ => rfl | 7, _ => rfl | 8, _ => rfl | 9, _ => rfl | 10, _ => rfl | 11, _ => rfl | 12, _ => rfl | 13, _ => rfl | 14, _ => rfl | q + 15, h => absurd h (by omega)) ⟨Nat.le_of_ble_eq_true rfl, Nat.le_of_ble_eq_true rfl, Nat.le_of_ble_eq_true rfl, Nat.le_of_ble_eq_true rfl⟩ dX8_session_42 (fun q42 hq42 => ?_)
      have hL := GL.one hq42 (x := jj_o 7 [.int (jI 0), .int (jI 0), .int (jI 0), .int (jI 0), .null, .int (jI 0), .int (jI 0), .null, .null, .null, .null, .int (jI 0), .int (jI 0), .int (jI 0), .int (jI 0)])
      refine jj_dup F rfl dX8_session_45 ?_
      refine jj_iload4 F dX8_session_46 ?_
      refine jj_iload3 F dX8_session_48 ?_
      refine jj_iload1 F dX8_session_49 ?_
      refine jj_iload2 F dX8_session_50 ?_
      refine jj_callIv B (k := 7) (n := 93) (k7_init (S := sU (sU s 37 0 0) 6 (s 1 0) x) F.tr hL (show s 7 (s 1 0) = 0 from hT.1) (show ∀ i, 20 * s 1 0 ≤ i → i < 20 * s 1 0 + 20 → s 8 i = 0 ∧ s 9 i = 0 ∧ s 10 i = 0 from fun i h1 h2 => hz i h1 (by omega))) lk_X8_66 rfl ⟨Nat.le_of_ble_eq_true rfl, Nat.le_of_ble_eq_true rfl, Nat.le_of_ble_eq_true rfl, Nat.le_of_ble_eq_true rfl, Nat.le_of_ble_eq_true rfl⟩ ⟨Nat.le_of_ble_eq_true rfl, Nat.le_of_ble_eq_true rfl, Nat.le_of_ble_eq_true rfl, Nat.le_of_ble_eq_true rfl⟩ jj_tx0 dX8_session_51 (fun G1 hG => ?_)
      obtain ⟨a1, a2, a3, hL⟩ := hG
      have hR := hR.grow4 hL (k1 := 16) (i1 := s 1 0) (k2 := 17) (i2 := s 1 0) (k3 := 18) (i3 := s 1 0) (k4 := 19) (i4 := s 1 0) (if_neg (by omega)) (if_neg (by omega)) (if_neg (by omega)) (if_neg (by omega)) (by decide) (by decide)
      refine c8_ast F (ad := (aT ad (s 1 0) q42 a1 a2 a3)) (fun _ => rfl) hR (k := 1) (i := 0) ((cU_k (by decide)).trans ((cU_k (by decide)).trans ((cU_k (by decide)).trans ((cU_k (by decide)).trans cc_1)))) (hL.at (m := 0) rfl) cs_7 (by omega) (by decide) dX8_session_54 (fun G hR => ?_)
      refine jj_aload0 F dX8_session_55 ?_
      refine jj_dup F rfl dX8_session_56 ?_
      refine jj_get F (hR.at (k := 0) (i := 0) ((cU_k (by decide)).trans ((cU_k (by decide)).trans ((cU_k (by decide)).trans ((cU_k (by decide)).trans ((cU_k (by decide)).trans cc_0)))))) cs_8 (by decide) fd_X8_69 rfl dX8_session_57 ?_
      refine jj_iconst F dX8_session_60 ?_
      refine jj_iadd F dX8_session_61 ?_
      refine c8_put F (ad := (aT ad (s 1 0) q42 a1 a2 a3)) hR (k := 0) (i := 0) ((cU_k (by decide)).trans ((cU_k (by decide)).trans ((cU_k (by decide)).trans ((cU_k (by decide)).trans ((cU_k (by decide)).trans cc_0))))) cs_8 (by decide) fd_X8_69 rfl rfl rfl (Nat.le_of_ble_eq_true rfl) dX8_session_62 (fun G hR => ?_)
      refine jj_iload4 F dX8_session_65 ?_
      have htt : t_session s x y z = 0 := by unfold t_session; (try rw [← hk]); (repeat (first | rw [if_pos (by omega)] | rw [if_neg (by omega)]))
      have h20 : ∀ i, 0 ≤ i → i < s 1 0 → s 7 i ≤ 20 := fun i h1 h2 => (hI1.tape ⟨h1, h2⟩).2.2.2.2.2.2
      have hR := hR.congr (C' := cC (jj_ac X) (aT ad (s 1 0) q42 a1 a2 a3) (sMakes (sPuts (sU (sU s 37 0 0) 6 (s 1 0) x) (s 1 0) 0 y) (0) z) (eT e (s 1 0) (-1) 0 0 (-1))) (kcases (fun i => by exact kz (fun i hi => by simp [cU, cC, hi]) (tHouse hN1) i) (fun i => by rw [cU_k (k := 0) (k' := 1) (by decide)]; exact kz (fun i hi => by simp [cU, cC, hi]) (tRow hN1 i1.1) i) (fun i => kc_2 (ac := jj_ac X) (ad := (aT ad (s 1 0) q42 a1 a2 a3)) (s := s) (e := (e)) (s' := (sMakes (sPuts (sU (sU s 37 0 0) 6 (s 1 0) x) (s 1 0) 0 y) (0) z)) (e' := (eT e (s 1 0) (-1) 0 0 (-1))) (hN1.hr 13 (by omega)) i) (fun i => kc_3 (ac := jj_ac X) (ad := (aT ad (s 1 0) q42 a1 a2 a3)) (s := s) (e := (e)) (s' := (sMakes (sPuts (sU (sU s 37 0 0) 6 (s 1 0) x) (s 1 0) 0 y) (0) z)) (e' := (eT e (s 1 0) (-1) 0 0 (-1))) (hN1.hr 22 (by omega)) i) (fun i => kc_4 (ac := jj_ac X) (ad := (aT ad (s 1 0) q42 a1 a2 a3)) (s := s) (e := (e)) (s' := (sMakes (sPuts (sU (sU s 37 0 0) 6 (s 1 0) x) (s 1 0) 0 y) (0) z)) (e' := (eT e (s 1 0) (-1) 0 0 (-1))) (hN1.hr 11 (by omega)) i) (fun i => by rw [cU_k (k := 0) (k' := 5) (by decide), cU_k (k := 1) (k' := 5) (by decide), cU_k (k := 19) (k' := 5) (by decide), cU_k (k := 18) (k' := 5) (by decide), cU_k (k := 17) (k' := 5) (by decide), cU_k (k := 16) (k' := 5) (by decide)]; show (if i = 0 then some (jj_aq (jj_ac X 2) 6 (pRow (aT ad (s 1 0) q42 a1 a2 a3) (sMakes (sPuts (sU (sU s 37 0 0) 6 (s 1 0) x) (s 1 0) 0 y) (0) z))) else none) = _; rw [pRow_grow hN1 (fun j h1 h2 => (hI2.2 j h1 h2).2)]; rfl) (fun i => kc_6 (ac := jj_ac X) (ad := (aT ad (s 1 0) q42 a1 a2 a3)) (s := s) (e := (e)) (s' := (sMakes (sPuts (sU (sU s 37 0 0) 6 (s 1 0) x) (s 1 0) 0 y) (0) z)) (e' := (eT e (s 1 0) (-1) 0 0 (-1))) (hN1.hr 26 (by omega)) (hN1.hr 28 (by omega)) i) (fun i => kc_7 (ac := jj_ac X) (ad := (aT ad (s 1 0) q42 a1 a2 a3)) (s := s) (e := (e)) (s' := (sMakes (sPuts (sU (sU s 37 0 0) 6 (s 1 0) x) (s 1 0) 0 y) (0) z)) (e' := (eT e (s 1 0) (-1) 0 0 (-1))) (hN1.hr 27 (by omega)) i) (fun i => kc_8 (ac := jj_ac X) (ad := (aT ad (s 1 0) q42 a1 a2 a3)) (s := s) (e := (e)) (s' := (sMakes (sPuts (sU (sU s 37 0 0) 6 (s 1 0) x) (s 1 0) 0 y) (0) z)) (e' := (eT e (s 1 0) (-1) 0 0 (-1))) (hN1.hr 29 (by omega)) i) (fun i => kc_9 (ac := jj_ac X) (ad := (aT ad (s 1 0) q42 a1 a2 a3)) (s := s) (e := (e)) (s' := (sMakes (sPuts (sU (sU s 37 0 0) 6 (s 1 0) x) (s 1 0) 0 y) (0) z)) (e' := (eT e (s 1 0) (-1) 0 0 (-1))) (hN1.hr 30 (by omega)) i) (fun i => kc_10 (ac := jj_ac X) (ad := (aT ad (s 1 0) q42 a1 a2 a3)) (s := s) (e := (e)) (s' := (sMakes (sPuts (sU (sU s 37 0 0) 6 (s 1 0) x) (s 1 0) 0 y) (0) z)) (e' := (eT e (s 1 0) (-1) 0 0 (-1))) (hN1.hr 31 (by omega)) i) (fun i => kc_11 (ac := jj_ac X) (ad := (aT ad (s 1 0) q42 a1 a2 a3)) (s := s) (e := (e)) (s' := (sMakes (sPuts (sU (sU s 37 0 0) 6 (s 1 0) x) (s 1 0) 0 y) (0) z)) (e' := (eT e (s 1 0) (-1) 0 0 (-1))) (hN1.hr 35 (by omega)) i) (fun i => kc_12 (ac := jj_ac X) (ad := (aT ad (s 1 0) q42 a1 a2 a3)) (s := s) (e := (e)) (s' := (sMakes (sPuts (sU (sU s 37 0 0) 6 (s 1 0) x) (s 1 0) 0 y) (0) z)) (e' := (eT e (s 1 0) (-1) 0 0 (-1))) (hN1.hk 0 (by decide)) i) (fun i => kc_13 (ac := jj_ac X) (ad := (aT ad (s 1 0) q42 a1 a2 a3)) (s := s) (e := (e)) (s' := (sMakes (sPuts (sU (sU s 37 0 0) 6 (s 1 0) x) (s 1 0) 0 y) (0) z)) (e' := (eT e (s 1 0) (-1) 0 0 (-1))) (hN1.hk 1 (by decide)) i) (fun i => kc_14 (ac := jj_ac X) (ad := (aT ad (s 1 0) q42 a1 a2 a3)) (s := s) (e := (e)) (s' := (sMakes (sPuts (sU (sU s 37 0 0) 6 (s 1 0) x) (s 1 0) 0 y) (0) z)) (e' := (eT e (s 1 0) (-1) 0 0 (-1))) (hN1.hr 36 (by omega)) i) (fun i => kc_15 (ac := jj_ac X) (ad := (aT ad (s 1 0) q42 a1 a2 a3)) (s := s) (e := (e)) (s' := (sMakes (sPuts (sU (sU s 37 0 0) 6 (s 1 0) x) (s 1 0) 0 y) (0) z)) (e' := (eT e (s 1 0) (-1) 0 0 (-1))) (hN1.hr 31 (by omega)) i) (fun i => by rw [cU_k (k := 0) (k' := 16) (by decide), cU_k (k := 1) (k' := 16) (by decide), cU_k (k := 19) (k' := 16) (by decide), cU_k (k := 18) (k' := 16) (by decide), cU_k (k := 17) (k' := 16) (by decide)]; exact tk_16 hN1 h20 i1.1 (by rw [eT_2]; rfl) (by rw [eT_5]; rfl) i) (fun i => by rw [cU_k (k := 0) (k' := 17) (by decide), cU_k (k := 1) (k' := 17) (by decide), cU_k (k := 19) (k' := 17) (by decide), cU_k (k := 18) (k' := 17) (by decide)]; exact tk_w (r := 8) hN1 i1.1 (fun i hi => (hN1.h8 i hi).1) (fun i _ => rfl) i) (fun i => by rw [cU_k (k := 0) (k' := 18) (by decide), cU_k (k := 1) (k' := 18) (by decide), cU_k (k := 19) (k' := 18) (by decide)]; exact tk_w (r := 9) hN1 i1.1 (fun i hi => (hN1.h8 i hi).2.1) (fun i _ => rfl) i) (fun i => by rw [cU_k (k := 0) (k' := 19) (by decide), cU_k (k := 1) (k' := 19) (by decide)]; exact tk_w (r := 10) hN1 i1.1 (fun i hi => (hN1.h8 i hi).2.2) (fun i _ => rfl) i) (fun i => kc_20 (ac := jj_ac X) (ad := (aT ad (s 1 0) q42 a1 a2 a3)) (s := s) (e := (e)) (s' := (sMakes (sPuts (sU (sU s 37 0 0) 6 (s 1 0) x) (s 1 0) 0 y) (0) z)) (e' := (eT e (s 1 0) (-1) 0 0 (-1))) (hN1.hr 13 (by omega)) (hN1.hr 14 (by omega)) (hN1.hr 15 (by omega)) (hN1.hr 16 (by omega)) i) (fun i => kc_21 (ac := jj_ac X) (ad := (aT ad (s 1 0) q42 a1 a2 a3)) (s := s) (e := (e)) (s' := (sMakes (sPuts (sU (sU s 37 0 0) 6 (s 1 0) x) (s 1 0) 0 y) (0) z)) (e' := (eT e (s 1 0) (-1) 0 0 (-1))) (hN1.hr 13 (by omega)) (hN1.hr 14 (by omega)) i) (fun i => kc_22 (ac := jj_ac X) (ad := (aT ad (s 1 0) q42 a1 a2 a3)) (s := s) (e := (e)) (s' := (sMakes (sPuts (sU (sU s 37 0 0) 6 (s 1 0) x) (s 1 0) 0 y) (0) z)) (e' := (eT e (s 1 0) (-1) 0 0 (-1))) (hN1.hr 13 (by omega)) (hN1.hr 16 (by omega)) i) (fun i => kc_23 (ac := jj_ac X) (ad := (aT ad (s 1 0) q42 a1 a2 a3)) (s := s) (e := (e)) (s' := (sMakes (sPuts (sU (sU s 37 0 0) 6 (s 1 0) x) (s 1 0) 0 y) (0) z)) (e' := (eT e (s 1 0) (-1) 0 0 (-1))) (hN1.hr 16 (by omega)) (hN1.hr 17 (by omega)) (hN1.hr 18 (by omega)) (hN1.hr 19 (by omega)) (hN1.hr 20 (by omega)) (hN1.hr 21 (by omega)) (hN1.hr 22 (by omega)) (hN1.hr 23 (by omega)) i) (fun i => kc_24 (ac := jj_ac X) (ad := (aT ad (s 1 0) q42 a1 a2 a3)) (s := s) (e := (e)) (s' := (sMakes (sPuts (sU (sU s 37 0 0) 6 (s 1 0) x) (s 1 0) 0 y) (0) z)) (e' := (eT e (s 1 0) (-1) 0 0 (-1))) (hN1.hr 22 (by omega)) (hN1.hr 23 (by omega)) (hN1.hr 24 (by omega)) i) (fun i => kc_25 (ac := jj_ac X) (ad := (aT ad (s 1 0) q42 a1 a2 a3)) (s := s) (e := (e)) (s' := (sMakes (sPuts (sU (sU s 37 0 0) 6 (s 1 0) x) (s 1 0) 0 y) (0) z)) (e' := (eT e (s 1 0) (-1) 0 0 (-1))) (hN1.hr 22 (by omega)) (hN1.hr 25 (by omega)) i) (fun i => kc_26 (ac := jj_ac X) (ad := (aT ad (s 1 0) q42 a1 a2 a3)) (s := s) (e := (e)) (s' := (sMakes (sPuts (sU (sU s 37 0 0) 6 (s 1 0) x) (s 1 0) 0 y) (0) z)) (e' := (eT e (s 1 0) (-1) 0 0 (-1))) (hN1.hr 31 (by omega)) (hN1.hr 32 (by omega)) (hN1.hr 33 (by omega)) i) (fun i => kc_27 (ac := jj_ac X) (ad := (aT ad (s 1 0) q42 a1 a2 a3)) (s := s) (e := (e)) (s' := (sMakes (sPuts (sU (sU s 37 0 0) 6 (s 1 0) x) (s 1 0) 0 y) (0) z)) (e' := (eT e (s 1 0) (-1) 0 0 (-1))) (hN1.hr 31 (by omega)) (hN1.hr 34 (by omega)) i) (fun k i => rfl))
      exact jj_iret B dX8_session_67 ⟨Nat.le_of_ble_eq_true rfl, Nat.le_of_ble_eq_true rfl⟩ (⟨_, rfl, htt, (by unfold r_session; refine Eq.trans ?_ (if_pos htt).symm; rfl), (aT ad (s 1 0) q42 a1 a2 a3), rfl, (by unfold n_session; first | (rw [if_pos htt]; exact hR) | exact hR | exact hR.c37)⟩)
    · skip
      exact jj_throwS B th_2 sr_X8_57 rfl (Or.inr (Or.inl ⟨(by unfold t_session; (try rw [← hk]); (repeat (first | rw [if_pos (by omega)] | rw [if_neg (by omega)]))), rfl⟩)) ⟨Nat.le_of_ble_eq_true rfl, Nat.le_of_ble_eq_true rfl, Nat.le_of_ble_eq_true rfl, Nat.le_of_ble_eq_true rfl⟩ dX8_session_20 dX8_session_23 dX8_session_24 dX8_session_26 dX8_session_29
abbrev rm_X8_splice : Room := { frames := 7, cells := 12, slots := 130, locals := 112 }
set_option maxRecDepth 100000 in
set_option maxHeartbeats 400000 in
theorem x8_splice {l : Launch} {D : va_G} {ac : Nat → ClassId} (hl : l.stackTraces = false) {ad : Ad} {s e : Sg} {t f u v w : Int}  {G : jj_G} (hR : Rep ad (cC ac ad s e) G) {c : Int} (hI : sInv s c) (ht : jR t) (hf : jR f) (hu : jR u) (hv : jR v) (hw : jR w) (hE : ∀ i, 0 ≤ i → i < s 1 0 → e 2 i < s 1 0 ∧ e 5 i < s 1 0) (hz : ∀ i, 20 * s 1 0 ≤ i → i < 600 → s 8 i = 0 ∧ s 9 i = 0 ∧ s 10 i = 0) : jj_C l D ac yX8_splice (.code yX8_splice cX8_splice 10 (some .int)) rm_X8_splice [.ref (ad 0 0), .int (jI t), .int (jI f), .int (jI u), .int (jI v), .int (jI w)] G (jj_pi (fun r G' => t_splice s t f u v w = 0 ∧ r = r_splice s t f u v w ∧ ∃ ad', ad' 0 0 = ad 0 0 ∧ Rep ad' (cC ac ad' (n_splice s t f u v w) (eT e (s 1 0) t f u v)) G')) (jp3 (t_splice s t f u v w) eB eA eS) := by
  refine jj_ofx (own := RX8) (lv0 := [some (.ref (ad 0 0)), some (.int (jI t)), some (.int (jI f)), some (.int (jI u)), some (.int (jI v)), some (.int (jI w)), none, none, none, none]) hl (by decide +kernel) rfl rfl (Nat.le_of_ble_eq_true rfl) rfl ?_
  intro X B hN hl0 hdg hac hin
  subst hl0; subst hdg; subst hac
  have F := B.F

  obtain ⟨hI1, hI2, hI3, hI4, hI5, hI6, hI7, hc⟩ := hI
  have i0 := hI1.1
  have i1 := hI1.2.1
  have i3 := hI3.1
  refine jj_aload0 F dX8_splice_0 ?_
  refine jj_iload1 F dX8_splice_1 ?_
  refine jj_callVq B (k := 1) (n := 6) (k8_tapeAt F.tr hR.1 (by omega) i1.2) lk_X8_73 (hR.at (k := 0) (i := 0) cc_0) cs_8 rfl rfl ⟨Nat.le_of_ble_eq_true rfl, Nat.le_of_ble_eq_true rfl, Nat.le_of_ble_eq_true rfl, Nat.le_of_ble_eq_true rfl, Nat.le_of_ble_eq_true rfl⟩ ⟨Nat.le_of_ble_eq_true rfl, Nat.le_of_ble_eq_true rfl, Nat.le_of_ble_eq_true rfl, Nat.le_of_ble_eq_true rfl⟩ (fun E h => ⟨rfl, by obtain ⟨rfl, hh⟩ := h; exact (Or.inl ⟨(by unfold t_splice; (try rw [← hk]); (repeat (first | rw [if_pos (by omega)] | rw [if_neg (by omega)]))), rfl⟩)⟩) dX8_splice_2 (fun r G h => ?_)
  obtain ⟨rfl, hrg, rfl⟩ := h
  refine jj_astore6 F dX8_splice_5 (hN _ (by decide)) rfl ?_
  refine jj_iload4 F dX8_splice_7 ?_
  refine jj_iconst F dX8_splice_9 ?_
  refine jj_icmp_ne F (tgt := 17) dX8_splice_10 rfl (by omega) (fun c10 => ?_) (fun c10 => ?_)
  · skip
    refine jj_aload0 F dX8_splice_17 ?_
    refine jj_iload4 F dX8_splice_18 ?_
    refine jj_callVq B (k := 2) (n := 12) (k8_tapeAt F.tr hR.1 (by omega) i1.2) lk_X8_73 (hR.at (k := 0) (i := 0) cc_0) cs_8 rfl rfl ⟨Nat.le_of_ble_eq_true rfl, Nat.le_of_ble_eq_true rfl, Nat.le_of_ble_eq_true rfl, Nat.le_of_ble_eq_true rfl, Nat.le_of_ble_eq_true rfl⟩ ⟨Nat.le_of_ble_eq_true rfl, Nat.le_of_ble_eq_true rfl, Nat.le_of_ble_eq_true rfl, Nat.le_of_ble_eq_true rfl⟩ (fun E h => ⟨rfl, by obtain ⟨rfl, hh⟩ := h; exact (Or.inl ⟨(by unfold t_splice; (try rw [← hk]); (repeat (first | rw [if_pos (by omega)] | rw [if_neg (by omega)]))), rfl⟩)⟩) dX8_splice_20 (fun r G h => ?_)
    obtain ⟨rfl, hrg, rfl⟩ := h
    refine jj_astore7 F dX8_splice_23 (hN _ (by decide)) rfl ?_
    refine jj_iload5 F dX8_splice_25 ?_
    refine jj_callSv B (k := 3) (n := 18) (k8_requireVault F.tr (by omega)) lk_X8_52 rfl ⟨Nat.le_of_ble_eq_true rfl, Nat.le_of_ble_eq_true rfl, Nat.le_of_ble_eq_true rfl, Nat.le_of_ble_eq_true rfl, Nat.le_of_ble_eq_true rfl⟩ ⟨Nat.le_of_ble_eq_true rfl, Nat.le_of_ble_eq_true rfl, Nat.le_of_ble_eq_true rfl, Nat.le_of_ble_eq_true rfl⟩ (fun E h => ⟨rfl, by obtain ⟨rfl, hh⟩ := h; exact (Or.inl ⟨(by unfold t_splice; (try rw [← hk]); (repeat (first | rw [if_pos (by omega)] | rw [if_neg (by omega)]))), rfl⟩)⟩) dX8_splice_27 (fun G h => ?_)
    obtain ⟨hrv, rfl⟩ := h
    refine jj_iload2 F dX8_splice_30 ?_
    refine jj_if_lt F (tgt := 48) dX8_splice_31 rfl (by omega) (fun c31 => ?_) (fun c31 => ?_)
    · skip
      exact jj_throwS B th_2 sr_X8_80 rfl (Or.inr (Or.inl ⟨(by unfold t_splice; (try rw [← hk]); (repeat (first | rw [if_pos (by omega)] | rw [if_neg (by omega)]))), rfl⟩)) ⟨Nat.le_of_ble_eq_true rfl, Nat.le_of_ble_eq_true rfl, Nat.le_of_ble_eq_true rfl, Nat.le_of_ble_eq_true rfl⟩ dX8_splice_48 dX8_splice_51 dX8_splice_52 dX8_splice_54 dX8_splice_57
    · skip
      refine jj_iload3 F dX8_splice_34 ?_
      refine jj_iload2 F dX8_splice_35 ?_
      refine jj_icmp_le F (tgt := 48) dX8_splice_36 rfl (by omega) (fun c36 => ?_) (fun c36 => ?_)
      · skip
        exact jj_throwS B th_2 sr_X8_80 rfl (Or.inr (Or.inl ⟨(by unfold t_splice; (try rw [← hk]); (repeat (first | rw [if_pos (by omega)] | rw [if_neg (by omega)]))), rfl⟩)) ⟨Nat.le_of_ble_eq_true rfl, Nat.le_of_ble_eq_true rfl, Nat.le_of_ble_eq_true rfl, Nat.le_of_ble_eq_true rfl⟩ dX8_splice_48 dX8_splice_51 dX8_splice_52 dX8_splice_54 dX8_splice_57
      · skip
        refine jj_iload3 F dX8_splice_39 ?_
        refine jj_aload6 F dX8_splice_40 ?_
        refine jj_get F (hR.at (k := 16) (i := t) (if_pos (show 0 ≤ t ∧ t < s 1 0 by omega))) cs_7 (by decide) fd_X8_77 rfl dX8_splice_42 ?_
        refine jj_icmp_le F (tgt := 58) dX8_splice_45 rfl (by have := sLen_in hI1 (t := t) (by omega); omega) (fun c45 => ?_) (fun c45 => ?_)
        · skip
          refine jj_aload0 F dX8_splice_58 ?_
          refine jj_aload6 F dX8_splice_59 ?_
          refine jj_callVv B (k := 4) (n := 24) (k8_requirePlayable F.tr hR.1 hI1 (by omega)) lk_X8_82 (hR.at (k := 0) (i := 0) cc_0) cs_8 rfl rfl ⟨Nat.le_of_ble_eq_true rfl, Nat.le_of_ble_eq_true rfl, Nat.le_of_ble_eq_true rfl, Nat.le_of_ble_eq_true rfl, Nat.le_of_ble_eq_true rfl⟩ ⟨Nat.le_of_ble_eq_true rfl, Nat.le_of_ble_eq_true rfl, Nat.le_of_ble_eq_true rfl, Nat.le_of_ble_eq_true rfl⟩ (fun E h => ⟨rfl, by obtain ⟨rfl, hh⟩ := h; exact (Or.inr (Or.inr ⟨(by unfold t_splice; (try rw [← hk]); (repeat (first | rw [if_pos (by omega)] | rw [if_neg (by omega)]))), rfl⟩))⟩) dX8_splice_61 (fun G h => ?_)
          obtain ⟨hpy, rfl⟩ := h
          refine jj_aload6 F dX8_splice_64 ?_
          refine jj_iload2 F dX8_splice_66 ?_
          refine jj_iload3 F dX8_splice_67 ?_
          refine jj_callVr B (k := 4) (n := 24) (k7_spansBetween F.tr hR.1 hI1 (by omega) hf hu) lk_X8_86 (hR.at (k := 16) (i := t) (if_pos (show 0 ≤ t ∧ t < s 1 0 by omega))) cs_7 rfl rfl ⟨Nat.le_of_ble_eq_true rfl, Nat.le_of_ble_eq_true rfl, Nat.le_of_ble_eq_true rfl, Nat.le_of_ble_eq_true rfl, Nat.le_of_ble_eq_true rfl⟩ ⟨Nat.le_of_ble_eq_true rfl, Nat.le_of_ble_eq_true rfl, Nat.le_of_ble_eq_true rfl, Nat.le_of_ble_eq_true rfl⟩ jj_tx0 dX8_splice_68 ?_
          have hsq := sSpansTo_in s t f u (s 7 t).toNat
          have gt := hI1.tape (t := t) (by omega)
          have hsr : 0 ≤ sSpans s t f u ∧ sSpans s t f u ≤ 20 := by unfold sSpans; omega
          refine jj_istore8 F dX8_splice_71 (hN _ (by decide)) rfl ?_
          refine jj_aload7 F dX8_splice_73 ?_
          refine jj_ifnull F (r := some (ad 16 v)) (tgt := 94) dX8_splice_75 rfl (fun h => by cases h) (fun _ _ => ?_)
          refine jj_aload0 F dX8_splice_78 ?_
          refine jj_aload7 F dX8_splice_79 ?_
          refine jj_callVv B (k := 5) (n := 30) (k8_requirePlayable F.tr hR.1 hI1 (by omega)) lk_X8_82 (hR.at (k := 0) (i := 0) cc_0) cs_8 rfl rfl ⟨Nat.le_of_ble_eq_true rfl, Nat.le_of_ble_eq_true rfl, Nat.le_of_ble_eq_true rfl, Nat.le_of_ble_eq_true rfl, Nat.le_of_ble_eq_true rfl⟩ ⟨Nat.le_of_ble_eq_true rfl, Nat.le_of_ble_eq_true rfl, Nat.le_of_ble_eq_true rfl, Nat.le_of_ble_eq_true rfl⟩ (fun E h => ⟨rfl, by obtain ⟨rfl, hh⟩ := h; exact (Or.inr (Or.inr ⟨(by unfold t_splice; (try rw [← hk]); (repeat (first | rw [if_pos (by omega)] | rw [if_neg (by omega)]))), rfl⟩))⟩) dX8_splice_81 (fun G h => ?_)
          obtain ⟨hpy, rfl⟩ := h
          refine jj_iload8 F dX8_splice_84 ?_
          refine jj_aload7 F dX8_splice_86 ?_
          refine jj_get F (hR.at (k := 16) (i := v) (if_pos (show 0 ≤ v ∧ v < s 1 0 by omega))) cs_7 (by decide) fd_X8_90 rfl dX8_splice_88 ?_
          refine jj_iadd F dX8_splice_91 ?_
          refine jj_istore8 F dX8_splice_92 (hN _ (by decide)) rfl ?_
          refine jj_iload8 F dX8_splice_94 ?_
          refine jj_bipush F (by decide) dX8_splice_96 ?_
          refine jj_icmp_le F (tgt := 111) dX8_splice_98 rfl (by first | omega | (have := hI1.tape (t := v) (by omega); omega)) (fun c98 => ?_) (fun c98 => ?_)
          · skip
            refine jj_aload0 F dX8_splice_111 ?_
            refine jj_callVi B (k := 6) (n := 36) (k8_nextTape F.tr hR.1 i1) lk_X8_62 (hR.at (k := 0) (i := 0) cc_0) cs_8 rfl rfl ⟨Nat.le_of_ble_eq_true rfl, Nat.le_of_ble_eq_true rfl, Nat.le_of_ble_eq_true rfl, Nat.le_of_ble_eq_true rfl, Nat.le_of_ble_eq_true rfl⟩ ⟨Nat.le_of_ble_eq_true rfl, Nat.le_of_ble_eq_true rfl, Nat.le_of_ble_eq_true rfl, Nat.le_of_ble_eq_true rfl⟩ (fun E h => ⟨rfl, by obtain ⟨rfl, hh⟩ := h; exact (Or.inr (Or.inr ⟨(by unfold t_splice; (try rw [← hk]); (repeat (first | rw [if_pos (by omega)] | rw [if_neg (by omega)]))), rfl⟩))⟩) dX8_splice_112 (fun r G h => ?_)
            obtain ⟨rfl, hnt, rfl⟩ := h
            have hT := hI1.2.2.2.1 (s 1 0) (by omega) (by omega)
            have hN1 := tnew_spl (s := s) (e := e) (t := t) (f := f) (u := u) (v := v) hI1 hnt (by omega) (by omega) (by omega) hT.2 hE
            refine jj_istore9 F dX8_splice_115 (hN _ (by decide)) rfl ?_
            refine jj_aload0 F dX8_splice_117 ?_
            refine jj_get F (hR.at (k := 0) (i := 0) cc_0) cs_8 (by decide) fd_X8_11 rfl dX8_splice_118 ?_
            refine jj_iload9 F dX8_splice_121 ?_
            refine jj_new F (k := 7) (n := 51) (fs := [.int (jI 0), .int (jI 0), .int (jI 0), .int (jI 0), .null, .int (jI 0), .int (jI 0), .null, .null, .null, .null, .int (jI 0), .int (jI 0), .int (jI 0), .int (jI 0)]) cs_7 cl_X8_9 ins_7 ini_7 (fun j hj => match j, hj with | 0, _ => rfl | 1, _ => rfl | 2, _ => rfl | 3, _ => rfl | 4, _ => rfl | 5, _ => rfl | 6, _ => rfl | 7, _ => rfl | 8, _ => rfl | 9, _ => rfl | 10, _ => rfl | 11, _ => rfl | 12, _ => rfl | 13, _ => rfl | 14, _ => rfl | q + 15, h => absurd h (by omega)) ⟨Nat.le_of_ble_eq_true rfl, Nat.le_of_ble_eq_true rfl, Nat.le_of_ble_eq_true rfl, Nat.le_of_ble_eq_true rfl⟩ dX8_splice_123 (fun q123 hq123 => ?_)
            have hL := GL.one hq123 (x := jj_o 7 [.int (jI 0), .int (jI 0), .int (jI 0), .int (jI 0), .null, .int (jI 0), .int (jI 0), .null, .null, .null, .null, .int (jI 0), .int (jI 0), .int (jI 0), .int (jI 0)])
            refine jj_dup F rfl dX8_splice_126 ?_
            refine jj_iload9 F dX8_splice_127 ?_
            refine jj_iload5 F dX8_splice_129 ?_
            refine jj_aload6 F dX8_splice_131 ?_
            refine jj_iload2 F dX8_splice_133 ?_
            refine jj_iload3 F dX8_splice_134 ?_
            refine jj_aload7 F dX8_splice_135 ?_
            refine jj_callIv B (k := 10) (n := 111) (k7_init_t F.tr hL hR.1 hI1 hnt (by omega) (fun i h1 h2 => hz i h1 (by omega)) (by omega) (by omega) (by omega)) lk_X8_98 rfl ⟨Nat.le_of_ble_eq_true rfl, Nat.le_of_ble_eq_true rfl, Nat.le_of_ble_eq_true rfl, Nat.le_of_ble_eq_true rfl, Nat.le_of_ble_eq_true rfl⟩ ⟨Nat.le_of_ble_eq_true rfl, Nat.le_of_ble_eq_true rfl, Nat.le_of_ble_eq_true rfl, Nat.le_of_ble_eq_true rfl⟩ jj_tx0 dX8_splice_137 (fun G1 hG => ?_)
            obtain ⟨a1, a2, a3, hL⟩ := hG
            have hSp : sSplT s t f u v = sCopy (sCopy (sU s 37 0 0) t f u) v 0 (sLen s v) := if_neg (by omega)
            have hG : sSplG s t v = (if s 4 t < s 4 v then s 4 v else s 4 t) := if_neg (by omega)
            rw [← hSp] at hL
            have hL := hL.eq (tNew_6 (i := s 1 0) (y := -1))
            have hR := hR.grow4 hL (k1 := 16) (i1 := s 1 0) (k2 := 17) (i2 := s 1 0) (k3 := 18) (i3 := s 1 0) (k4 := 19) (i4 := s 1 0) (if_neg (by omega)) (if_neg (by omega)) (if_neg (by omega)) (if_neg (by omega)) (by decide) (by decide)
            refine c8_ast F (ad := (aT ad (s 1 0) q123 a1 a2 a3)) (fun _ => rfl) hR (k := 1) (i := 0) ((cU_k (by decide)).trans ((cU_k (by decide)).trans ((cU_k (by decide)).trans ((cU_k (by decide)).trans cc_1)))) (hL.at (m := 0) rfl) cs_7 (by omega) (by decide) dX8_splice_140 (fun G hR => ?_)
            refine jj_aload0 F dX8_splice_141 ?_
            refine jj_dup F rfl dX8_splice_142 ?_
            refine jj_get F (hR.at (k := 0) (i := 0) ((cU_k (by decide)).trans ((cU_k (by decide)).trans ((cU_k (by decide)).trans ((cU_k (by decide)).trans ((cU_k (by decide)).trans cc_0)))))) cs_8 (by decide) fd_X8_69 rfl dX8_splice_143 ?_
            refine jj_iconst F dX8_splice_146 ?_
            refine jj_iadd F dX8_splice_147 ?_
            refine c8_put F (ad := (aT ad (s 1 0) q123 a1 a2 a3)) hR (k := 0) (i := 0) ((cU_k (by decide)).trans ((cU_k (by decide)).trans ((cU_k (by decide)).trans ((cU_k (by decide)).trans ((cU_k (by decide)).trans cc_0))))) cs_8 (by decide) fd_X8_69 rfl rfl rfl (Nat.le_of_ble_eq_true rfl) dX8_splice_148 (fun G hR => ?_)
            refine jj_iload9 F dX8_splice_151 ?_
            have htt : t_splice s t f u v w = 0 := by unfold t_splice; (try rw [← hk]); (repeat (first | rw [if_pos (by omega)] | rw [if_neg (by omega)]))
            have h20 : ∀ i, 0 ≤ i → i < s 1 0 → s 7 i ≤ 20 := fun i h1 h2 => (hI1.tape ⟨h1, h2⟩).2.2.2.2.2.2
            have hR := hR.congr (C' := cC (jj_ac X) (aT ad (s 1 0) q123 a1 a2 a3) (sMakes (sU (sSplT s t f u v) 6 (s 1 0) (-1)) ((if s 4 t < s 4 v then s 4 v else s 4 t) + 1) w) (eT e (s 1 0) t f u v)) (kcases (fun i => by exact kz (fun i hi => by simp [cU, cC, hi]) (tHouse hN1) i) (fun i => by rw [cU_k (k := 0) (k' := 1) (by decide)]; exact kz (fun i hi => by simp [cU, cC, hi]) (tRow hN1 i1.1) i) (fun i => kc_2 (ac := jj_ac X) (ad := (aT ad (s 1 0) q123 a1 a2 a3)) (s := s) (e := (e)) (s' := (sMakes (sU (sSplT s t f u v) 6 (s 1 0) (-1)) ((if s 4 t < s 4 v then s 4 v else s 4 t) + 1) w)) (e' := (eT e (s 1 0) t f u v)) (hN1.hr 13 (by omega)) i) (fun i => kc_3 (ac := jj_ac X) (ad := (aT ad (s 1 0) q123 a1 a2 a3)) (s := s) (e := (e)) (s' := (sMakes (sU (sSplT s t f u v) 6 (s 1 0) (-1)) ((if s 4 t < s 4 v then s 4 v else s 4 t) + 1) w)) (e' := (eT e (s 1 0) t f u v)) (hN1.hr 22 (by omega)) i) (fun i => kc_4 (ac := jj_ac X) (ad := (aT ad (s 1 0) q123 a1 a2 a3)) (s := s) (e := (e)) (s' := (sMakes (sU (sSplT s t f u v) 6 (s 1 0) (-1)) ((if s 4 t < s 4 v then s 4 v else s 4 t) + 1) w)) (e' := (eT e (s 1 0) t f u v)) (hN1.hr 11 (by omega)) i) (fun i => by rw [cU_k (k := 0) (k' := 5) (by decide), cU_k (k := 1) (k' := 5) (by decide), cU_k (k := 19) (k' := 5) (by decide), cU_k (k := 18) (k' := 5) (by decide), cU_k (k := 17) (k' := 5) (by decide), cU_k (k := 16) (k' := 5) (by decide)]; show (if i = 0 then some (jj_aq (jj_ac X 2) 6 (pRow (aT ad (s 1 0) q123 a1 a2 a3) (sMakes (sU (sSplT s t f u v) 6 (s 1 0) (-1)) ((if s 4 t < s 4 v then s 4 v else s 4 t) + 1) w))) else none) = _; rw [pRow_grow hN1 (fun j h1 h2 => (hI2.2 j h1 h2).2)]; rfl) (fun i => kc_6 (ac := jj_ac X) (ad := (aT ad (s 1 0) q123 a1 a2 a3)) (s := s) (e := (e)) (s' := (sMakes (sU (sSplT s t f u v) 6 (s 1 0) (-1)) ((if s 4 t < s 4 v then s 4 v else s 4 t) + 1) w)) (e' := (eT e (s 1 0) t f u v)) (hN1.hr 26 (by omega)) (hN1.hr 28 (by omega)) i) (fun i => kc_7 (ac := jj_ac X) (ad := (aT ad (s 1 0) q123 a1 a2 a3)) (s := s) (e := (e)) (s' := (sMakes (sU (sSplT s t f u v) 6 (s 1 0) (-1)) ((if s 4 t < s 4 v then s 4 v else s 4 t) + 1) w)) (e' := (eT e (s 1 0) t f u v)) (hN1.hr 27 (by omega)) i) (fun i => kc_8 (ac := jj_ac X) (ad := (aT ad (s 1 0) q123 a1 a2 a3)) (s := s) (e := (e)) (s' := (sMakes (sU (sSplT s t f u v) 6 (s 1 0) (-1)) ((if s 4 t < s 4 v then s 4 v else s 4 t) + 1) w)) (e' := (eT e (s 1 0) t f u v)) (hN1.hr 29 (by omega)) i) (fun i => kc_9 (ac := jj_ac X) (ad := (aT ad (s 1 0) q123 a1 a2 a3)) (s := s) (e := (e)) (s' := (sMakes (sU (sSplT s t f u v) 6 (s 1 0) (-1)) ((if s 4 t < s 4 v then s 4 v else s 4 t) + 1) w)) (e' := (eT e (s 1 0) t f u v)) (hN1.hr 30 (by omega)) i) (fun i => kc_10 (ac := jj_ac X) (ad := (aT ad (s 1 0) q123 a1 a2 a3)) (s := s) (e := (e)) (s' := (sMakes (sU (sSplT s t f u v) 6 (s 1 0) (-1)) ((if s 4 t < s 4 v then s 4 v else s 4 t) + 1) w)) (e' := (eT e (s 1 0) t f u v)) (hN1.hr 31 (by omega)) i) (fun i => kc_11 (ac := jj_ac X) (ad := (aT ad (s 1 0) q123 a1 a2 a3)) (s := s) (e := (e)) (s' := (sMakes (sU (sSplT s t f u v) 6 (s 1 0) (-1)) ((if s 4 t < s 4 v then s 4 v else s 4 t) + 1) w)) (e' := (eT e (s 1 0) t f u v)) (hN1.hr 35 (by omega)) i) (fun i => kc_12 (ac := jj_ac X) (ad := (aT ad (s 1 0) q123 a1 a2 a3)) (s := s) (e := (e)) (s' := (sMakes (sU (sSplT s t f u v) 6 (s 1 0) (-1)) ((if s 4 t < s 4 v then s 4 v else s 4 t) + 1) w)) (e' := (eT e (s 1 0) t f u v)) (hN1.hk 0 (by decide)) i) (fun i => kc_13 (ac := jj_ac X) (ad := (aT ad (s 1 0) q123 a1 a2 a3)) (s := s) (e := (e)) (s' := (sMakes (sU (sSplT s t f u v) 6 (s 1 0) (-1)) ((if s 4 t < s 4 v then s 4 v else s 4 t) + 1) w)) (e' := (eT e (s 1 0) t f u v)) (hN1.hk 1 (by decide)) i) (fun i => kc_14 (ac := jj_ac X) (ad := (aT ad (s 1 0) q123 a1 a2 a3)) (s := s) (e := (e)) (s' := (sMakes (sU (sSplT s t f u v) 6 (s 1 0) (-1)) ((if s 4 t < s 4 v then s 4 v else s 4 t) + 1) w)) (e' := (eT e (s 1 0) t f u v)) (hN1.hr 36 (by omega)) i) (fun i => kc_15 (ac := jj_ac X) (ad := (aT ad (s 1 0) q123 a1 a2 a3)) (s := s) (e := (e)) (s' := (sMakes (sU (sSplT s t f u v) 6 (s 1 0) (-1)) ((if s 4 t < s 4 v then s 4 v else s 4 t) + 1) w)) (e' := (eT e (s 1 0) t f u v)) (hN1.hr 31 (by omega)) i) (fun i => by rw [cU_k (k := 0) (k' := 16) (by decide), cU_k (k := 1) (k' := 16) (by decide), cU_k (k := 19) (k' := 16) (by decide), cU_k (k := 18) (k' := 16) (by decide), cU_k (k := 17) (k' := 16) (by decide)]; exact tk_16 hN1 h20 i1.1 (by rw [eT_2, oRef_grow (by omega), oRef_at (by omega)]; rfl) (by rw [eT_5, oRef_grow (by omega), oRef_at (by omega)]; rfl) i) (fun i => by rw [cU_k (k := 0) (k' := 17) (by decide), cU_k (k := 1) (k' := 17) (by decide), cU_k (k := 19) (k' := 17) (by decide), cU_k (k := 18) (k' := 17) (by decide)]; exact tk_w (r := 8) hN1 i1.1 (fun i hi => (hN1.h8 i hi).1) (fun i _ => rfl) i) (fun i => by rw [cU_k (k := 0) (k' := 18) (by decide), cU_k (k := 1) (k' := 18) (by decide), cU_k (k := 19) (k' := 18) (by decide)]; exact tk_w (r := 9) hN1 i1.1 (fun i hi => (hN1.h8 i hi).2.1) (fun i _ => rfl) i) (fun i => by rw [cU_k (k := 0) (k' := 19) (by decide), cU_k (k := 1) (k' := 19) (by decide)]; exact tk_w (r := 10) hN1 i1.1 (fun i hi => (hN1.h8 i hi).2.2) (fun i _ => rfl) i) (fun i => kc_20 (ac := jj_ac X) (ad := (aT ad (s 1 0) q123 a1 a2 a3)) (s := s) (e := (e)) (s' := (sMakes (sU (sSplT s t f u v) 6 (s 1 0) (-1)) ((if s 4 t < s 4 v then s 4 v else s 4 t) + 1) w)) (e' := (eT e (s 1 0) t f u v)) (hN1.hr 13 (by omega)) (hN1.hr 14 (by omega)) (hN1.hr 15 (by omega)) (hN1.hr 16 (by omega)) i) (fun i => kc_21 (ac := jj_ac X) (ad := (aT ad (s 1 0) q123 a1 a2 a3)) (s := s) (e := (e)) (s' := (sMakes (sU (sSplT s t f u v) 6 (s 1 0) (-1)) ((if s 4 t < s 4 v then s 4 v else s 4 t) + 1) w)) (e' := (eT e (s 1 0) t f u v)) (hN1.hr 13 (by omega)) (hN1.hr 14 (by omega)) i) (fun i => kc_22 (ac := jj_ac X) (ad := (aT ad (s 1 0) q123 a1 a2 a3)) (s := s) (e := (e)) (s' := (sMakes (sU (sSplT s t f u v) 6 (s 1 0) (-1)) ((if s 4 t < s 4 v then s 4 v else s 4 t) + 1) w)) (e' := (eT e (s 1 0) t f u v)) (hN1.hr 13 (by omega)) (hN1.hr 16 (by omega)) i) (fun i => kc_23 (ac := jj_ac X) (ad := (aT ad (s 1 0) q123 a1 a2 a3)) (s := s) (e := (e)) (s' := (sMakes (sU (sSplT s t f u v) 6 (s 1 0) (-1)) ((if s 4 t < s 4 v then s 4 v else s 4 t) + 1) w)) (e' := (eT e (s 1 0) t f u v)) (hN1.hr 16 (by omega)) (hN1.hr 17 (by omega)) (hN1.hr 18 (by omega)) (hN1.hr 19 (by omega)) (hN1.hr 20 (by omega)) (hN1.hr 21 (by omega)) (hN1.hr 22 (by omega)) (hN1.hr 23 (by omega)) i) (fun i => kc_24 (ac := jj_ac X) (ad := (aT ad (s 1 0) q123 a1 a2 a3)) (s := s) (e := (e)) (s' := (sMakes (sU (sSplT s t f u v) 6 (s 1 0) (-1)) ((if s 4 t < s 4 v then s 4 v else s 4 t) + 1) w)) (e' := (eT e (s 1 0) t f u v)) (hN1.hr 22 (by omega)) (hN1.hr 23 (by omega)) (hN1.hr 24 (by omega)) i) (fun i => kc_25 (ac := jj_ac X) (ad := (aT ad (s 1 0) q123 a1 a2 a3)) (s := s) (e := (e)) (s' := (sMakes (sU (sSplT s t f u v) 6 (s 1 0) (-1)) ((if s 4 t < s 4 v then s 4 v else s 4 t) + 1) w)) (e' := (eT e (s 1 0) t f u v)) (hN1.hr 22 (by omega)) (hN1.hr 25 (by omega)) i) (fun i => kc_26 (ac := jj_ac X) (ad := (aT ad (s 1 0) q123 a1 a2 a3)) (s := s) (e := (e)) (s' := (sMakes (sU (sSplT s t f u v) 6 (s 1 0) (-1)) ((if s 4 t < s 4 v then s 4 v else s 4 t) + 1) w)) (e' := (eT e (s 1 0) t f u v)) (hN1.hr 31 (by omega)) (hN1.hr 32 (by omega)) (hN1.hr 33 (by omega)) i) (fun i => kc_27 (ac := jj_ac X) (ad := (aT ad (s 1 0) q123 a1 a2 a3)) (s := s) (e := (e)) (s' := (sMakes (sU (sSplT s t f u v) 6 (s 1 0) (-1)) ((if s 4 t < s 4 v then s 4 v else s 4 t) + 1) w)) (e' := (eT e (s 1 0) t f u v)) (hN1.hr 31 (by omega)) (hN1.hr 34 (by omega)) i) (fun k i => rfl))
            rw [← hG] at hR
            exact jj_iret B dX8_splice_153 ⟨Nat.le_of_ble_eq_true rfl, Nat.le_of_ble_eq_true rfl⟩ (⟨_, rfl, htt, (by unfold r_splice; refine Eq.trans ?_ (if_pos htt).symm; rfl), (aT ad (s 1 0) q123 a1 a2 a3), rfl, (by unfold n_splice; first | (rw [if_pos htt]; exact hR) | exact hR | exact hR.c37)⟩)
          · skip
            exact jj_throwS B th_3 sr_X8_95 rfl (Or.inr (Or.inr ⟨(by unfold t_splice; (try rw [← hk]); (repeat (first | rw [if_pos (by omega)] | rw [if_neg (by omega)]))), rfl⟩)) ⟨Nat.le_of_ble_eq_true rfl, Nat.le_of_ble_eq_true rfl, Nat.le_of_ble_eq_true rfl, Nat.le_of_ble_eq_true rfl⟩ dX8_splice_101 dX8_splice_104 dX8_splice_105 dX8_splice_107 dX8_splice_110
        · skip
          exact jj_throwS B th_2 sr_X8_80 rfl (Or.inr (Or.inl ⟨(by unfold t_splice; (try rw [← hk]); (repeat (first | rw [if_pos (by omega)] | rw [if_neg (by omega)]))), rfl⟩)) ⟨Nat.le_of_ble_eq_true rfl, Nat.le_of_ble_eq_true rfl, Nat.le_of_ble_eq_true rfl, Nat.le_of_ble_eq_true rfl⟩ dX8_splice_48 dX8_splice_51 dX8_splice_52 dX8_splice_54 dX8_splice_57
  · skip
    refine jj_null F dX8_splice_13 ?_
    refine jj_goto F (tgt := 23) dX8_splice_14 rfl ?_
    refine jj_nstore7 F dX8_splice_23 (hN _ (by decide)) rfl ?_
    refine jj_iload5 F dX8_splice_25 ?_
    refine jj_callSv B (k := 2) (n := 12) (k8_requireVault F.tr (by omega)) lk_X8_52 rfl ⟨Nat.le_of_ble_eq_true rfl, Nat.le_of_ble_eq_true rfl, Nat.le_of_ble_eq_true rfl, Nat.le_of_ble_eq_true rfl, Nat.le_of_ble_eq_true rfl⟩ ⟨Nat.le_of_ble_eq_true rfl, Nat.le_of_ble_eq_true rfl, Nat.le_of_ble_eq_true rfl, Nat.le_of_ble_eq_true rfl⟩ (fun E h => ⟨rfl, by obtain ⟨rfl, hh⟩ := h; exact (Or.inl ⟨(by unfold t_splice; (try rw [← hk]); (repeat (first | rw [if_pos (by omega)] | rw [if_neg (by omega)]))), rfl⟩)⟩) dX8_splice_27 (fun G h => ?_)
    obtain ⟨hrv, rfl⟩ := h
    refine jj_iload2 F dX8_splice_30 ?_
    refine jj_if_lt F (tgt := 48) dX8_splice_31 rfl (by omega) (fun c31 => ?_) (fun c31 => ?_)
    · skip
      exact jj_throwS B th_2 sr_X8_80 rfl (Or.inr (Or.inl ⟨(by unfold t_splice; (try rw [← hk]); (repeat (first | rw [if_pos (by omega)] | rw [if_neg (by omega)]))), rfl⟩)) ⟨Nat.le_of_ble_eq_true rfl, Nat.le_of_ble_eq_true rfl, Nat.le_of_ble_eq_true rfl, Nat.le_of_ble_eq_true rfl⟩ dX8_splice_48 dX8_splice_51 dX8_splice_52 dX8_splice_54 dX8_splice_57
    · skip
      refine jj_iload3 F dX8_splice_34 ?_
      refine jj_iload2 F dX8_splice_35 ?_
      refine jj_icmp_le F (tgt := 48) dX8_splice_36 rfl (by omega) (fun c36 => ?_) (fun c36 => ?_)
      · skip
        exact jj_throwS B th_2 sr_X8_80 rfl (Or.inr (Or.inl ⟨(by unfold t_splice; (try rw [← hk]); (repeat (first | rw [if_pos (by omega)] | rw [if_neg (by omega)]))), rfl⟩)) ⟨Nat.le_of_ble_eq_true rfl, Nat.le_of_ble_eq_true rfl, Nat.le_of_ble_eq_true rfl, Nat.le_of_ble_eq_true rfl⟩ dX8_splice_48 dX8_splice_51 dX8_splice_52 dX8_splice_54 dX8_splice_57
      · skip
        refine jj_iload3 F dX8_splice_39 ?_
        refine jj_aload6 F dX8_splice_40 ?_
        refine jj_get F (hR.at (k := 16) (i := t) (if_pos (show 0 ≤ t ∧ t < s 1 0 by omega))) cs_7 (by decide) fd_X8_77 rfl dX8_splice_42 ?_
        refine jj_icmp_le F (tgt := 58) dX8_splice_45 rfl (by have := sLen_in hI1 (t := t) (by omega); omega) (fun c45 => ?_) (fun c45 => ?_)
        · skip
          refine jj_aload0 F dX8_splice_58 ?_
          refine jj_aload6 F dX8_splice_59 ?_
          refine jj_callVv B (k := 3) (n := 18) (k8_requirePlayable F.tr hR.1 hI1 (by omega)) lk_X8_82 (hR.at (k := 0) (i := 0) cc_0) cs_8 rfl rfl ⟨Nat.le_of_ble_eq_true rfl, Nat.le_of_ble_eq_true rfl, Nat.le_of_ble_eq_true rfl, Nat.le_of_ble_eq_true rfl, Nat.le_of_ble_eq_true rfl⟩ ⟨Nat.le_of_ble_eq_true rfl, Nat.le_of_ble_eq_true rfl, Nat.le_of_ble_eq_true rfl, Nat.le_of_ble_eq_true rfl⟩ (fun E h => ⟨rfl, by obtain ⟨rfl, hh⟩ := h; exact (Or.inr (Or.inr ⟨(by unfold t_splice; (try rw [← hk]); (repeat (first | rw [if_pos (by omega)] | rw [if_neg (by omega)]))), rfl⟩))⟩) dX8_splice_61 (fun G h => ?_)
          obtain ⟨hpy, rfl⟩ := h
          refine jj_aload6 F dX8_splice_64 ?_
          refine jj_iload2 F dX8_splice_66 ?_
          refine jj_iload3 F dX8_splice_67 ?_
          refine jj_callVr B (k := 3) (n := 18) (k7_spansBetween F.tr hR.1 hI1 (by omega) hf hu) lk_X8_86 (hR.at (k := 16) (i := t) (if_pos (show 0 ≤ t ∧ t < s 1 0 by omega))) cs_7 rfl rfl ⟨Nat.le_of_ble_eq_true rfl, Nat.le_of_ble_eq_true rfl, Nat.le_of_ble_eq_true rfl, Nat.le_of_ble_eq_true rfl, Nat.le_of_ble_eq_true rfl⟩ ⟨Nat.le_of_ble_eq_true rfl, Nat.le_of_ble_eq_true rfl, Nat.le_of_ble_eq_true rfl, Nat.le_of_ble_eq_true rfl⟩ jj_tx0 dX8_splice_68 ?_
          have hsq := sSpansTo_in s t f u (s 7 t).toNat
          have gt := hI1.tape (t := t) (by omega)
          have hsr : 0 ≤ sSpans s t f u ∧ sSpans s t f u ≤ 20 := by unfold sSpans; omega
          refine jj_istore8 F dX8_splice_71 (hN _ (by decide)) rfl ?_
          refine jj_nload7 F dX8_splice_73 ?_
          refine jj_ifnull F (r := none) (tgt := 94) dX8_splice_75 rfl (fun _ => ?_) (fun _ h => by cases h)
          refine jj_iload8 F dX8_splice_94 ?_
          refine jj_bipush F (by decide) dX8_splice_96 ?_
          refine jj_icmp_le F (tgt := 111) dX8_splice_98 rfl (by first | omega | (have := hI1.tape (t := v) (by omega); omega)) (fun c98 => ?_) (fun c98 => ?_)
          · skip
            refine jj_aload0 F dX8_splice_111 ?_
            refine jj_callVi B (k := 4) (n := 24) (k8_nextTape F.tr hR.1 i1) lk_X8_62 (hR.at (k := 0) (i := 0) cc_0) cs_8 rfl rfl ⟨Nat.le_of_ble_eq_true rfl, Nat.le_of_ble_eq_true rfl, Nat.le_of_ble_eq_true rfl, Nat.le_of_ble_eq_true rfl, Nat.le_of_ble_eq_true rfl⟩ ⟨Nat.le_of_ble_eq_true rfl, Nat.le_of_ble_eq_true rfl, Nat.le_of_ble_eq_true rfl, Nat.le_of_ble_eq_true rfl⟩ (fun E h => ⟨rfl, by obtain ⟨rfl, hh⟩ := h; exact (Or.inr (Or.inr ⟨(by unfold t_splice; (try rw [← hk]); (repeat (first | rw [if_pos (by omega)] | rw [if_neg (by omega)]))), rfl⟩))⟩) dX8_splice_112 (fun r G h => ?_)
            obtain ⟨rfl, hnt, rfl⟩ := h
            have hT := hI1.2.2.2.1 (s 1 0) (by omega) (by omega)
            have hN1 := tnew_spl (s := s) (e := e) (t := t) (f := f) (u := u) (v := v) hI1 hnt (by omega) (by omega) (by omega) hT.2 hE
            refine jj_istore9 F dX8_splice_115 (hN _ (by decide)) rfl ?_
            refine jj_aload0 F dX8_splice_117 ?_
            refine jj_get F (hR.at (k := 0) (i := 0) cc_0) cs_8 (by decide) fd_X8_11 rfl dX8_splice_118 ?_
            refine jj_iload9 F dX8_splice_121 ?_
            refine jj_new F (k := 5) (n := 39) (fs := [.int (jI 0), .int (jI 0), .int (jI 0), .int (jI 0), .null, .int (jI 0), .int (jI 0), .null, .null, .null, .null, .int (jI 0), .int (jI 0), .int (jI 0), .int (jI 0)]) cs_7 cl_X8_9 ins_7 ini_7 (fun j hj => match j, hj with | 0, _ => rfl | 1, _ => rfl | 2, _ => rfl | 3, _ => rfl | 4, _ => rfl | 5, _ => rfl | 6, _ => rfl | 7, _ => rfl | 8, _ => rfl | 9, _ => rfl | 10, _ => rfl | 11, _ => rfl | 12, _ => rfl | 13, _ => rfl | 14, _ => rfl | q + 15, h => absurd h (by omega)) ⟨Nat.le_of_ble_eq_true rfl, Nat.le_of_ble_eq_true rfl, Nat.le_of_ble_eq_true rfl, Nat.le_of_ble_eq_true rfl⟩ dX8_splice_123 (fun q123 hq123 => ?_)
            have hL := GL.one hq123 (x := jj_o 7 [.int (jI 0), .int (jI 0), .int (jI 0), .int (jI 0), .null, .int (jI 0), .int (jI 0), .null, .null, .null, .null, .int (jI 0), .int (jI 0), .int (jI 0), .int (jI 0)])
            refine jj_dup F rfl dX8_splice_126 ?_
            refine jj_iload9 F dX8_splice_127 ?_
            refine jj_iload5 F dX8_splice_129 ?_
            refine jj_aload6 F dX8_splice_131 ?_
            refine jj_iload2 F dX8_splice_133 ?_
            refine jj_iload3 F dX8_splice_134 ?_
            refine jj_nload7 F dX8_splice_135 ?_
            refine jj_callIv B (k := 8) (n := 99) (k7_init_n F.tr hL hR.1 hI1 hnt (by omega) (fun i h1 h2 => hz i h1 (by omega)) (by omega) (by omega)) lk_X8_98 rfl ⟨Nat.le_of_ble_eq_true rfl, Nat.le_of_ble_eq_true rfl, Nat.le_of_ble_eq_true rfl, Nat.le_of_ble_eq_true rfl, Nat.le_of_ble_eq_true rfl⟩ ⟨Nat.le_of_ble_eq_true rfl, Nat.le_of_ble_eq_true rfl, Nat.le_of_ble_eq_true rfl, Nat.le_of_ble_eq_true rfl⟩ jj_tx0 dX8_splice_137 (fun G1 hG => ?_)
            obtain ⟨a1, a2, a3, hL⟩ := hG
            have hSp : sSplT s t f u v = sCopy (sU s 37 0 0) t f u := if_pos (by omega)
            have hG : sSplG s t v = s 4 t := if_pos (by omega)
            rw [← hSp] at hL
            have hL := hL.eq (tNew_6 (i := s 1 0) (y := -1))
            have hR := hR.grow4 hL (k1 := 16) (i1 := s 1 0) (k2 := 17) (i2 := s 1 0) (k3 := 18) (i3 := s 1 0) (k4 := 19) (i4 := s 1 0) (if_neg (by omega)) (if_neg (by omega)) (if_neg (by omega)) (if_neg (by omega)) (by decide) (by decide)
            refine c8_ast F (ad := (aT ad (s 1 0) q123 a1 a2 a3)) (fun _ => rfl) hR (k := 1) (i := 0) ((cU_k (by decide)).trans ((cU_k (by decide)).trans ((cU_k (by decide)).trans ((cU_k (by decide)).trans cc_1)))) (hL.at (m := 0) rfl) cs_7 (by omega) (by decide) dX8_splice_140 (fun G hR => ?_)
            refine jj_aload0 F dX8_splice_141 ?_
            refine jj_dup F rfl dX8_splice_142 ?_
            refine jj_get F (hR.at (k := 0) (i := 0) ((cU_k (by decide)).trans ((cU_k (by decide)).trans ((cU_k (by decide)).trans ((cU_k (by decide)).trans ((cU_k (by decide)).trans cc_0)))))) cs_8 (by decide) fd_X8_69 rfl dX8_splice_143 ?_
            refine jj_iconst F dX8_splice_146 ?_
            refine jj_iadd F dX8_splice_147 ?_
            refine c8_put F (ad := (aT ad (s 1 0) q123 a1 a2 a3)) hR (k := 0) (i := 0) ((cU_k (by decide)).trans ((cU_k (by decide)).trans ((cU_k (by decide)).trans ((cU_k (by decide)).trans ((cU_k (by decide)).trans cc_0))))) cs_8 (by decide) fd_X8_69 rfl rfl rfl (Nat.le_of_ble_eq_true rfl) dX8_splice_148 (fun G hR => ?_)
            refine jj_iload9 F dX8_splice_151 ?_
            have htt : t_splice s t f u v w = 0 := by unfold t_splice; (try rw [← hk]); (repeat (first | rw [if_pos (by omega)] | rw [if_neg (by omega)]))
            have h20 : ∀ i, 0 ≤ i → i < s 1 0 → s 7 i ≤ 20 := fun i h1 h2 => (hI1.tape ⟨h1, h2⟩).2.2.2.2.2.2
            have hR := hR.congr (C' := cC (jj_ac X) (aT ad (s 1 0) q123 a1 a2 a3) (sMakes (sU (sSplT s t f u v) 6 (s 1 0) (-1)) (s 4 t + 1) w) (eT e (s 1 0) t f u v)) (kcases (fun i => by exact kz (fun i hi => by simp [cU, cC, hi]) (tHouse hN1) i) (fun i => by rw [cU_k (k := 0) (k' := 1) (by decide)]; exact kz (fun i hi => by simp [cU, cC, hi]) (tRow hN1 i1.1) i) (fun i => kc_2 (ac := jj_ac X) (ad := (aT ad (s 1 0) q123 a1 a2 a3)) (s := s) (e := (e)) (s' := (sMakes (sU (sSplT s t f u v) 6 (s 1 0) (-1)) (s 4 t + 1) w)) (e' := (eT e (s 1 0) t f u v)) (hN1.hr 13 (by omega)) i) (fun i => kc_3 (ac := jj_ac X) (ad := (aT ad (s 1 0) q123 a1 a2 a3)) (s := s) (e := (e)) (s' := (sMakes (sU (sSplT s t f u v) 6 (s 1 0) (-1)) (s 4 t + 1) w)) (e' := (eT e (s 1 0) t f u v)) (hN1.hr 22 (by omega)) i) (fun i => kc_4 (ac := jj_ac X) (ad := (aT ad (s 1 0) q123 a1 a2 a3)) (s := s) (e := (e)) (s' := (sMakes (sU (sSplT s t f u v) 6 (s 1 0) (-1)) (s 4 t + 1) w)) (e' := (eT e (s 1 0) t f u v)) (hN1.hr 11 (by omega)) i) (fun i => by rw [cU_k (k := 0) (k' := 5) (by decide), cU_k (k := 1) (k' := 5) (by decide), cU_k (k := 19) (k' := 5) (by decide), cU_k (k := 18) (k' := 5) (by decide), cU_k (k := 17) (k' := 5) (by decide), cU_k (k := 16) (k' := 5) (by decide)]; show (if i = 0 then some (jj_aq (jj_ac X 2) 6 (pRow (aT ad (s 1 0) q123 a1 a2 a3) (sMakes (sU (sSplT s t f u v) 6 (s 1 0) (-1)) (s 4 t + 1) w))) else none) = _; rw [pRow_grow hN1 (fun j h1 h2 => (hI2.2 j h1 h2).2)]; rfl) (fun i => kc_6 (ac := jj_ac X) (ad := (aT ad (s 1 0) q123 a1 a2 a3)) (s := s) (e := (e)) (s' := (sMakes (sU (sSplT s t f u v) 6 (s 1 0) (-1)) (s 4 t + 1) w)) (e' := (eT e (s 1 0) t f u v)) (hN1.hr 26 (by omega)) (hN1.hr 28 (by omega)) i) (fun i => kc_7 (ac := jj_ac X) (ad := (aT ad (s 1 0) q123 a1 a2 a3)) (s := s) (e := (e)) (s' := (sMakes (sU (sSplT s t f u v) 6 (s 1 0) (-1)) (s 4 t + 1) w)) (e' := (eT e (s 1 0) t f u v)) (hN1.hr 27 (by omega)) i) (fun i => kc_8 (ac := jj_ac X) (ad := (aT ad (s 1 0) q123 a1 a2 a3)) (s := s) (e := (e)) (s' := (sMakes (sU (sSplT s t f u v) 6 (s 1 0) (-1)) (s 4 t + 1) w)) (e' := (eT e (s 1 0) t f u v)) (hN1.hr 29 (by omega)) i) (fun i => kc_9 (ac := jj_ac X) (ad := (aT ad (s 1 0) q123 a1 a2 a3)) (s := s) (e := (e)) (s' := (sMakes (sU (sSplT s t f u v) 6 (s 1 0) (-1)) (s 4 t + 1) w)) (e' := (eT e (s 1 0) t f u v)) (hN1.hr 30 (by omega)) i) (fun i => kc_10 (ac := jj_ac X) (ad := (aT ad (s 1 0) q123 a1 a2 a3)) (s := s) (e := (e)) (s' := (sMakes (sU (sSplT s t f u v) 6 (s 1 0) (-1)) (s 4 t + 1) w)) (e' := (eT e (s 1 0) t f u v)) (hN1.hr 31 (by omega)) i) (fun i => kc_11 (ac := jj_ac X) (ad := (aT ad (s 1 0) q123 a1 a2 a3)) (s := s) (e := (e)) (s' := (sMakes (sU (sSplT s t f u v) 6 (s 1 0) (-1)) (s 4 t + 1) w)) (e' := (eT e (s 1 0) t f u v)) (hN1.hr 35 (by omega)) i) (fun i => kc_12 (ac := jj_ac X) (ad := (aT ad (s 1 0) q123 a1 a2 a3)) (s := s) (e := (e)) (s' := (sMakes (sU (sSplT s t f u v) 6 (s 1 0) (-1)) (s 4 t + 1) w)) (e' := (eT e (s 1 0) t f u v)) (hN1.hk 0 (by decide)) i) (fun i => kc_13 (ac := jj_ac X) (ad := (aT ad (s 1 0) q123 a1 a2 a3)) (s := s) (e := (e)) (s' := (sMakes (sU (sSplT s t f u v) 6 (s 1 0) (-1)) (s 4 t + 1) w)) (e' := (eT e (s 1 0) t f u v)) (hN1.hk 1 (by decide)) i) (fun i => kc_14 (ac := jj_ac X) (ad := (aT ad (s 1 0) q123 a1 a2 a3)) (s := s) (e := (e)) (s' := (sMakes (sU (sSplT s t f u v) 6 (s 1 0) (-1)) (s 4 t + 1) w)) (e' := (eT e (s 1 0) t f u v)) (hN1.hr 36 (by omega)) i) (fun i => kc_15 (ac := jj_ac X) (ad := (aT ad (s 1 0) q123 a1 a2 a3)) (s := s) (e := (e)) (s' := (sMakes (sU (sSplT s t f u v) 6 (s 1 0) (-1)) (s 4 t + 1) w)) (e' := (eT e (s 1 0) t f u v)) (hN1.hr 31 (by omega)) i) (fun i => by rw [cU_k (k := 0) (k' := 16) (by decide), cU_k (k := 1) (k' := 16) (by decide), cU_k (k := 19) (k' := 16) (by decide), cU_k (k := 18) (k' := 16) (by decide), cU_k (k := 17) (k' := 16) (by decide)]; exact tk_16 hN1 h20 i1.1 (by rw [eT_2, oRef_grow (by omega), oRef_at (by omega)]; rfl) (by rw [eT_5, oRef_no (by omega)]; rfl) i) (fun i => by rw [cU_k (k := 0) (k' := 17) (by decide), cU_k (k := 1) (k' := 17) (by decide), cU_k (k := 19) (k' := 17) (by decide), cU_k (k := 18) (k' := 17) (by decide)]; exact tk_w (r := 8) hN1 i1.1 (fun i hi => (hN1.h8 i hi).1) (fun i _ => rfl) i) (fun i => by rw [cU_k (k := 0) (k' := 18) (by decide), cU_k (k := 1) (k' := 18) (by decide), cU_k (k := 19) (k' := 18) (by decide)]; exact tk_w (r := 9) hN1 i1.1 (fun i hi => (hN1.h8 i hi).2.1) (fun i _ => rfl) i) (fun i => by rw [cU_k (k := 0) (k' := 19) (by decide), cU_k (k := 1) (k' := 19) (by decide)]; exact tk_w (r := 10) hN1 i1.1 (fun i hi => (hN1.h8 i hi).2.2) (fun i _ => rfl) i) (fun i => kc_20 (ac := jj_ac X) (ad := (aT ad (s 1 0) q123 a1 a2 a3)) (s := s) (e := (e)) (s' := (sMakes (sU (sSplT s t f u v) 6 (s 1 0) (-1)) (s 4 t + 1) w)) (e' := (eT e (s 1 0) t f u v)) (hN1.hr 13 (by omega)) (hN1.hr 14 (by omega)) (hN1.hr 15 (by omega)) (hN1.hr 16 (by omega)) i) (fun i => kc_21 (ac := jj_ac X) (ad := (aT ad (s 1 0) q123 a1 a2 a3)) (s := s) (e := (e)) (s' := (sMakes (sU (sSplT s t f u v) 6 (s 1 0) (-1)) (s 4 t + 1) w)) (e' := (eT e (s 1 0) t f u v)) (hN1.hr 13 (by omega)) (hN1.hr 14 (by omega)) i) (fun i => kc_22 (ac := jj_ac X) (ad := (aT ad (s 1 0) q123 a1 a2 a3)) (s := s) (e := (e)) (s' := (sMakes (sU (sSplT s t f u v) 6 (s 1 0) (-1)) (s 4 t + 1) w)) (e' := (eT e (s 1 0) t f u v)) (hN1.hr 13 (by omega)) (hN1.hr 16 (by omega)) i) (fun i => kc_23 (ac := jj_ac X) (ad := (aT ad (s 1 0) q123 a1 a2 a3)) (s := s) (e := (e)) (s' := (sMakes (sU (sSplT s t f u v) 6 (s 1 0) (-1)) (s 4 t + 1) w)) (e' := (eT e (s 1 0) t f u v)) (hN1.hr 16 (by omega)) (hN1.hr 17 (by omega)) (hN1.hr 18 (by omega)) (hN1.hr 19 (by omega)) (hN1.hr 20 (by omega)) (hN1.hr 21 (by omega)) (hN1.hr 22 (by omega)) (hN1.hr 23 (by omega)) i) (fun i => kc_24 (ac := jj_ac X) (ad := (aT ad (s 1 0) q123 a1 a2 a3)) (s := s) (e := (e)) (s' := (sMakes (sU (sSplT s t f u v) 6 (s 1 0) (-1)) (s 4 t + 1) w)) (e' := (eT e (s 1 0) t f u v)) (hN1.hr 22 (by omega)) (hN1.hr 23 (by omega)) (hN1.hr 24 (by omega)) i) (fun i => kc_25 (ac := jj_ac X) (ad := (aT ad (s 1 0) q123 a1 a2 a3)) (s := s) (e := (e)) (s' := (sMakes (sU (sSplT s t f u v) 6 (s 1 0) (-1)) (s 4 t + 1) w)) (e' := (eT e (s 1 0) t f u v)) (hN1.hr 22 (by omega)) (hN1.hr 25 (by omega)) i) (fun i => kc_26 (ac := jj_ac X) (ad := (aT ad (s 1 0) q123 a1 a2 a3)) (s := s) (e := (e)) (s' := (sMakes (sU (sSplT s t f u v) 6 (s 1 0) (-1)) (s 4 t + 1) w)) (e' := (eT e (s 1 0) t f u v)) (hN1.hr 31 (by omega)) (hN1.hr 32 (by omega)) (hN1.hr 33 (by omega)) i) (fun i => kc_27 (ac := jj_ac X) (ad := (aT ad (s 1 0) q123 a1 a2 a3)) (s := s) (e := (e)) (s' := (sMakes (sU (sSplT s t f u v) 6 (s 1 0) (-1)) (s 4 t + 1) w)) (e' := (eT e (s 1 0) t f u v)) (hN1.hr 31 (by omega)) (hN1.hr 34 (by omega)) i) (fun k i => rfl))
            rw [← hG] at hR
            exact jj_iret B dX8_splice_153 ⟨Nat.le_of_ble_eq_true rfl, Nat.le_of_ble_eq_true rfl⟩ (⟨_, rfl, htt, (by unfold r_splice; refine Eq.trans ?_ (if_pos htt).symm; rfl), (aT ad (s 1 0) q123 a1 a2 a3), rfl, (by unfold n_splice; first | (rw [if_pos htt]; exact hR) | exact hR | exact hR.c37)⟩)
          · skip
            exact jj_throwS B th_3 sr_X8_95 rfl (Or.inr (Or.inr ⟨(by exfalso; omega), rfl⟩)) ⟨Nat.le_of_ble_eq_true rfl, Nat.le_of_ble_eq_true rfl, Nat.le_of_ble_eq_true rfl, Nat.le_of_ble_eq_true rfl⟩ dX8_splice_101 dX8_splice_104 dX8_splice_105 dX8_splice_107 dX8_splice_110
        · skip
          exact jj_throwS B th_2 sr_X8_80 rfl (Or.inr (Or.inl ⟨(by unfold t_splice; (try rw [← hk]); (repeat (first | rw [if_pos (by omega)] | rw [if_neg (by omega)]))), rfl⟩)) ⟨Nat.le_of_ble_eq_true rfl, Nat.le_of_ble_eq_true rfl, Nat.le_of_ble_eq_true rfl, Nat.le_of_ble_eq_true rfl⟩ dX8_splice_48 dX8_splice_51 dX8_splice_52 dX8_splice_54 dX8_splice_57
