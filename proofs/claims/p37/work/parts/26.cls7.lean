theorem sI3_c {s s' : Sg} (h13 : s' 13 = s 13) (h14 : s' 14 = s 14) (h15 : s' 15 = s 15) (h : sI3 s) : sI3 s' := by
  unfold sI3 at h ⊢
  rw [h13, h14, h15, sSec_c h14]
  exact h
/-- an account, the due of a sale taken out of it and another put in -/
def sLesA (s : Sg) (z : Int) : Nat → Sg
  | 0 => s
  | n + 1 => sU (sLesA s z n) 36 n (jW (s 36 n - sDue s z n (s 33 z)))
def sLesB (s : Sg) (z m : Int) (S : Sg) : Nat → Sg
  | 0 => S
  | n + 1 => sU (sLesB s z m S n) 36 n (jW (jW (s 36 n - sDue s z n (s 33 z)) + sDue s z n (s 33 z - m)))
theorem sLesA_n {s : Sg} {z : Int} {k : Nat} (hk : k ≠ 36) (n : Nat) : sLesA s z n k = s k := by
  induction n with
  | zero => rfl
  | succ n ih => unfold sLesA; rw [sU_n hk, ih]
theorem sLesB_n {s S : Sg} {z m : Int} {k : Nat} (hk : k ≠ 36) (n : Nat) : sLesB s z m S n k = S k := by
  induction n with
  | zero => rfl
  | succ n ih => unfold sLesB; rw [sU_n hk, ih]
theorem sLesA_36 {s : Sg} {z i : Int} (n : Nat) : sLesA s z n 36 i = if 0 ≤ i ∧ i < n then jW (s 36 i - sDue s z i (s 33 z)) else s 36 i := by
  induction n with
  | zero => rw [if_neg (by omega)]; rfl
  | succ n ih =>
    unfold sLesA
    by_cases h : i = n
    · subst h; rw [sU_s, if_pos (by omega)]
    · rw [sU_i h, ih]
      by_cases h2 : 0 ≤ i ∧ i < n
      · rw [if_pos h2, if_pos (by omega)]
      · rw [if_neg h2, if_neg (by omega)]
theorem sLesB_36 {s S : Sg} {z m i : Int} (n : Nat) : sLesB s z m S n 36 i = if 0 ≤ i ∧ i < n then jW (jW (s 36 i - sDue s z i (s 33 z)) + sDue s z i (s 33 z - m)) else S 36 i := by
  induction n with
  | zero => rw [if_neg (by omega)]; rfl
  | succ n ih =>
    unfold sLesB
    by_cases h : i = n
    · subst h; rw [sU_s, if_pos (by omega)]
    · rw [sU_i h, ih]
      by_cases h2 : 0 ≤ i ∧ i < n
      · rw [if_pos h2, if_pos (by omega)]
      · rw [if_neg h2, if_neg (by omega)]
theorem sOffTo_36 {s : Sg} {z m i : Int} (n : Nat) : sOffTo s z m n 36 i = if 0 ≤ i ∧ i < n then jW (s 36 i + (sDue s z i (s 33 z - m) - sDue s z i (s 33 z))) else s 36 i := by
  induction n with
  | zero => rw [if_neg (by omega)]; rfl
  | succ n ih =>
    unfold sOffTo
    by_cases h : i = n
    · subst h; rw [sU_s, if_pos (by omega)]
    · rw [sU_i h, ih]
      by_cases h2 : 0 ≤ i ∧ i < n
      · rw [if_pos h2, if_pos (by omega)]
      · rw [if_neg h2, if_neg (by omega)]
theorem jW_two (a d d' : Int) : jW (jW (a - d) + d') = jW (a + (d' - d)) := by
  have h : jI (jW (a - d) + d') = jI (a + (d' - d)) := by
    rw [← jI_add, jW_eq, jI_add]
    congr 1
    omega
  unfold jW at h ⊢
  rw [h]
theorem sLes_off {s S : Sg} {z m : Int} {n n' : Nat} (hn : n = 6) (hn' : n' = 6) (hS : S = sU (sLesA s z n) 33 z (s 33 z - m)) : sLesB s z m S n' = sOff s z m := by
  subst hS; subst hn; subst hn'
  funext k i
  by_cases h36 : k = 36
  · subst h36
    unfold sOff
    rw [sU_n (by decide), sOffTo_36, sLesB_36, sU_n (by decide), sLesA_36]
    by_cases h : 0 ≤ i ∧ i < ((6 : Nat) : Int)
    · rw [if_pos h, if_pos h, jW_two]
    · rw [if_neg h, if_neg h, if_neg h]
  · by_cases h33 : k = 33
    · subst h33; unfold sOff; rw [sLesB_n (by decide), sU_k, sU_k, sOffTo_n (by decide), sLesA_n (by decide)]
    · rw [sLesB_n h36, sU_n h33, sLesA_n h36, sOff_n ⟨h33, h36⟩]
theorem fSale_u {ad : Ad} {s : Sg} {z x i : Int} (h : i ≠ z) : fSale ad (sU s 33 z x) i = fSale ad s i := by
  show [Value.ref (ad 20 (s 32 i / 12)), .ref (ad 23 (s 32 i)), .ref (ad 27 i), .int (jI (sU s 33 z x 33 i))] = _
  rw [sU_i h]
theorem fSale_s {ad : Ad} {s : Sg} {z x : Int} : fSale ad (sU s 33 z x) z = (fSale ad s z).set 3 (.int (jI x)) := by
  show [Value.ref (ad 20 (s 32 z / 12)), .ref (ad 23 (s 32 z)), .ref (ad 27 z), .int (jI (sU s 33 z x 33 z))] = _
  rw [sU_s]; rfl
/-- a sale is booked: its due, artist by artist -/
def sBook (s : Sg) (z : Int) : Nat → Sg
  | 0 => s
  | n + 1 => sU (sBook s z n) 36 n (jW (s 36 n + sDue s z n (s 33 z)))
theorem sBook_n {s : Sg} {z : Int} {k : Nat} (hk : k ≠ 36) (n : Nat) : sBook s z n k = s k := by
  induction n with
  | zero => rfl
  | succ n ih => unfold sBook; rw [sU_n hk, ih]
theorem sBook_36 {s : Sg} {z i : Int} (n : Nat) : sBook s z n 36 i = if 0 ≤ i ∧ i < n then jW (s 36 i + sDue s z i (s 33 z)) else s 36 i := by
  induction n with
  | zero => rw [if_neg (by omega)]; rfl
  | succ n ih =>
    unfold sBook
    by_cases h : i = n
    · subst h; rw [sU_s, if_pos (by omega)]
    · rw [sU_i h, ih]
      by_cases h2 : 0 ≤ i ∧ i < n
      · rw [if_pos h2, if_pos (by omega)]
      · rw [if_neg h2, if_neg (by omega)]
theorem rRow_add {ad : Ad} {k : Nat} {n : Int} (h : 0 ≤ n) : rRow ad k (n + 1) = ju (rRow ad k n) n (some (ad k n)) := by
  funext j
  unfold rRow ju
  by_cases hj : j = n
  · subst hj; rw [if_pos (by omega), if_pos rfl]
  · rw [if_neg hj]
    show _ = (if 0 ≤ j ∧ j < n then some (ad k j) else none)
    by_cases h2 : 0 ≤ j ∧ j < n
    · rw [if_pos h2, if_pos (by omega)]
    · rw [if_neg h2, if_neg (by omega)]

abbrev rm_X2_lessen : Room := { frames := 2, cells := 0, slots := 0, locals := 44 }
set_option maxRecDepth 100000 in
set_option maxHeartbeats 400000 in
theorem k2_lessen {l : Launch} {D : va_G} {ac : Nat → ClassId} (hl : l.stackTraces = false) {ad : Ad} {s e : Sg} {z m : Int}  {G : jj_G} (hR : Rep ad (cC ac ad s e) G) (hz : 0 ≤ z ∧ z < s 31 0) (hI3 : sI3 s) (hI7 : sI7 s) (hm : 0 ≤ m ∧ m ≤ s 33 z)  : jj_C l D ac yX2_lessen (.code yX2_lessen cX2_lessen 4 none) rm_X2_lessen [.ref (ad 10 0), .ref (ad 26 z), .int (jI m)] G (jj_pv (fun G' => Rep ad (cC ac ad (sOff s z m) e) G')) (jj_nx) := by
  refine jj_ofx (own := RX2) (lv0 := [some (.ref (ad 10 0)), some (.ref (ad 26 z)), some (.int (jI m)), none]) hl (by decide +kernel) rfl rfl (Nat.le_of_ble_eq_true rfl) rfl ?_
  intro X B hN hl0 hdg hac hin
  subst hl0; subst hdg; subst hac
  have F := B.F

  have i31 := hI7.1
  have i3 := hI3.1
  have g1 := hI7.2.1 z hz.1 hz.2
  refine jj_iconst F dX2_lessen_0 ?_
  refine jj_istore3 F dX2_lessen_1 (hN _ (by decide)) rfl ?_
  have loop : ∀ (n j : Nat) (G : jj_G), n + j = 6 → Rep ad (cC (jj_ac X) ad (sLesA s z j) e) G → jj_J X G 0 0 2 [some (.ref (ad 10 0)), some (.ref (ad 26 z)), some (.int (jI m)), some (.int (jI j))] [] := by
    intro n
    induction n with
    | zero =>
      intro j G hj hR
      refine jj_iload3 F dX2_lessen_2 ?_
      refine jj_bipush F (by decide) dX2_lessen_3 ?_
      refine jj_icmp_ge F (tgt := 28) dX2_lessen_5 rfl (by omega) (fun c5 => ?_) (fun c5 => by exfalso; omega)
      refine jj_aload1 F dX2_lessen_28 ?_
      refine jj_dup F rfl dX2_lessen_29 ?_
      refine jj_get F (hR.at (k := 26) (i := z) (if_pos (show 0 ≤ z ∧ z < sLesA s z j 31 0 by rw [sLesA_n (s := s) (z := z) (k := 31) (by decide) j]; exact hz))) cs_3 (by decide) fd_X2_42 rfl dX2_lessen_30 ?_
      refine jj_eqi (b := s 33 z) (by rw [sLesA_n (s := s) (z := z) (k := 33) (by decide) j]) ?_
      refine jj_iload2 F dX2_lessen_33 ?_
      refine jj_isub F dX2_lessen_34 ?_
      refine c8_put F (ad := ad) hR (k := 26) (i := z) (if_pos (show 0 ≤ z ∧ z < sLesA s z j 31 0 by rw [sLesA_n (s := s) (z := z) (k := 31) (by decide) j]; exact hz)) cs_3 (by decide) fd_X2_42 rfl rfl rfl (Nat.le_of_ble_eq_true rfl) dX2_lessen_35 (fun G hR => ?_)
      refine jj_iconst F dX2_lessen_38 ?_
      refine jj_istore3 F dX2_lessen_39 (hN _ (by decide)) rfl ?_
      have e6 : j = 6 := by omega
      have hz6 : 0 ≤ z ∧ z < sLesA s z j 31 0 := by rw [sLesA_n (by decide)]; exact hz
      have hR := hR.congr (C' := cC (jj_ac X) ad (sU (sLesA s z j) 33 z (s 33 z - m)) (e)) (kcases (fun i => kc_0 (s := (sLesA s z j)) (e := (e)) (s' := (sU (sLesA s z j) 33 z (s 33 z - m))) (e' := (e)) rfl rfl rfl rfl i) (fun i => kc_1 (s := (sLesA s z j)) (e := (e)) (s' := (sU (sLesA s z j) 33 z (s 33 z - m))) (e' := (e)) rfl i) (fun i => kc_2 (s := (sLesA s z j)) (e := (e)) (s' := (sU (sLesA s z j) 33 z (s 33 z - m))) (e' := (e)) rfl i) (fun i => kc_3 (s := (sLesA s z j)) (e := (e)) (s' := (sU (sLesA s z j) 33 z (s 33 z - m))) (e' := (e)) rfl i) (fun i => kc_4 (s := (sLesA s z j)) (e := (e)) (s' := (sU (sLesA s z j) 33 z (s 33 z - m))) (e' := (e)) rfl i) (fun i => kc_5 (s := (sLesA s z j)) (e := (e)) (s' := (sU (sLesA s z j) 33 z (s 33 z - m))) (e' := (e)) rfl rfl i) (fun i => kc_6 (s := (sLesA s z j)) (e := (e)) (s' := (sU (sLesA s z j) 33 z (s 33 z - m))) (e' := (e)) rfl rfl i) (fun i => kc_7 (s := (sLesA s z j)) (e := (e)) (s' := (sU (sLesA s z j) 33 z (s 33 z - m))) (e' := (e)) rfl i) (fun i => kc_8 (s := (sLesA s z j)) (e := (e)) (s' := (sU (sLesA s z j) 33 z (s 33 z - m))) (e' := (e)) rfl i) (fun i => kc_9 (s := (sLesA s z j)) (e := (e)) (s' := (sU (sLesA s z j) 33 z (s 33 z - m))) (e' := (e)) rfl i) (fun i => kc_10 (s := (sLesA s z j)) (e := (e)) (s' := (sU (sLesA s z j) 33 z (s 33 z - m))) (e' := (e)) rfl i) (fun i => kc_11 (s := (sLesA s z j)) (e := (e)) (s' := (sU (sLesA s z j) 33 z (s 33 z - m))) (e' := (e)) rfl i) (fun i => kc_12 (s := (sLesA s z j)) (e := (e)) (s' := (sU (sLesA s z j) 33 z (s 33 z - m))) (e' := (e)) rfl i) (fun i => kc_13 (s := (sLesA s z j)) (e := (e)) (s' := (sU (sLesA s z j) 33 z (s 33 z - m))) (e' := (e)) rfl i) (fun i => kc_14 (s := (sLesA s z j)) (e := (e)) (s' := (sU (sLesA s z j) 33 z (s 33 z - m))) (e' := (e)) rfl i) (fun i => kc_15 (s := (sLesA s z j)) (e := (e)) (s' := (sU (sLesA s z j) 33 z (s 33 z - m))) (e' := (e)) rfl i) (fun i => kc_16 (s := (sLesA s z j)) (e := (e)) (s' := (sU (sLesA s z j) 33 z (s 33 z - m))) (e' := (e)) rfl rfl rfl rfl rfl rfl rfl rfl rfl rfl rfl rfl rfl i) (fun i => kc_17 (s := (sLesA s z j)) (e := (e)) (s' := (sU (sLesA s z j) 33 z (s 33 z - m))) (e' := (e)) rfl rfl i) (fun i => kc_18 (s := (sLesA s z j)) (e := (e)) (s' := (sU (sLesA s z j) 33 z (s 33 z - m))) (e' := (e)) rfl rfl i) (fun i => kc_19 (s := (sLesA s z j)) (e := (e)) (s' := (sU (sLesA s z j) 33 z (s 33 z - m))) (e' := (e)) rfl rfl i) (fun i => kc_20 (s := (sLesA s z j)) (e := (e)) (s' := (sU (sLesA s z j) 33 z (s 33 z - m))) (e' := (e)) rfl rfl rfl rfl i) (fun i => kc_21 (s := (sLesA s z j)) (e := (e)) (s' := (sU (sLesA s z j) 33 z (s 33 z - m))) (e' := (e)) rfl rfl i) (fun i => kc_22 (s := (sLesA s z j)) (e := (e)) (s' := (sU (sLesA s z j) 33 z (s 33 z - m))) (e' := (e)) rfl rfl i) (fun i => kc_23 (s := (sLesA s z j)) (e := (e)) (s' := (sU (sLesA s z j) 33 z (s 33 z - m))) (e' := (e)) rfl rfl rfl rfl rfl rfl rfl rfl i) (fun i => kc_24 (s := (sLesA s z j)) (e := (e)) (s' := (sU (sLesA s z j) 33 z (s 33 z - m))) (e' := (e)) rfl rfl rfl i) (fun i => kc_25 (s := (sLesA s z j)) (e := (e)) (s' := (sU (sLesA s z j) 33 z (s 33 z - m))) (e' := (e)) rfl rfl i) (ki (C := cC (jj_ac X) ad (sLesA s z j) e) (fun i _ => rfl) hz6 (congrArg (jj_o 3) fSale_s) (fun i _ => Iff.rfl) (fun i hi _ => congrArg (jj_o 3) (fSale_u hi))) (fun i => kc_27 (s := (sLesA s z j)) (e := (e)) (s' := (sU (sLesA s z j) 33 z (s 33 z - m))) (e' := (e)) rfl rfl i) (fun k i => rfl))
      obtain ⟨S, hSe⟩ : ∃ S, S = sU (sLesA s z j) 33 z (s 33 z - m) := ⟨_, rfl⟩
      rw [← hSe] at hR
      have hS : ∀ k, k ≠ 36 ∧ k ≠ 33 → S k = s k := fun k hk => by rw [hSe, sU_n hk.2, sLesA_n hk.1]
      have hS33 : S 33 z = s 33 z - m := by rw [hSe, sU_s]
      have loop2 : ∀ (n y : Nat) (G : jj_G), n + y = 6 → Rep ad (cC (jj_ac X) ad (sLesB s z m S y) e) G → jj_J X G 0 0 40 [some (.ref (ad 10 0)), some (.ref (ad 26 z)), some (.int (jI m)), some (.int (jI y))] [] := by
        intro n
        induction n with
        | zero =>
          intro y G hj hR
          refine jj_iload3 F dX2_lessen_40 ?_
          refine jj_bipush F (by decide) dX2_lessen_41 ?_
          refine jj_icmp_ge F (tgt := 66) dX2_lessen_43 rfl (by omega) (fun c43 => ?_) (fun c43 => by exfalso; omega)
          exact jj_vret B dX2_lessen_66 ⟨Nat.le_of_ble_eq_true rfl, Nat.le_of_ble_eq_true rfl⟩ (⟨rfl, by rw [← sLes_off (n' := y) e6 (by omega) hSe]; exact hR⟩)
        | succ n ih =>
          intro y G hj hR
          refine jj_iload3 F dX2_lessen_40 ?_
          refine jj_bipush F (by decide) dX2_lessen_41 ?_
          refine jj_icmp_ge F (tgt := 66) dX2_lessen_43 rfl (by omega) (fun c43 => by exfalso; omega) (fun c43 => ?_)
          refine jj_aload0 F dX2_lessen_46 ?_
          refine jj_get F (hR.at (k := 10) (i := 0) cc_10) cs_2 (by decide) fd_X2_21 rfl dX2_lessen_47 ?_
          refine jj_iload3 F dX2_lessen_50 ?_
          refine jj_dup2 F rfl rfl dX2_lessen_51 ?_
          refine jj_iald F (hR.at (k := 14) (i := 0) cc_14) (by omega) (by decide) dX2_lessen_52 ?_
          refine jj_eqi (b := jW (s 36 y - sDue s z y (s 33 z))) (by rw [sLesB_36, if_neg (by omega), hSe, sU_n (by decide), sLesA_36, if_pos (by omega)]) ?_
          refine jj_aload1 F dX2_lessen_53 ?_
          refine jj_iload3 F dX2_lessen_54 ?_
          refine jj_callVr B (k := 0) (n := 0) (k3_dueTo (s := sLesB s z m S y) F.tr hR.1 (by rw [(sLesB_n (s := s) (z := z) (m := m) (S := S) (k := 31) (by decide) y).trans (hS 31 (by decide))]; exact hz) (by omega) (by rw [sLesB_n (by decide), hS33]; omega) (by rw [(sLesB_n (s := s) (z := z) (m := m) (S := S) (k := 32) (by decide) y).trans (hS 32 (by decide)), (sLesB_n (s := s) (z := z) (m := m) (S := S) (k := 13) (by decide) y).trans (hS 13 (by decide))]; exact g1.1) (by rw [(sLesB_n (s := s) (z := z) (m := m) (S := S) (k := 34) (by decide) y).trans (hS 34 (by decide))]; exact hI7.2.2.1 _ (by omega) (by omega)) (sI3_c ((sLesB_n (s := s) (z := z) (m := m) (S := S) (k := 13) (by decide) y).trans (hS 13 (by decide))) ((sLesB_n (s := s) (z := z) (m := m) (S := S) (k := 14) (by decide) y).trans (hS 14 (by decide))) ((sLesB_n (s := s) (z := z) (m := m) (S := S) (k := 15) (by decide) y).trans (hS 15 (by decide))) hI3)) lk_X2_34 (hR.at (k := 26) (i := z) (if_pos (show 0 ≤ z ∧ z < sLesB s z m S y 31 0 by rw [(sLesB_n (s := s) (z := z) (m := m) (S := S) (k := 31) (by decide) y).trans (hS 31 (by decide))]; exact hz))) cs_3 rfl rfl ⟨Nat.le_of_ble_eq_true rfl, Nat.le_of_ble_eq_true rfl, Nat.le_of_ble_eq_true rfl, Nat.le_of_ble_eq_true rfl, Nat.le_of_ble_eq_true rfl⟩ ⟨Nat.le_of_ble_eq_true rfl, Nat.le_of_ble_eq_true rfl, Nat.le_of_ble_eq_true rfl, Nat.le_of_ble_eq_true rfl⟩ jj_tx0 dX2_lessen_55 ?_
          refine jj_eqi (b := sDue s z y (s 33 z - m)) (by rw [sLesB_n (k := 33) (by decide), hS33, sDue_c ((sLesB_n (s := s) (z := z) (m := m) (S := S) (k := 14) (by decide) y).trans (hS 14 (by decide))) ((sLesB_n (s := s) (z := z) (m := m) (S := S) (k := 34) (by decide) y).trans (hS 34 (by decide))) ((sLesB_n (s := s) (z := z) (m := m) (S := S) (k := 32) (by decide) y).trans (hS 32 (by decide)))]) ?_
          refine jj_iadd F dX2_lessen_58 ?_
          refine jj_jw ?_
          refine c8_iast F (ad := ad) hR (k := 14) (i := 0) cc_14 (by omega) (by decide) dX2_lessen_59 (fun G hR => ?_)
          refine jj_iinc3 F dX2_lessen_60 (hN _ (by decide)) rfl ?_
          refine jj_goto F (tgt := 40) dX2_lessen_63 rfl ?_
          have hR := hR.congr (C' := cC (jj_ac X) ad (sU (sLesB s z m S y) 36 y (jW (jW (s 36 y - sDue s z y (s 33 z)) + sDue s z y (s 33 z - m)))) (e)) (kcases (fun i => kc_0 (s := (sLesB s z m S y)) (e := (e)) (s' := (sU (sLesB s z m S y) 36 y (jW (jW (s 36 y - sDue s z y (s 33 z)) + sDue s z y (s 33 z - m))))) (e' := (e)) rfl rfl rfl rfl i) (fun i => kc_1 (s := (sLesB s z m S y)) (e := (e)) (s' := (sU (sLesB s z m S y) 36 y (jW (jW (s 36 y - sDue s z y (s 33 z)) + sDue s z y (s 33 z - m))))) (e' := (e)) rfl i) (fun i => kc_2 (s := (sLesB s z m S y)) (e := (e)) (s' := (sU (sLesB s z m S y) 36 y (jW (jW (s 36 y - sDue s z y (s 33 z)) + sDue s z y (s 33 z - m))))) (e' := (e)) rfl i) (fun i => kc_3 (s := (sLesB s z m S y)) (e := (e)) (s' := (sU (sLesB s z m S y) 36 y (jW (jW (s 36 y - sDue s z y (s 33 z)) + sDue s z y (s 33 z - m))))) (e' := (e)) rfl i) (fun i => kc_4 (s := (sLesB s z m S y)) (e := (e)) (s' := (sU (sLesB s z m S y) 36 y (jW (jW (s 36 y - sDue s z y (s 33 z)) + sDue s z y (s 33 z - m))))) (e' := (e)) rfl i) (fun i => kc_5 (s := (sLesB s z m S y)) (e := (e)) (s' := (sU (sLesB s z m S y) 36 y (jW (jW (s 36 y - sDue s z y (s 33 z)) + sDue s z y (s 33 z - m))))) (e' := (e)) rfl rfl i) (fun i => kc_6 (s := (sLesB s z m S y)) (e := (e)) (s' := (sU (sLesB s z m S y) 36 y (jW (jW (s 36 y - sDue s z y (s 33 z)) + sDue s z y (s 33 z - m))))) (e' := (e)) rfl rfl i) (fun i => kc_7 (s := (sLesB s z m S y)) (e := (e)) (s' := (sU (sLesB s z m S y) 36 y (jW (jW (s 36 y - sDue s z y (s 33 z)) + sDue s z y (s 33 z - m))))) (e' := (e)) rfl i) (fun i => kc_8 (s := (sLesB s z m S y)) (e := (e)) (s' := (sU (sLesB s z m S y) 36 y (jW (jW (s 36 y - sDue s z y (s 33 z)) + sDue s z y (s 33 z - m))))) (e' := (e)) rfl i) (fun i => kc_9 (s := (sLesB s z m S y)) (e := (e)) (s' := (sU (sLesB s z m S y) 36 y (jW (jW (s 36 y - sDue s z y (s 33 z)) + sDue s z y (s 33 z - m))))) (e' := (e)) rfl i) (fun i => kc_10 (s := (sLesB s z m S y)) (e := (e)) (s' := (sU (sLesB s z m S y) 36 y (jW (jW (s 36 y - sDue s z y (s 33 z)) + sDue s z y (s 33 z - m))))) (e' := (e)) rfl i) (fun i => kc_11 (s := (sLesB s z m S y)) (e := (e)) (s' := (sU (sLesB s z m S y) 36 y (jW (jW (s 36 y - sDue s z y (s 33 z)) + sDue s z y (s 33 z - m))))) (e' := (e)) rfl i) (fun i => kc_12 (s := (sLesB s z m S y)) (e := (e)) (s' := (sU (sLesB s z m S y) 36 y (jW (jW (s 36 y - sDue s z y (s 33 z)) + sDue s z y (s 33 z - m))))) (e' := (e)) rfl i) (fun i => kc_13 (s := (sLesB s z m S y)) (e := (e)) (s' := (sU (sLesB s z m S y) 36 y (jW (jW (s 36 y - sDue s z y (s 33 z)) + sDue s z y (s 33 z - m))))) (e' := (e)) rfl i) (fun i => by exact kz (fun i hi => by simp [cU, cC, hi]) (rfl) i) (fun i => kc_15 (s := (sLesB s z m S y)) (e := (e)) (s' := (sU (sLesB s z m S y) 36 y (jW (jW (s 36 y - sDue s z y (s 33 z)) + sDue s z y (s 33 z - m))))) (e' := (e)) rfl i) (fun i => kc_16 (s := (sLesB s z m S y)) (e := (e)) (s' := (sU (sLesB s z m S y) 36 y (jW (jW (s 36 y - sDue s z y (s 33 z)) + sDue s z y (s 33 z - m))))) (e' := (e)) rfl rfl rfl rfl rfl rfl rfl rfl rfl rfl rfl rfl rfl i) (fun i => kc_17 (s := (sLesB s z m S y)) (e := (e)) (s' := (sU (sLesB s z m S y) 36 y (jW (jW (s 36 y - sDue s z y (s 33 z)) + sDue s z y (s 33 z - m))))) (e' := (e)) rfl rfl i) (fun i => kc_18 (s := (sLesB s z m S y)) (e := (e)) (s' := (sU (sLesB s z m S y) 36 y (jW (jW (s 36 y - sDue s z y (s 33 z)) + sDue s z y (s 33 z - m))))) (e' := (e)) rfl rfl i) (fun i => kc_19 (s := (sLesB s z m S y)) (e := (e)) (s' := (sU (sLesB s z m S y) 36 y (jW (jW (s 36 y - sDue s z y (s 33 z)) + sDue s z y (s 33 z - m))))) (e' := (e)) rfl rfl i) (fun i => kc_20 (s := (sLesB s z m S y)) (e := (e)) (s' := (sU (sLesB s z m S y) 36 y (jW (jW (s 36 y - sDue s z y (s 33 z)) + sDue s z y (s 33 z - m))))) (e' := (e)) rfl rfl rfl rfl i) (fun i => kc_21 (s := (sLesB s z m S y)) (e := (e)) (s' := (sU (sLesB s z m S y) 36 y (jW (jW (s 36 y - sDue s z y (s 33 z)) + sDue s z y (s 33 z - m))))) (e' := (e)) rfl rfl i) (fun i => kc_22 (s := (sLesB s z m S y)) (e := (e)) (s' := (sU (sLesB s z m S y) 36 y (jW (jW (s 36 y - sDue s z y (s 33 z)) + sDue s z y (s 33 z - m))))) (e' := (e)) rfl rfl i) (fun i => kc_23 (s := (sLesB s z m S y)) (e := (e)) (s' := (sU (sLesB s z m S y) 36 y (jW (jW (s 36 y - sDue s z y (s 33 z)) + sDue s z y (s 33 z - m))))) (e' := (e)) rfl rfl rfl rfl rfl rfl rfl rfl i) (fun i => kc_24 (s := (sLesB s z m S y)) (e := (e)) (s' := (sU (sLesB s z m S y) 36 y (jW (jW (s 36 y - sDue s z y (s 33 z)) + sDue s z y (s 33 z - m))))) (e' := (e)) rfl rfl rfl i) (fun i => kc_25 (s := (sLesB s z m S y)) (e := (e)) (s' := (sU (sLesB s z m S y) 36 y (jW (jW (s 36 y - sDue s z y (s 33 z)) + sDue s z y (s 33 z - m))))) (e' := (e)) rfl rfl i) (fun i => kc_26 (s := (sLesB s z m S y)) (e := (e)) (s' := (sU (sLesB s z m S y) 36 y (jW (jW (s 36 y - sDue s z y (s 33 z)) + sDue s z y (s 33 z - m))))) (e' := (e)) rfl rfl rfl i) (fun i => kc_27 (s := (sLesB s z m S y)) (e := (e)) (s' := (sU (sLesB s z m S y) 36 y (jW (jW (s 36 y - sDue s z y (s 33 z)) + sDue s z y (s 33 z - m))))) (e' := (e)) rfl rfl i) (fun k i => rfl))
          have ih1 := ih (y + 1) G (by omega) hR
          rw [show (((y + 1 : Nat)) : Int) = (y : Int) + 1 from rfl] at ih1
          exact ih1
      exact loop2 6 0 G (by omega) hR
    | succ n ih =>
      intro j G hj hR
      refine jj_iload3 F dX2_lessen_2 ?_
      refine jj_bipush F (by decide) dX2_lessen_3 ?_
      refine jj_icmp_ge F (tgt := 28) dX2_lessen_5 rfl (by omega) (fun c5 => by exfalso; omega) (fun c5 => ?_)
      refine jj_aload0 F dX2_lessen_8 ?_
      refine jj_get F (hR.at (k := 10) (i := 0) cc_10) cs_2 (by decide) fd_X2_21 rfl dX2_lessen_9 ?_
      refine jj_iload3 F dX2_lessen_12 ?_
      refine jj_dup2 F rfl rfl dX2_lessen_13 ?_
      refine jj_iald F (hR.at (k := 14) (i := 0) cc_14) (by omega) (by decide) dX2_lessen_14 ?_
      refine jj_eqi (b := s 36 j) (by rw [sLesA_36, if_neg (by omega)]) ?_
      refine jj_aload1 F dX2_lessen_15 ?_
      refine jj_iload3 F dX2_lessen_16 ?_
      refine jj_callVr B (k := 0) (n := 0) (k3_dueTo (s := sLesA s z j) F.tr hR.1 (by rw [sLesA_n (s := s) (z := z) (k := 31) (by decide) j]; exact hz) (by omega) (by rw [sLesA_n (s := s) (z := z) (k := 33) (by decide) j]; exact g1.2) (by rw [sLesA_n (s := s) (z := z) (k := 32) (by decide) j, sLesA_n (s := s) (z := z) (k := 13) (by decide) j]; exact g1.1) (by rw [sLesA_n (s := s) (z := z) (k := 34) (by decide) j]; exact hI7.2.2.1 _ (by omega) (by omega)) (sI3_c (sLesA_n (s := s) (z := z) (k := 13) (by decide) j) (sLesA_n (s := s) (z := z) (k := 14) (by decide) j) (sLesA_n (s := s) (z := z) (k := 15) (by decide) j) hI3)) lk_X2_34 (hR.at (k := 26) (i := z) (if_pos (show 0 ≤ z ∧ z < sLesA s z j 31 0 by rw [sLesA_n (s := s) (z := z) (k := 31) (by decide) j]; exact hz))) cs_3 rfl rfl ⟨Nat.le_of_ble_eq_true rfl, Nat.le_of_ble_eq_true rfl, Nat.le_of_ble_eq_true rfl, Nat.le_of_ble_eq_true rfl, Nat.le_of_ble_eq_true rfl⟩ ⟨Nat.le_of_ble_eq_true rfl, Nat.le_of_ble_eq_true rfl, Nat.le_of_ble_eq_true rfl, Nat.le_of_ble_eq_true rfl⟩ jj_tx0 dX2_lessen_17 ?_
      refine jj_eqi (b := sDue s z j (s 33 z)) (by rw [sLesA_n (s := s) (z := z) (k := 33) (by decide) j, sDue_c (sLesA_n (s := s) (z := z) (k := 14) (by decide) j) (sLesA_n (s := s) (z := z) (k := 34) (by decide) j) (sLesA_n (s := s) (z := z) (k := 32) (by decide) j)]) ?_
      refine jj_isub F dX2_lessen_20 ?_
      refine jj_jw ?_
      refine c8_iast F (ad := ad) hR (k := 14) (i := 0) cc_14 (by omega) (by decide) dX2_lessen_21 (fun G hR => ?_)
      refine jj_iinc3 F dX2_lessen_22 (hN _ (by decide)) rfl ?_
      refine jj_goto F (tgt := 2) dX2_lessen_25 rfl ?_
      have hR := hR.congr (C' := cC (jj_ac X) ad (sU (sLesA s z j) 36 j (jW (s 36 j - sDue s z j (s 33 z)))) (e)) (kcases (fun i => kc_0 (s := (sLesA s z j)) (e := (e)) (s' := (sU (sLesA s z j) 36 j (jW (s 36 j - sDue s z j (s 33 z))))) (e' := (e)) rfl rfl rfl rfl i) (fun i => kc_1 (s := (sLesA s z j)) (e := (e)) (s' := (sU (sLesA s z j) 36 j (jW (s 36 j - sDue s z j (s 33 z))))) (e' := (e)) rfl i) (fun i => kc_2 (s := (sLesA s z j)) (e := (e)) (s' := (sU (sLesA s z j) 36 j (jW (s 36 j - sDue s z j (s 33 z))))) (e' := (e)) rfl i) (fun i => kc_3 (s := (sLesA s z j)) (e := (e)) (s' := (sU (sLesA s z j) 36 j (jW (s 36 j - sDue s z j (s 33 z))))) (e' := (e)) rfl i) (fun i => kc_4 (s := (sLesA s z j)) (e := (e)) (s' := (sU (sLesA s z j) 36 j (jW (s 36 j - sDue s z j (s 33 z))))) (e' := (e)) rfl i) (fun i => kc_5 (s := (sLesA s z j)) (e := (e)) (s' := (sU (sLesA s z j) 36 j (jW (s 36 j - sDue s z j (s 33 z))))) (e' := (e)) rfl rfl i) (fun i => kc_6 (s := (sLesA s z j)) (e := (e)) (s' := (sU (sLesA s z j) 36 j (jW (s 36 j - sDue s z j (s 33 z))))) (e' := (e)) rfl rfl i) (fun i => kc_7 (s := (sLesA s z j)) (e := (e)) (s' := (sU (sLesA s z j) 36 j (jW (s 36 j - sDue s z j (s 33 z))))) (e' := (e)) rfl i) (fun i => kc_8 (s := (sLesA s z j)) (e := (e)) (s' := (sU (sLesA s z j) 36 j (jW (s 36 j - sDue s z j (s 33 z))))) (e' := (e)) rfl i) (fun i => kc_9 (s := (sLesA s z j)) (e := (e)) (s' := (sU (sLesA s z j) 36 j (jW (s 36 j - sDue s z j (s 33 z))))) (e' := (e)) rfl i) (fun i => kc_10 (s := (sLesA s z j)) (e := (e)) (s' := (sU (sLesA s z j) 36 j (jW (s 36 j - sDue s z j (s 33 z))))) (e' := (e)) rfl i) (fun i => kc_11 (s := (sLesA s z j)) (e := (e)) (s' := (sU (sLesA s z j) 36 j (jW (s 36 j - sDue s z j (s 33 z))))) (e' := (e)) rfl i) (fun i => kc_12 (s := (sLesA s z j)) (e := (e)) (s' := (sU (sLesA s z j) 36 j (jW (s 36 j - sDue s z j (s 33 z))))) (e' := (e)) rfl i) (fun i => kc_13 (s := (sLesA s z j)) (e := (e)) (s' := (sU (sLesA s z j) 36 j (jW (s 36 j - sDue s z j (s 33 z))))) (e' := (e)) rfl i) (fun i => by exact kz (fun i hi => by simp [cU, cC, hi]) (rfl) i) (fun i => kc_15 (s := (sLesA s z j)) (e := (e)) (s' := (sU (sLesA s z j) 36 j (jW (s 36 j - sDue s z j (s 33 z))))) (e' := (e)) rfl i) (fun i => kc_16 (s := (sLesA s z j)) (e := (e)) (s' := (sU (sLesA s z j) 36 j (jW (s 36 j - sDue s z j (s 33 z))))) (e' := (e)) rfl rfl rfl rfl rfl rfl rfl rfl rfl rfl rfl rfl rfl i) (fun i => kc_17 (s := (sLesA s z j)) (e := (e)) (s' := (sU (sLesA s z j) 36 j (jW (s 36 j - sDue s z j (s 33 z))))) (e' := (e)) rfl rfl i) (fun i => kc_18 (s := (sLesA s z j)) (e := (e)) (s' := (sU (sLesA s z j) 36 j (jW (s 36 j - sDue s z j (s 33 z))))) (e' := (e)) rfl rfl i) (fun i => kc_19 (s := (sLesA s z j)) (e := (e)) (s' := (sU (sLesA s z j) 36 j (jW (s 36 j - sDue s z j (s 33 z))))) (e' := (e)) rfl rfl i) (fun i => kc_20 (s := (sLesA s z j)) (e := (e)) (s' := (sU (sLesA s z j) 36 j (jW (s 36 j - sDue s z j (s 33 z))))) (e' := (e)) rfl rfl rfl rfl i) (fun i => kc_21 (s := (sLesA s z j)) (e := (e)) (s' := (sU (sLesA s z j) 36 j (jW (s 36 j - sDue s z j (s 33 z))))) (e' := (e)) rfl rfl i) (fun i => kc_22 (s := (sLesA s z j)) (e := (e)) (s' := (sU (sLesA s z j) 36 j (jW (s 36 j - sDue s z j (s 33 z))))) (e' := (e)) rfl rfl i) (fun i => kc_23 (s := (sLesA s z j)) (e := (e)) (s' := (sU (sLesA s z j) 36 j (jW (s 36 j - sDue s z j (s 33 z))))) (e' := (e)) rfl rfl rfl rfl rfl rfl rfl rfl i) (fun i => kc_24 (s := (sLesA s z j)) (e := (e)) (s' := (sU (sLesA s z j) 36 j (jW (s 36 j - sDue s z j (s 33 z))))) (e' := (e)) rfl rfl rfl i) (fun i => kc_25 (s := (sLesA s z j)) (e := (e)) (s' := (sU (sLesA s z j) 36 j (jW (s 36 j - sDue s z j (s 33 z))))) (e' := (e)) rfl rfl i) (fun i => kc_26 (s := (sLesA s z j)) (e := (e)) (s' := (sU (sLesA s z j) 36 j (jW (s 36 j - sDue s z j (s 33 z))))) (e' := (e)) rfl rfl rfl i) (fun i => kc_27 (s := (sLesA s z j)) (e := (e)) (s' := (sU (sLesA s z j) 36 j (jW (s 36 j - sDue s z j (s 33 z))))) (e' := (e)) rfl rfl i) (fun k i => rfl))
      have ih1 := ih (j + 1) G (by omega) hR
      rw [show (((j + 1 : Nat)) : Int) = (j : Int) + 1 from rfl] at ih1
      exact ih1
  exact loop 6 0 G (by omega) hR

theorem sBackR_in {s : Sg} {k x : Int} (h7 : sI7 s) (hx : 0 ≤ x) (j : Nat) (hj : (j : Int) ≤ s 31 0) : 0 ≤ sBackR s k x j ∧ sBackR s k x j ≤ x := by
  induction j with
  | zero => unfold sBackR; omega
  | succ j ih =>
    have g1 := ih (by omega)
    have g2 := (h7.2.1 (s 31 0 - 1 - j) (by omega) (by omega)).2
    unfold sBackR
    split
    · split <;> omega
    · exact g1
theorem sOff_33 {s : Sg} {z m i : Int} : sOff s z m 33 i = if i = z then s 33 z - m else s 33 i := by
  unfold sOff
  rw [sU_k, sOffTo_n (by decide)]; rfl
theorem sI7_off {s : Sg} {z m : Int} (h : sI7 s) (hm : 0 ≤ m ∧ m ≤ s 33 z) : sI7 (sOff s z m) := by
  unfold sI7 at h ⊢
  rw [sOff_n (k := 31) (by decide), sOff_n (k := 32) (by decide), sOff_n (k := 13) (by decide), sOff_n (k := 34) (by decide), sOff_n (k := 35) (by decide)]
  refine ⟨h.1, fun j h1 h2 => ⟨(h.2.1 j h1 h2).1, ?_⟩, h.2.2⟩
  have g := (h.2.1 j h1 h2).2
  rw [sOff_33]
  split
  · rename_i e; subst e; omega
  · exact g
theorem sBackS_I7 {s : Sg} {k x : Int} (h7 : sI7 s) (hx : 0 ≤ x) (j : Nat) (hj : (j : Int) ≤ s 31 0) : sI7 (sBackS s k x j) := by
  induction j with
  | zero => exact h7
  | succ j ih =>
    have g1 := ih (by omega)
    have g2 := (h7.2.1 (s 31 0 - 1 - j) (by omega) (by omega)).2
    have g3 := sBackR_in (k := k) h7 hx j (by omega)
    unfold sBackS
    split
    · refine sI7_off g1 ?_
      rw [sBackS_33 j (by omega)]
      split <;> omega
    · exact g1
theorem sBackS_jR {s : Sg} {k x : Int} (hr : ∀ q, jR (s 36 q)) (j : Nat) : ∀ q, jR (sBackS s k x j 36 q) := by
  induction j with
  | zero => exact hr
  | succ j ih =>
    intro q
    unfold sBackS
    split
    · unfold sOff
      rw [sU_n (by decide), sOffTo_36]
      split
      · exact jW_rng _
      · exact ih q
    · exact ih q
theorem sOff_0 {s : Sg} {z : Int} (hr : ∀ q, jR (s 36 q)) : sOff s z 0 = s := by
  funext k i
  by_cases h36 : k = 36
  · subst h36
    unfold sOff
    rw [sU_n (by decide), sOffTo_36, Int.sub_zero, Int.sub_self, Int.add_zero, jW_id (hr i)]
    split <;> rfl
  · by_cases h33 : k = 33
    · subst h33
      rw [sOff_33]
      split
      · rename_i e; rw [e]; omega
      · rfl
    · rw [sOff_n ⟨h33, h36⟩]
theorem sBack_stop {s : Sg} {k x : Int} (h7 : sI7 s) (hr : ∀ q, jR (s 36 q)) {j : Nat} (h0 : sBackR s k x j = 0) (m : Nat) (hm : j ≤ m) (hm2 : (m : Int) ≤ s 31 0) : sBackR s k x m = 0 ∧ sBackS s k x m = sBackS s k x j := by
  induction m with
  | zero => rw [show j = 0 by omega] at h0 ⊢; exact ⟨h0, rfl⟩
  | succ m ih =>
    by_cases e : j = m + 1
    · rw [← e]; exact ⟨h0, rfl⟩
    · obtain ⟨g1, g2⟩ := ih (by omega) (by omega)
      have g3 := (h7.2.1 (s 31 0 - 1 - m) (by omega) (by omega)).2
      simp only [sBackR, sBackS]
      rw [g1]
      split
      · rw [if_neg (by omega), sOff_0 (sBackS_jR hr m)]
        exact ⟨by omega, g2⟩
      · exact ⟨rfl, g2⟩

abbrev rm_X2_book : Room := { frames := 2, cells := 0, slots := 0, locals := 44 }
set_option maxRecDepth 100000 in
set_option maxHeartbeats 400000 in
theorem k2_book {l : Launch} {D : va_G} {ac : Nat → ClassId} (hl : l.stackTraces = false) {ad : Ad} {s e : Sg} {z : Int}  {G : jj_G} (hR : Rep ad (cU (cU (cC ac ad s e) 10 0 (jj_o 2 [.ref (ad 11 0), .ref (ad 12 0), .ref (ad 13 0), .ref (ad 14 0), .ref (ad 15 0), .int (jI z)])) 15 0 (jj_aq (ac 6) 100 (rRow ad 26 z))) G) (h31 : s 31 0 = z + 1) (hz : 0 ≤ z ∧ z < 100) (hI3 : sI3 s) (hI7 : sI7 s)  : jj_C l D ac yX2_book (.code yX2_book cX2_book 3 none) rm_X2_book [.ref (ad 10 0), .ref (ad 26 z)] G (jj_pv (fun G' => Rep ad (cC ac ad (sBook s z 6) e) G')) (jj_nx) := by
  refine jj_ofx (own := RX2) (lv0 := [some (.ref (ad 10 0)), some (.ref (ad 26 z)), none]) hl (by decide +kernel) rfl rfl (Nat.le_of_ble_eq_true rfl) rfl ?_
  intro X B hN hl0 hdg hac hin
  subst hl0; subst hdg; subst hac
  have F := B.F

  have i31 := hI7.1
  have i3 := hI3.1
  have g1 := hI7.2.1 z (by omega) (by omega)
  refine jj_aload0 F dX2_book_0 ?_
  refine jj_get F (hR.at (k := 10) (i := 0) ((cU_k (by decide)).trans cU_s)) cs_2 (by decide) fd_X2_30 rfl dX2_book_1 ?_
  refine jj_if_lt F (tgt := 67) dX2_book_4 rfl (by omega) (fun c4 => by exfalso; omega) (fun c4 => ?_)
  refine jj_aload0 F dX2_book_7 ?_
  refine jj_get F (hR.at (k := 10) (i := 0) ((cU_k (by decide)).trans cU_s)) cs_2 (by decide) fd_X2_30 rfl dX2_book_8 ?_
  refine jj_aload0 F dX2_book_11 ?_
  refine jj_get F (hR.at (k := 10) (i := 0) ((cU_k (by decide)).trans cU_s)) cs_2 (by decide) fd_X2_26 rfl dX2_book_12 ?_
  refine jj_alenQ F (fun _ => rfl) (hR.at (k := 15) (i := 0) cU_s) dX2_book_15 ?_
  refine jj_icmp_ge F (tgt := 67) dX2_book_16 rfl (by omega) (fun c16 => by exfalso; omega) (fun c16 => ?_)
  refine jj_aload0 F dX2_book_19 ?_
  refine jj_get F (hR.at (k := 10) (i := 0) ((cU_k (by decide)).trans cU_s)) cs_2 (by decide) fd_X2_26 rfl dX2_book_20 ?_
  refine jj_aload0 F dX2_book_23 ?_
  refine jj_get F (hR.at (k := 10) (i := 0) ((cU_k (by decide)).trans cU_s)) cs_2 (by decide) fd_X2_30 rfl dX2_book_24 ?_
  refine jj_aload1 F dX2_book_27 ?_
  refine c8_ast F (ad := ad) (fun _ => rfl) hR (k := 15) (i := 0) cU_s (hR.at (k := 26) (i := z) ((cU_k (by decide)).trans ((cU_k (by decide)).trans (if_pos (show 0 ≤ z ∧ z < s 31 0 by omega))))) cs_3 (by omega) (by decide) dX2_book_28 (fun G hR => ?_)
  refine jj_aload0 F dX2_book_29 ?_
  refine jj_dup F rfl dX2_book_30 ?_
  refine jj_get F (hR.at (k := 10) (i := 0) ((cU_k (by decide)).trans ((cU_k (by decide)).trans cU_s))) cs_2 (by decide) fd_X2_30 rfl dX2_book_31 ?_
  refine jj_iconst F dX2_book_34 ?_
  refine jj_iadd F dX2_book_35 ?_
  refine c8_put F (ad := ad) hR (k := 10) (i := 0) ((cU_k (by decide)).trans ((cU_k (by decide)).trans cU_s)) cs_2 (by decide) fd_X2_30 rfl rfl rfl (Nat.le_of_ble_eq_true rfl) dX2_book_36 (fun G hR => ?_)
  refine jj_iconst F dX2_book_39 ?_
  refine jj_istore2 F dX2_book_40 (hN _ (by decide)) rfl ?_
  have hR := hR.congr (C' := cC (jj_ac X) ad (s) (e)) (kcases (fun i => kc_0 (s := s) (e := (e)) (s' := (s)) (e' := (e)) rfl rfl rfl rfl i) (fun i => kc_1 (s := s) (e := (e)) (s' := (s)) (e' := (e)) rfl i) (fun i => kc_2 (s := s) (e := (e)) (s' := (s)) (e' := (e)) rfl i) (fun i => kc_3 (s := s) (e := (e)) (s' := (s)) (e' := (e)) rfl i) (fun i => kc_4 (s := s) (e := (e)) (s' := (s)) (e' := (e)) rfl i) (fun i => kc_5 (s := s) (e := (e)) (s' := (s)) (e' := (e)) rfl rfl i) (fun i => kc_6 (s := s) (e := (e)) (s' := (s)) (e' := (e)) rfl rfl i) (fun i => kc_7 (s := s) (e := (e)) (s' := (s)) (e' := (e)) rfl i) (fun i => kc_8 (s := s) (e := (e)) (s' := (s)) (e' := (e)) rfl i) (fun i => kc_9 (s := s) (e := (e)) (s' := (s)) (e' := (e)) rfl i) (fun i => by exact kz (fun i hi => by simp [cU, cC, hi]) (by show jj_o 2 [.ref (ad 11 0), .ref (ad 12 0), .ref (ad 13 0), .ref (ad 14 0), .ref (ad 15 0), .int (jI (s 31 0))] = _; rw [h31]; rfl) i) (fun i => kc_11 (s := s) (e := (e)) (s' := (s)) (e' := (e)) rfl i) (fun i => kc_12 (s := s) (e := (e)) (s' := (s)) (e' := (e)) rfl i) (fun i => kc_13 (s := s) (e := (e)) (s' := (s)) (e' := (e)) rfl i) (fun i => kc_14 (s := s) (e := (e)) (s' := (s)) (e' := (e)) rfl i) (fun i => by rw [cU_k (k := 10) (k' := 15) (by decide)]; exact kz (fun i hi => by simp [cU, cC, hi]) (by rw [h31]; exact congrArg (jj_aq (jj_ac X 6) 100) (rRow_add (by omega))) i) (fun i => kc_16 (s := s) (e := (e)) (s' := (s)) (e' := (e)) rfl rfl rfl rfl rfl rfl rfl rfl rfl rfl rfl rfl rfl i) (fun i => kc_17 (s := s) (e := (e)) (s' := (s)) (e' := (e)) rfl rfl i) (fun i => kc_18 (s := s) (e := (e)) (s' := (s)) (e' := (e)) rfl rfl i) (fun i => kc_19 (s := s) (e := (e)) (s' := (s)) (e' := (e)) rfl rfl i) (fun i => kc_20 (s := s) (e := (e)) (s' := (s)) (e' := (e)) rfl rfl rfl rfl i) (fun i => kc_21 (s := s) (e := (e)) (s' := (s)) (e' := (e)) rfl rfl i) (fun i => kc_22 (s := s) (e := (e)) (s' := (s)) (e' := (e)) rfl rfl i) (fun i => kc_23 (s := s) (e := (e)) (s' := (s)) (e' := (e)) rfl rfl rfl rfl rfl rfl rfl rfl i) (fun i => kc_24 (s := s) (e := (e)) (s' := (s)) (e' := (e)) rfl rfl rfl i) (fun i => kc_25 (s := s) (e := (e)) (s' := (s)) (e' := (e)) rfl rfl i) (fun i => kc_26 (s := s) (e := (e)) (s' := (s)) (e' := (e)) rfl rfl rfl i) (fun i => kc_27 (s := s) (e := (e)) (s' := (s)) (e' := (e)) rfl rfl i) (fun k i => rfl))
  have loop : ∀ (n j : Nat) (G : jj_G), n + j = 6 → Rep ad (cC (jj_ac X) ad (sBook s z j) e) G → jj_J X G 0 0 41 [some (.ref (ad 10 0)), some (.ref (ad 26 z)), some (.int (jI j))] [] := by
    intro n
    induction n with
    | zero =>
      intro j G hj hR
      refine jj_iload2 F dX2_book_41 ?_
      refine jj_bipush F (by decide) dX2_book_42 ?_
      refine jj_icmp_ge F (tgt := 67) dX2_book_44 rfl (by omega) (fun c44 => ?_) (fun c44 => by exfalso; omega)
      exact jj_vret B dX2_book_67 ⟨Nat.le_of_ble_eq_true rfl, Nat.le_of_ble_eq_true rfl⟩ (⟨rfl, by rw [show (6 : Nat) = j by omega]; exact hR⟩)
    | succ n ih =>
      intro j G hj hR
      refine jj_iload2 F dX2_book_41 ?_
      refine jj_bipush F (by decide) dX2_book_42 ?_
      refine jj_icmp_ge F (tgt := 67) dX2_book_44 rfl (by omega) (fun c44 => by exfalso; omega) (fun c44 => ?_)
      refine jj_aload0 F dX2_book_47 ?_
      refine jj_get F (hR.at (k := 10) (i := 0) cc_10) cs_2 (by decide) fd_X2_21 rfl dX2_book_48 ?_
      refine jj_iload2 F dX2_book_51 ?_
      refine jj_dup2 F rfl rfl dX2_book_52 ?_
      refine jj_iald F (hR.at (k := 14) (i := 0) cc_14) (by omega) (by decide) dX2_book_53 ?_
      refine jj_eqi (b := s 36 j) (by rw [sBook_36, if_neg (by omega)]) ?_
      refine jj_aload1 F dX2_book_54 ?_
      refine jj_iload2 F dX2_book_55 ?_
      refine jj_callVr B (k := 0) (n := 0) (k3_dueTo (s := sBook s z j) F.tr hR.1 (by rw [sBook_n (s := s) (z := z) (k := 31) (by decide) j]; omega) (by omega) (by rw [sBook_n (s := s) (z := z) (k := 33) (by decide) j]; exact g1.2) (by rw [sBook_n (s := s) (z := z) (k := 32) (by decide) j, sBook_n (s := s) (z := z) (k := 13) (by decide) j]; exact g1.1) (by rw [sBook_n (s := s) (z := z) (k := 34) (by decide) j]; exact hI7.2.2.1 _ (by omega) (by omega)) (sI3_c (sBook_n (s := s) (z := z) (k := 13) (by decide) j) (sBook_n (s := s) (z := z) (k := 14) (by decide) j) (sBook_n (s := s) (z := z) (k := 15) (by decide) j) hI3)) lk_X2_34 (hR.at (k := 26) (i := z) (if_pos (show 0 ≤ z ∧ z < sBook s z j 31 0 by rw [sBook_n (s := s) (z := z) (k := 31) (by decide) j]; omega))) cs_3 rfl rfl ⟨Nat.le_of_ble_eq_true rfl, Nat.le_of_ble_eq_true rfl, Nat.le_of_ble_eq_true rfl, Nat.le_of_ble_eq_true rfl, Nat.le_of_ble_eq_true rfl⟩ ⟨Nat.le_of_ble_eq_true rfl, Nat.le_of_ble_eq_true rfl, Nat.le_of_ble_eq_true rfl, Nat.le_of_ble_eq_true rfl⟩ jj_tx0 dX2_book_56 ?_
      refine jj_eqi (b := sDue s z j (s 33 z)) (by rw [sBook_n (s := s) (z := z) (k := 33) (by decide) j, sDue_c (sBook_n (s := s) (z := z) (k := 14) (by decide) j) (sBook_n (s := s) (z := z) (k := 34) (by decide) j) (sBook_n (s := s) (z := z) (k := 32) (by decide) j)]) ?_
      refine jj_iadd F dX2_book_59 ?_
      refine jj_jw ?_
      refine c8_iast F (ad := ad) hR (k := 14) (i := 0) cc_14 (by omega) (by decide) dX2_book_60 (fun G hR => ?_)
      refine jj_iinc2 F dX2_book_61 (hN _ (by decide)) rfl ?_
      refine jj_goto F (tgt := 41) dX2_book_64 rfl ?_
      have hR := hR.congr (C' := cC (jj_ac X) ad (sU (sBook s z j) 36 j (jW (s 36 j + sDue s z j (s 33 z)))) (e)) (kcases (fun i => kc_0 (s := (sBook s z j)) (e := (e)) (s' := (sU (sBook s z j) 36 j (jW (s 36 j + sDue s z j (s 33 z))))) (e' := (e)) rfl rfl rfl rfl i) (fun i => kc_1 (s := (sBook s z j)) (e := (e)) (s' := (sU (sBook s z j) 36 j (jW (s 36 j + sDue s z j (s 33 z))))) (e' := (e)) rfl i) (fun i => kc_2 (s := (sBook s z j)) (e := (e)) (s' := (sU (sBook s z j) 36 j (jW (s 36 j + sDue s z j (s 33 z))))) (e' := (e)) rfl i) (fun i => kc_3 (s := (sBook s z j)) (e := (e)) (s' := (sU (sBook s z j) 36 j (jW (s 36 j + sDue s z j (s 33 z))))) (e' := (e)) rfl i) (fun i => kc_4 (s := (sBook s z j)) (e := (e)) (s' := (sU (sBook s z j) 36 j (jW (s 36 j + sDue s z j (s 33 z))))) (e' := (e)) rfl i) (fun i => kc_5 (s := (sBook s z j)) (e := (e)) (s' := (sU (sBook s z j) 36 j (jW (s 36 j + sDue s z j (s 33 z))))) (e' := (e)) rfl rfl i) (fun i => kc_6 (s := (sBook s z j)) (e := (e)) (s' := (sU (sBook s z j) 36 j (jW (s 36 j + sDue s z j (s 33 z))))) (e' := (e)) rfl rfl i) (fun i => kc_7 (s := (sBook s z j)) (e := (e)) (s' := (sU (sBook s z j) 36 j (jW (s 36 j + sDue s z j (s 33 z))))) (e' := (e)) rfl i) (fun i => kc_8 (s := (sBook s z j)) (e := (e)) (s' := (sU (sBook s z j) 36 j (jW (s 36 j + sDue s z j (s 33 z))))) (e' := (e)) rfl i) (fun i => kc_9 (s := (sBook s z j)) (e := (e)) (s' := (sU (sBook s z j) 36 j (jW (s 36 j + sDue s z j (s 33 z))))) (e' := (e)) rfl i) (fun i => kc_10 (s := (sBook s z j)) (e := (e)) (s' := (sU (sBook s z j) 36 j (jW (s 36 j + sDue s z j (s 33 z))))) (e' := (e)) rfl i) (fun i => kc_11 (s := (sBook s z j)) (e := (e)) (s' := (sU (sBook s z j) 36 j (jW (s 36 j + sDue s z j (s 33 z))))) (e' := (e)) rfl i) (fun i => kc_12 (s := (sBook s z j)) (e := (e)) (s' := (sU (sBook s z j) 36 j (jW (s 36 j + sDue s z j (s 33 z))))) (e' := (e)) rfl i) (fun i => kc_13 (s := (sBook s z j)) (e := (e)) (s' := (sU (sBook s z j) 36 j (jW (s 36 j + sDue s z j (s 33 z))))) (e' := (e)) rfl i) (fun i => by exact kz (fun i hi => by simp [cU, cC, hi]) (rfl) i) (fun i => kc_15 (s := (sBook s z j)) (e := (e)) (s' := (sU (sBook s z j) 36 j (jW (s 36 j + sDue s z j (s 33 z))))) (e' := (e)) rfl i) (fun i => kc_16 (s := (sBook s z j)) (e := (e)) (s' := (sU (sBook s z j) 36 j (jW (s 36 j + sDue s z j (s 33 z))))) (e' := (e)) rfl rfl rfl rfl rfl rfl rfl rfl rfl rfl rfl rfl rfl i) (fun i => kc_17 (s := (sBook s z j)) (e := (e)) (s' := (sU (sBook s z j) 36 j (jW (s 36 j + sDue s z j (s 33 z))))) (e' := (e)) rfl rfl i) (fun i => kc_18 (s := (sBook s z j)) (e := (e)) (s' := (sU (sBook s z j) 36 j (jW (s 36 j + sDue s z j (s 33 z))))) (e' := (e)) rfl rfl i) (fun i => kc_19 (s := (sBook s z j)) (e := (e)) (s' := (sU (sBook s z j) 36 j (jW (s 36 j + sDue s z j (s 33 z))))) (e' := (e)) rfl rfl i) (fun i => kc_20 (s := (sBook s z j)) (e := (e)) (s' := (sU (sBook s z j) 36 j (jW (s 36 j + sDue s z j (s 33 z))))) (e' := (e)) rfl rfl rfl rfl i) (fun i => kc_21 (s := (sBook s z j)) (e := (e)) (s' := (sU (sBook s z j) 36 j (jW (s 36 j + sDue s z j (s 33 z))))) (e' := (e)) rfl rfl i) (fun i => kc_22 (s := (sBook s z j)) (e := (e)) (s' := (sU (sBook s z j) 36 j (jW (s 36 j + sDue s z j (s 33 z))))) (e' := (e)) rfl rfl i) (fun i => kc_23 (s := (sBook s z j)) (e := (e)) (s' := (sU (sBook s z j) 36 j (jW (s 36 j + sDue s z j (s 33 z))))) (e' := (e)) rfl rfl rfl rfl rfl rfl rfl rfl i) (fun i => kc_24 (s := (sBook s z j)) (e := (e)) (s' := (sU (sBook s z j) 36 j (jW (s 36 j + sDue s z j (s 33 z))))) (e' := (e)) rfl rfl rfl i) (fun i => kc_25 (s := (sBook s z j)) (e := (e)) (s' := (sU (sBook s z j) 36 j (jW (s 36 j + sDue s z j (s 33 z))))) (e' := (e)) rfl rfl i) (fun i => kc_26 (s := (sBook s z j)) (e := (e)) (s' := (sU (sBook s z j) 36 j (jW (s 36 j + sDue s z j (s 33 z))))) (e' := (e)) rfl rfl rfl i) (fun i => kc_27 (s := (sBook s z j)) (e := (e)) (s' := (sU (sBook s z j) 36 j (jW (s 36 j + sDue s z j (s 33 z))))) (e' := (e)) rfl rfl i) (fun k i => rfl))
      have ih1 := ih (j + 1) G (by omega) hR
      rw [show (((j + 1 : Nat)) : Int) = (j : Int) + 1 from rfl] at ih1
      exact ih1
  exact loop 6 0 G (by omega) hR
abbrev rm_X2_takeBack : Room := { frames := 3, cells := 0, slots := 0, locals := 67 }
set_option maxRecDepth 100000 in
set_option maxHeartbeats 400000 in
theorem k2_takeBack {l : Launch} {D : va_G} {ac : Nat → ClassId} (hl : l.stackTraces = false) {ad : Ad} {s e : Sg} {k x : Int}  {G : jj_G} (hR : Rep ad (cC ac ad s e) G) (hI3 : sI3 s) (hI7 : sI7 s) (hcs : ∀ j : Int, 0 ≤ j → j < s 31 0 → ¬ s 16 (s 32 j) = -1) (hk : sMk s k) (hx : 0 ≤ x ∧ x ≤ 500) (hr : ∀ q, jR (s 36 q))  : jj_C l D ac yX2_takeBack (.code yX2_takeBack cX2_takeBack 7 none) rm_X2_takeBack [.ref (ad 10 0), .ref (ad 23 k), .int (jI x)] G (jj_pv (fun G' => Rep ad (cC ac ad (sBackS s k x (s 31 0).toNat) e) G')) (jj_nx) := by
  refine jj_ofx (own := RX2) (lv0 := [some (.ref (ad 10 0)), some (.ref (ad 23 k)), some (.int (jI x)), none, none, none, none]) hl (by decide +kernel) rfl rfl (Nat.le_of_ble_eq_true rfl) rfl ?_
  intro X B hN hl0 hdg hac hin
  subst hl0; subst hdg; subst hac
  have F := B.F

  have i31 := hI7.1
  have i3 := hI3.1
  obtain ⟨T, hT⟩ : ∃ T, T = (s 31 0).toNat := ⟨_, rfl⟩
  rw [← hT] at B
  refine jj_iload2 F dX2_takeBack_0 ?_
  refine jj_istore3 F dX2_takeBack_1 (hN _ (by decide)) rfl ?_
  refine jj_aload0 F dX2_takeBack_2 ?_
  refine jj_get F (hR.at (k := 10) (i := 0) cc_10) cs_2 (by decide) fd_X2_26 rfl dX2_takeBack_3 ?_
  refine jj_alenQ F (fun _ => rfl) (hR.at (k := 15) (i := 0) cc_15) dX2_takeBack_6 ?_
  refine jj_iconst F dX2_takeBack_7 ?_
  refine jj_isub F dX2_takeBack_8 ?_
  refine jj_istore4 F dX2_takeBack_9 (hN _ (by decide)) rfl ?_
  have loop : ∀ (n : Nat) (x5 x6 : Option Value) (G : jj_G), n ≤ 100 → jj_ncv x5 = true → Rep ad (cC (jj_ac X) ad (sBackS s k x (T - n)) e) G → jj_J X G 0 0 11 [some (.ref (ad 10 0)), some (.ref (ad 23 k)), some (.int (jI x)), some (.int (jI (sBackR s k x (T - n)))), some (.int (jI ((n : Int) - 1))), x5, x6] [] := by
    intro n
    induction n with
    | zero =>
      intro x5 x6 G hn hx5 hR
      refine jj_iload4 F dX2_takeBack_11 ?_
      refine jj_if_lt F (tgt := 73) dX2_takeBack_13 rfl (by omega) (fun c13 => ?_) (fun c13 => by exfalso; omega)
      exact jj_vret B dX2_takeBack_73 ⟨Nat.le_of_ble_eq_true rfl, Nat.le_of_ble_eq_true rfl⟩ (⟨rfl, hR⟩)
    | succ n ih =>
      intro x5 x6 G hn hx5 hR
      have hRin := sBackR_in (k := k) (x := x) hI7 hx.1 (T - (n + 1)) (by omega)
      rw [show (((n + 1 : Nat)) : Int) - 1 = (n : Int) by omega]
      refine jj_iload4 F dX2_takeBack_11 ?_
      refine jj_if_lt F (tgt := 73) dX2_takeBack_13 rfl (by omega) (fun c13 => by exfalso; omega) (fun c13 => ?_)
      refine jj_iload3 F dX2_takeBack_16 ?_
      refine jj_if_le F (tgt := 73) dX2_takeBack_17 rfl (by omega) (fun c17 => ?_) (fun c17 => ?_)
      · skip
        exact jj_vret B dX2_takeBack_73 ⟨Nat.le_of_ble_eq_true rfl, Nat.le_of_ble_eq_true rfl⟩ (⟨rfl, by rw [(sBack_stop hI7 hr (j := T - (n + 1)) (by omega) T (by omega) (by omega)).2]; exact hR⟩)
      · skip
        refine jj_aload0 F dX2_takeBack_20 ?_
        refine jj_get F (hR.at (k := 10) (i := 0) cc_10) cs_2 (by decide) fd_X2_26 rfl dX2_takeBack_21 ?_
        refine jj_iload4 F dX2_takeBack_24 ?_
        refine jj_ald F (fun _ => rfl) (hR.at (k := 15) (i := 0) cc_15) (by omega) (by decide) dX2_takeBack_26 ?_
        by_cases hq26 : (n : Int) < s 31 0
        · skip
          have hix : s 31 0 - 1 - ((T - (n + 1) : Nat) : Int) = n := by omega
          have hTn : T - n = T - (n + 1) + 1 := by omega
          have g1 := hI7.2.1 n (by omega) hq26
          refine jj_qv (rRow_at (show 0 ≤ (n : Int) ∧ (n : Int) < sBackS s k x (T - (n + 1)) 31 0 by rw [(sBackS_n (k := k) (x := x) (i := 31) (by decide) (T - (n + 1)) : sBackS s k x (T - (n + 1)) 31 = s 31)]; omega)) ?_
          refine jj_astore5 F dX2_takeBack_27 (hN _ (by decide)) rfl ?_
          refine jj_aload5 F dX2_takeBack_29 ?_
          refine jj_ifnull F (r := some (ad 26 ((n : Int)))) (tgt := 67) dX2_takeBack_31 rfl (fun h => by cases h) (fun _ _ => ?_)
          refine jj_aload5 F dX2_takeBack_34 ?_
          refine jj_get F (hR.at (k := 26) (i := (n : Int)) (if_pos (show 0 ≤ (n : Int) ∧ (n : Int) < sBackS s k x (T - (n + 1)) 31 0 by rw [(sBackS_n (k := k) (x := x) (i := 31) (by decide) (T - (n + 1)) : sBackS s k x (T - (n + 1)) 31 = s 31)]; omega))) cs_3 (by decide) fd_X2_38 rfl dX2_takeBack_36 ?_
          refine jj_aload1 F dX2_takeBack_39 ?_
          refine jj_acmp_ne F (r1 := some (ad 23 ((sBackS s k x (T - (n + 1))) 32 ((n : Int))))) (r2 := some (ad 23 k)) (tgt := 67) dX2_takeBack_40 rfl (fun c40 => ?_) (fun c40 => ?_)
          · skip
            have hst : ¬ s 32 n = k := fun h => c40 (by rw [(sBackS_n (k := k) (x := x) (i := 32) (by decide) (T - (n + 1)) : sBackS s k x (T - (n + 1)) 32 = s 32), h])
            refine jj_iinc4 F dX2_takeBack_67 (hN _ (by decide)) rfl ?_
            refine jj_goto F (tgt := 11) dX2_takeBack_70 rfl ?_
            rw [show (n : Int) + -1 = (n : Int) - 1 by omega]
            have ih1 := fun x5 x6 h5 hR => ih x5 x6 G (by omega) h5 hR
            rw [hTn] at ih1
            simp only [sBackR, sBackS, hix] at ih1
            rw [if_neg hst, if_neg hst] at ih1
            exact ih1 _ _ rfl hR
          · skip
            have hst : s 32 n = k := by
              have h1 := (hR.stamp (s := sBackS s k x (T - (n + 1))) (by rw [(sBackS_n (k := k) (x := x) (i := 32) (by decide) (T - (n + 1)) : sBackS s k x (T - (n + 1)) 32 = s 32)]; exact ⟨by omega, by rw [(sBackS_n (k := k) (x := x) (i := 16) (by decide) (T - (n + 1)) : sBackS s k x (T - (n + 1)) 16 = s 16)]; exact hcs n (by omega) hq26⟩) (by exact ⟨hk.1, by rw [(sBackS_n (k := k) (x := x) (i := 16) (by decide) (T - (n + 1)) : sBackS s k x (T - (n + 1)) 16 = s 16)]; exact hk.2⟩) (Option.some.inj c40))
              rw [(sBackS_n (k := k) (x := x) (i := 32) (by decide) (T - (n + 1)) : sBackS s k x (T - (n + 1)) 32 = s 32)] at h1; exact h1
            refine jj_iload3 F dX2_takeBack_43 ?_
            refine jj_aload5 F dX2_takeBack_44 ?_
            refine jj_get F (hR.at (k := 26) (i := (n : Int)) (if_pos (show 0 ≤ (n : Int) ∧ (n : Int) < sBackS s k x (T - (n + 1)) 31 0 by rw [(sBackS_n (k := k) (x := x) (i := 31) (by decide) (T - (n + 1)) : sBackS s k x (T - (n + 1)) 31 = s 31)]; omega))) cs_3 (by decide) fd_X2_42 rfl dX2_takeBack_46 ?_
            refine jj_eqi (b := s 33 n) (sBackS_33 _ (by omega)) ?_
            refine jj_mmin F ml_X2_45 mmin_s m_i mmin_c ⟨Nat.le_of_ble_eq_true rfl, Nat.le_of_ble_eq_true rfl, Nat.le_of_ble_eq_true rfl, Nat.le_of_ble_eq_true rfl⟩ (by omega) dX2_takeBack_49 ?_
            refine jj_istore6 F dX2_takeBack_52 (hN _ (by decide)) rfl ?_
            refine jj_aload0 F dX2_takeBack_54 ?_
            refine jj_aload5 F dX2_takeBack_55 ?_
            refine jj_iload6 F dX2_takeBack_57 ?_
            refine jj_callVv B (k := 0) (n := 0) (k2_lessen (s := sBackS s k x (T - (n + 1))) F.tr hR (by rw [(sBackS_n (k := k) (x := x) (i := 31) (by decide) (T - (n + 1)) : sBackS s k x (T - (n + 1)) 31 = s 31)]; omega) (sI3_c (sBackS_n (k := k) (x := x) (i := 13) (by decide) (T - (n + 1)) : sBackS s k x (T - (n + 1)) 13 = s 13) (sBackS_n (k := k) (x := x) (i := 14) (by decide) (T - (n + 1)) : sBackS s k x (T - (n + 1)) 14 = s 14) (sBackS_n (k := k) (x := x) (i := 15) (by decide) (T - (n + 1)) : sBackS s k x (T - (n + 1)) 15 = s 15) hI3) (sBackS_I7 hI7 hx.1 (T - (n + 1)) (by omega)) (by rw [sBackS_33 _ (by omega)]; split <;> omega)) lk_X2_51 (hR.at (k := 10) (i := 0) cc_10) cs_2 rfl rfl ⟨Nat.le_of_ble_eq_true rfl, Nat.le_of_ble_eq_true rfl, Nat.le_of_ble_eq_true rfl, Nat.le_of_ble_eq_true rfl, Nat.le_of_ble_eq_true rfl⟩ ⟨Nat.le_of_ble_eq_true rfl, Nat.le_of_ble_eq_true rfl, Nat.le_of_ble_eq_true rfl, Nat.le_of_ble_eq_true rfl⟩ jj_tx0 dX2_takeBack_59 (fun G hR => ?_)
            refine jj_iload3 F dX2_takeBack_62 ?_
            refine jj_iload6 F dX2_takeBack_63 ?_
            refine jj_isub F dX2_takeBack_65 ?_
            refine jj_istore3 F dX2_takeBack_66 (hN _ (by decide)) rfl ?_
            refine jj_iinc4 F dX2_takeBack_67 (hN _ (by decide)) rfl ?_
            refine jj_goto F (tgt := 11) dX2_takeBack_70 rfl ?_
            rw [show (n : Int) + -1 = (n : Int) - 1 by omega]
            have ih1 := fun x5 x6 h5 hR => ih x5 x6 G (by omega) h5 hR
            rw [hTn] at ih1
            simp only [sBackR, sBackS, hix] at ih1
            rw [if_pos hst, if_pos hst] at ih1
            exact ih1 _ _ rfl hR
        · skip
          refine jj_qn (rRow_no (show ¬ (0 ≤ (n : Int) ∧ (n : Int) < sBackS s k x (T - (n + 1)) 31 0) by rw [(sBackS_n (k := k) (x := x) (i := 31) (by decide) (T - (n + 1)) : sBackS s k x (T - (n + 1)) 31 = s 31)]; omega)) ?_
          refine jj_nstore5 F dX2_takeBack_27 (hN _ (by decide)) rfl ?_
          refine jj_nload5 F dX2_takeBack_29 ?_
          refine jj_ifnull F (r := none) (tgt := 67) dX2_takeBack_31 rfl (fun _ => ?_) (fun _ h => by cases h)
          refine jj_iinc4 F dX2_takeBack_67 (hN _ (by decide)) rfl ?_
          refine jj_goto F (tgt := 11) dX2_takeBack_70 rfl ?_
          rw [show (n : Int) + -1 = (n : Int) - 1 by omega]
          have ih1 := fun x5 x6 h5 hR => ih x5 x6 G (by omega) h5 hR
          rw [show T - n = T - (n + 1) by omega] at ih1
          exact ih1 _ _ rfl hR
  have l0 := fun hR => loop 100 none none G (by omega) rfl hR
  rw [show T - 100 = 0 by omega] at l0
  exact l0 (hR.congr (kcases (fun i => kc_0 (s := s) (e := e) (s' := (sU s 37 0 0)) (e' := e) rfl rfl rfl rfl i) (fun i => kc_1 (s := s) (e := e) (s' := (sU s 37 0 0)) (e' := e) rfl i) (fun i => kc_2 (s := s) (e := e) (s' := (sU s 37 0 0)) (e' := e) rfl i) (fun i => kc_3 (s := s) (e := e) (s' := (sU s 37 0 0)) (e' := e) rfl i) (fun i => kc_4 (s := s) (e := e) (s' := (sU s 37 0 0)) (e' := e) rfl i) (fun i => kc_5 (s := s) (e := e) (s' := (sU s 37 0 0)) (e' := e) rfl rfl i) (fun i => kc_6 (s := s) (e := e) (s' := (sU s 37 0 0)) (e' := e) rfl rfl i) (fun i => kc_7 (s := s) (e := e) (s' := (sU s 37 0 0)) (e' := e) rfl i) (fun i => kc_8 (s := s) (e := e) (s' := (sU s 37 0 0)) (e' := e) rfl i) (fun i => kc_9 (s := s) (e := e) (s' := (sU s 37 0 0)) (e' := e) rfl i) (fun i => kc_10 (s := s) (e := e) (s' := (sU s 37 0 0)) (e' := e) rfl i) (fun i => kc_11 (s := s) (e := e) (s' := (sU s 37 0 0)) (e' := e) rfl i) (fun i => kc_12 (s := s) (e := e) (s' := (sU s 37 0 0)) (e' := e) rfl i) (fun i => kc_13 (s := s) (e := e) (s' := (sU s 37 0 0)) (e' := e) rfl i) (fun i => kc_14 (s := s) (e := e) (s' := (sU s 37 0 0)) (e' := e) rfl i) (fun i => kc_15 (s := s) (e := e) (s' := (sU s 37 0 0)) (e' := e) rfl i) (fun i => kc_16 (s := s) (e := e) (s' := (sU s 37 0 0)) (e' := e) rfl rfl rfl rfl rfl rfl rfl rfl rfl rfl rfl rfl rfl i) (fun i => kc_17 (s := s) (e := e) (s' := (sU s 37 0 0)) (e' := e) rfl rfl i) (fun i => kc_18 (s := s) (e := e) (s' := (sU s 37 0 0)) (e' := e) rfl rfl i) (fun i => kc_19 (s := s) (e := e) (s' := (sU s 37 0 0)) (e' := e) rfl rfl i) (fun i => kc_20 (s := s) (e := e) (s' := (sU s 37 0 0)) (e' := e) rfl rfl rfl rfl i) (fun i => kc_21 (s := s) (e := e) (s' := (sU s 37 0 0)) (e' := e) rfl rfl i) (fun i => kc_22 (s := s) (e := e) (s' := (sU s 37 0 0)) (e' := e) rfl rfl i) (fun i => kc_23 (s := s) (e := e) (s' := (sU s 37 0 0)) (e' := e) rfl rfl rfl rfl rfl rfl rfl rfl i) (fun i => kc_24 (s := s) (e := e) (s' := (sU s 37 0 0)) (e' := e) rfl rfl rfl i) (fun i => kc_25 (s := s) (e := e) (s' := (sU s 37 0 0)) (e' := e) rfl rfl i) (fun i => kc_26 (s := s) (e := e) (s' := (sU s 37 0 0)) (e' := e) rfl rfl rfl i) (fun i => kc_27 (s := s) (e := e) (s' := (sU s 37 0 0)) (e' := e) rfl rfl i) (fun k i => rfl)))
