/-! ===== areSound ===== -/
/-- beyond hInv: generations of takes and splices; dates of pressings -/
def pX (s : Sg) : Prop := (∀ t : Int, 0 ≤ t → t < s 1 0 → (s 6 t = -1 → 1 ≤ s 4 t) ∧ (¬ s 6 t = -1 → s 4 t = 0)) ∧
  (∀ k : Int, 0 ≤ k → k < 120 → (s 17 k = 0 ∨ (0 ≤ s 16 k ∧ s 16 k ≤ s 20 k)) ∧ s 20 k ≤ s 21 k ∧ s 21 k ≤ s 0 0 ∧ s 16 k ≤ s 0 0)
/-- the law's row g: a tape's generation (30 for a take), and 100 more once it was seen to be gone -/
def pG (s : Sg) (g : Int → Int) : Prop := ∀ t : Int, 0 ≤ t → t < s 1 0 → (s 6 t = -1 ∧ (g t = s 4 t ∨ (g t = s 4 t + 100 ∧ s 2 t = 3))) ∨ (¬ s 6 t = -1 ∧ (g t = 30 ∨ (g t = 130 ∧ s 2 t = 3)))
theorem pG.note {s : Sg} {g : Int → Int} (h : pG s g) (I : sI1 s) {t b : Int} (ht : 0 ≤ t ∧ t < s 1 0) (hb : (b = g t ∧ ¬ (s 2 t = 3 ∧ g t < 100)) ∨ (b = g t + 100 ∧ s 2 t = 3 ∧ g t < 100)) : pG s (ju g t b) := by
  intro u h1 h2
  by_cases e : u = t
  · subst e
    rw [ju_s]
    have g1 := h u h1 h2
    have g2 := I.tape (t := u) ⟨h1, h2⟩
    have := I.2.1
    omega
  · rw [ju_n e]; exact h u h1 h2
theorem first_span {s : Sg} (I : sI1 s) {t : Int} (ht : 0 ≤ t ∧ t < s 1 0) : 0 ≤ s 8 (20 * t) ∧ s 8 (20 * t) ≤ 29 ∧ 0 ≤ s 9 (20 * t) ∧ s 9 (20 * t) < 900 := by
  have g := (I.2.2.1 t ht.1 ht.2).2.2.2.2.2
  have g2 := I.2.2.2.2 t 0 ht.1 ht.2 (by omega) (by omega)
  rw [show 20 * t + 0 = 20 * t by omega] at g2
  have := I.2.1
  omega
theorem fileIs_v {s e : Sg} {c f : Int} (hI : hInv s e c) {q : Int} (hq : 0 ≤ q ∧ q ≤ 7) (hf : f = if s 26 0 = 0 then -1 else s 27 q) : (s 26 0 = 0 ∧ f = -1) ∨ (s 26 0 = 1 ∧ f = s 27 q ∧ 0 ≤ f ∧ f ≤ 1000000) := by
  have h6 := hI.2.2.2.2.2.1
  have h7 := h6.2.1 q hq.1 (by omega)
  rcases h6.1 with h | h
  · left; rw [if_pos h] at hf; exact ⟨h, hf⟩
  · right; rw [if_neg (by omega)] at hf; subst hf; exact ⟨h, rfl, h7⟩
abbrev rm_areSound : Room := { frames := 11, cells := 2300, slots := 15400, locals := 240 }
set_option maxRecDepth 100000 in
set_option maxHeartbeats 4000000 in
theorem kl_sound {l : Launch} {D : va_G} {ac : Nat → ClassId} (hl : l.stackTraces = false) {A : Nat → Nat} {s e : Sg} {m g r : Int → Int} {x : Int} {G : jj_G} (hP : WP ac A s e m g r G) {c : Int} (hI : hInv s e c) (hM : pM s m) (hX : pX s) (hG : pG s g) (hx : 0 ≤ x ∧ x ≤ 2147483647) : jj_C l D ac yL_areSound (.code yL_areSound cL_areSound 10 (some .boolean)) rm_areSound [.ref (A 0), .ref (A 1), .ref (A 2), .int (jI x)] G (jj_pi (fun v G' => v = 1 ∧ ∃ g' : Int → Int, pG s g' ∧ WP ac A s e m g' r G')) jj_nx := by
  refine jj_ofx (own := RL) (lv0 := [some (.ref (A 0)), some (.ref (A 1)), some (.ref (A 2)), some (.int (jI x)), none, none, none, none, none, none]) hl (by decide +kernel) rfl rfl (Nat.le_of_ble_eq_true rfl) rfl ?_
  intro X B hN hl0 hdg hac hin
  subst hl0; subst hdg; subst hac
  have F := B.F
  obtain ⟨hM0, hM1, hM2, hM3, hM4, hM5⟩ := id hM
  have b0 := hI.1.1
  have b1 := hI.1.2.1
  have b2 := hI.2.2.1.1
  have b3 := hI.2.2.2.2.1.1
  have b6a := hI.2.2.2.2.2.1.1
  have phE : ∀ (g : Int → Int) (G : jj_G) (x5 x6 x7 x8 x9 : Option Value), WP (jj_ac X) A s e m g r G → pG s g → jj_J X G 2256 15276 740 [some (.ref (A 0)), some (.ref (A 1)), some (.ref (A 2)), some (.int (jI x)), some (.int (jI 1)), x5, x6, x7, x8, x9] [] := by
    intro g G x5 x6 x7 x8 x9 hP hG
    refine jj_iload4 F dL_areSound_740 ?_
    refine jj_if_eq F (tgt := 792) dL_areSound_742 rfl (by omega) (fun c742 => by exfalso; omega) (fun c742 => ?_)
    refine jj_aload0 F dL_areSound_745 ?_
    refine jj_iload3 F dL_areSound_746 ?_
    refine jj_bipush F (by decide) dL_areSound_747 ?_
    refine jj_irem F (by omega) dL_areSound_749 ?_
    refine lq_fi F hP hI (by omega) (k := 2259) (n0 := 15294) ⟨Nat.le_of_ble_eq_true rfl, Nat.le_of_ble_eq_true rfl, Nat.le_of_ble_eq_true rfl, Nat.le_of_ble_eq_true rfl, Nat.le_of_ble_eq_true rfl, Nat.le_of_ble_eq_true rfl, Nat.le_of_ble_eq_true rfl⟩ dL_areSound_750 (fun G hP => ?_)
    refine jj_namei (fun f1 hf1 => ?_)
    replace hf1 := fileIs_v hI (q := x % 8) (by omega) hf1
    refine jj_iconst F dL_areSound_753 ?_
    refine jj_icmp_lt F (tgt := 792) dL_areSound_754 rfl (by omega) (fun c754 => by exfalso; omega) (fun c754 => ?_)
    refine jj_aload0 F dL_areSound_757 ?_
    refine jj_iload3 F dL_areSound_758 ?_
    refine jj_bipush F (by decide) dL_areSound_759 ?_
    refine jj_irem F (by omega) dL_areSound_761 ?_
    refine lq_fi F hP hI (by omega) (k := 2262) (n0 := 15312) ⟨Nat.le_of_ble_eq_true rfl, Nat.le_of_ble_eq_true rfl, Nat.le_of_ble_eq_true rfl, Nat.le_of_ble_eq_true rfl, Nat.le_of_ble_eq_true rfl, Nat.le_of_ble_eq_true rfl, Nat.le_of_ble_eq_true rfl⟩ dL_areSound_762 (fun G hP => ?_)
    refine jj_namei (fun f2 hf2 => ?_)
    replace hf2 := fileIs_v hI (q := x % 8) (by omega) hf2
    refine jj_meetb 773 (fun b : Int => (b = 1 ∧ s 26 0 = 1) ∨ (b = 0 ∧ s 26 0 = 0)) (fun b hb => ?_) (fun J773 => ?_)
    · skip
      refine jj_aload1 F dL_areSound_773 ?_
      refine jj_iconst F dL_areSound_774 ?_
      refine jm_ald F hP (by omega) dL_areSound_775 ?_
      refine jj_iconst F dL_areSound_776 ?_
      refine jj_meetb2 785 (fun b : Int => (b = 1 ∧ s 26 0 = 1) ∨ (b = 0 ∧ s 26 0 = 0)) (fun b hb => ?_) (fun J785 => ?_)
      · skip
        refine jj_icmp_ne F (tgt := 792) dL_areSound_785 rfl (by omega) (fun c785 => by exfalso; omega) (fun c785 => ?_)
        refine jj_iconst F dL_areSound_788 ?_
        refine jj_goto F (tgt := 793) dL_areSound_789 rfl ?_
        exact jj_zret B dL_areSound_793 ⟨Nat.le_of_ble_eq_true rfl, Nat.le_of_ble_eq_true rfl⟩ (Or.inr rfl) ⟨1, rfl, rfl, g, hG, hP⟩
      · skip
        refine jj_icmp_ne F (tgt := 784) dL_areSound_777 rfl (by omega) (fun c777 => ?_) (fun c777 => ?_)
        · skip
          refine jj_iconst F dL_areSound_784 ?_
          exact J785 _ (by omega)
        · skip
          refine jj_iconst F dL_areSound_780 ?_
          refine jj_goto F (tgt := 785) dL_areSound_781 rfl ?_
          exact J785 _ (by omega)
    · skip
      refine jj_if_lt F (tgt := 772) dL_areSound_765 rfl (by omega) (fun c765 => ?_) (fun c765 => ?_)
      · skip
        refine jj_iconst F dL_areSound_772 ?_
        exact J773 _ (by omega)
      · skip
        refine jj_iconst F dL_areSound_768 ?_
        refine jj_goto F (tgt := 773) dL_areSound_769 rfl ?_
        exact J773 _ (by omega)
  have phD : ∀ (n : Nat) (j : Int) (kc kn : Nat) (g : Int → Int) (G : jj_G) (x6 x7 x8 x9 : Option Value), WP (jj_ac X) A s e m g r G → pG s g → 0 ≤ j ∧ 6 - j ≤ n ∧ j ≤ 100 → kc + 6 * n ≤ 2256 → kn + 36 * n ≤ 15276 → jj_J X G kc kn 700 [some (.ref (A 0)), some (.ref (A 1)), some (.ref (A 2)), some (.int (jI x)), some (.int (jI 1)), some (.int (jI j)), x6, x7, x8, x9] [] := by
    intro n
    induction n with
    | zero =>
      intro j kc kn g G x6 x7 x8 x9 hP hG hj h1 h2
      refine jj_iload5 F dL_areSound_700 ?_
      refine jj_bipush F (by decide) dL_areSound_702 ?_
      refine jj_icmp_ge F (tgt := 740) dL_areSound_704 rfl (by omega) (fun c704 => ?_) (fun c704 => by exfalso; omega)
      exact jj_wide ⟨by omega, by omega⟩ (phE g G _ _ _ _ _ hP hG)
    | succ n ih =>
      intro j kc kn g G x6 x7 x8 x9 hP hG hj h1 h2
      by_cases hend : 6 ≤ j
      · skip
        refine jj_iload5 F dL_areSound_700 ?_
        refine jj_bipush F (by decide) dL_areSound_702 ?_
        refine jj_icmp_ge F (tgt := 740) dL_areSound_704 rfl (by omega) (fun c704 => ?_) (fun c704 => by exfalso; omega)
        exact jj_wide ⟨by omega, by omega⟩ (phE g G _ _ _ _ _ hP hG)
      · skip
        refine jj_iload5 F dL_areSound_700 ?_
        refine jj_bipush F (by decide) dL_areSound_702 ?_
        refine jj_icmp_ge F (tgt := 740) dL_areSound_704 rfl (by omega) (fun c704 => by exfalso; omega) (fun c704 => ?_)
        refine jj_iload4 F dL_areSound_707 ?_
        refine jj_if_eq F (tgt := 740) dL_areSound_709 rfl (by omega) (fun c709 => by exfalso; omega) (fun c709 => ?_)
        refine jj_aload0 F dL_areSound_712 ?_
        refine jj_iload5 F dL_areSound_713 ?_
        refine lq_ac F hP hI (by omega) (k := kc + 3) (n0 := kn + 18) ⟨Nat.le_of_ble_eq_true rfl, Nat.le_of_ble_eq_true rfl, (Nat.le_refl _), (Nat.le_refl _), (show kc + 3 ≤ 2300 by omega), (show kn + 18 ≤ 15400 by omega), Nat.le_of_ble_eq_true rfl⟩ dL_areSound_715 (fun G hP => ?_)
        refine jj_aload0 F dL_areSound_718 ?_
        refine jj_iload5 F dL_areSound_719 ?_
        refine lq_aa F hP hI (by omega) (k := kc + 6) (n0 := kn + 36) ⟨Nat.le_of_ble_eq_true rfl, Nat.le_of_ble_eq_true rfl, (Nat.le_refl _), (Nat.le_refl _), (show kc + 6 ≤ 2300 by omega), (show kn + 36 ≤ 15400 by omega), Nat.le_of_ble_eq_true rfl⟩ dL_areSound_721 (fun G hP => ?_)
        refine jj_icmpx_ne F (tgt := 731) dL_areSound_724 rfl (fun c724 => by exact absurd rfl c724) (fun c724 => ?_)
        refine jj_iconst F dL_areSound_727 ?_
        refine jj_goto F (tgt := 732) dL_areSound_728 rfl ?_
        refine jj_istore4 F dL_areSound_732 (hN _ (by decide)) rfl ?_
        refine jj_iinc5 F dL_areSound_734 (hN _ (by decide)) rfl ?_
        refine jj_goto F (tgt := 700) dL_areSound_737 rfl ?_
        exact ih (j + 1) (kc + 6) (kn + 36) g G _ _ _ _ hP hG (by omega) (by omega) (by omega)
  have phC : ∀ (n : Nat) (j : Int) (kc kn : Nat) (g : Int → Int) (G : jj_G) (x6 x7 x8 x9 : Option Value), WP (jj_ac X) A s e m g r G → pG s g → 0 ≤ j ∧ s 22 0 - j ≤ n ∧ j ≤ 100 → kc + 15 * n ≤ 2220 → kn + 90 * n ≤ 15060 → jj_J X G kc kn 590 [some (.ref (A 0)), some (.ref (A 1)), some (.ref (A 2)), some (.int (jI x)), some (.int (jI 1)), some (.int (jI j)), x6, x7, x8, x9] [] := by
    intro n
    induction n with
    | zero =>
      intro j kc kn g G x6 x7 x8 x9 hP hG hj h1 h2
      refine jj_iload5 F dL_areSound_590 ?_
      refine jj_aload1 F dL_areSound_592 ?_
      refine jj_iconst F dL_areSound_593 ?_
      refine jm_ald F hP (by omega) dL_areSound_594 ?_
      refine jj_icmp_ge F (tgt := 697) dL_areSound_595 rfl (by omega) (fun c595 => ?_) (fun c595 => by exfalso; omega)
      refine jj_iconst F dL_areSound_697 ?_
      refine jj_istore5 F dL_areSound_698 (hN _ (by decide)) rfl ?_
      exact jj_wide ⟨by omega, by omega⟩ (phD 6 0 2220 15060 g G _ _ _ _ hP hG (by omega) (by omega) (by omega))
    | succ n ih =>
      intro j kc kn g G x6 x7 x8 x9 hP hG hj h1 h2
      by_cases hend : s 22 0 ≤ j
      · skip
        refine jj_iload5 F dL_areSound_590 ?_
        refine jj_aload1 F dL_areSound_592 ?_
        refine jj_iconst F dL_areSound_593 ?_
        refine jm_ald F hP (by omega) dL_areSound_594 ?_
        refine jj_icmp_ge F (tgt := 697) dL_areSound_595 rfl (by omega) (fun c595 => ?_) (fun c595 => by exfalso; omega)
        refine jj_iconst F dL_areSound_697 ?_
        refine jj_istore5 F dL_areSound_698 (hN _ (by decide)) rfl ?_
        exact jj_wide ⟨by omega, by omega⟩ (phD 6 0 2220 15060 g G _ _ _ _ hP hG (by omega) (by omega) (by omega))
      · skip
        have hd : 0 ≤ j ∧ j < s 22 0 := by omega
        have hp1 : 0 ≤ x / 12 % 7 ∧ x / 12 % 7 ≤ 7 := by omega
        have n1 := noise_in hI hd hp1
        have n7 := noise_in hI hd (p := 7) (by omega)
        have hg := sGrade_in (sNoises s j 8)
        refine jj_iload5 F dL_areSound_590 ?_
        refine jj_aload1 F dL_areSound_592 ?_
        refine jj_iconst F dL_areSound_593 ?_
        refine jm_ald F hP (by omega) dL_areSound_594 ?_
        refine jj_icmp_ge F (tgt := 697) dL_areSound_595 rfl (by omega) (fun c595 => by exfalso; omega) (fun c595 => ?_)
        refine jj_iload4 F dL_areSound_598 ?_
        refine jj_if_eq F (tgt := 697) dL_areSound_600 rfl (by omega) (fun c600 => by exfalso; omega) (fun c600 => ?_)
        refine jj_iload3 F dL_areSound_603 ?_
        refine jj_bipush F (by decide) dL_areSound_604 ?_
        refine jj_idiv F (by omega) dL_areSound_606 ?_
        refine jj_bipush F (by decide) dL_areSound_607 ?_
        refine jj_irem F (by omega) dL_areSound_609 ?_
        refine jj_istore6 F dL_areSound_610 (hN _ (by decide)) rfl ?_
        refine jj_aload0 F dL_areSound_612 ?_
        refine jj_iload5 F dL_areSound_613 ?_
        refine lq_gr F hP hI (by omega) (k := kc + 3) (n0 := kn + 18) ⟨Nat.le_of_ble_eq_true rfl, Nat.le_of_ble_eq_true rfl, (Nat.le_refl _), (Nat.le_refl _), (show kc + 3 ≤ 2300 by omega), (show kn + 18 ≤ 15400 by omega), Nat.le_of_ble_eq_true rfl⟩ dL_areSound_615 (fun G hP => ?_)
        refine jj_istore7 F dL_areSound_618 (hN _ (by decide)) rfl ?_
        refine jj_iload7 F dL_areSound_620 ?_
        refine jj_if_lt F (tgt := 688) dL_areSound_622 rfl (by omega) (fun c622 => by exfalso; omega) (fun c622 => ?_)
        refine jj_iload7 F dL_areSound_625 ?_
        refine jj_iconst F dL_areSound_627 ?_
        refine jj_icmp_ge F (tgt := 688) dL_areSound_628 rfl (by omega) (fun c628 => by exfalso; omega) (fun c628 => ?_)
        refine jj_aload0 F dL_areSound_631 ?_
        refine jj_iload5 F dL_areSound_632 ?_
        refine jj_iload6 F dL_areSound_634 ?_
        refine lq_no F hP hI (by omega) (by omega) (k := kc + 6) (n0 := kn + 36) ⟨Nat.le_of_ble_eq_true rfl, Nat.le_of_ble_eq_true rfl, (Nat.le_refl _), (Nat.le_refl _), (show kc + 6 ≤ 2300 by omega), (show kn + 36 ≤ 15400 by omega), Nat.le_of_ble_eq_true rfl⟩ dL_areSound_636 (fun G hP => ?_)
        refine jj_if_lt F (tgt := 688) dL_areSound_639 rfl (by omega) (fun c639 => by exfalso; omega) (fun c639 => ?_)
        refine jj_iload7 F dL_areSound_642 ?_
        refine jj_meet 669 (kc + 12) (kn + 72) (WP (jj_ac X) A s e m g r) (fun G hP => ?_) (fun J669 => ?_)
        · skip
          refine jj_aload0 F dL_areSound_669 ?_
          refine jj_iconst F dL_areSound_670 ?_
          refine jj_iload5 F dL_areSound_671 ?_
          refine jj_ishl F dL_areSound_673 ?_
          refine jj_topi (jI_of _) ?_
          refine jj_iload6 F dL_areSound_674 ?_
          refine lq_jo F hP hI (jI_rng _) (by omega) (t_join_one b3 hd hp1).1 (k := kc + 15) (n0 := kn + 90) ⟨Nat.le_of_ble_eq_true rfl, Nat.le_of_ble_eq_true rfl, (Nat.le_refl _), (Nat.le_refl _), (show kc + 15 ≤ 2300 by omega), (show kn + 90 ≤ 15400 by omega), Nat.le_of_ble_eq_true rfl⟩ dL_areSound_676 (fun G hP => ?_)
          refine jj_eqi (t_join_one b3 hd hp1).2 ?_
          refine jj_iload5 F dL_areSound_679 ?_
          refine jj_icmp_ne F (tgt := 688) dL_areSound_681 rfl (by omega) (fun c681 => by exfalso; omega) (fun c681 => ?_)
          refine jj_iconst F dL_areSound_684 ?_
          refine jj_goto F (tgt := 689) dL_areSound_685 rfl ?_
          refine jj_istore4 F dL_areSound_689 (hN _ (by decide)) rfl ?_
          refine jj_iinc5 F dL_areSound_691 (hN _ (by decide)) rfl ?_
          refine jj_goto F (tgt := 590) dL_areSound_694 rfl ?_
          exact ih (j + 1) (kc + 15) (kn + 90) g G _ _ _ _ hP hG (by omega) (by omega) (by omega)
        · skip
          refine jj_if_gt F (tgt := 669) dL_areSound_644 rfl (by omega) (fun c644 => ?_) (fun c644 => ?_)
          · skip
            exact jj_wide ⟨(show kc + 6 ≤ kc + 12 by omega), (show kn + 36 ≤ kn + 72 by omega)⟩ (J669 G hP)
          · skip
            refine jj_aload0 F dL_areSound_647 ?_
            refine jj_iload5 F dL_areSound_648 ?_
            refine jj_iload6 F dL_areSound_650 ?_
            refine lq_no F hP hI (by omega) (by omega) (k := kc + 9) (n0 := kn + 54) ⟨Nat.le_of_ble_eq_true rfl, Nat.le_of_ble_eq_true rfl, (Nat.le_refl _), (Nat.le_refl _), (show kc + 9 ≤ 2300 by omega), (show kn + 54 ≤ 15400 by omega), Nat.le_of_ble_eq_true rfl⟩ dL_areSound_652 (fun G hP => ?_)
            have z1 := grade_0 hI hd hp1 (by omega)
            refine jj_if_ne F (tgt := 688) dL_areSound_655 rfl (by omega) (fun c655 => by exfalso; omega) (fun c655 => ?_)
            refine jj_aload0 F dL_areSound_658 ?_
            refine jj_iload5 F dL_areSound_659 ?_
            refine jj_bipush F (by decide) dL_areSound_661 ?_
            refine lq_no F hP hI (by omega) (by omega) (k := kc + 12) (n0 := kn + 72) ⟨Nat.le_of_ble_eq_true rfl, Nat.le_of_ble_eq_true rfl, (Nat.le_refl _), (Nat.le_refl _), (show kc + 12 ≤ 2300 by omega), (show kn + 72 ≤ 15400 by omega), Nat.le_of_ble_eq_true rfl⟩ dL_areSound_663 (fun G hP => ?_)
            have z7 := grade_0 hI hd (p := 7) (by omega) (by omega)
            refine jj_if_ne F (tgt := 688) dL_areSound_666 rfl (by omega) (fun c666 => by exfalso; omega) (fun c666 => ?_)
            exact jj_wide ⟨(show kc + 12 ≤ kc + 12 by omega), (show kn + 72 ≤ kn + 72 by omega)⟩ (J669 G hP)
  have phB : ∀ (n : Nat) (j : Int) (kc kn : Nat) (g : Int → Int) (G : jj_G) (x6 x7 x8 x9 : Option Value), WP (jj_ac X) A s e m g r G → pG s g → 0 ≤ j ∧ s 13 0 - j ≤ n ∧ j ≤ 100 → kc + 48 * n ≤ 1920 → kn + 288 * n ≤ 13260 → jj_J X G kc kn 306 [some (.ref (A 0)), some (.ref (A 1)), some (.ref (A 2)), some (.int (jI x)), some (.int (jI 1)), some (.int (jI j)), x6, x7, x8, x9] [] := by
    intro n
    induction n with
    | zero =>
      intro j kc kn g G x6 x7 x8 x9 hP hG hj h1 h2
      refine jj_iload5 F dL_areSound_306 ?_
      refine jj_aload1 F dL_areSound_308 ?_
      refine jj_iconst F dL_areSound_309 ?_
      refine jm_ald F hP (by omega) dL_areSound_310 ?_
      refine jj_icmp_ge F (tgt := 587) dL_areSound_311 rfl (by omega) (fun c311 => ?_) (fun c311 => by exfalso; omega)
      refine jj_iconst F dL_areSound_587 ?_
      refine jj_istore5 F dL_areSound_588 (hN _ (by decide)) rfl ?_
      exact jj_wide ⟨by omega, by omega⟩ (phC 20 0 1920 13260 g G _ _ _ _ hP hG (by omega) (by omega) (by omega))
    | succ n ih =>
      intro j kc kn g G x6 x7 x8 x9 hP hG hj h1 h2
      by_cases hend : s 13 0 ≤ j
      · skip
        refine jj_iload5 F dL_areSound_306 ?_
        refine jj_aload1 F dL_areSound_308 ?_
        refine jj_iconst F dL_areSound_309 ?_
        refine jm_ald F hP (by omega) dL_areSound_310 ?_
        refine jj_icmp_ge F (tgt := 587) dL_areSound_311 rfl (by omega) (fun c311 => ?_) (fun c311 => by exfalso; omega)
        refine jj_iconst F dL_areSound_587 ?_
        refine jj_istore5 F dL_areSound_588 (hN _ (by decide)) rfl ?_
        exact jj_wide ⟨by omega, by omega⟩ (phC 20 0 1920 13260 g G _ _ _ _ hP hG (by omega) (by omega) (by omega))
      · skip
        have hd : 0 ≤ j ∧ j < s 13 0 := by omega
        obtain ⟨KK, hK⟩ : ∃ KK, KK = sSt j (x % 12 / 4) (x % 12 % 4) := ⟨_, rfl⟩
        have hK2 : 0 ≤ KK ∧ KK < 120 := by rw [hK]; unfold sSt; omega
        have k4 := hI.2.2.2.1.1 KK hK2.1 hK2.2
        have kx := hX.2 KK hK2.1 hK2.2
        have i3 := hI.2.2.1.2.2.1 j hd.1 hd.2
        refine jj_iload5 F dL_areSound_306 ?_
        refine jj_aload1 F dL_areSound_308 ?_
        refine jj_iconst F dL_areSound_309 ?_
        refine jm_ald F hP (by omega) dL_areSound_310 ?_
        refine jj_icmp_ge F (tgt := 587) dL_areSound_311 rfl (by omega) (fun c311 => by exfalso; omega) (fun c311 => ?_)
        refine jj_iload4 F dL_areSound_314 ?_
        refine jj_if_eq F (tgt := 587) dL_areSound_316 rfl (by omega) (fun c316 => by exfalso; omega) (fun c316 => ?_)
        refine jj_iconst F dL_areSound_319 ?_
        refine jj_istore6 F dL_areSound_320 (hN _ (by decide)) rfl ?_
        refine jj_iconst F dL_areSound_322 ?_
        refine jj_istore7 F dL_areSound_323 (hN _ (by decide)) rfl ?_
        have inner : ∀ (n i : Nat) (kc1 kn1 : Nat) (G : jj_G), WP (jj_ac X) A s e m g r G → n + i = 6 → kc1 + 3 * n ≤ kc + 18 → kn1 + 18 * n ≤ kn + 108 → jj_J X G kc1 kn1 325 [some (.ref (A 0)), some (.ref (A 1)), some (.ref (A 2)), some (.int (jI x)), some (.int (jI 1)), some (.int (jI j)), some (.int (jI (sSumTo s j i))), some (.int (jI (i : Int))), x8, x9] [] := by
          intro n
          induction n with
          | zero =>
            intro i kc1 kn1 G hP hi h3 h4
            have hi6 : i = 6 := by omega
            subst hi6
            have e6 := sSumTo_6 s j
            refine jj_iload7 F dL_areSound_325 ?_
            refine jj_bipush F (by decide) dL_areSound_327 ?_
            refine jj_icmp_ge F (tgt := 351) dL_areSound_329 rfl (by omega) (fun c329 => ?_) (fun c329 => by exfalso; omega)
            refine jj_iload3 F dL_areSound_351 ?_
            refine jj_bipush F (by decide) dL_areSound_352 ?_
            refine jj_irem F (by omega) dL_areSound_354 ?_
            refine jj_istore7 F dL_areSound_355 (hN _ (by decide)) rfl ?_
            refine jj_aload0 F dL_areSound_357 ?_
            refine jj_iload5 F dL_areSound_358 ?_
            refine jj_iload7 F dL_areSound_360 ?_
            refine jj_iconst F dL_areSound_362 ?_
            refine jj_idiv F (by omega) dL_areSound_363 ?_
            refine jj_iload7 F dL_areSound_364 ?_
            refine jj_iconst F dL_areSound_366 ?_
            refine jj_irem F (by omega) dL_areSound_367 ?_
            refine jj_iconst F dL_areSound_368 ?_
            refine lq_s1 F hP hI ⟨by omega, by omega, by omega⟩ (k := kc1 + 3) (n0 := kn1 + 18) ⟨Nat.le_of_ble_eq_true rfl, Nat.le_of_ble_eq_true rfl, (Nat.le_refl _), (Nat.le_refl _), (show kc1 + 3 ≤ 2300 by omega), (show kn1 + 18 ≤ 15400 by omega), Nat.le_of_ble_eq_true rfl⟩ dL_areSound_369 (fun G hP => ?_)
            rw [← hK]
            refine jj_istore8 F dL_areSound_372 (hN _ (by decide)) rfl ?_
            refine jj_aload0 F dL_areSound_374 ?_
            refine jj_iload5 F dL_areSound_375 ?_
            refine jj_iload7 F dL_areSound_377 ?_
            refine jj_iconst F dL_areSound_379 ?_
            refine jj_idiv F (by omega) dL_areSound_380 ?_
            refine jj_iload7 F dL_areSound_381 ?_
            refine jj_iconst F dL_areSound_383 ?_
            refine jj_irem F (by omega) dL_areSound_384 ?_
            refine jj_iconst F dL_areSound_385 ?_
            refine lq_s2 F hP hI ⟨by omega, by omega, by omega⟩ (k := kc1 + 6) (n0 := kn1 + 36) ⟨Nat.le_of_ble_eq_true rfl, Nat.le_of_ble_eq_true rfl, (Nat.le_refl _), (Nat.le_refl _), (show kc1 + 6 ≤ 2300 by omega), (show kn1 + 36 ≤ 15400 by omega), Nat.le_of_ble_eq_true rfl⟩ dL_areSound_386 (fun G hP => ?_)
            rw [← hK]
            refine jj_istore9 F dL_areSound_389 (hN _ (by decide)) rfl ?_
            refine jj_iload6 F dL_areSound_391 ?_
            refine jj_aload0 F dL_areSound_393 ?_
            refine jj_iload5 F dL_areSound_394 ?_
            refine jj_iconst F dL_areSound_396 ?_
            refine lq_se F hP hI (by omega) (by omega) (k := kc1 + 9) (n0 := kn1 + 54) ⟨Nat.le_of_ble_eq_true rfl, Nat.le_of_ble_eq_true rfl, (Nat.le_refl _), (Nat.le_refl _), (show kc1 + 9 ≤ 2300 by omega), (show kn1 + 54 ≤ 15400 by omega), Nat.le_of_ble_eq_true rfl⟩ dL_areSound_397 (fun G hP => ?_)
            refine jj_icmp_ne F (tgt := 578) dL_areSound_400 rfl (by omega) (fun c400 => by exfalso; omega) (fun c400 => ?_)
            refine jj_iload6 F dL_areSound_403 ?_
            refine jj_if_le F (tgt := 578) dL_areSound_405 rfl (by omega) (fun c405 => by exfalso; omega) (fun c405 => ?_)
            refine jj_iload9 F dL_areSound_408 ?_
            refine jj_if_lt F (tgt := 578) dL_areSound_410 rfl (by omega) (fun c410 => by exfalso; omega) (fun c410 => ?_)
            refine jj_iload9 F dL_areSound_413 ?_
            refine jj_iload8 F dL_areSound_415 ?_
            refine jj_icmp_gt F (tgt := 578) dL_areSound_417 rfl (by omega) (fun c417 => by exfalso; omega) (fun c417 => ?_)
            refine jj_iload8 F dL_areSound_420 ?_
            refine jj_sipush F (by decide) dL_areSound_422 ?_
            refine jj_icmp_gt F (tgt := 578) dL_areSound_425 rfl (by omega) (fun c425 => by exfalso; omega) (fun c425 => ?_)
            refine jj_iload8 F dL_areSound_428 ?_
            refine jj_meetb 438 (fun b : Int => (b = 1 ∧ s 17 KK = 0) ∨ (b = 0 ∧ ¬ s 17 KK = 0)) (fun b hb => ?_) (fun J438 => ?_)
            · skip
              refine jj_aload0 F dL_areSound_438 ?_
              refine jj_iload5 F dL_areSound_439 ?_
              refine jj_iload7 F dL_areSound_441 ?_
              refine jj_iconst F dL_areSound_443 ?_
              refine jj_idiv F (by omega) dL_areSound_444 ?_
              refine jj_iload7 F dL_areSound_445 ?_
              refine jj_iconst F dL_areSound_447 ?_
              refine jj_irem F (by omega) dL_areSound_448 ?_
              refine jj_iconst F dL_areSound_449 ?_
              refine lq_s3 F hP hI ⟨by omega, by omega, by omega⟩ (k := kc1 + 12) (n0 := kn1 + 72) ⟨Nat.le_of_ble_eq_true rfl, Nat.le_of_ble_eq_true rfl, (Nat.le_refl _), (Nat.le_refl _), (show kc1 + 12 ≤ 2300 by omega), (show kn1 + 72 ≤ 15400 by omega), Nat.le_of_ble_eq_true rfl⟩ dL_areSound_450 (fun G hP => ?_)
              rw [← hK]
              refine jj_meetb 461 (fun b : Int => (b = 1 ∧ s 20 KK < 0) ∨ (b = 0 ∧ 0 ≤ s 20 KK)) (fun b hb => ?_) (fun J461 => ?_)
              · skip
                refine jj_icmp_ne F (tgt := 578) dL_areSound_461 rfl (by omega) (fun c461 => by exfalso; omega) (fun c461 => ?_)
                refine jj_aload0 F dL_areSound_464 ?_
                refine jj_iload5 F dL_areSound_465 ?_
                refine jj_iload7 F dL_areSound_467 ?_
                refine jj_iconst F dL_areSound_469 ?_
                refine jj_idiv F (by omega) dL_areSound_470 ?_
                refine jj_iload7 F dL_areSound_471 ?_
                refine jj_iconst F dL_areSound_473 ?_
                refine jj_irem F (by omega) dL_areSound_474 ?_
                refine jj_iconst F dL_areSound_475 ?_
                refine lq_s3 F hP hI ⟨by omega, by omega, by omega⟩ (k := kc1 + 15) (n0 := kn1 + 90) ⟨Nat.le_of_ble_eq_true rfl, Nat.le_of_ble_eq_true rfl, (Nat.le_refl _), (Nat.le_refl _), (show kc1 + 15 ≤ 2300 by omega), (show kn1 + 90 ≤ 15400 by omega), Nat.le_of_ble_eq_true rfl⟩ dL_areSound_476 (fun G hP => ?_)
                rw [← hK]
                refine jj_aload0 F dL_areSound_479 ?_
                refine jj_iload5 F dL_areSound_480 ?_
                refine jj_iload7 F dL_areSound_482 ?_
                refine jj_iconst F dL_areSound_484 ?_
                refine jj_idiv F (by omega) dL_areSound_485 ?_
                refine jj_iload7 F dL_areSound_486 ?_
                refine jj_iconst F dL_areSound_488 ?_
                refine jj_irem F (by omega) dL_areSound_489 ?_
                refine jj_iconst F dL_areSound_490 ?_
                refine lq_s4 F hP hI ⟨by omega, by omega, by omega⟩ (k := kc1 + 18) (n0 := kn1 + 108) ⟨Nat.le_of_ble_eq_true rfl, Nat.le_of_ble_eq_true rfl, (Nat.le_refl _), (Nat.le_refl _), (show kc1 + 18 ≤ 2300 by omega), (show kn1 + 108 ≤ 15400 by omega), Nat.le_of_ble_eq_true rfl⟩ dL_areSound_491 (fun G hP => ?_)
                rw [← hK]
                refine jj_icmp_gt F (tgt := 578) dL_areSound_494 rfl (by omega) (fun c494 => by exfalso; omega) (fun c494 => ?_)
                refine jj_iload8 F dL_areSound_497 ?_
                refine jj_meet 553 (kc1 + 27) (kn1 + 162) (WP (jj_ac X) A s e m g r) (fun G hP => ?_) (fun J553 => ?_)
                · skip
                  refine jj_aload0 F dL_areSound_553 ?_
                  refine jj_iload5 F dL_areSound_554 ?_
                  refine jj_iload7 F dL_areSound_556 ?_
                  refine jj_iconst F dL_areSound_558 ?_
                  refine jj_idiv F (by omega) dL_areSound_559 ?_
                  refine jj_iload7 F dL_areSound_560 ?_
                  refine jj_iconst F dL_areSound_562 ?_
                  refine jj_irem F (by omega) dL_areSound_563 ?_
                  refine jj_iconst F dL_areSound_564 ?_
                  refine lq_s4 F hP hI ⟨by omega, by omega, by omega⟩ (k := kc1 + 30) (n0 := kn1 + 180) ⟨Nat.le_of_ble_eq_true rfl, Nat.le_of_ble_eq_true rfl, (Nat.le_refl _), (Nat.le_refl _), (show kc1 + 30 ≤ 2300 by omega), (show kn1 + 180 ≤ 15400 by omega), Nat.le_of_ble_eq_true rfl⟩ dL_areSound_565 (fun G hP => ?_)
                  rw [← hK]
                  refine jj_aload1 F dL_areSound_568 ?_
                  refine jj_iconst F dL_areSound_569 ?_
                  refine jm_ald F hP (by omega) dL_areSound_570 ?_
                  refine jj_icmp_gt F (tgt := 578) dL_areSound_571 rfl (by omega) (fun c571 => by exfalso; omega) (fun c571 => ?_)
                  refine jj_iconst F dL_areSound_574 ?_
                  refine jj_goto F (tgt := 579) dL_areSound_575 rfl ?_
                  refine jj_istore4 F dL_areSound_579 (hN _ (by decide)) rfl ?_
                  refine jj_iinc5 F dL_areSound_581 (hN _ (by decide)) rfl ?_
                  refine jj_goto F (tgt := 306) dL_areSound_584 rfl ?_
                  exact ih (j + 1) (kc1 + 30) (kn1 + 180) g G _ _ _ _ hP hG (by omega) (by omega) (by omega)
                · skip
                  refine jj_if_eq F (tgt := 553) dL_areSound_499 rfl (by omega) (fun c499 => ?_) (fun c499 => ?_)
                  · skip
                    exact jj_wide ⟨(show kc1 + 18 ≤ kc1 + 27 by omega), (show kn1 + 108 ≤ kn1 + 162 by omega)⟩ (J553 G hP)
                  · skip
                    refine jj_aload0 F dL_areSound_502 ?_
                    refine jj_iload5 F dL_areSound_503 ?_
                    refine jj_iload7 F dL_areSound_505 ?_
                    refine jj_iconst F dL_areSound_507 ?_
                    refine jj_idiv F (by omega) dL_areSound_508 ?_
                    refine jj_iload7 F dL_areSound_509 ?_
                    refine jj_iconst F dL_areSound_511 ?_
                    refine jj_irem F (by omega) dL_areSound_512 ?_
                    refine jj_iconst F dL_areSound_513 ?_
                    refine lq_s0 F hP hI ⟨by omega, by omega, by omega⟩ (k := kc1 + 21) (n0 := kn1 + 126) ⟨Nat.le_of_ble_eq_true rfl, Nat.le_of_ble_eq_true rfl, (Nat.le_refl _), (Nat.le_refl _), (show kc1 + 21 ≤ 2300 by omega), (show kn1 + 126 ≤ 15400 by omega), Nat.le_of_ble_eq_true rfl⟩ dL_areSound_514 (fun G hP => ?_)
                    rw [← hK]
                    refine jj_if_lt F (tgt := 578) dL_areSound_517 rfl (by omega) (fun c517 => by exfalso; omega) (fun c517 => ?_)
                    refine jj_aload0 F dL_areSound_520 ?_
                    refine jj_iload5 F dL_areSound_521 ?_
                    refine jj_iload7 F dL_areSound_523 ?_
                    refine jj_iconst F dL_areSound_525 ?_
                    refine jj_idiv F (by omega) dL_areSound_526 ?_
                    refine jj_iload7 F dL_areSound_527 ?_
                    refine jj_iconst F dL_areSound_529 ?_
                    refine jj_irem F (by omega) dL_areSound_530 ?_
                    refine jj_iconst F dL_areSound_531 ?_
                    refine lq_s0 F hP hI ⟨by omega, by omega, by omega⟩ (k := kc1 + 24) (n0 := kn1 + 144) ⟨Nat.le_of_ble_eq_true rfl, Nat.le_of_ble_eq_true rfl, (Nat.le_refl _), (Nat.le_refl _), (show kc1 + 24 ≤ 2300 by omega), (show kn1 + 144 ≤ 15400 by omega), Nat.le_of_ble_eq_true rfl⟩ dL_areSound_532 (fun G hP => ?_)
                    rw [← hK]
                    refine jj_aload0 F dL_areSound_535 ?_
                    refine jj_iload5 F dL_areSound_536 ?_
                    refine jj_iload7 F dL_areSound_538 ?_
                    refine jj_iconst F dL_areSound_540 ?_
                    refine jj_idiv F (by omega) dL_areSound_541 ?_
                    refine jj_iload7 F dL_areSound_542 ?_
                    refine jj_iconst F dL_areSound_544 ?_
                    refine jj_irem F (by omega) dL_areSound_545 ?_
                    refine jj_iconst F dL_areSound_546 ?_
                    refine lq_s3 F hP hI ⟨by omega, by omega, by omega⟩ (k := kc1 + 27) (n0 := kn1 + 162) ⟨Nat.le_of_ble_eq_true rfl, Nat.le_of_ble_eq_true rfl, (Nat.le_refl _), (Nat.le_refl _), (show kc1 + 27 ≤ 2300 by omega), (show kn1 + 162 ≤ 15400 by omega), Nat.le_of_ble_eq_true rfl⟩ dL_areSound_547 (fun G hP => ?_)
                    rw [← hK]
                    refine jj_icmp_gt F (tgt := 578) dL_areSound_550 rfl (by omega) (fun c550 => by exfalso; omega) (fun c550 => ?_)
                    exact jj_wide ⟨(show kc1 + 27 ≤ kc1 + 27 by omega), (show kn1 + 162 ≤ kn1 + 162 by omega)⟩ (J553 G hP)
              · skip
                refine jj_if_ge F (tgt := 460) dL_areSound_453 rfl (by omega) (fun c453 => ?_) (fun c453 => ?_)
                · skip
                  refine jj_iconst F dL_areSound_460 ?_
                  exact J461 _ (by omega)
                · skip
                  refine jj_iconst F dL_areSound_456 ?_
                  refine jj_goto F (tgt := 461) dL_areSound_457 rfl ?_
                  exact J461 _ (by omega)
            · skip
              refine jj_if_ne F (tgt := 437) dL_areSound_430 rfl (by omega) (fun c430 => ?_) (fun c430 => ?_)
              · skip
                refine jj_iconst F dL_areSound_437 ?_
                exact J438 _ (by omega)
              · skip
                refine jj_iconst F dL_areSound_433 ?_
                refine jj_goto F (tgt := 438) dL_areSound_434 rfl ?_
                exact J438 _ (by omega)
          | succ n ih2 =>
            intro i kc1 kn1 G hP hi h3 h4
            have z2 := sSumTo_in hI.2.2.1 hd i
            refine jj_iload7 F dL_areSound_325 ?_
            refine jj_bipush F (by decide) dL_areSound_327 ?_
            refine jj_icmp_ge F (tgt := 351) dL_areSound_329 rfl (by omega) (fun c329 => by exfalso; omega) (fun c329 => ?_)
            refine jj_iload6 F dL_areSound_332 ?_
            refine jj_aload0 F dL_areSound_334 ?_
            refine jj_iload5 F dL_areSound_335 ?_
            refine jj_iload7 F dL_areSound_337 ?_
            refine lq_se F hP hI (by omega) (by omega) (k := kc1 + 3) (n0 := kn1 + 18) ⟨Nat.le_of_ble_eq_true rfl, Nat.le_of_ble_eq_true rfl, (Nat.le_refl _), (Nat.le_refl _), (show kc1 + 3 ≤ 2300 by omega), (show kn1 + 18 ≤ 15400 by omega), Nat.le_of_ble_eq_true rfl⟩ dL_areSound_339 (fun G hP => ?_)
            refine jj_iadd F dL_areSound_342 ?_
            refine jj_istore6 F dL_areSound_343 (hN _ (by decide)) rfl ?_
            refine jj_iinc7 F dL_areSound_345 (hN _ (by decide)) rfl ?_
            refine jj_goto F (tgt := 325) dL_areSound_348 rfl ?_
            have ih1 := ih2 (i + 1) (kc1 + 3) (kn1 + 18) G hP (by omega) (by omega) (by omega)
            rw [show (((i + 1 : Nat)) : Int) = (i : Int) + 1 from rfl] at ih1
            exact ih1
        exact inner 6 0 (kc) (kn) G hP (by omega) (by omega) (by omega)
  have phA : ∀ (n : Nat) (j : Int) (kc kn : Nat) (g : Int → Int) (G : jj_G) (x6 x7 x8 x9 : Option Value), WP (jj_ac X) A s e m g r G → pG s g → 0 ≤ j ∧ s 1 0 - j ≤ n ∧ j ≤ 100 → kc + 48 * n ≤ 1440 → kn + 346 * n ≤ 10380 → jj_J X G kc kn 6 [some (.ref (A 0)), some (.ref (A 1)), some (.ref (A 2)), some (.int (jI x)), some (.int (jI 1)), some (.int (jI j)), x6, x7, x8, x9] [] := by
    intro n
    induction n with
    | zero =>
      intro j kc kn g G x6 x7 x8 x9 hP hG hj h1 h2
      refine jj_iload5 F dL_areSound_6 ?_
      refine jj_aload1 F dL_areSound_8 ?_
      refine jj_iconst F dL_areSound_9 ?_
      refine jm_ald F hP (by omega) dL_areSound_10 ?_
      refine jj_icmp_ge F (tgt := 303) dL_areSound_11 rfl (by omega) (fun c11 => ?_) (fun c11 => by exfalso; omega)
      refine jj_iconst F dL_areSound_303 ?_
      refine jj_istore5 F dL_areSound_304 (hN _ (by decide)) rfl ?_
      exact jj_wide ⟨by omega, by omega⟩ (phB 10 0 1440 10380 g G _ _ _ _ hP hG (by omega) (by omega) (by omega))
    | succ n ih =>
      intro j kc kn g G x6 x7 x8 x9 hP hG hj h1 h2
      by_cases hend : s 1 0 ≤ j
      · skip
        refine jj_iload5 F dL_areSound_6 ?_
        refine jj_aload1 F dL_areSound_8 ?_
        refine jj_iconst F dL_areSound_9 ?_
        refine jm_ald F hP (by omega) dL_areSound_10 ?_
        refine jj_icmp_ge F (tgt := 303) dL_areSound_11 rfl (by omega) (fun c11 => ?_) (fun c11 => by exfalso; omega)
        refine jj_iconst F dL_areSound_303 ?_
        refine jj_istore5 F dL_areSound_304 (hN _ (by decide)) rfl ?_
        exact jj_wide ⟨by omega, by omega⟩ (phB 10 0 1440 10380 g G _ _ _ _ hP hG (by omega) (by omega) (by omega))
      · skip
        have ht : 0 ≤ j ∧ j < s 1 0 := by omega
        have g0 := hI.1.tape (t := j) ht
        have g1 := sLen_in hI.1 (t := j) ht
        have g2 := first_span hI.1 ht
        have gG := hG j ht.1 ht.2
        have gX := hX.1 j ht.1 ht.2
        have gl := sHeard_ge hI.1 ht (x := sLen s j - 1) (by omega)
        refine jj_iload5 F dL_areSound_6 ?_
        refine jj_aload1 F dL_areSound_8 ?_
        refine jj_iconst F dL_areSound_9 ?_
        refine jm_ald F hP (by omega) dL_areSound_10 ?_
        refine jj_icmp_ge F (tgt := 303) dL_areSound_11 rfl (by omega) (fun c11 => by exfalso; omega) (fun c11 => ?_)
        refine jj_iload4 F dL_areSound_14 ?_
        refine jj_if_eq F (tgt := 303) dL_areSound_16 rfl (by omega) (fun c16 => by exfalso; omega) (fun c16 => ?_)
        refine jj_aload0 F dL_areSound_19 ?_
        refine jj_iload5 F dL_areSound_20 ?_
        refine jj_iconst F dL_areSound_22 ?_
        refine lq_t0 F hP hI (by omega) (k := kc + 3) (n0 := kn + 18) ⟨Nat.le_of_ble_eq_true rfl, Nat.le_of_ble_eq_true rfl, (Nat.le_refl _), (Nat.le_refl _), (show kc + 3 ≤ 2300 by omega), (show kn + 18 ≤ 15400 by omega), Nat.le_of_ble_eq_true rfl⟩ dL_areSound_23 (fun G hP => ?_)
        refine jj_istore6 F dL_areSound_26 (hN _ (by decide)) rfl ?_
        refine jj_aload0 F dL_areSound_28 ?_
        refine jj_iload5 F dL_areSound_29 ?_
        refine jj_iconst F dL_areSound_31 ?_
        refine lq_he F hP hI (by omega) (by omega) (k := kc + 6) (n0 := kn + 36) ⟨Nat.le_of_ble_eq_true rfl, Nat.le_of_ble_eq_true rfl, (Nat.le_refl _), (Nat.le_refl _), (show kc + 6 ≤ 2300 by omega), (show kn + 36 ≤ 15400 by omega), Nat.le_of_ble_eq_true rfl⟩ dL_areSound_32 (fun G hP => ?_)
        refine jj_eqi (sHeard_0 hI.1 ht) ?_
        refine jj_sipush F (by decide) dL_areSound_35 ?_
        refine jj_idiv F (by omega) dL_areSound_38 ?_
        refine jj_istore7 F dL_areSound_39 (hN _ (by decide)) rfl ?_
        refine jj_iload6 F dL_areSound_41 ?_
        refine jj_if_lt F (tgt := 184) dL_areSound_43 rfl (by omega) (fun c43 => by exfalso; omega) (fun c43 => ?_)
        refine jj_iload6 F dL_areSound_46 ?_
        refine jj_iconst F dL_areSound_48 ?_
        refine jj_icmp_ge F (tgt := 184) dL_areSound_49 rfl (by omega) (fun c49 => by exfalso; omega) (fun c49 => ?_)
        refine jj_aload0 F dL_areSound_52 ?_
        refine jj_iload5 F dL_areSound_53 ?_
        refine lq_tk F hP hI (by omega) (k := kc + 9) (n0 := kn + 54) ⟨Nat.le_of_ble_eq_true rfl, Nat.le_of_ble_eq_true rfl, (Nat.le_refl _), (Nat.le_refl _), (show kc + 9 ≤ 2300 by omega), (show kn + 54 ≤ 15400 by omega), Nat.le_of_ble_eq_true rfl⟩ dL_areSound_55 (fun G hP => ?_)
        refine jj_aload0 F dL_areSound_58 ?_
        refine jj_iload5 F dL_areSound_59 ?_
        refine lq_ta F hP hI (by omega) (k := kc + 12) (n0 := kn + 72) ⟨Nat.le_of_ble_eq_true rfl, Nat.le_of_ble_eq_true rfl, (Nat.le_refl _), (Nat.le_refl _), (show kc + 12 ≤ 2300 by omega), (show kn + 72 ≤ 15400 by omega), Nat.le_of_ble_eq_true rfl⟩ dL_areSound_61 (fun G hP => ?_)
        refine jj_icmpx_ne F (tgt := 184) dL_areSound_64 rfl (fun c64 => by exact absurd rfl c64) (fun c64 => ?_)
        refine jj_aload0 F dL_areSound_67 ?_
        refine jj_iload5 F dL_areSound_68 ?_
        refine lq_tk F hP hI (by omega) (k := kc + 15) (n0 := kn + 90) ⟨Nat.le_of_ble_eq_true rfl, Nat.le_of_ble_eq_true rfl, (Nat.le_refl _), (Nat.le_refl _), (show kc + 15 ≤ 2300 by omega), (show kn + 90 ≤ 15400 by omega), Nat.le_of_ble_eq_true rfl⟩ dL_areSound_70 (fun G hP => ?_)
        refine jj_iload7 F dL_areSound_73 ?_
        refine jj_ishr F dL_areSound_75 ?_
        refine jj_iconst F dL_areSound_76 ?_
        refine jj_iand F dL_areSound_77 ?_
        refine jj_iconst F dL_areSound_78 ?_
        refine jj_icmpx_ne F (tgt := 184) dL_areSound_79 rfl (fun c79 => by exact absurd (first_has hI.1 ht) c79) (fun c79 => ?_)
        refine jj_aload0 F dL_areSound_82 ?_
        refine jj_iload5 F dL_areSound_83 ?_
        refine jj_iconst F dL_areSound_85 ?_
        refine lq_t3 F hP hI (by omega) (k := kc + 18) (n0 := kn + 108) ⟨Nat.le_of_ble_eq_true rfl, Nat.le_of_ble_eq_true rfl, (Nat.le_refl _), (Nat.le_refl _), (show kc + 18 ≤ 2300 by omega), (show kn + 108 ≤ 15400 by omega), Nat.le_of_ble_eq_true rfl⟩ dL_areSound_86 (fun G hP => ?_)
        refine jj_aload2 F dL_areSound_89 ?_
        refine jj_iload5 F dL_areSound_90 ?_
        refine jg_ald F hP (by omega) dL_areSound_92 ?_
        refine jj_bipush F (by decide) dL_areSound_93 ?_
        refine jj_irem F (by omega) dL_areSound_95 ?_
        refine jj_bipush F (by decide) dL_areSound_96 ?_
        refine jj_irem F (by omega) dL_areSound_98 ?_
        refine jj_icmp_ne F (tgt := 184) dL_areSound_99 rfl (by omega) (fun c99 => by exfalso; omega) (fun c99 => ?_)
        refine jj_aload2 F dL_areSound_102 ?_
        refine jj_iload5 F dL_areSound_103 ?_
        refine jg_ald F hP (by omega) dL_areSound_105 ?_
        refine jj_bipush F (by decide) dL_areSound_106 ?_
        refine jj_meet 117 (kc + 18) (kn + 108) (WP (jj_ac X) A s e m g r) (fun G hP => ?_) (fun J117 => ?_)
        · skip
          refine jj_iload6 F dL_areSound_117 ?_
          refine jj_iconst F dL_areSound_119 ?_
          refine jj_meet 133 (kc + 21) (kn + 126) (WP (jj_ac X) A s e m g r) (fun G hP => ?_) (fun J133 => ?_)
          · skip
            refine jj_aload0 F dL_areSound_133 ?_
            refine jj_iload5 F dL_areSound_134 ?_
            refine jj_aload0 F dL_areSound_136 ?_
            refine jj_iload5 F dL_areSound_137 ?_
            refine jj_iconst F dL_areSound_139 ?_
            refine lq_t2 F hP hI (by omega) (k := kc + 24) (n0 := kn + 144) ⟨Nat.le_of_ble_eq_true rfl, Nat.le_of_ble_eq_true rfl, (Nat.le_refl _), (Nat.le_refl _), (show kc + 24 ≤ 2300 by omega), (show kn + 144 ≤ 15400 by omega), Nat.le_of_ble_eq_true rfl⟩ dL_areSound_140 (fun G hP => ?_)
            refine lq_he F hP hI (by omega) (by omega) (k := kc + 27) (n0 := kn + 162) ⟨Nat.le_of_ble_eq_true rfl, Nat.le_of_ble_eq_true rfl, (Nat.le_refl _), (Nat.le_refl _), (show kc + 27 ≤ 2300 by omega), (show kn + 162 ≤ 15400 by omega), Nat.le_of_ble_eq_true rfl⟩ dL_areSound_143 (fun G hP => ?_)
            refine jj_eqi (sHeard_end hI.1 ht (Int.le_refl _)) ?_
            refine jj_iconst F dL_areSound_146 ?_
            refine jj_icmp_ne F (tgt := 184) dL_areSound_147 rfl (by omega) (fun c147 => by exfalso; omega) (fun c147 => ?_)
            refine jj_aload0 F dL_areSound_150 ?_
            refine jj_iload5 F dL_areSound_151 ?_
            refine jj_aload0 F dL_areSound_153 ?_
            refine jj_iload5 F dL_areSound_154 ?_
            refine jj_iconst F dL_areSound_156 ?_
            refine lq_t2 F hP hI (by omega) (k := kc + 30) (n0 := kn + 180) ⟨Nat.le_of_ble_eq_true rfl, Nat.le_of_ble_eq_true rfl, (Nat.le_refl _), (Nat.le_refl _), (show kc + 30 ≤ 2300 by omega), (show kn + 180 ≤ 15400 by omega), Nat.le_of_ble_eq_true rfl⟩ dL_areSound_157 (fun G hP => ?_)
            refine jj_iconst F dL_areSound_160 ?_
            refine jj_isub F dL_areSound_161 ?_
            refine lq_he F hP hI (by omega) (by omega) (k := kc + 33) (n0 := kn + 198) ⟨Nat.le_of_ble_eq_true rfl, Nat.le_of_ble_eq_true rfl, (Nat.le_refl _), (Nat.le_refl _), (show kc + 33 ≤ 2300 by omega), (show kn + 198 ≤ 15400 by omega), Nat.le_of_ble_eq_true rfl⟩ dL_areSound_162 (fun G hP => ?_)
            refine jj_if_lt F (tgt := 184) dL_areSound_165 rfl (by omega) (fun c165 => by exfalso; omega) (fun c165 => ?_)
            refine jj_aload0 F dL_areSound_168 ?_
            refine jj_iload5 F dL_areSound_169 ?_
            refine jj_iconst F dL_areSound_171 ?_
            refine lq_t5 F hP hI (by omega) (k := kc + 36) (n0 := kn + 216) ⟨Nat.le_of_ble_eq_true rfl, Nat.le_of_ble_eq_true rfl, (Nat.le_refl _), (Nat.le_refl _), (show kc + 36 ≤ 2300 by omega), (show kn + 216 ≤ 15400 by omega), Nat.le_of_ble_eq_true rfl⟩ dL_areSound_172 (fun G hP => ?_)
            refine jj_bipush F (by decide) dL_areSound_175 ?_
            refine jj_icmp_gt F (tgt := 184) dL_areSound_177 rfl (by omega) (fun c177 => by exfalso; omega) (fun c177 => ?_)
            refine jj_iconst F dL_areSound_180 ?_
            refine jj_goto F (tgt := 185) dL_areSound_181 rfl ?_
            refine jj_istore4 F dL_areSound_185 (hN _ (by decide)) rfl ?_
            refine jj_aload2 F dL_areSound_187 ?_
            refine jj_iload5 F dL_areSound_188 ?_
            refine jj_iload6 F dL_areSound_190 ?_
            refine jj_iconst F dL_areSound_192 ?_
            refine jj_meetb2 219 (fun b : Int => (b = g j ∧ ¬ (s 2 j = 3 ∧ g j < 100)) ∨ (b = g j + 100 ∧ s 2 j = 3 ∧ g j < 100)) (fun b hb => ?_) (fun J219 => ?_)
            · skip
              refine jg_ast F hP (by omega) dL_areSound_219 (fun G hP => ?_)
              have hG1 := hG.note hI.1 ht hb
              obtain ⟨g1, hg1⟩ : ∃ g1, g1 = ju g j b := ⟨_, rfl⟩
              have hgj : g1 j = b := by rw [hg1]; exact ju_s
              rw [← hg1] at hP hG1
              refine jj_aload2 F dL_areSound_220 ?_
              refine jj_iload5 F dL_areSound_221 ?_
              refine jg_ald F hP (by omega) dL_areSound_223 ?_
              refine jj_bipush F (by decide) dL_areSound_224 ?_
              refine jj_irem F (by omega) dL_areSound_226 ?_
              refine jj_bipush F (by decide) dL_areSound_227 ?_
              refine jj_meetb2 237 (fun b : Int => (b = 1 ∧ ¬ s 6 j = -1) ∨ (b = 0 ∧ s 6 j = -1)) (fun b hb => ?_) (fun J237 => ?_)
              · skip
                refine jj_istore8 F dL_areSound_237 (hN _ (by decide)) rfl ?_
                refine jj_aload0 F dL_areSound_239 ?_
                refine jj_bipush F (by decide) dL_areSound_240 ?_
                refine jj_iload5 F dL_areSound_242 ?_
                refine jj_iconst F dL_areSound_244 ?_
                refine jj_iconst F dL_areSound_245 ?_
                refine jj_iconst F dL_areSound_246 ?_
                refine jj_iconst F dL_areSound_247 ?_
                by_cases h6 : s 6 j = -1
                · skip
                  refine la_no F (ka_isLost F.tr hP hI (by omega)) 1 (-1761000000) (by unfold t_isLost; rw [if_neg (by omega)]) (by decide) (fun h => by rw [h]; rfl) (k := kc + 48) (n0 := kn + 346) ⟨Nat.le_of_ble_eq_true rfl, Nat.le_of_ble_eq_true rfl, (Nat.le_refl _), (Nat.le_refl _), (show kc + 48 ≤ 2300 by omega), (show kn + 346 ≤ 15400 by omega), Nat.le_of_ble_eq_true rfl⟩ dL_areSound_248 (fun G hP => ?_)
                  refine jj_istore9 F dL_areSound_251 (hN _ (by decide)) rfl ?_
                  refine jj_iload4 F dL_areSound_253 ?_
                  refine jj_if_eq F (tgt := 294) dL_areSound_255 rfl (by omega) (fun c255 => by exfalso; omega) (fun c255 => ?_)
                  refine jj_iload8 F dL_areSound_258 ?_
                  refine jj_if_eq F (tgt := 283) dL_areSound_260 rfl (by omega) (fun c260 => ?_) (fun c260 => by exfalso; omega)
                  refine jj_iload9 F dL_areSound_283 ?_
                  refine jj_ldc F (v := -1761000000) cn_L_122 (by decide) dL_areSound_285 ?_
                  refine jj_icmp_ne F (tgt := 294) dL_areSound_287 rfl (by omega) (fun c287 => by exfalso; omega) (fun c287 => ?_)
                  refine jj_iconst F dL_areSound_290 ?_
                  refine jj_goto F (tgt := 295) dL_areSound_291 rfl ?_
                  refine jj_istore4 F dL_areSound_295 (hN _ (by decide)) rfl ?_
                  refine jj_iinc5 F dL_areSound_297 (hN _ (by decide)) rfl ?_
                  refine jj_goto F (tgt := 6) dL_areSound_300 rfl ?_
                  exact ih (j + 1) (kc + 48) (kn + 346) g1 G _ _ _ _ hP hG1 (by omega) (by omega) (by omega)
                · skip
                  refine la_ok F (ka_isLost F.tr hP hI (by omega)) (by unfold t_isLost; rw [if_pos ⟨by omega, h6⟩]) (k := kc + 48) (n0 := kn + 346) ⟨Nat.le_of_ble_eq_true rfl, Nat.le_of_ble_eq_true rfl, (Nat.le_refl _), (Nat.le_refl _), (show kc + 48 ≤ 2300 by omega), (show kn + 346 ≤ 15400 by omega), Nat.le_of_ble_eq_true rfl⟩ dL_areSound_248 (fun G hP => ?_)
                  refine jj_namei (fun vl hvl => ?_)
                  have hvl2 : vl = 0 ∨ (vl = 1 ∧ s 2 j = 3) := by
                    by_cases h2 : s 2 j = 3
                    · rw [hvl]; split
                      · exact Or.inl rfl
                      · exact Or.inr ⟨rfl, h2⟩
                    · left; rw [hvl, lost_gone hI ht h6 h2]; rfl
                  clear hvl
                  refine jj_istore9 F dL_areSound_251 (hN _ (by decide)) rfl ?_
                  refine jj_iload4 F dL_areSound_253 ?_
                  refine jj_if_eq F (tgt := 294) dL_areSound_255 rfl (by omega) (fun c255 => by exfalso; omega) (fun c255 => ?_)
                  refine jj_iload8 F dL_areSound_258 ?_
                  refine jj_if_eq F (tgt := 283) dL_areSound_260 rfl (by omega) (fun c260 => by exfalso; omega) (fun c260 => ?_)
                  refine jj_iload9 F dL_areSound_263 ?_
                  refine jj_if_eq F (tgt := 290) dL_areSound_265 rfl (by omega) (fun c265 => ?_) (fun c265 => ?_)
                  · skip
                    refine jj_iconst F dL_areSound_290 ?_
                    refine jj_goto F (tgt := 295) dL_areSound_291 rfl ?_
                    refine jj_istore4 F dL_areSound_295 (hN _ (by decide)) rfl ?_
                    refine jj_iinc5 F dL_areSound_297 (hN _ (by decide)) rfl ?_
                    refine jj_goto F (tgt := 6) dL_areSound_300 rfl ?_
                    exact ih (j + 1) (kc + 48) (kn + 346) g1 G _ _ _ _ hP hG1 (by omega) (by omega) (by omega)
                  · skip
                    refine jj_iload9 F dL_areSound_268 ?_
                    refine jj_iconst F dL_areSound_270 ?_
                    refine jj_icmp_ne F (tgt := 294) dL_areSound_271 rfl (by omega) (fun c271 => by exfalso; omega) (fun c271 => ?_)
                    refine jj_iload6 F dL_areSound_274 ?_
                    refine jj_iconst F dL_areSound_276 ?_
                    refine jj_icmp_ne F (tgt := 294) dL_areSound_277 rfl (by omega) (fun c277 => by exfalso; omega) (fun c277 => ?_)
                    refine jj_goto F (tgt := 290) dL_areSound_280 rfl ?_
                    refine jj_iconst F dL_areSound_290 ?_
                    refine jj_goto F (tgt := 295) dL_areSound_291 rfl ?_
                    refine jj_istore4 F dL_areSound_295 (hN _ (by decide)) rfl ?_
                    refine jj_iinc5 F dL_areSound_297 (hN _ (by decide)) rfl ?_
                    refine jj_goto F (tgt := 6) dL_areSound_300 rfl ?_
                    exact ih (j + 1) (kc + 48) (kn + 346) g1 G _ _ _ _ hP hG1 (by omega) (by omega) (by omega)
              · skip
                refine jj_icmp_lt F (tgt := 236) dL_areSound_229 rfl (by omega) (fun c229 => ?_) (fun c229 => ?_)
                · skip
                  refine jj_iconst F dL_areSound_236 ?_
                  exact J237 _ (by omega)
                · skip
                  refine jj_iconst F dL_areSound_232 ?_
                  refine jj_goto F (tgt := 237) dL_areSound_233 rfl ?_
                  exact J237 _ (by omega)
            · skip
              refine jj_icmp_ne F (tgt := 215) dL_areSound_193 rfl (by omega) (fun c193 => ?_) (fun c193 => ?_)
              · skip
                refine jj_aload2 F dL_areSound_215 ?_
                refine jj_iload5 F dL_areSound_216 ?_
                refine jg_ald F hP (by omega) dL_areSound_218 ?_
                exact J219 _ (by omega)
              · skip
                refine jj_aload2 F dL_areSound_196 ?_
                refine jj_iload5 F dL_areSound_197 ?_
                refine jg_ald F hP (by omega) dL_areSound_199 ?_
                refine jj_bipush F (by decide) dL_areSound_200 ?_
                refine jj_icmp_ge F (tgt := 215) dL_areSound_202 rfl (by omega) (fun c202 => ?_) (fun c202 => ?_)
                · skip
                  refine jj_aload2 F dL_areSound_215 ?_
                  refine jj_iload5 F dL_areSound_216 ?_
                  refine jg_ald F hP (by omega) dL_areSound_218 ?_
                  exact J219 _ (by omega)
                · skip
                  refine jj_aload2 F dL_areSound_205 ?_
                  refine jj_iload5 F dL_areSound_206 ?_
                  refine jg_ald F hP (by omega) dL_areSound_208 ?_
                  refine jj_bipush F (by decide) dL_areSound_209 ?_
                  refine jj_iadd F dL_areSound_211 ?_
                  refine jj_goto F (tgt := 219) dL_areSound_212 rfl ?_
                  exact J219 _ (by omega)
          · skip
            refine jj_icmp_ne F (tgt := 133) dL_areSound_120 rfl (by omega) (fun c120 => ?_) (fun c120 => ?_)
            · skip
              exact jj_wide ⟨(show kc + 18 ≤ kc + 21 by omega), (show kn + 108 ≤ kn + 126 by omega)⟩ (J133 G hP)
            · skip
              refine jj_aload0 F dL_areSound_123 ?_
              refine jj_iload5 F dL_areSound_124 ?_
              refine jj_iconst F dL_areSound_126 ?_
              refine lq_t1 F hP hI (by omega) (k := kc + 21) (n0 := kn + 126) ⟨Nat.le_of_ble_eq_true rfl, Nat.le_of_ble_eq_true rfl, (Nat.le_refl _), (Nat.le_refl _), (show kc + 21 ≤ 2300 by omega), (show kn + 126 ≤ 15400 by omega), Nat.le_of_ble_eq_true rfl⟩ dL_areSound_127 (fun G hP => ?_)
              have z0 := gone_no (s := s) (t := j) (by omega)
              refine jj_if_ne F (tgt := 184) dL_areSound_130 rfl (by omega) (fun c130 => by exfalso; omega) (fun c130 => ?_)
              exact jj_wide ⟨(show kc + 21 ≤ kc + 21 by omega), (show kn + 126 ≤ kn + 126 by omega)⟩ (J133 G hP)
        · skip
          refine jj_icmp_lt F (tgt := 117) dL_areSound_108 rfl (by omega) (fun c108 => ?_) (fun c108 => ?_)
          · skip
            exact jj_wide ⟨(show kc + 18 ≤ kc + 18 by omega), (show kn + 108 ≤ kn + 108 by omega)⟩ (J117 G hP)
          · skip
            refine jj_iload6 F dL_areSound_111 ?_
            refine jj_iconst F dL_areSound_113 ?_
            refine jj_icmp_ne F (tgt := 184) dL_areSound_114 rfl (by omega) (fun c114 => by exfalso; omega) (fun c114 => ?_)
            exact jj_wide ⟨(show kc + 18 ≤ kc + 18 by omega), (show kn + 108 ≤ kn + 108 by omega)⟩ (J117 G hP)
  refine jj_iconst F dL_areSound_0 ?_
  refine jj_istore4 F dL_areSound_1 (hN _ (by decide)) rfl ?_
  refine jj_iconst F dL_areSound_3 ?_
  refine jj_istore5 F dL_areSound_4 (hN _ (by decide)) rfl ?_
  exact phA 30 0 0 0 g G _ _ _ _ hP hG (by omega) (by omega) (by omega)
