/-! ===== isPlayed ===== -/
abbrev rm_isPlayed : Room := { frames := 11, cells := 600, slots := 4000, locals := 240 }
set_option maxRecDepth 100000 in
set_option maxHeartbeats 4000000 in
theorem kl_played {l : Launch} {D : va_G} {ac : Nat → ClassId} (hl : l.stackTraces = false) {A : Nat → Nat} {s e : Sg} {m g r : Int → Int} {h x : Int} {G : jj_G} (hP : WP ac A s e m g r G) {c n : Int} (hL : LI s e m g r c n) (hc : c + 3 < 512) (hn : 0 ≤ n ∧ n < 150) (hh : 0 ≤ h ∧ h ≤ 7) (hx : 0 ≤ x ∧ x ≤ 2147483647) : jj_C l D ac yL_isPlayed (.code yL_isPlayed cL_isPlayed 14 (some .boolean)) rm_isPlayed [.ref (A 0), .ref (A 1), .ref (A 3), .int (jI h), .int (jI x)] G (OP ac A c n) jj_nx := by
  refine jj_ofx (own := RL) (lv0 := [some (.ref (A 0)), some (.ref (A 1)), some (.ref (A 3)), some (.int (jI h)), some (.int (jI x)), none, none, none, none, none, none, none, none, none]) hl (by decide +kernel) rfl rfl (Nat.le_of_ble_eq_true rfl) rfl ?_
  intro X B hN hl0 hdg hac hin
  subst hl0; subst hdg; subst hac
  have F := B.F
  have hI := hL.I
  have hj := hL.J
  obtain ⟨hM0, hM1, hM2, hM3, hM4, hM5⟩ := id hL.M
  have b3 := hI.2.2.2.2.1.1
  have b6 := hI.2.2.2.2.2.1.2.2.1
  have b6a := hI.2.2.2.2.2.1.1
  refine jj_aload1 F dL_isPlayed_0 ?_
  refine jj_iconst F dL_isPlayed_1 ?_
  refine jm_ald F hP (by omega) dL_isPlayed_2 ?_
  refine jj_meetb 16 (fun dd : Int => 0 ≤ dd ∧ (0 < s 22 0 → dd < s 22 0) ∧ dd ≤ 20) (fun dd hdd => ?_) (fun J16 => ?_)
  · skip
    have hdd : 0 ≤ dd ∧ (0 < s 22 0 → dd < s 22 0) ∧ dd ≤ 20 := hdd
    have hp : 0 ≤ x / 20 % 8 ∧ x / 20 % 8 ≤ 7 := by omega
    refine jj_istore5 F dL_isPlayed_16 (hN _ (by decide)) rfl ?_
    refine jj_iload4 F dL_isPlayed_18 ?_
    refine jj_bipush F (by decide) dL_isPlayed_20 ?_
    refine jj_idiv F (by omega) dL_isPlayed_22 ?_
    refine jj_istore6 F dL_isPlayed_23 (hN _ (by decide)) rfl ?_
    refine jj_iload6 F dL_isPlayed_25 ?_
    refine jj_bipush F (by decide) dL_isPlayed_27 ?_
    refine jj_irem F (by omega) dL_isPlayed_29 ?_
    refine jj_istore7 F dL_isPlayed_30 (hN _ (by decide)) rfl ?_
    refine jj_iload3 F dL_isPlayed_32 ?_
    refine jj_iconst F dL_isPlayed_33 ?_
    refine jj_meet 153 (0) (0) (WP (jj_ac X) A s e m g r) (fun G hP => ?_) (fun J153 => ?_)
    · skip
      refine jj_iload3 F dL_isPlayed_153 ?_
      refine jj_iconst F dL_isPlayed_154 ?_
      refine jj_meet 248 (0) (0) (WP (jj_ac X) A s e m g r) (fun G hP => ?_) (fun J248 => ?_)
      · skip
        refine jj_iload3 F dL_isPlayed_248 ?_
        refine jj_iconst F dL_isPlayed_249 ?_
        refine jj_meet 509 (0) (0) (WP (jj_ac X) A s e m g r) (fun G hP => ?_) (fun J509 => ?_)
        · skip
          refine jj_iload3 F dL_isPlayed_509 ?_
          refine jj_bipush F (by decide) dL_isPlayed_510 ?_
          refine jj_meet 631 (0) (0) (WP (jj_ac X) A s e m g r) (fun G hP => ?_) (fun J631 => ?_)
          · skip
            refine jj_iload3 F dL_isPlayed_631 ?_
            refine jj_bipush F (by decide) dL_isPlayed_632 ?_
            refine jj_meet 700 (0) (0) (WP (jj_ac X) A s e m g r) (fun G hP => ?_) (fun J700 => ?_)
            · skip
              refine jj_iconst F dL_isPlayed_700 ?_
              exact jj_zret B dL_isPlayed_701 ⟨Nat.le_of_ble_eq_true rfl, Nat.le_of_ble_eq_true rfl⟩ (Or.inr rfl) ⟨1, rfl, rfl, _, _, _, _, _, c, by omega, (hL.mono (by omega)), hP⟩
            · skip
              refine jj_icmp_ne F (tgt := 700) dL_isPlayed_634 rfl (by omega) (fun c634 => ?_) (fun c634 => ?_)
              · skip
                exact jj_wide ⟨Nat.le_of_ble_eq_true rfl, Nat.le_of_ble_eq_true rfl⟩ (J700 G hP)
              · skip
                refine jj_aload1 F dL_isPlayed_637 ?_
                refine jj_iconst F dL_isPlayed_638 ?_
                refine jm_ald F hP (by omega) dL_isPlayed_639 ?_
                refine jj_if_le F (tgt := 700) dL_isPlayed_640 rfl (by omega) (fun c640 => ?_) (fun c640 => ?_)
                · skip
                  exact jj_wide ⟨Nat.le_of_ble_eq_true rfl, Nat.le_of_ble_eq_true rfl⟩ (J700 G hP)
                · skip
                  have ht : t_undo s = 0 := (by unfold t_undo; rw [if_neg (by omega)])
                  obtain ⟨hL2, f27, f26, fr⟩ := LI_undo (hL.mono (by omega)) (by omega) ht
                  obtain ⟨s2, hs⟩ : ∃ s2, s2 = n_undo s := ⟨_, rfl⟩
                  rw [← hs] at hL2 f27 f26
                  have f26b : s2 26 0 = s 26 0 := by rw [f26]
                  have f6 := hI.2.2.2.2.2.1.2.2.2 (s 28 0 - 1) (by omega) (by omega)
                  have hr := hL.R.2 (s 28 0 - 1) (by omega) (by omega)
                  obtain ⟨m2, hm2⟩ : ∃ m2, m2 = ju m 4 (m 4 - 1) := ⟨_, rfl⟩
                  have hm4 : m2 4 = s 28 0 - 1 := by rw [hm2, ju_s]; omega
                  rw [← hm2] at hL2
                  have h26 : s 26 0 = 1 := by
                    by_cases hz : s 26 0 = 0
                    · exact absurd (hL.R.1 hz) (by omega)
                    · omega
                  refine jj_aload1 F dL_isPlayed_643 ?_
                  refine jj_iconst F dL_isPlayed_644 ?_
                  refine jj_dup2 F rfl rfl dL_isPlayed_645 ?_
                  refine jm_ald F hP (by omega) dL_isPlayed_646 ?_
                  refine jj_iconst F dL_isPlayed_647 ?_
                  refine jj_isub F dL_isPlayed_648 ?_
                  refine jm_ast F hP (by omega) dL_isPlayed_649 (fun G hP => ?_)
                  rw [← hm2] at hP
                  refine jj_aload0 F dL_isPlayed_650 ?_
                  refine jj_bipush F (by decide) dL_isPlayed_651 ?_
                  refine jj_iconst F dL_isPlayed_653 ?_
                  refine jj_iconst F dL_isPlayed_654 ?_
                  refine jj_iconst F dL_isPlayed_655 ?_
                  refine jj_iconst F dL_isPlayed_656 ?_
                  refine jj_iconst F dL_isPlayed_657 ?_
                  refine la_ok F (ka_undo F.tr hP hI ) ht (k := 12) (n0 := 130) ⟨Nat.le_of_ble_eq_true rfl, Nat.le_of_ble_eq_true rfl, Nat.le_of_ble_eq_true rfl, Nat.le_of_ble_eq_true rfl, Nat.le_of_ble_eq_true rfl, Nat.le_of_ble_eq_true rfl, Nat.le_of_ble_eq_true rfl⟩ dL_isPlayed_658 (fun G hP => ?_)
                  rw [← hs] at hP
                  rw [fr]
                  have hI := hL2.I
                  refine jj_aload2 F dL_isPlayed_661 ?_
                  refine jj_iconst F dL_isPlayed_662 ?_
                  refine jj_aload1 F dL_isPlayed_663 ?_
                  refine jj_iconst F dL_isPlayed_664 ?_
                  refine jm_ald F hP (by omega) dL_isPlayed_665 ?_
                  refine jj_imul F dL_isPlayed_666 ?_
                  refine jr_ald F hP (by omega) dL_isPlayed_667 ?_
                  rw [hm4, hr.1]
                  refine jj_icmp_ne F (tgt := 698) dL_isPlayed_668 rfl (by omega) (fun c668 => by exfalso; omega) (fun c668 => ?_)
                  refine jj_aload0 F dL_isPlayed_671 ?_
                  refine jj_aload2 F dL_isPlayed_672 ?_
                  refine jj_iconst F dL_isPlayed_673 ?_
                  refine jj_aload1 F dL_isPlayed_674 ?_
                  refine jj_iconst F dL_isPlayed_675 ?_
                  refine jm_ald F hP (by omega) dL_isPlayed_676 ?_
                  refine jj_imul F dL_isPlayed_677 ?_
                  refine jr_ald F hP (by omega) dL_isPlayed_678 ?_
                  rw [hm4, hr.1]
                  refine lq_fi F hP hI (by omega) (k := 15) (n0 := 148) ⟨Nat.le_of_ble_eq_true rfl, Nat.le_of_ble_eq_true rfl, Nat.le_of_ble_eq_true rfl, Nat.le_of_ble_eq_true rfl, Nat.le_of_ble_eq_true rfl, Nat.le_of_ble_eq_true rfl, Nat.le_of_ble_eq_true rfl⟩ dL_isPlayed_679 (fun G hP => ?_)
                  rw [if_neg (by omega), f27]
                  refine jj_aload2 F dL_isPlayed_682 ?_
                  refine jj_iconst F dL_isPlayed_683 ?_
                  refine jj_aload1 F dL_isPlayed_684 ?_
                  refine jj_iconst F dL_isPlayed_685 ?_
                  refine jm_ald F hP (by omega) dL_isPlayed_686 ?_
                  refine jj_imul F dL_isPlayed_687 ?_
                  refine jj_iconst F dL_isPlayed_688 ?_
                  refine jj_iadd F dL_isPlayed_689 ?_
                  refine jr_ald F hP (by omega) dL_isPlayed_690 ?_
                  rw [hm4, hr.2]
                  refine jj_icmp_ne F (tgt := 698) dL_isPlayed_691 rfl (by omega) (fun c691 => by exfalso; omega) (fun c691 => ?_)
                  refine jj_iconst F dL_isPlayed_694 ?_
                  refine jj_goto F (tgt := 699) dL_isPlayed_695 rfl ?_
                  exact jj_zret B dL_isPlayed_699 ⟨Nat.le_of_ble_eq_true rfl, Nat.le_of_ble_eq_true rfl⟩ (Or.inr rfl) ⟨1, rfl, rfl, _, _, _, _, _, c + 1, by omega, hL2, hP⟩
          · skip
            refine jj_icmp_ge F (tgt := 631) dL_isPlayed_512 rfl (by omega) (fun c512 => ?_) (fun c512 => ?_)
            · skip
              exact jj_wide ⟨Nat.le_of_ble_eq_true rfl, Nat.le_of_ble_eq_true rfl⟩ (J631 G hP)
            · skip
              refine jj_aload1 F dL_isPlayed_515 ?_
              refine jj_iconst F dL_isPlayed_516 ?_
              refine jm_ald F hP (by omega) dL_isPlayed_517 ?_
              refine jj_iconst F dL_isPlayed_518 ?_
              refine jj_icmp_ne F (tgt := 631) dL_isPlayed_519 rfl (by omega) (fun c519 => ?_) (fun c519 => ?_)
              · skip
                exact jj_wide ⟨Nat.le_of_ble_eq_true rfl, Nat.le_of_ble_eq_true rfl⟩ (J631 G hP)
              · skip
                have f6 := hI.2.2.2.2.2.1.2.1 (x / 20 % 8) (by omega) (by omega)
                by_cases h20 : s 28 0 = 20
                · skip
                  refine jj_aload0 F dL_isPlayed_522 ?_
                  refine jj_iload7 F dL_isPlayed_523 ?_
                  refine lq_fi F hP hI (by omega) (k := 3) (n0 := 18) ⟨Nat.le_of_ble_eq_true rfl, Nat.le_of_ble_eq_true rfl, Nat.le_of_ble_eq_true rfl, Nat.le_of_ble_eq_true rfl, Nat.le_of_ble_eq_true rfl, Nat.le_of_ble_eq_true rfl, Nat.le_of_ble_eq_true rfl⟩ dL_isPlayed_525 (fun G hP => ?_)
                  rw [if_neg (by omega)]
                  refine jj_istore8 F dL_isPlayed_528 (hN _ (by decide)) rfl ?_
                  refine jj_aload0 F dL_isPlayed_530 ?_
                  refine jj_bipush F (by decide) dL_isPlayed_531 ?_
                  refine jj_iload7 F dL_isPlayed_533 ?_
                  refine jj_iconst F dL_isPlayed_535 ?_
                  refine jj_iconst F dL_isPlayed_536 ?_
                  refine jj_iconst F dL_isPlayed_537 ?_
                  refine jj_iconst F dL_isPlayed_538 ?_
                  refine la_no F (ka_repair F.tr hP hI (by omega)) 2 (-1763000000) (by unfold t_repair; rw [if_neg (by omega), if_pos (by omega)]) (by decide) (fun h => by rw [h]; rfl) (k := 15) (n0 := 148) ⟨Nat.le_of_ble_eq_true rfl, Nat.le_of_ble_eq_true rfl, Nat.le_of_ble_eq_true rfl, Nat.le_of_ble_eq_true rfl, Nat.le_of_ble_eq_true rfl, Nat.le_of_ble_eq_true rfl, Nat.le_of_ble_eq_true rfl⟩ dL_isPlayed_539 (fun G hP => ?_)
                  refine jj_istore9 F dL_isPlayed_542 (hN _ (by decide)) rfl ?_
                  refine jj_aload1 F dL_isPlayed_544 ?_
                  refine jj_iconst F dL_isPlayed_545 ?_
                  refine jm_ald F hP (by omega) dL_isPlayed_546 ?_
                  refine jj_bipush F (by decide) dL_isPlayed_547 ?_
                  refine jj_icmp_ne F (tgt := 576) dL_isPlayed_549 rfl (by omega) (fun c549 => by exfalso; omega) (fun c549 => ?_)
                  refine jj_iload9 F dL_isPlayed_552 ?_
                  refine jj_ldc F (v := -1763000000) cn_L_128 (by decide) dL_isPlayed_554 ?_
                  refine jj_icmp_ne F (tgt := 574) dL_isPlayed_556 rfl (by omega) (fun c556 => by exfalso; omega) (fun c556 => ?_)
                  refine jj_aload0 F dL_isPlayed_559 ?_
                  refine jj_iload7 F dL_isPlayed_560 ?_
                  refine lq_fi F hP hI (by omega) (k := 18) (n0 := 166) ⟨Nat.le_of_ble_eq_true rfl, Nat.le_of_ble_eq_true rfl, Nat.le_of_ble_eq_true rfl, Nat.le_of_ble_eq_true rfl, Nat.le_of_ble_eq_true rfl, Nat.le_of_ble_eq_true rfl, Nat.le_of_ble_eq_true rfl⟩ dL_isPlayed_562 (fun G hP => ?_)
                  rw [if_neg (by omega)]
                  refine jj_iload8 F dL_isPlayed_565 ?_
                  refine jj_icmp_ne F (tgt := 574) dL_isPlayed_567 rfl (by omega) (fun c567 => by exfalso; omega) (fun c567 => ?_)
                  refine jj_iconst F dL_isPlayed_570 ?_
                  refine jj_goto F (tgt := 575) dL_isPlayed_571 rfl ?_
                  exact jj_zret B dL_isPlayed_575 ⟨Nat.le_of_ble_eq_true rfl, Nat.le_of_ble_eq_true rfl⟩ (Or.inr rfl) ⟨1, rfl, rfl, _, _, _, _, _, c, by omega, (hL.mono (by omega)), hP⟩
                · skip
                  have ht : t_repair s (x / 20 % 8) = 0 := (by unfold t_repair; rw [if_neg (by omega), if_neg (by omega)])
                  obtain ⟨hL2, f27, f26, fr⟩ := LI_repair (hL.mono (by omega)) (by omega) ht
                  obtain ⟨s2, hs⟩ : ∃ s2, s2 = n_repair s (x / 20 % 8) := ⟨_, rfl⟩
                  rw [← hs] at hL2 f27 f26
                  have f26b : s2 26 0 = s 26 0 := by rw [f26]
                  refine jj_aload0 F dL_isPlayed_522 ?_
                  refine jj_iload7 F dL_isPlayed_523 ?_
                  refine lq_fi F hP hI (by omega) (k := 3) (n0 := 18) ⟨Nat.le_of_ble_eq_true rfl, Nat.le_of_ble_eq_true rfl, Nat.le_of_ble_eq_true rfl, Nat.le_of_ble_eq_true rfl, Nat.le_of_ble_eq_true rfl, Nat.le_of_ble_eq_true rfl, Nat.le_of_ble_eq_true rfl⟩ dL_isPlayed_525 (fun G hP => ?_)
                  rw [if_neg (by omega)]
                  refine jj_istore8 F dL_isPlayed_528 (hN _ (by decide)) rfl ?_
                  refine jj_aload0 F dL_isPlayed_530 ?_
                  refine jj_bipush F (by decide) dL_isPlayed_531 ?_
                  refine jj_iload7 F dL_isPlayed_533 ?_
                  refine jj_iconst F dL_isPlayed_535 ?_
                  refine jj_iconst F dL_isPlayed_536 ?_
                  refine jj_iconst F dL_isPlayed_537 ?_
                  refine jj_iconst F dL_isPlayed_538 ?_
                  refine la_ok F (ka_repair F.tr hP hI (by omega)) ht (k := 15) (n0 := 148) ⟨Nat.le_of_ble_eq_true rfl, Nat.le_of_ble_eq_true rfl, Nat.le_of_ble_eq_true rfl, Nat.le_of_ble_eq_true rfl, Nat.le_of_ble_eq_true rfl, Nat.le_of_ble_eq_true rfl, Nat.le_of_ble_eq_true rfl⟩ dL_isPlayed_539 (fun G hP => ?_)
                  rw [← hs] at hP
                  rw [fr]
                  have hI := hL2.I
                  refine jj_istore9 F dL_isPlayed_542 (hN _ (by decide)) rfl ?_
                  refine jj_aload1 F dL_isPlayed_544 ?_
                  refine jj_iconst F dL_isPlayed_545 ?_
                  refine jm_ald F hP (by omega) dL_isPlayed_546 ?_
                  refine jj_bipush F (by decide) dL_isPlayed_547 ?_
                  refine jj_icmp_ne F (tgt := 576) dL_isPlayed_549 rfl (by omega) (fun c549 => ?_) (fun c549 => by exfalso; omega)
                  refine jj_aload2 F dL_isPlayed_576 ?_
                  refine jj_iconst F dL_isPlayed_577 ?_
                  refine jj_aload1 F dL_isPlayed_578 ?_
                  refine jj_iconst F dL_isPlayed_579 ?_
                  refine jm_ald F hP (by omega) dL_isPlayed_580 ?_
                  refine jj_imul F dL_isPlayed_581 ?_
                  refine jj_iload7 F dL_isPlayed_582 ?_
                  refine jr_ast F hP (by omega) dL_isPlayed_584 (fun G hP => ?_)
                  obtain ⟨r1, hr1⟩ : ∃ r1, r1 = ju r (2 * m 4) (x / 20 % 8) := ⟨_, rfl⟩
                  rw [← hr1] at hP hL2
                  refine jj_aload2 F dL_isPlayed_585 ?_
                  refine jj_iconst F dL_isPlayed_586 ?_
                  refine jj_aload1 F dL_isPlayed_587 ?_
                  refine jj_iconst F dL_isPlayed_588 ?_
                  refine jm_ald F hP (by omega) dL_isPlayed_589 ?_
                  refine jj_imul F dL_isPlayed_590 ?_
                  refine jj_iconst F dL_isPlayed_591 ?_
                  refine jj_iadd F dL_isPlayed_592 ?_
                  refine jj_iload8 F dL_isPlayed_593 ?_
                  refine jr_ast F hP (by omega) dL_isPlayed_595 (fun G hP => ?_)
                  obtain ⟨r2, hr2⟩ : ∃ r2, r2 = ju r1 (2 * m 4 + 1) (s 27 (x / 20 % 8)) := ⟨_, rfl⟩
                  rw [← hr2] at hP hL2
                  refine jj_aload1 F dL_isPlayed_596 ?_
                  refine jj_iconst F dL_isPlayed_597 ?_
                  refine jj_dup2 F rfl rfl dL_isPlayed_598 ?_
                  refine jm_ald F hP (by omega) dL_isPlayed_599 ?_
                  refine jj_iconst F dL_isPlayed_600 ?_
                  refine jj_iadd F dL_isPlayed_601 ?_
                  refine jm_ast F hP (by omega) dL_isPlayed_602 (fun G hP => ?_)
                  obtain ⟨m2, hm2⟩ : ∃ m2, m2 = ju m 4 (m 4 + 1) := ⟨_, rfl⟩
                  rw [← hm2] at hP hL2
                  refine jj_iload9 F dL_isPlayed_603 ?_
                  refine jj_iload8 F dL_isPlayed_605 ?_
                  refine jj_iconst F dL_isPlayed_607 ?_
                  refine jj_idiv F (by omega) dL_isPlayed_608 ?_
                  refine jj_icmp_ne F (tgt := 629) dL_isPlayed_609 rfl (by omega) (fun c609 => by exfalso; omega) (fun c609 => ?_)
                  refine jj_aload0 F dL_isPlayed_612 ?_
                  refine jj_iload7 F dL_isPlayed_613 ?_
                  refine lq_fi F hP hI (by omega) (k := 18) (n0 := 166) ⟨Nat.le_of_ble_eq_true rfl, Nat.le_of_ble_eq_true rfl, Nat.le_of_ble_eq_true rfl, Nat.le_of_ble_eq_true rfl, Nat.le_of_ble_eq_true rfl, Nat.le_of_ble_eq_true rfl, Nat.le_of_ble_eq_true rfl⟩ dL_isPlayed_615 (fun G hP => ?_)
                  rw [if_neg (by omega), f27]
                  refine jj_iload8 F dL_isPlayed_618 ?_
                  refine jj_iconst F dL_isPlayed_620 ?_
                  refine jj_idiv F (by omega) dL_isPlayed_621 ?_
                  refine jj_icmp_ne F (tgt := 629) dL_isPlayed_622 rfl (by omega) (fun c622 => by exfalso; omega) (fun c622 => ?_)
                  refine jj_iconst F dL_isPlayed_625 ?_
                  refine jj_goto F (tgt := 630) dL_isPlayed_626 rfl ?_
                  exact jj_zret B dL_isPlayed_630 ⟨Nat.le_of_ble_eq_true rfl, Nat.le_of_ble_eq_true rfl⟩ (Or.inr rfl) ⟨1, rfl, rfl, _, _, _, _, _, c + 1, by omega, hL2, hP⟩
        · skip
          refine jj_icmp_ne F (tgt := 509) dL_isPlayed_250 rfl (by omega) (fun c250 => ?_) (fun c250 => ?_)
          · skip
            exact jj_wide ⟨Nat.le_of_ble_eq_true rfl, Nat.le_of_ble_eq_true rfl⟩ (J509 G hP)
          · skip
            refine jj_aload1 F dL_isPlayed_253 ?_
            refine jj_iconst F dL_isPlayed_254 ?_
            refine jm_ald F hP (by omega) dL_isPlayed_255 ?_
            refine jj_if_le F (tgt := 509) dL_isPlayed_256 rfl (by omega) (fun c256 => ?_) (fun c256 => ?_)
            · skip
              exact jj_wide ⟨Nat.le_of_ble_eq_true rfl, Nat.le_of_ble_eq_true rfl⟩ (J509 G hP)
            · skip
              have hd : 0 ≤ dd ∧ dd < s 22 0 := by omega
              have hsb := sBit_in (s 22 0).toNat (by omega)
              rw [show (((s 22 0).toNat : Nat) : Int) = s 22 0 by omega] at hsb
              obtain ⟨hsb1, hsb2, -⟩ := hsb
              refine jj_iload6 F dL_isPlayed_259 ?_
              refine jj_iconst F dL_isPlayed_261 ?_
              refine jj_aload1 F dL_isPlayed_262 ?_
              refine jj_iconst F dL_isPlayed_263 ?_
              refine jm_ald F hP (by omega) dL_isPlayed_264 ?_
              refine jj_ishl F dL_isPlayed_265 ?_
              refine jj_topi (jI_of _) ?_
              refine jj_eqi (show _ = sBit (s 22 0) by rw [hM3]; rfl) ?_
              refine jj_irem F ⟨by omega, by omega, by omega, by omega⟩ dL_isPlayed_266 ?_
              refine jj_iconst F dL_isPlayed_267 ?_
              refine jj_iload5 F dL_isPlayed_268 ?_
              refine jj_ishl F dL_isPlayed_270 ?_
              refine jj_ior F dL_isPlayed_271 ?_
              refine jj_topi (jI_of _) ?_
              refine jj_namei (fun Q hQ => ?_)
              obtain ⟨hQr, hare, hhas⟩ := set_of b3 hd (show 0 ≤ x / 20 by omega) hQ
              clear hQ
              obtain ⟨J, hJ⟩ : ∃ J, J = sJoin s Q (x / 20 % 8) := ⟨_, rfl⟩
              have hJr := sJoin_in (s := s) (p := x / 20 % 8) hQr hare b3
              rw [← hJ] at hJr
              have nd := noise_in hI hd hp
              have nJ := noise_in hI (d := J) (by omega) hp
              refine jj_istore8 F dL_isPlayed_272 (hN _ (by decide)) rfl ?_
              refine jj_aload0 F dL_isPlayed_274 ?_
              refine jj_bipush F (by decide) dL_isPlayed_275 ?_
              refine jj_iload8 F dL_isPlayed_277 ?_
              refine jj_iconst F dL_isPlayed_279 ?_
              refine jj_iconst F dL_isPlayed_280 ?_
              refine jj_iconst F dL_isPlayed_281 ?_
              refine jj_iconst F dL_isPlayed_282 ?_
              by_cases hone : sOne s Q = 0
              · skip
                refine la_no F (ka_file F.tr hP hI (by omega)) 2 (-1763000000) (by unfold t_file; rw [if_neg hare, if_pos hone]) (by decide) (fun h => by rw [h]; rfl) (k := 12) (n0 := 130) ⟨Nat.le_of_ble_eq_true rfl, Nat.le_of_ble_eq_true rfl, Nat.le_of_ble_eq_true rfl, Nat.le_of_ble_eq_true rfl, Nat.le_of_ble_eq_true rfl, Nat.le_of_ble_eq_true rfl, Nat.le_of_ble_eq_true rfl⟩ dL_isPlayed_283 (fun G hP => ?_)
                refine jj_istore9 F dL_isPlayed_286 (hN _ (by decide)) rfl ?_
                refine jj_aload0 F dL_isPlayed_288 ?_
                refine jj_bipush F (by decide) dL_isPlayed_289 ?_
                refine jj_iload8 F dL_isPlayed_291 ?_
                refine jj_iload7 F dL_isPlayed_293 ?_
                refine jj_iconst F dL_isPlayed_295 ?_
                refine jj_iconst F dL_isPlayed_296 ?_
                refine jj_iconst F dL_isPlayed_297 ?_
                refine la_no F (ka_join F.tr hP hI (by omega) (by omega)) 3 (-1763000000) (by unfold t_join; rw [if_neg (by omega), if_neg hare, if_pos hone]) (by decide) (fun h => by rw [h]; rfl) (k := 24) (n0 := 260) ⟨Nat.le_of_ble_eq_true rfl, Nat.le_of_ble_eq_true rfl, Nat.le_of_ble_eq_true rfl, Nat.le_of_ble_eq_true rfl, Nat.le_of_ble_eq_true rfl, Nat.le_of_ble_eq_true rfl, Nat.le_of_ble_eq_true rfl⟩ dL_isPlayed_298 (fun G hP => ?_)
                refine jj_istore10 F dL_isPlayed_301 (hN _ (by decide)) rfl ?_
                refine jj_iload9 F dL_isPlayed_303 ?_
                refine jj_if_ge F (tgt := 328) dL_isPlayed_305 rfl (by omega) (fun c305 => by exfalso; omega) (fun c305 => ?_)
                refine jj_iload9 F dL_isPlayed_308 ?_
                refine jj_ldc F (v := -1763000000) cn_L_128 (by decide) dL_isPlayed_310 ?_
                refine jj_icmp_ne F (tgt := 326) dL_isPlayed_312 rfl (by omega) (fun c312 => by exfalso; omega) (fun c312 => ?_)
                refine jj_iload10 F dL_isPlayed_315 ?_
                refine jj_ldc F (v := -1763000000) cn_L_128 (by decide) dL_isPlayed_317 ?_
                refine jj_icmp_ne F (tgt := 326) dL_isPlayed_319 rfl (by omega) (fun c319 => by exfalso; omega) (fun c319 => ?_)
                refine jj_iconst F dL_isPlayed_322 ?_
                refine jj_goto F (tgt := 327) dL_isPlayed_323 rfl ?_
                exact jj_zret B dL_isPlayed_327 ⟨Nat.le_of_ble_eq_true rfl, Nat.le_of_ble_eq_true rfl⟩ (Or.inr rfl) ⟨1, rfl, rfl, _, _, _, _, _, c, by omega, (hL.mono (by omega)), hP⟩
              · skip
                have ht : t_file s Q = 0 := by unfold t_file; rw [if_neg hare, if_neg hone]
                have htj : t_join s Q (x / 20 % 8) = 0 := by unfold t_join; rw [if_neg (by omega), if_neg hare, if_neg hone]
                obtain ⟨hL2, e26, e28, fr, f27, fN, e22, fJ, fT⟩ := LI_file (hL.mono (by omega)) (by omega) hQr ht
                obtain ⟨s2, hs⟩ : ∃ s2, s2 = n_file s Q := ⟨_, rfl⟩
                rw [← hs] at hL2 e26 e28 f27 fN e22 fJ fT
                have ht2 : t_join s2 Q (x / 20 % 8) = 0 := by rw [fT]; exact htj
                have fj : r_join s2 Q (x / 20 % 8) = J := by unfold r_join; rw [if_pos ht2, fJ, hJ]
                have fF := sFileN_in hI hQr hare 8 (by omega)
                obtain ⟨i0, hi0⟩ : ∃ i0 : Nat, dd = i0 := ⟨dd.toNat, by omega⟩
                have mn := sJoinTo_min (s := s) (q := Q) (p := x / 20 % 8) (s 22 0).toNat
                have mnd := mn i0 (by omega) (by rw [← hi0]; exact hhas)
                rw [← hi0] at mnd
                have hJh : sHas Q J = 1 := sJoinTo_has (s := s) (q := Q) (p := x / 20 % 8) (s 22 0).toNat J hJ.symm hJr.1
                rw [show sJoinTo s Q (x / 20 % 8) (s 22 0).toNat = J from hJ.symm] at mn mnd
                have e22b : s2 22 0 = s 22 0 := by rw [e22]
                have f27p := f27 (x / 20 % 8) (by omega) (by omega)
                rw [← hJ] at f27p
                refine la_ok F (ka_file F.tr hP hI (by omega)) ht (k := 12) (n0 := 130) ⟨Nat.le_of_ble_eq_true rfl, Nat.le_of_ble_eq_true rfl, Nat.le_of_ble_eq_true rfl, Nat.le_of_ble_eq_true rfl, Nat.le_of_ble_eq_true rfl, Nat.le_of_ble_eq_true rfl, Nat.le_of_ble_eq_true rfl⟩ dL_isPlayed_283 (fun G hP => ?_)
                rw [← hs] at hP
                rw [fr]
                have hI2 := hL2.I
                have hI := hL2.I
                refine jj_istore9 F dL_isPlayed_286 (hN _ (by decide)) rfl ?_
                refine jj_aload0 F dL_isPlayed_288 ?_
                refine jj_bipush F (by decide) dL_isPlayed_289 ?_
                refine jj_iload8 F dL_isPlayed_291 ?_
                refine jj_iload7 F dL_isPlayed_293 ?_
                refine jj_iconst F dL_isPlayed_295 ?_
                refine jj_iconst F dL_isPlayed_296 ?_
                refine jj_iconst F dL_isPlayed_297 ?_
                refine la_ok F (ka_join F.tr hP hI (by omega) (by omega)) ht2 (k := 24) (n0 := 260) ⟨Nat.le_of_ble_eq_true rfl, Nat.le_of_ble_eq_true rfl, Nat.le_of_ble_eq_true rfl, Nat.le_of_ble_eq_true rfl, Nat.le_of_ble_eq_true rfl, Nat.le_of_ble_eq_true rfl, Nat.le_of_ble_eq_true rfl⟩ dL_isPlayed_298 (fun G hP => ?_)
                rw [fj]
                refine jj_istore10 F dL_isPlayed_301 (hN _ (by decide)) rfl ?_
                refine jj_iload9 F dL_isPlayed_303 ?_
                refine jj_if_ge F (tgt := 328) dL_isPlayed_305 rfl (by omega) (fun c305 => ?_) (fun c305 => by exfalso; omega)
                refine jj_aload1 F dL_isPlayed_328 ?_
                refine jj_iconst F dL_isPlayed_329 ?_
                refine jj_iconst F dL_isPlayed_330 ?_
                refine jm_ast F hP (by omega) dL_isPlayed_331 (fun G hP => ?_)
                obtain ⟨m1, hm1⟩ : ∃ m1, m1 = ju m 5 1 := ⟨_, rfl⟩
                rw [← hm1] at hP hL2
                refine jj_aload1 F dL_isPlayed_332 ?_
                refine jj_iconst F dL_isPlayed_333 ?_
                refine jj_iconst F dL_isPlayed_334 ?_
                refine jm_ast F hP (by omega) dL_isPlayed_335 (fun G hP => ?_)
                obtain ⟨m2, hm2⟩ : ∃ m2, m2 = ju m1 4 0 := ⟨_, rfl⟩
                rw [← hm2] at hP hL2
                refine jj_iconst F dL_isPlayed_336 ?_
                refine jj_istore11 F dL_isPlayed_337 (hN _ (by decide)) rfl ?_
                refine jj_iload8 F dL_isPlayed_339 ?_
                refine jj_iload10 F dL_isPlayed_341 ?_
                refine jj_ishr F dL_isPlayed_343 ?_
                refine jj_iconst F dL_isPlayed_344 ?_
                refine jj_iand F dL_isPlayed_345 ?_
                refine jj_iconst F dL_isPlayed_346 ?_
                refine jj_icmpx_ne F (tgt := 388) dL_isPlayed_347 rfl (fun c347 => by exact absurd (has_and hJh) c347) (fun c347 => ?_)
                refine jj_aload0 F dL_isPlayed_350 ?_
                refine jj_iload7 F dL_isPlayed_351 ?_
                refine lq_fi F hP hI (by omega) (k := 27) (n0 := 278) ⟨Nat.le_of_ble_eq_true rfl, Nat.le_of_ble_eq_true rfl, Nat.le_of_ble_eq_true rfl, Nat.le_of_ble_eq_true rfl, Nat.le_of_ble_eq_true rfl, Nat.le_of_ble_eq_true rfl, Nat.le_of_ble_eq_true rfl⟩ dL_isPlayed_353 (fun G hP => ?_)
                rw [if_neg (by omega), f27p]
                refine jj_aload0 F dL_isPlayed_356 ?_
                refine jj_iload10 F dL_isPlayed_357 ?_
                refine jj_iload7 F dL_isPlayed_359 ?_
                refine lq_no F hP hI (by omega) (by omega) (k := 30) (n0 := 296) ⟨Nat.le_of_ble_eq_true rfl, Nat.le_of_ble_eq_true rfl, Nat.le_of_ble_eq_true rfl, Nat.le_of_ble_eq_true rfl, Nat.le_of_ble_eq_true rfl, Nat.le_of_ble_eq_true rfl, Nat.le_of_ble_eq_true rfl⟩ dL_isPlayed_361 (fun G hP => ?_)
                rw [fN]
                refine jj_icmp_ne F (tgt := 388) dL_isPlayed_364 rfl (by omega) (fun c364 => by exfalso; omega) (fun c364 => ?_)
                refine jj_aload0 F dL_isPlayed_367 ?_
                refine jj_iload7 F dL_isPlayed_368 ?_
                refine lq_fi F hP hI (by omega) (k := 33) (n0 := 314) ⟨Nat.le_of_ble_eq_true rfl, Nat.le_of_ble_eq_true rfl, Nat.le_of_ble_eq_true rfl, Nat.le_of_ble_eq_true rfl, Nat.le_of_ble_eq_true rfl, Nat.le_of_ble_eq_true rfl, Nat.le_of_ble_eq_true rfl⟩ dL_isPlayed_370 (fun G hP => ?_)
                rw [if_neg (by omega), f27p]
                refine jj_aload0 F dL_isPlayed_373 ?_
                refine jj_iload5 F dL_isPlayed_374 ?_
                refine jj_iload7 F dL_isPlayed_376 ?_
                refine lq_no F hP hI (by omega) (by omega) (k := 36) (n0 := 332) ⟨Nat.le_of_ble_eq_true rfl, Nat.le_of_ble_eq_true rfl, Nat.le_of_ble_eq_true rfl, Nat.le_of_ble_eq_true rfl, Nat.le_of_ble_eq_true rfl, Nat.le_of_ble_eq_true rfl, Nat.le_of_ble_eq_true rfl⟩ dL_isPlayed_378 (fun G hP => ?_)
                rw [fN]
                refine jj_icmp_gt F (tgt := 388) dL_isPlayed_381 rfl (by omega) (fun c381 => by exfalso; omega) (fun c381 => ?_)
                refine jj_iconst F dL_isPlayed_384 ?_
                refine jj_goto F (tgt := 389) dL_isPlayed_385 rfl ?_
                refine jj_istore12 F dL_isPlayed_389 (hN _ (by decide)) rfl ?_
                refine jj_iconst F dL_isPlayed_391 ?_
                refine jj_istore13 F dL_isPlayed_392 (hN _ (by decide)) rfl ?_
                have lp2 : ∀ (n : Nat) (j : Nat) (kc kn : Nat) (G : jj_G), WP (jj_ac X) A s2 e m2 g r G → n + j = J.toNat → kc + 6 * n ≤ 500 → kn + 36 * n ≤ 3000 → jj_J X G kc kn 421 [some (.ref (A 0)), some (.ref (A 1)), some (.ref (A 3)), some (.int (jI h)), some (.int (jI x)), some (.int (jI dd)), some (.int (jI (x / 20))), some (.int (jI (x / 20 % 8))), some (.int (jI Q)), some (.int (jI (sFileN s Q 8))), some (.int (jI J)), some (.int (jI (sFileN s Q 8))), some (.int (jI 1)), some (.int (jI (j : Int)))] [] := by
                  intro n
                  induction n with
                  | zero =>
                    intro j kc kn G hP hj h1 h2
                    have z3 := hL2.I.2.2.2.2.2.1.2.2.1
                    refine jj_iload13 F dL_isPlayed_421 ?_
                    refine jj_iload10 F dL_isPlayed_423 ?_
                    refine jj_icmp_ge F (tgt := 475) dL_isPlayed_425 rfl (by omega) (fun c425 => ?_) (fun c425 => by exfalso; omega)
                    refine jj_iload12 F dL_isPlayed_475 ?_
                    refine jj_if_eq F (tgt := 507) dL_isPlayed_477 rfl (by omega) (fun c477 => by exfalso; omega) (fun c477 => ?_)
                    refine jj_iload11 F dL_isPlayed_480 ?_
                    refine jj_iload9 F dL_isPlayed_482 ?_
                    refine jj_icmp_ne F (tgt := 507) dL_isPlayed_484 rfl (by omega) (fun c484 => by exfalso; omega) (fun c484 => ?_)
                    refine jj_aload0 F dL_isPlayed_487 ?_
                    refine jj_bipush F (by decide) dL_isPlayed_488 ?_
                    refine jj_iconst F dL_isPlayed_490 ?_
                    refine jj_iconst F dL_isPlayed_491 ?_
                    refine jj_iconst F dL_isPlayed_492 ?_
                    refine jj_iconst F dL_isPlayed_493 ?_
                    refine jj_iconst F dL_isPlayed_494 ?_
                    refine la_no F (ka_undo F.tr hP hI ) 1 (-1763000000) (by unfold t_undo; rw [if_pos (by omega)]) (by decide) (fun h => by rw [h]; rfl) (k := kc + 12) (n0 := kn + 130) ⟨Nat.le_of_ble_eq_true rfl, Nat.le_of_ble_eq_true rfl, (Nat.le_refl _), (Nat.le_refl _), (show kc + 12 ≤ 600 by omega), (show kn + 130 ≤ 4000 by omega), Nat.le_of_ble_eq_true rfl⟩ dL_isPlayed_495 (fun G hP => ?_)
                    refine jj_ldc F (v := -1763000000) cn_L_128 (by decide) dL_isPlayed_498 ?_
                    refine jj_icmp_ne F (tgt := 507) dL_isPlayed_500 rfl (by omega) (fun c500 => by exfalso; omega) (fun c500 => ?_)
                    refine jj_iconst F dL_isPlayed_503 ?_
                    refine jj_goto F (tgt := 508) dL_isPlayed_504 rfl ?_
                    exact jj_zret B dL_isPlayed_508 ⟨(show kc + 12 ≤ 600 by omega), (show kn + 130 ≤ 4000 by omega)⟩ (Or.inr rfl) ⟨1, rfl, rfl, _, _, _, _, _, c + 1, by omega, hL2, hP⟩
                  | succ n ih =>
                    intro j kc kn G hP hj h1 h2
                    have z1 := noise_in hL2.I (d := (j : Int)) (p := x / 20 % 8) (by omega) hp
                    rw [fN] at z1
                    refine jj_iload13 F dL_isPlayed_421 ?_
                    refine jj_iload10 F dL_isPlayed_423 ?_
                    refine jj_icmp_ge F (tgt := 475) dL_isPlayed_425 rfl (by omega) (fun c425 => by exfalso; omega) (fun c425 => ?_)
                    refine jj_iload12 F dL_isPlayed_428 ?_
                    refine jj_if_eq F (tgt := 475) dL_isPlayed_430 rfl (by omega) (fun c430 => by exfalso; omega) (fun c430 => ?_)
                    refine jj_iload8 F dL_isPlayed_433 ?_
                    refine jj_iload13 F dL_isPlayed_435 ?_
                    refine jj_ishr F dL_isPlayed_437 ?_
                    refine jj_iconst F dL_isPlayed_438 ?_
                    refine jj_iand F dL_isPlayed_439 ?_
                    refine jj_meet 462 (kc + 6) (kn + 36) (WP (jj_ac X) A s2 e m2 g r) (fun G hP => ?_) (fun J462 => ?_)
                    · skip
                      refine jj_iconst F dL_isPlayed_462 ?_
                      refine jj_goto F (tgt := 467) dL_isPlayed_463 rfl ?_
                      refine jj_istore12 F dL_isPlayed_467 (hN _ (by decide)) rfl ?_
                      refine jj_iinc13 F dL_isPlayed_469 (hN _ (by decide)) rfl ?_
                      refine jj_goto F (tgt := 421) dL_isPlayed_472 rfl ?_
                      have ih1 := ih (j + 1) (kc + 6) (kn + 36) G hP (by omega) (by omega) (by omega)
                      rw [show (((j + 1 : Nat)) : Int) = (j : Int) + 1 from rfl] at ih1
                      exact ih1
                    · skip
                      refine jj_ifx_eq F (tgt := 462) dL_isPlayed_440 rfl (fun c440 => ?_) (fun c440 => ?_)
                      · skip
                        exact jj_wide ⟨(show kc ≤ kc + 6 by omega), (show kn ≤ kn + 36 by omega)⟩ (J462 G hP)
                      · skip
                        have hk := mn j (by omega) (by unfold sHas; rw [if_pos ((and_one _).resolve_left c440)])
                        refine jj_aload0 F dL_isPlayed_443 ?_
                        refine jj_iload13 F dL_isPlayed_444 ?_
                        refine jj_iload7 F dL_isPlayed_446 ?_
                        refine lq_no F hP hI (by omega) (by omega) (k := kc + 3) (n0 := kn + 18) ⟨Nat.le_of_ble_eq_true rfl, Nat.le_of_ble_eq_true rfl, (Nat.le_refl _), (Nat.le_refl _), (show kc + 3 ≤ 600 by omega), (show kn + 18 ≤ 4000 by omega), Nat.le_of_ble_eq_true rfl⟩ dL_isPlayed_448 (fun G hP => ?_)
                        rw [fN]
                        refine jj_aload0 F dL_isPlayed_451 ?_
                        refine jj_iload10 F dL_isPlayed_452 ?_
                        refine jj_iload7 F dL_isPlayed_454 ?_
                        refine lq_no F hP hI (by omega) (by omega) (k := kc + 6) (n0 := kn + 36) ⟨Nat.le_of_ble_eq_true rfl, Nat.le_of_ble_eq_true rfl, (Nat.le_refl _), (Nat.le_refl _), (show kc + 6 ≤ 600 by omega), (show kn + 36 ≤ 4000 by omega), Nat.le_of_ble_eq_true rfl⟩ dL_isPlayed_456 (fun G hP => ?_)
                        rw [fN]
                        refine jj_icmp_le F (tgt := 466) dL_isPlayed_459 rfl (by omega) (fun c459 => by exfalso; omega) (fun c459 => ?_)
                        exact jj_wide ⟨(show kc + 6 ≤ kc + 6 by omega), (show kn + 36 ≤ kn + 36 by omega)⟩ (J462 G hP)
                have lp1 : ∀ (n : Nat) (j : Nat) (kc kn : Nat) (G : jj_G), WP (jj_ac X) A s2 e m2 g r G → n + j = 8 → kc + 3 * n ≤ 200 → kn + 18 * n ≤ 1200 → jj_J X G kc kn 394 [some (.ref (A 0)), some (.ref (A 1)), some (.ref (A 3)), some (.int (jI h)), some (.int (jI x)), some (.int (jI dd)), some (.int (jI (x / 20))), some (.int (jI (x / 20 % 8))), some (.int (jI Q)), some (.int (jI (sFileN s Q 8))), some (.int (jI J)), some (.int (jI (sFileN s Q j))), some (.int (jI 1)), some (.int (jI (j : Int)))] [] := by
                  intro n
                  induction n with
                  | zero =>
                    intro j kc kn G hP hj h1 h2
                    have e8 : j = 8 := by omega
                    subst e8
                    refine jj_iload13 F dL_isPlayed_394 ?_
                    refine jj_bipush F (by decide) dL_isPlayed_396 ?_
                    refine jj_icmp_ge F (tgt := 418) dL_isPlayed_398 rfl (by omega) (fun c398 => ?_) (fun c398 => by exfalso; omega)
                    refine jj_iconst F dL_isPlayed_418 ?_
                    refine jj_istore13 F dL_isPlayed_419 (hN _ (by decide)) rfl ?_
                    exact jj_wide ⟨by omega, by omega⟩ (lp2 J.toNat 0 200 1200 G hP (by omega) (by omega) (by omega))
                  | succ n ih =>
                    intro j kc kn G hP hj h1 h2
                    refine jj_iload13 F dL_isPlayed_394 ?_
                    refine jj_bipush F (by decide) dL_isPlayed_396 ?_
                    refine jj_icmp_ge F (tgt := 418) dL_isPlayed_398 rfl (by omega) (fun c398 => by exfalso; omega) (fun c398 => ?_)
                    refine jj_iload11 F dL_isPlayed_401 ?_
                    refine jj_aload0 F dL_isPlayed_403 ?_
                    refine jj_iload13 F dL_isPlayed_404 ?_
                    refine lq_fi F hP hI (by omega) (k := kc + 3) (n0 := kn + 18) ⟨Nat.le_of_ble_eq_true rfl, Nat.le_of_ble_eq_true rfl, (Nat.le_refl _), (Nat.le_refl _), (show kc + 3 ≤ 600 by omega), (show kn + 18 ≤ 4000 by omega), Nat.le_of_ble_eq_true rfl⟩ dL_isPlayed_406 (fun G hP => ?_)
                    rw [if_neg (by omega), f27 (j : Int) (by omega) (by omega)]
                    refine jj_iadd F dL_isPlayed_409 ?_
                    refine jj_istore11 F dL_isPlayed_410 (hN _ (by decide)) rfl ?_
                    refine jj_iinc13 F dL_isPlayed_412 (hN _ (by decide)) rfl ?_
                    refine jj_goto F (tgt := 394) dL_isPlayed_415 rfl ?_
                    have ih1 := ih (j + 1) (kc + 3) (kn + 18) G hP (by omega) (by omega) (by omega)
                    rw [show (((j + 1 : Nat)) : Int) = (j : Int) + 1 from rfl] at ih1
                    exact ih1
                exact lp1 8 0 (36) (332) G hP (by omega) (by omega) (by omega)
      · skip
        refine jj_icmp_ge F (tgt := 248) dL_isPlayed_155 rfl (by omega) (fun c155 => ?_) (fun c155 => ?_)
        · skip
          exact jj_wide ⟨Nat.le_of_ble_eq_true rfl, Nat.le_of_ble_eq_true rfl⟩ (J248 G hP)
        · skip
          refine jj_aload1 F dL_isPlayed_158 ?_
          refine jj_iconst F dL_isPlayed_159 ?_
          refine jm_ald F hP (by omega) dL_isPlayed_160 ?_
          refine jj_if_le F (tgt := 248) dL_isPlayed_161 rfl (by omega) (fun c161 => ?_) (fun c161 => ?_)
          · skip
            exact jj_wide ⟨Nat.le_of_ble_eq_true rfl, Nat.le_of_ble_eq_true rfl⟩ (J248 G hP)
          · skip
            have hd : 0 ≤ dd ∧ dd < s 22 0 := by omega
            have n1 := noise_in hI hd hp
            have n2 := noise_in hI hd (p := ((x / 20 % 8 + 1) % 8)) (by omega)
            have ht : t_scr s dd (x / 20 % 8) = 0 := (by unfold t_scr; rw [if_pos (by omega)])
            obtain ⟨hL2, hs2, fr, fe⟩ := LI_scratch (hL.mono (by omega)) (by omega) ht
            obtain ⟨s2, hs⟩ : ∃ s2, s2 = n_scratch s dd (x / 20 % 8) := ⟨_, rfl⟩
            rw [← hs] at hL2 hs2 fe
            have so : sNoise s2 dd ((x / 20 % 8 + 1) % 8) = sNoise s dd ((x / 20 % 8 + 1) % 8) := by rw [hs2]; exact scr_other (by omega)
            have e22 : s2 22 0 = s 22 0 := by rw [hs2, sU_n (by decide), sU_n (by decide)]
            refine jj_aload0 F dL_isPlayed_164 ?_
            refine jj_iload5 F dL_isPlayed_165 ?_
            refine jj_iload7 F dL_isPlayed_167 ?_
            refine lq_no F hP hI (by omega) (by omega) (k := 3) (n0 := 18) ⟨Nat.le_of_ble_eq_true rfl, Nat.le_of_ble_eq_true rfl, Nat.le_of_ble_eq_true rfl, Nat.le_of_ble_eq_true rfl, Nat.le_of_ble_eq_true rfl, Nat.le_of_ble_eq_true rfl, Nat.le_of_ble_eq_true rfl⟩ dL_isPlayed_169 (fun G hP => ?_)
            refine jj_istore8 F dL_isPlayed_172 (hN _ (by decide)) rfl ?_
            refine jj_aload0 F dL_isPlayed_174 ?_
            refine jj_iload5 F dL_isPlayed_175 ?_
            refine jj_iload7 F dL_isPlayed_177 ?_
            refine jj_iconst F dL_isPlayed_179 ?_
            refine jj_iadd F dL_isPlayed_180 ?_
            refine jj_bipush F (by decide) dL_isPlayed_181 ?_
            refine jj_irem F (by omega) dL_isPlayed_183 ?_
            refine lq_no F hP hI (by omega) (by omega) (k := 6) (n0 := 36) ⟨Nat.le_of_ble_eq_true rfl, Nat.le_of_ble_eq_true rfl, Nat.le_of_ble_eq_true rfl, Nat.le_of_ble_eq_true rfl, Nat.le_of_ble_eq_true rfl, Nat.le_of_ble_eq_true rfl, Nat.le_of_ble_eq_true rfl⟩ dL_isPlayed_184 (fun G hP => ?_)
            refine jj_istore9 F dL_isPlayed_187 (hN _ (by decide)) rfl ?_
            refine jj_aload0 F dL_isPlayed_189 ?_
            refine jj_bipush F (by decide) dL_isPlayed_190 ?_
            refine jj_iload5 F dL_isPlayed_192 ?_
            refine jj_iload7 F dL_isPlayed_194 ?_
            refine jj_iconst F dL_isPlayed_196 ?_
            refine jj_iconst F dL_isPlayed_197 ?_
            refine jj_iconst F dL_isPlayed_198 ?_
            refine la_ok F (ka_scratch F.tr hP hI (by omega) (by omega)) ht (k := 18) (n0 := 166) ⟨Nat.le_of_ble_eq_true rfl, Nat.le_of_ble_eq_true rfl, Nat.le_of_ble_eq_true rfl, Nat.le_of_ble_eq_true rfl, Nat.le_of_ble_eq_true rfl, Nat.le_of_ble_eq_true rfl, Nat.le_of_ble_eq_true rfl⟩ dL_isPlayed_199 (fun G hP => ?_)
            rw [← hs] at hP
            rw [fr]
            have hI := hL2.I
            refine jj_iload8 F dL_isPlayed_202 ?_
            refine jj_iconst F dL_isPlayed_204 ?_
            refine jj_iadd F dL_isPlayed_205 ?_
            refine jj_icmp_ne F (tgt := 246) dL_isPlayed_206 rfl (by omega) (fun c206 => by exfalso; omega) (fun c206 => ?_)
            refine jj_aload0 F dL_isPlayed_209 ?_
            refine jj_iload5 F dL_isPlayed_210 ?_
            refine jj_iload7 F dL_isPlayed_212 ?_
            refine lq_no F hP hI (by omega) (by omega) (k := 21) (n0 := 184) ⟨Nat.le_of_ble_eq_true rfl, Nat.le_of_ble_eq_true rfl, Nat.le_of_ble_eq_true rfl, Nat.le_of_ble_eq_true rfl, Nat.le_of_ble_eq_true rfl, Nat.le_of_ble_eq_true rfl, Nat.le_of_ble_eq_true rfl⟩ dL_isPlayed_214 (fun G hP => ?_)
            refine jj_iload8 F dL_isPlayed_217 ?_
            refine jj_iconst F dL_isPlayed_219 ?_
            refine jj_iadd F dL_isPlayed_220 ?_
            refine jj_icmp_ne F (tgt := 246) dL_isPlayed_221 rfl (by omega) (fun c221 => by exfalso; omega) (fun c221 => ?_)
            refine jj_aload0 F dL_isPlayed_224 ?_
            refine jj_iload5 F dL_isPlayed_225 ?_
            refine jj_iload7 F dL_isPlayed_227 ?_
            refine jj_iconst F dL_isPlayed_229 ?_
            refine jj_iadd F dL_isPlayed_230 ?_
            refine jj_bipush F (by decide) dL_isPlayed_231 ?_
            refine jj_irem F (by omega) dL_isPlayed_233 ?_
            refine lq_no F hP hI (by omega) (by omega) (k := 24) (n0 := 202) ⟨Nat.le_of_ble_eq_true rfl, Nat.le_of_ble_eq_true rfl, Nat.le_of_ble_eq_true rfl, Nat.le_of_ble_eq_true rfl, Nat.le_of_ble_eq_true rfl, Nat.le_of_ble_eq_true rfl, Nat.le_of_ble_eq_true rfl⟩ dL_isPlayed_234 (fun G hP => ?_)
            refine jj_iload9 F dL_isPlayed_237 ?_
            refine jj_icmp_ne F (tgt := 246) dL_isPlayed_239 rfl (by omega) (fun c239 => by exfalso; omega) (fun c239 => ?_)
            refine jj_iconst F dL_isPlayed_242 ?_
            refine jj_goto F (tgt := 247) dL_isPlayed_243 rfl ?_
            exact jj_zret B dL_isPlayed_247 ⟨Nat.le_of_ble_eq_true rfl, Nat.le_of_ble_eq_true rfl⟩ (Or.inr rfl) ⟨1, rfl, rfl, _, _, _, _, _, c + 1, by omega, hL2, hP⟩
    · skip
      refine jj_icmp_ge F (tgt := 153) dL_isPlayed_34 rfl (by omega) (fun c34 => ?_) (fun c34 => ?_)
      · skip
        exact jj_wide ⟨Nat.le_of_ble_eq_true rfl, Nat.le_of_ble_eq_true rfl⟩ (J153 G hP)
      · skip
        refine jj_aload1 F dL_isPlayed_37 ?_
        refine jj_iconst F dL_isPlayed_38 ?_
        refine jm_ald F hP (by omega) dL_isPlayed_39 ?_
        refine jj_if_le F (tgt := 153) dL_isPlayed_40 rfl (by omega) (fun c40 => ?_) (fun c40 => ?_)
        · skip
          exact jj_wide ⟨Nat.le_of_ble_eq_true rfl, Nat.le_of_ble_eq_true rfl⟩ (J153 G hP)
        · skip
          have hd : 0 ≤ dd ∧ dd < s 22 0 := by omega
          have n1 := noise_in hI hd hp
          have g5 := hI.2.2.2.2.1.2.1 dd (by omega) (by omega)
          have hab : 1 ≤ (1 + x / 20 / 8 % 3) * (1 + x / 20 / 24 % 20) ∧ (1 + x / 20 / 8 % 3) * (1 + x / 20 / 24 % 20) ≤ 60 := by
            obtain ⟨va, hva⟩ : ∃ va, va = (1 + x / 20 / 8 % 3) := ⟨_, rfl⟩
            obtain ⟨vb, hvb⟩ : ∃ vb, vb = (1 + x / 20 / 24 % 20) := ⟨_, rfl⟩
            rw [← hva, ← hvb]
            rcases (show va = 1 ∨ va = 2 ∨ va = 3 by omega) with e | e | e <;> subst e <;> omega
          have ht : t_play s dd (1 + x / 20 / 8 % 3) (1 + x / 20 / 24 % 20) = 0 := (by unfold t_play; rw [if_neg (by omega), if_pos (by omega)])
          obtain ⟨hL2, hs2, fr⟩ := LI_play (hL.mono (by omega)) (by omega) ht
          obtain ⟨s2, hs⟩ : ∃ s2, s2 = n_play s dd (1 + x / 20 / 8 % 3) (1 + x / 20 / 24 % 20) := ⟨_, rfl⟩
          rw [← hs] at hL2 hs2
          have pm : sNoise s dd (x / 20 % 8) ≤ sNoise s2 dd (x / 20 % 8) := by rw [hs2]; exact play_more (by omega) (by omega)
          have e22 : s2 22 0 = s 22 0 := by rw [hs2, sU_n (by decide), sU_n (by decide)]
          have m1 := noise_in hL2.I (d := dd) (p := (x / 20 % 8)) (by omega) hp
          have m0 := noise_in hL2.I (d := dd) (p := 0) (by omega) (by omega)
          have m7 := noise_in hL2.I (d := dd) (p := 7) (by omega) (by omega)
          refine jj_aload0 F dL_isPlayed_43 ?_
          refine jj_iload5 F dL_isPlayed_44 ?_
          refine jj_iload7 F dL_isPlayed_46 ?_
          refine lq_no F hP hI (by omega) (by omega) (k := 3) (n0 := 18) ⟨Nat.le_of_ble_eq_true rfl, Nat.le_of_ble_eq_true rfl, Nat.le_of_ble_eq_true rfl, Nat.le_of_ble_eq_true rfl, Nat.le_of_ble_eq_true rfl, Nat.le_of_ble_eq_true rfl, Nat.le_of_ble_eq_true rfl⟩ dL_isPlayed_48 (fun G hP => ?_)
          refine jj_istore8 F dL_isPlayed_51 (hN _ (by decide)) rfl ?_
          refine jj_aload0 F dL_isPlayed_53 ?_
          refine jj_bipush F (by decide) dL_isPlayed_54 ?_
          refine jj_iload5 F dL_isPlayed_56 ?_
          refine jj_iconst F dL_isPlayed_58 ?_
          refine jj_iload6 F dL_isPlayed_59 ?_
          refine jj_bipush F (by decide) dL_isPlayed_61 ?_
          refine jj_idiv F (by omega) dL_isPlayed_63 ?_
          refine jj_iconst F dL_isPlayed_64 ?_
          refine jj_irem F (by omega) dL_isPlayed_65 ?_
          refine jj_iadd F dL_isPlayed_66 ?_
          refine jj_iconst F dL_isPlayed_67 ?_
          refine jj_iload6 F dL_isPlayed_68 ?_
          refine jj_bipush F (by decide) dL_isPlayed_70 ?_
          refine jj_idiv F (by omega) dL_isPlayed_72 ?_
          refine jj_bipush F (by decide) dL_isPlayed_73 ?_
          refine jj_irem F (by omega) dL_isPlayed_75 ?_
          refine jj_iadd F dL_isPlayed_76 ?_
          refine jj_iconst F dL_isPlayed_77 ?_
          refine jj_iconst F dL_isPlayed_78 ?_
          refine la_ok F (ka_play F.tr hP hI (by omega) (by omega) (by omega)) ht (k := 15) (n0 := 148) ⟨Nat.le_of_ble_eq_true rfl, Nat.le_of_ble_eq_true rfl, Nat.le_of_ble_eq_true rfl, Nat.le_of_ble_eq_true rfl, Nat.le_of_ble_eq_true rfl, Nat.le_of_ble_eq_true rfl, Nat.le_of_ble_eq_true rfl⟩ dL_isPlayed_79 (fun G hP => ?_)
          rw [← hs] at hP
          rw [fr]
          have hI := hL2.I
          refine jj_istore9 F dL_isPlayed_82 (hN _ (by decide)) rfl ?_
          refine jj_aload0 F dL_isPlayed_84 ?_
          refine jj_iload5 F dL_isPlayed_85 ?_
          refine jj_iconst F dL_isPlayed_87 ?_
          refine lq_no F hP hI (by omega) (by omega) (k := 18) (n0 := 166) ⟨Nat.le_of_ble_eq_true rfl, Nat.le_of_ble_eq_true rfl, Nat.le_of_ble_eq_true rfl, Nat.le_of_ble_eq_true rfl, Nat.le_of_ble_eq_true rfl, Nat.le_of_ble_eq_true rfl, Nat.le_of_ble_eq_true rfl⟩ dL_isPlayed_88 (fun G hP => ?_)
          refine jj_istore10 F dL_isPlayed_91 (hN _ (by decide)) rfl ?_
          refine jj_iload9 F dL_isPlayed_93 ?_
          refine jj_iconst F dL_isPlayed_95 ?_
          refine jj_iload6 F dL_isPlayed_96 ?_
          refine jj_bipush F (by decide) dL_isPlayed_98 ?_
          refine jj_idiv F (by omega) dL_isPlayed_100 ?_
          refine jj_iconst F dL_isPlayed_101 ?_
          refine jj_irem F (by omega) dL_isPlayed_102 ?_
          refine jj_iadd F dL_isPlayed_103 ?_
          refine jj_iconst F dL_isPlayed_104 ?_
          refine jj_iload6 F dL_isPlayed_105 ?_
          refine jj_bipush F (by decide) dL_isPlayed_107 ?_
          refine jj_idiv F (by omega) dL_isPlayed_109 ?_
          refine jj_bipush F (by decide) dL_isPlayed_110 ?_
          refine jj_irem F (by omega) dL_isPlayed_112 ?_
          refine jj_iadd F dL_isPlayed_113 ?_
          refine jj_imul F dL_isPlayed_114 ?_
          refine jj_icmp_lt F (tgt := 151) dL_isPlayed_115 rfl (by omega) (fun c115 => by exfalso; omega) (fun c115 => ?_)
          refine jj_aload0 F dL_isPlayed_118 ?_
          refine jj_iload5 F dL_isPlayed_119 ?_
          refine jj_iload7 F dL_isPlayed_121 ?_
          refine lq_no F hP hI (by omega) (by omega) (k := 21) (n0 := 184) ⟨Nat.le_of_ble_eq_true rfl, Nat.le_of_ble_eq_true rfl, Nat.le_of_ble_eq_true rfl, Nat.le_of_ble_eq_true rfl, Nat.le_of_ble_eq_true rfl, Nat.le_of_ble_eq_true rfl, Nat.le_of_ble_eq_true rfl⟩ dL_isPlayed_123 (fun G hP => ?_)
          refine jj_iload8 F dL_isPlayed_126 ?_
          refine jj_icmp_lt F (tgt := 151) dL_isPlayed_128 rfl (by omega) (fun c128 => by exfalso; omega) (fun c128 => ?_)
          refine jj_aload0 F dL_isPlayed_131 ?_
          refine jj_iload5 F dL_isPlayed_132 ?_
          refine jj_bipush F (by decide) dL_isPlayed_134 ?_
          refine lq_no F hP hI (by omega) (by omega) (k := 24) (n0 := 202) ⟨Nat.le_of_ble_eq_true rfl, Nat.le_of_ble_eq_true rfl, Nat.le_of_ble_eq_true rfl, Nat.le_of_ble_eq_true rfl, Nat.le_of_ble_eq_true rfl, Nat.le_of_ble_eq_true rfl, Nat.le_of_ble_eq_true rfl⟩ dL_isPlayed_136 (fun G hP => ?_)
          refine jj_if_lt F (tgt := 151) dL_isPlayed_139 rfl (by omega) (fun c139 => by exfalso; omega) (fun c139 => ?_)
          refine jj_iload10 F dL_isPlayed_142 ?_
          refine jj_if_lt F (tgt := 151) dL_isPlayed_144 rfl (by omega) (fun c144 => by exfalso; omega) (fun c144 => ?_)
          refine jj_iconst F dL_isPlayed_147 ?_
          refine jj_goto F (tgt := 152) dL_isPlayed_148 rfl ?_
          exact jj_zret B dL_isPlayed_152 ⟨Nat.le_of_ble_eq_true rfl, Nat.le_of_ble_eq_true rfl⟩ (Or.inr rfl) ⟨1, rfl, rfl, _, _, _, _, _, c + 1, by omega, hL2, hP⟩
  · skip
    refine jj_if_ne F (tgt := 10) dL_isPlayed_3 rfl (by omega) (fun c3 => ?_) (fun c3 => ?_)
    · skip
      refine jj_iload4 F dL_isPlayed_10 ?_
      refine jj_aload1 F dL_isPlayed_12 ?_
      refine jj_iconst F dL_isPlayed_13 ?_
      refine jm_ald F hP (by omega) dL_isPlayed_14 ?_
      refine jj_irem F (by omega) dL_isPlayed_15 ?_
      exact J16 _ (by first | omega | (rw [hM3]; have z1 := Int.emod_nonneg x (show s 22 0 ≠ 0 by omega); have z2 := Int.emod_lt_of_pos x (show 0 < s 22 0 by omega); omega))
    · skip
      refine jj_iconst F dL_isPlayed_6 ?_
      refine jj_goto F (tgt := 16) dL_isPlayed_7 rfl ?_
      exact J16 _ (by first | omega | (rw [hM3]; have z1 := Int.emod_nonneg x (show s 22 0 ≠ 0 by omega); have z2 := Int.emod_lt_of_pos x (show 0 < s 22 0 by omega); omega))
