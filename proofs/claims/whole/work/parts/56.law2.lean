/-! ===== each call: which exception stands in row 37; what holds goes on ===== -/
theorem sFire_37 {s : Sg} {v : Int} (n : Nat) : sFire s v n 37 0 = 0 := by
  induction n with
  | zero => exact sU_s
  | succ n ih =>
    simp only [sFire]
    split
    · rw [sU_n (by decide)]; exact ih
    · exact ih
theorem sSellTo_37 {s : Sg} {k x : Int} (n : Nat) : sSellTo s k x n 37 0 = 0 := by
  induction n with
  | zero =>
    simp only [sSellTo]
    rw [sU_n (by decide), sU_n (by decide), sU_n (by decide), sU_s]
  | succ n ih =>
    simp only [sSellTo]
    rw [sU_n (by decide), sU_n (by decide)]; exact ih
theorem sBackS_37 {s : Sg} {k x : Int} (n : Nat) : sBackS s k x n 37 0 = 0 := by
  induction n with
  | zero => exact sU_s
  | succ n ih =>
    simp only [sBackS]
    split
    · rw [sOff_n (by decide)]; exact ih
    · exact ih
theorem sCutTo_37 {s : Sg} (n : Nat) : sCutTo s n 37 0 = 0 := by
  induction n with
  | zero => exact sU_s
  | succ n ih =>
    simp only [sCutTo]
    rw [sCutIn_n (by decide), sU_n (by decide)]; exact ih
theorem sFileTo_37 {s : Sg} {q : Int} (n : Nat) : sFileTo s q n 37 0 = 0 := by
  induction n with
  | zero => exact sU_s
  | succ n ih =>
    simp only [sFileTo]
    rw [sU_n (by decide)]; exact ih
theorem no_session {s : Sg} {x y z : Int} (h0 : ¬ t_session s x y z = 0) : n_session s x y z = sU s 37 0 (t_session s x y z) := if_neg h0
theorem th_session {s : Sg} {x y z : Int} : n_session s x y z 37 0 = t_session s x y z := by
  by_cases h0 : t_session s x y z = 0
  · have hn : n_session s x y z = _ := if_pos h0
    rw [hn, sMakes_n (by decide), sPuts_n (by decide), sU_n (by decide), sU_s, h0]
  · rw [no_session h0, sU_s]
theorem h_session {s e : Sg} {c : Int} {x y z : Int} (h : hInv s e c) (hc : c < 512) : hInv (n_session s x y z) (if t_session s x y z = 0 then eT e (s 1 0) (-1) 0 0 (-1) else e) (c + 1) := by
  by_cases h0 : t_session s x y z = 0
  · rw [if_pos h0]; exact g_session h hc h0
  · rw [no_session h0, if_neg h0]
    exact h.c37 hc
theorem no_splice {s : Sg} {t f u v w : Int} (h0 : ¬ t_splice s t f u v w = 0) : n_splice s t f u v w = sU s 37 0 (t_splice s t f u v w) := if_neg h0
theorem th_splice {s : Sg} {t f u v w : Int} : n_splice s t f u v w 37 0 = t_splice s t f u v w := by
  by_cases h0 : t_splice s t f u v w = 0
  · have hn : n_splice s t f u v w = _ := if_pos h0
    rw [hn, sMakes_n (by decide), sU_n (by decide), sSplT_n (by decide), sU_s, h0]
  · rw [no_splice h0, sU_s]
theorem h_splice {s e : Sg} {c : Int} {t f u v w : Int} (h : hInv s e c) (hc : c < 512) : hInv (n_splice s t f u v w) (if t_splice s t f u v w = 0 then eT e (s 1 0) t f u v else e) (c + 1) := by
  by_cases h0 : t_splice s t f u v w = 0
  · rw [if_pos h0]; exact g_splice h hc h0
  · rw [no_splice h0, if_neg h0]
    exact h.c37 hc
theorem no_shed {s : Sg} {t : Int} (h0 : ¬ t_tape s t 0 = 0) : n_shed s t = sU s 37 0 (t_tape s t 0) := if_neg h0
theorem th_shed {s : Sg} {t : Int} : n_shed s t 37 0 = t_tape s t 0 := by
  by_cases h0 : t_tape s t 0 = 0
  · have hn : n_shed s t = _ := if_pos h0
    rw [hn, sU_n (by decide), sU_s, h0]
  · rw [no_shed h0, sU_s]
theorem h_shed {s e : Sg} {c : Int} {t : Int} (h : hInv s e c) (hc : c < 512) : hInv (n_shed s t) e (c + 1) := by
  by_cases h0 : t_tape s t 0 = 0
  · exact g_shed h hc h0
  · rw [no_shed h0]
    exact h.c37 hc
theorem no_bake {s : Sg} {t : Int} (h0 : ¬ t_tape s t 1 = 0) : n_bake s t = sU s 37 0 (t_tape s t 1) := if_neg h0
theorem th_bake {s : Sg} {t : Int} : n_bake s t 37 0 = t_tape s t 1 := by
  by_cases h0 : t_tape s t 1 = 0
  · have hn : n_bake s t = _ := if_pos h0
    rw [hn, sU_n (by decide), sU_n (by decide), sU_s, h0]
  · rw [no_bake h0, sU_s]
theorem h_bake {s e : Sg} {c : Int} {t : Int} (h : hInv s e c) (hc : c < 512) : hInv (n_bake s t) e (c + 1) := by
  by_cases h0 : t_tape s t 1 = 0
  · exact g_bake h hc h0
  · rw [no_bake h0]
    exact h.c37 hc
theorem no_fire {s : Sg} {v : Int} (h0 : ¬ t_vault v = 0) : n_fire s v = sU s 37 0 (t_vault v) := by
  unfold n_fire
  rw [if_neg h0]
  have e : t_vault v = 1 := by unfold t_vault at h0 ⊢; split at h0; omega; rename_i a; rw [if_neg a]
  rw [e]
theorem th_fire {s : Sg} {v : Int} : n_fire s v 37 0 = t_vault v := by
  by_cases h0 : t_vault v = 0
  · have hn : n_fire s v = _ := if_pos h0
    rw [hn, sFire_37, h0]
  · rw [no_fire h0, sU_s]
theorem h_fire {s e : Sg} {c : Int} {v : Int} (h : hInv s e c) (hc : c < 512) : hInv (n_fire s v) e (c + 1) := by
  by_cases h0 : t_vault v = 0
  · exact g_fire h hc h0
  · rw [no_fire h0]
    exact h.c37 hc
theorem th_tapeIs {s : Sg} {t x : Int} : n_tapeIs s t x 37 0 = t_tapeIs s t x := sU_s
theorem h_tapeIs {s e : Sg} {c : Int} {t x : Int} (h : hInv s e c) (hc : c < 512) : hInv (n_tapeIs s t x) e (c + 1) := h.c37 hc
theorem no_tapeIs {s : Sg} {t x : Int} : n_tapeIs s t x = sU s 37 0 (t_tapeIs s t x) := rfl
theorem th_heard {s : Sg} {t x : Int} : n_heard s t x 37 0 = t_heard s t x := sU_s
theorem h_heard {s e : Sg} {c : Int} {t x : Int} (h : hInv s e c) (hc : c < 512) : hInv (n_heard s t x) e (c + 1) := h.c37 hc
theorem no_heard {s : Sg} {t x : Int} : n_heard s t x = sU s 37 0 (t_heard s t x) := rfl
theorem th_takes {s : Sg} {t : Int} : n_takes s t 37 0 = t_is s t := sU_s
theorem h_takes {s e : Sg} {c : Int} {t : Int} (h : hInv s e c) (hc : c < 512) : hInv (n_takes s t) e (c + 1) := h.c37 hc
theorem no_takes {s : Sg} {t : Int} : n_takes s t = sU s 37 0 (t_is s t) := rfl
theorem th_isLost {s : Sg} {t : Int} : n_isLost s t 37 0 = t_isLost s t := sU_s
theorem h_isLost {s e : Sg} {c : Int} {t : Int} (h : hInv s e c) (hc : c < 512) : hInv (n_isLost s t) e (c + 1) := h.c37 hc
theorem no_isLost {s : Sg} {t : Int} : n_isLost s t = sU s 37 0 (t_isLost s t) := rfl
theorem no_add {s : Sg} {t : Int} (h0 : ¬ t_add s t = 0) : n_add s t = sU s 37 0 (t_add s t) := if_neg h0
theorem th_add {s : Sg} {t : Int} : n_add s t 37 0 = t_add s t := by
  by_cases h0 : t_add s t = 0
  · have hn : n_add s t = _ := if_pos h0
    rw [hn, sU_n (by decide), sU_n (by decide), sU_s, h0]
  · rw [no_add h0, sU_s]
theorem h_add {s e : Sg} {c : Int} {t : Int} (h : hInv s e c) (hc : c < 512) : hInv (n_add s t) e (c + 1) := by
  by_cases h0 : t_add s t = 0
  · exact g_add h hc h0
  · rw [no_add h0]
    exact h.c37 hc
theorem no_cut {s : Sg} {y : Int} (h0 : ¬ t_cut s y = 0) : n_cut s y = sU s 37 0 (t_cut s y) := if_neg h0
theorem th_cut {s : Sg} {y : Int} : n_cut s y 37 0 = t_cut s y := by
  by_cases h0 : t_cut s y = 0
  · have hn : n_cut s y = _ := if_pos h0
    rw [hn, sU_n (by decide), sU_n (by decide), sCutTo_37, h0]
  · rw [no_cut h0, sU_s]
theorem h_cut {s e : Sg} {c : Int} {y : Int} (h : hInv s e c) (hc : c < 512) : hInv (n_cut s y) e (c + 1) := by
  by_cases h0 : t_cut s y = 0
  · exact g_cut h hc h0
  · rw [no_cut h0]
    exact h.c37 hc
theorem th_seconds {s : Sg} {d q : Int} : n_seconds s d q 37 0 = t_seconds s d q := sU_s
theorem h_seconds {s e : Sg} {c : Int} {d q : Int} (h : hInv s e c) (hc : c < 512) : hInv (n_seconds s d q) e (c + 1) := h.c37 hc
theorem no_seconds {s : Sg} {d q : Int} : n_seconds s d q = sU s 37 0 (t_seconds s d q) := rfl
theorem no_stamper {s : Sg} {d m n : Int} (h0 : ¬ t_stamper s d m n = 0) : n_stamper s d m n = sU s 37 0 (t_stamper s d m n) := if_neg h0
theorem th_stamper {s : Sg} {d m n : Int} : n_stamper s d m n 37 0 = t_stamper s d m n := by
  by_cases h0 : t_stamper s d m n = 0
  · have hn : n_stamper s d m n = _ := if_pos h0
    rw [hn, sU_n (by decide), sU_s, h0]
  · rw [no_stamper h0, sU_s]
theorem h_stamper {s e : Sg} {c : Int} {d m n : Int} (h : hInv s e c) (hc : c < 512) : hInv (n_stamper s d m n) e (c + 1) := by
  by_cases h0 : t_stamper s d m n = 0
  · exact g_stamper h hc h0
  · rw [no_stamper h0]
    exact h.c37 hc
theorem no_press {s : Sg} {d m n x : Int} (h0 : ¬ t_press s d m n x = 0) : n_press s d m n x = sU s 37 0 (t_press s d m n x) := if_neg h0
theorem th_press {s : Sg} {d m n x : Int} : n_press s d m n x 37 0 = t_press s d m n x := by
  by_cases h0 : t_press s d m n x = 0
  · have hn : n_press s d m n x = _ := if_pos h0
    rw [hn, sU_n (by decide), sU_n (by decide), sU_n (by decide), sU_s, h0]
  · rw [no_press h0, sU_s]
theorem h_press {s e : Sg} {c : Int} {d m n x : Int} (h : hInv s e c) (hc : c < 512) : hInv (n_press s d m n x) e (c + 1) := by
  by_cases h0 : t_press s d m n x = 0
  · exact g_press h hc h0
  · rw [no_press h0]
    exact h.c37 hc
theorem th_stamperIs {s : Sg} {d m n x : Int} : n_stamperIs s d m n x 37 0 = t_stamperIs s d m n x := sU_s
theorem h_stamperIs {s e : Sg} {c : Int} {d m n x : Int} (h : hInv s e c) (hc : c < 512) : hInv (n_stamperIs s d m n x) e (c + 1) := h.c37 hc
theorem no_stamperIs {s : Sg} {d m n x : Int} : n_stamperIs s d m n x = sU s 37 0 (t_stamperIs s d m n x) := rfl
theorem no_sell {s : Sg} {d m n x : Int} (h0 : ¬ t_sell s d m n x = 0) : n_sell s d m n x = sU s 37 0 (t_sell s d m n x) := if_neg h0
theorem th_sell {s : Sg} {d m n x : Int} : n_sell s d m n x 37 0 = t_sell s d m n x := by
  by_cases h0 : t_sell s d m n x = 0
  · have hn : n_sell s d m n x = _ := if_pos h0
    rw [hn, sU_n (by decide), sSellTo_37, h0]
  · rw [no_sell h0, sU_s]
theorem h_sell {s e : Sg} {c : Int} {d m n x : Int} (h : hInv s e c) (hc : c < 512) : hInv (n_sell s d m n x) e (c + 1) := by
  by_cases h0 : t_sell s d m n x = 0
  · exact g_sell h hc h0
  · rw [no_sell h0]
    exact h.c37 hc
theorem no_back {s : Sg} {d m n x : Int} (h0 : ¬ t_back s d m n x = 0) : n_back s d m n x = sU s 37 0 (t_back s d m n x) := if_neg h0
theorem th_back {s : Sg} {d m n x : Int} : n_back s d m n x 37 0 = t_back s d m n x := by
  by_cases h0 : t_back s d m n x = 0
  · have hn : n_back s d m n x = _ := if_pos h0
    rw [hn, sU_n (by decide), sBackS_37, h0]
  · rw [no_back h0, sU_s]
theorem h_back {s e : Sg} {c : Int} {d m n x : Int} (h : hInv s e c) (hc : c < 512) : hInv (n_back s d m n x) e (c + 1) := by
  by_cases h0 : t_back s d m n x = 0
  · exact g_back h hc h0
  · rw [no_back h0]
    exact h.c37 hc
theorem no_disc {s : Sg} {d m n : Int} (h0 : ¬ t_disc s d m n = 0) : n_disc s d m n = sU s 37 0 (t_disc s d m n) := if_neg h0
theorem th_disc {s : Sg} {d m n : Int} : n_disc s d m n 37 0 = t_disc s d m n := by
  by_cases h0 : t_disc s d m n = 0
  · have hn : n_disc s d m n = _ := if_pos h0
    rw [hn, sU_n (by decide), sU_n (by decide), sU_s, h0]
  · rw [no_disc h0, sU_s]
theorem h_disc {s e : Sg} {c : Int} {d m n : Int} (h : hInv s e c) (hc : c < 512) : hInv (n_disc s d m n) e (c + 1) := by
  by_cases h0 : t_disc s d m n = 0
  · exact g_disc h hc h0
  · rw [no_disc h0]
    exact h.c37 hc
theorem no_play {s : Sg} {d n x : Int} (h0 : ¬ t_play s d n x = 0) : n_play s d n x = sU s 37 0 (t_play s d n x) := if_neg h0
theorem th_play {s : Sg} {d n x : Int} : n_play s d n x 37 0 = t_play s d n x := by
  by_cases h0 : t_play s d n x = 0
  · have hn : n_play s d n x = _ := if_pos h0
    rw [hn, sU_n (by decide), sU_s, h0]
  · rw [no_play h0, sU_s]
theorem h_play {s e : Sg} {c : Int} {d n x : Int} (h : hInv s e c) (hc : c < 512) : hInv (n_play s d n x) e (c + 1) := by
  by_cases h0 : t_play s d n x = 0
  · exact g_play h hc h0
  · rw [no_play h0]
    exact h.c37 hc
theorem no_scratch {s : Sg} {d p : Int} (h0 : ¬ t_scr s d p = 0) : n_scratch s d p = sU s 37 0 (t_scr s d p) := if_neg h0
theorem th_scratch {s : Sg} {d p : Int} : n_scratch s d p 37 0 = t_scr s d p := by
  by_cases h0 : t_scr s d p = 0
  · have hn : n_scratch s d p = _ := if_pos h0
    rw [hn, sU_n (by decide), sU_s, h0]
  · rw [no_scratch h0, sU_s]
theorem h_scratch {s e : Sg} {c : Int} {d p : Int} (h : hInv s e c) (hc : c < 512) : hInv (n_scratch s d p) e (c + 1) := by
  by_cases h0 : t_scr s d p = 0
  · exact g_scratch h hc h0
  · rw [no_scratch h0]
    exact h.c37 hc
theorem th_noise {s : Sg} {d p : Int} : n_noise s d p 37 0 = t_scr s d p := sU_s
theorem h_noise {s e : Sg} {c : Int} {d p : Int} (h : hInv s e c) (hc : c < 512) : hInv (n_noise s d p) e (c + 1) := h.c37 hc
theorem no_noise {s : Sg} {d p : Int} : n_noise s d p = sU s 37 0 (t_scr s d p) := rfl
theorem th_grade {s : Sg} {d : Int} : n_grade s d 37 0 = t_grade s d := sU_s
theorem h_grade {s e : Sg} {c : Int} {d : Int} (h : hInv s e c) (hc : c < 512) : hInv (n_grade s d) e (c + 1) := h.c37 hc
theorem no_grade {s : Sg} {d : Int} : n_grade s d = sU s 37 0 (t_grade s d) := rfl
theorem th_join {s : Sg} {q p : Int} : n_join s q p 37 0 = t_join s q p := sU_s
theorem h_join {s e : Sg} {c : Int} {q p : Int} (h : hInv s e c) (hc : c < 512) : hInv (n_join s q p) e (c + 1) := h.c37 hc
theorem no_join {s : Sg} {q p : Int} : n_join s q p = sU s 37 0 (t_join s q p) := rfl
theorem no_file {s : Sg} {q : Int} (h0 : ¬ t_file s q = 0) : n_file s q = sU s 37 0 (t_file s q) := if_neg h0
theorem th_file {s : Sg} {q : Int} : n_file s q 37 0 = t_file s q := by
  by_cases h0 : t_file s q = 0
  · have hn : n_file s q = _ := if_pos h0
    rw [hn, sU_n (by decide), sU_n (by decide), sFileTo_37, h0]
  · rw [no_file h0, sU_s]
theorem h_file {s e : Sg} {c : Int} {q : Int} (hq : jR q) (h : hInv s e c) (hc : c < 512) : hInv (n_file s q) e (c + 1) := by
  by_cases h0 : t_file s q = 0
  · exact g_file hq h hc h0
  · rw [no_file h0]
    exact h.c37 hc
theorem no_repair {s : Sg} {p : Int} (h0 : ¬ t_repair s p = 0) : n_repair s p = sU s 37 0 (t_repair s p) := if_neg h0
theorem th_repair {s : Sg} {p : Int} : n_repair s p 37 0 = t_repair s p := by
  by_cases h0 : t_repair s p = 0
  · have hn : n_repair s p = _ := if_pos h0
    rw [hn, sU_n (by decide), sU_n (by decide), sU_n (by decide), sU_n (by decide), sU_s, h0]
  · rw [no_repair h0, sU_s]
theorem h_repair {s e : Sg} {c : Int} {p : Int} (h : hInv s e c) (hc : c < 512) : hInv (n_repair s p) e (c + 1) := by
  by_cases h0 : t_repair s p = 0
  · exact g_repair h hc h0
  · rw [no_repair h0]
    exact h.c37 hc
theorem no_undo {s : Sg} (h0 : ¬ t_undo s = 0) : n_undo s = sU s 37 0 (t_undo s) := if_neg h0
theorem th_undo {s : Sg} : n_undo s 37 0 = t_undo s := by
  by_cases h0 : t_undo s = 0
  · have hn : n_undo s = _ := if_pos h0
    rw [hn, sU_n (by decide), sU_n (by decide), sU_s, h0]
  · rw [no_undo h0, sU_s]
theorem h_undo {s e : Sg} {c : Int} (h : hInv s e c) (hc : c < 512) : hInv (n_undo s) e (c + 1) := by
  by_cases h0 : t_undo s = 0
  · exact g_undo h hc h0
  · rw [no_undo h0]
    exact h.c37 hc
theorem th_fileIs {s : Sg} {p : Int} : n_fileIs s p 37 0 = t_part p := sU_s
theorem h_fileIs {s e : Sg} {c : Int} {p : Int} (h : hInv s e c) (hc : c < 512) : hInv (n_fileIs s p) e (c + 1) := h.c37 hc
theorem no_fileIs {s : Sg} {p : Int} : n_fileIs s p = sU s 37 0 (t_part p) := rfl
theorem no_contract {s : Sg} {a x y : Int} (h0 : ¬ t_contract a x y = 0) : n_contract s a x y = sU s 37 0 (t_contract a x y) := if_neg h0
theorem th_contract {s : Sg} {a x y : Int} : n_contract s a x y 37 0 = t_contract a x y := by
  by_cases h0 : t_contract a x y = 0
  · have hn : n_contract s a x y = _ := if_pos h0
    rw [hn, sU_n (by decide), sU_n (by decide), sU_s, h0]
  · rw [no_contract h0, sU_s]
theorem h_contract {s e : Sg} {c : Int} {a x y : Int} (h : hInv s e c) (hc : c < 512) : hInv (n_contract s a x y) (if t_contract a x y = 0 then sU e 0 a (e 0 a + y) else e) (c + 1) := by
  by_cases h0 : t_contract a x y = 0
  · rw [if_pos h0]; exact g_contract h hc h0
  · rw [no_contract h0, if_neg h0]
    exact h.c37 hc
theorem th_account {s : Sg} {a : Int} : n_account s a 37 0 = t_artist a := sU_s
theorem h_account {s e : Sg} {c : Int} {a : Int} (h : hInv s e c) (hc : c < 512) : hInv (n_account s a) e (c + 1) := h.c37 hc
theorem no_account {s : Sg} {a : Int} : n_account s a = sU s 37 0 (t_artist a) := rfl
theorem no_payOut {s : Sg} {a : Int} (h0 : ¬ t_artist a = 0) : n_payOut s a = sU s 37 0 (t_artist a) := if_neg h0
theorem th_payOut {s : Sg} {a : Int} : n_payOut s a 37 0 = t_artist a := by
  by_cases h0 : t_artist a = 0
  · have hn : n_payOut s a = _ := if_pos h0
    rw [hn, sU_n (by decide), sU_s, h0]
  · rw [no_payOut h0, sU_s]
theorem h_payOut {s e : Sg} {c : Int} {a : Int} (h : hInv s e c) (hc : c < 512) : hInv (n_payOut s a) (if t_artist a = 0 then sU e 1 a (e 1 a + (if 0 < s 36 a then s 36 a else 0)) else e) (c + 1) := by
  by_cases h0 : t_artist a = 0
  · rw [if_pos h0]; exact g_payOut h hc h0
  · rw [no_payOut h0, if_neg h0]
    exact h.c37 hc
theorem no_pass {s : Sg} {x : Int} (h0 : ¬ t_pass s x = 0) : n_pass s x = sU s 37 0 (t_pass s x) := if_neg h0
theorem th_pass {s : Sg} {x : Int} : n_pass s x 37 0 = t_pass s x := by
  by_cases h0 : t_pass s x = 0
  · have hn : n_pass s x = _ := if_pos h0
    rw [hn, sU_n (by decide), sU_s, h0]
  · rw [no_pass h0, sU_s]
theorem h_pass {s e : Sg} {c : Int} {x : Int} (h : hInv s e c) (hc : c < 512) : hInv (n_pass s x) e (c + 1) := by
  by_cases h0 : t_pass s x = 0
  · exact g_pass h hc h0
  · rw [no_pass h0]
    exact h.c37 hc
theorem th_clear {s : Sg} : n_clear s 37 0 = 0 := by unfold n_clear; rw [sU_n (by decide), sU_s]
