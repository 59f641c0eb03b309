abbrev eB : String := "java/lang/IndexOutOfBoundsException"
abbrev eA : String := "java/lang/IllegalArgumentException"
abbrev eS : String := "java/lang/IllegalStateException"
abbrev jp1 (t : Int) (a : String) : String → Prop := fun E => t = 1 ∧ E = a
abbrev jp2 (t : Int) (a b : String) : String → Prop := fun E => (t = 1 ∧ E = a) ∨ (t = 2 ∧ E = b)
abbrev jp3 (t : Int) (a b c : String) : String → Prop := fun E => (t = 1 ∧ E = a) ∨ (t = 2 ∧ E = b) ∨ (t = 3 ∧ E = c)
section J8
variable {X : jj_X} {own : String} {cc : ByteArray} {rm : Room} {G : jj_G} {kc kn pc nx : Nat} {lv lr : List (Option Value)} {st : List Value}
theorem c8_ald (F : jj_F X own cc rm) {a n : Nat} {g : Int → Int} {i m : Int} (hG : G a = some (jj_ai (jj_ac X 0) n (wn m g))) (hi : 0 ≤ i ∧ i < m) (hm : m = (n : Int)) (hn : n ≤ 100000) (d : jj_D cc pc .iaload 1 nx) (kk : jj_J X G kc kn nx lv (.int (jI (g i)) :: st)) : jj_J X G kc kn pc lv (.int (jI i) :: .ref a :: st) := by
  subst hm
  refine jj_iald F hG hi hn d ?_
  rw [wn_at hi]
  exact kk
theorem jj_qv {r : Option Nat} {a : Nat} (h : r = some a) (kk : jj_J X G kc kn pc lv (.ref a :: st)) : jj_J X G kc kn pc lv (va_rf r :: st) := by rw [h]; exact kk
theorem jj_qn {r : Option Nat} (h : r = none) (kk : jj_J X G kc kn pc lv (.null :: st)) : jj_J X G kc kn pc lv (va_rf r :: st) := by rw [h]; exact kk
theorem c8_put (F : jj_F X own cc rm) {ad : Ad} {C : Cm} (hR : Rep ad C G) {ci index k f N : Nat} {i : Int} {Cn : String} {T : u_T} {ty : Nat → FieldType} {fs : List Value} {v : Value} (hG : C k i = some (jj_o ci fs)) (hc : jj_cls ci Cn T N ty) (hk : f < N) (hw : jj_fld own index T f) (hfin : (T f).2.2.2 = false) (hn : narrow (ty f) v = v) (hf : fits (ty f) v = true) (hlen : f < fs.length) (d : jj_D cc pc (.putfield index) 3 nx) (kk : ∀ G', Rep ad (cU C k i (jj_o ci (fs.set f v))) G' → jj_J X G' kc kn nx lv st) : jj_J X G kc kn pc lv (v :: .ref (ad k i) :: st) :=
  jj_put F (hR.at hG) hc hk hw hfin hn hf hlen d (kk _ (hR.set hG _))
theorem c8_iast (F : jj_F X own cc rm) {ad : Ad} {C : Cm} (hR : Rep ad C G) {k n : Nat} {i : Int} {g : Int → Int} {p x : Int} (hG : C k i = some (jj_ai (jj_ac X 0) n g)) (hi : 0 ≤ p ∧ p < n) (hn : n ≤ 100000) (d : jj_D cc pc .iastore 1 nx) (kk : ∀ G', Rep ad (cU C k i (jj_ai (jj_ac X 0) n (ju g p x))) G' → jj_J X G' kc kn nx lv st) : jj_J X G kc kn pc lv (.int (jI x) :: .int (jI p) :: .ref (ad k i) :: st) :=
  jj_iast F (hR.at hG) hi hn d (kk _ (hR.set hG _))
theorem c8_ast (F : jj_F X own cc rm) {ad : Ad} {C : Cm} {k v n t ci N : Nat} {i : Int} {Cn : String} {T : u_T} {ty : Nat → FieldType} {g : Int → Option Nat} {fs : List Value} {p : Int} (ht : ∀ ac, (jj_ty ac)[t]? = some (ac t, .object Cn)) (hR : Rep ad C G) (hG : C k i = some (jj_aq (jj_ac X t) n g)) (hV : G v = some (jj_o ci fs)) (hc : jj_cls ci Cn T N ty) (hi : 0 ≤ p ∧ p < n) (hn : n ≤ 100000) (d : jj_D cc pc .aastore 1 nx) (kk : ∀ G', Rep ad (cU C k i (jj_aq (jj_ac X t) n (ju g p (some v)))) G' → jj_J X G' kc kn nx lv st) : jj_J X G kc kn pc lv (.ref v :: .int (jI p) :: .ref (ad k i) :: st) :=
  jj_ast F ht (hR.at hG) hV hc hi hn d (kk _ (hR.set hG _))
theorem c8_astN (F : jj_F X own cc rm) {ad : Ad} {C : Cm} {k n t : Nat} {i : Int} {Cn : String} {g : Int → Option Nat} {p : Int} (ht : ∀ ac, (jj_ty ac)[t]? = some (ac t, .object Cn)) (hR : Rep ad C G) (hG : C k i = some (jj_aq (jj_ac X t) n g)) (hi : 0 ≤ p ∧ p < n) (hn : n ≤ 100000) (d : jj_D cc pc .aastore 1 nx) (kk : ∀ G', Rep ad (cU C k i (jj_aq (jj_ac X t) n (ju g p none))) G' → jj_J X G' kc kn nx lv st) : jj_J X G kc kn pc lv (.null :: .int (jI p) :: .ref (ad k i) :: st) :=
  jj_astN F ht (hR.at hG) hi hn d (kk _ (hR.set hG _))
end J8
theorem oRef_no {ad : Ad} {t : Int} (h : t = -1) : oRef ad t = none := if_pos h
theorem oRef_at {ad : Ad} {t : Int} (h : ¬ t = -1) : oRef ad t = some (ad 16 t) := if_neg h
def sPlayD (s : Sg) (t d : Int) : Int := if s 2 t = 0 then 1 else if s 2 t = 2 ∧ d - s 3 t < 30 then 1 else 0
theorem sI1.tape {s : Sg} (h : sI1 s) {t : Int} (ht : 0 ≤ t ∧ t < s 1 0) : (0 ≤ s 2 t ∧ s 2 t ≤ 3) ∧ (0 ≤ s 3 t ∧ s 3 t ≤ 9999) ∧ (0 ≤ s 4 t ∧ s 4 t ≤ t) ∧ (0 ≤ s 5 t ∧ s 5 t ≤ 3) ∧ (-1 ≤ s 6 t ∧ s 6 t ≤ 5) ∧ (1 ≤ s 7 t ∧ s 7 t ≤ 20) := h.2.2.1 t ht.1 ht.2
theorem sI1.span {s : Sg} (h : sI1 s) {t j : Int} (ht : 0 ≤ t ∧ t < s 1 0) (hj : 0 ≤ j ∧ j < s 7 t) : (0 ≤ s 8 (20 * t + j) ∧ s 8 (20 * t + j) ≤ t ∧ 0 ≤ s 6 (s 8 (20 * t + j))) ∧ (0 ≤ s 9 (20 * t + j) ∧ s 9 (20 * t + j) < s 10 (20 * t + j) ∧ s 10 (20 * t + j) ≤ 900) := h.2.2.2.2 t j ht.1 ht.2 hj.1 hj.2
theorem jj_ncv_q {r : Option Nat} : jj_ncv (some (va_rf r)) = true := by cases r <;> rfl

abbrev rm_X7_isPlayable : Room := { frames := 0, cells := 0, slots := 0, locals := 0 }
set_option maxRecDepth 100000 in
set_option maxHeartbeats 400000 in
theorem k7_isPlayable {l : Launch} {D : va_G} {ac : Nat → ClassId} (hl : l.stackTraces = false) {ad : Ad} {s e : Sg} {t : Int} {d : Int}  {G : jj_G} (hH : Has ad (cC ac ad s e) G) (hI : sI1 s) (ht : 0 ≤ t ∧ t < s 1 0) (hd : 0 ≤ d ∧ d ≤ 9999) : jj_C l D ac yX7_isPlayable (.code yX7_isPlayable cX7_isPlayable 2 (some .boolean)) rm_X7_isPlayable [.ref (ad 16 t), .int (jI d)] G (jj_ri (sPlayD s t d) G) (jj_nx) := by
  refine jj_ofx (own := RX7) (lv0 := [some (.ref (ad 16 t)), some (.int (jI d))]) hl (by decide +kernel) rfl rfl (Nat.le_of_ble_eq_true rfl) rfl ?_
  intro X B hN hl0 hdg hac hin
  subst hl0; subst hdg; subst hac
  have F := B.F

  have g := hI.tape ht
  refine jj_aload0 F dX7_isPlayable_0 ?_
  refine jj_get F (hH.at (k := 16) (i := t) (if_pos (by omega))) cs_7 (by decide) fd_X7_21 rfl dX7_isPlayable_1 ?_
  refine jj_if_eq F (tgt := 26) dX7_isPlayable_4 rfl (by omega) (fun c4 => ?_) (fun c4 => ?_)
  · skip
    refine jj_iconst F dX7_isPlayable_26 ?_
    refine jj_goto F (tgt := 31) dX7_isPlayable_27 rfl ?_
    exact jj_zretr B dX7_isPlayable_31 ⟨Nat.le_of_ble_eq_true rfl, Nat.le_of_ble_eq_true rfl⟩ (by omega) (by unfold sPlayD; first | rw [if_pos (by omega)] | (rw [if_neg (by omega)]; first | rw [if_pos (by omega)] | rw [if_neg (by omega)]))
  · skip
    refine jj_aload0 F dX7_isPlayable_7 ?_
    refine jj_get F (hH.at (k := 16) (i := t) (if_pos (by omega))) cs_7 (by decide) fd_X7_21 rfl dX7_isPlayable_8 ?_
    refine jj_iconst F dX7_isPlayable_11 ?_
    refine jj_icmp_ne F (tgt := 30) dX7_isPlayable_12 rfl (by omega) (fun c12 => ?_) (fun c12 => ?_)
    · skip
      refine jj_iconst F dX7_isPlayable_30 ?_
      exact jj_zretr B dX7_isPlayable_31 ⟨Nat.le_of_ble_eq_true rfl, Nat.le_of_ble_eq_true rfl⟩ (by omega) (by unfold sPlayD; first | rw [if_pos (by omega)] | (rw [if_neg (by omega)]; first | rw [if_pos (by omega)] | rw [if_neg (by omega)]))
    · skip
      refine jj_iload1 F dX7_isPlayable_15 ?_
      refine jj_aload0 F dX7_isPlayable_16 ?_
      refine jj_get F (hH.at (k := 16) (i := t) (if_pos (by omega))) cs_7 (by decide) fd_X7_67 rfl dX7_isPlayable_17 ?_
      refine jj_isub F dX7_isPlayable_20 ?_
      refine jj_bipush F (by decide) dX7_isPlayable_21 ?_
      refine jj_icmp_ge F (tgt := 30) dX7_isPlayable_23 rfl (by omega) (fun c23 => ?_) (fun c23 => ?_)
      · skip
        refine jj_iconst F dX7_isPlayable_30 ?_
        exact jj_zretr B dX7_isPlayable_31 ⟨Nat.le_of_ble_eq_true rfl, Nat.le_of_ble_eq_true rfl⟩ (by omega) (by unfold sPlayD; first | rw [if_pos (by omega)] | (rw [if_neg (by omega)]; first | rw [if_pos (by omega)] | rw [if_neg (by omega)]))
      · skip
        refine jj_iconst F dX7_isPlayable_26 ?_
        refine jj_goto F (tgt := 31) dX7_isPlayable_27 rfl ?_
        exact jj_zretr B dX7_isPlayable_31 ⟨Nat.le_of_ble_eq_true rfl, Nat.le_of_ble_eq_true rfl⟩ (by omega) (by unfold sPlayD; first | rw [if_pos (by omega)] | (rw [if_neg (by omega)]; first | rw [if_pos (by omega)] | rw [if_neg (by omega)]))
abbrev rm_X7_isPlace : Room := { frames := 0, cells := 0, slots := 0, locals := 0 }
set_option maxRecDepth 100000 in
set_option maxHeartbeats 400000 in
theorem k7_isPlace {l : Launch} {D : va_G} {ac : Nat → ClassId} (hl : l.stackTraces = false) {p : Int}  {G : jj_G} (hp : 0 ≤ p ∧ p < 20) : jj_C l D ac yX7_isPlace (.code yX7_isPlace cX7_isPlace 1 (some .boolean)) rm_X7_isPlace [.int (jI p)] G (jj_ri (1) G) (jj_nx) := by
  refine jj_ofx (own := RX7) (lv0 := [some (.int (jI p))]) hl (by decide +kernel) rfl rfl (Nat.le_of_ble_eq_true rfl) rfl ?_
  intro X B hN hl0 hdg hac hin
  subst hl0; subst hdg; subst hac
  have F := B.F

  refine jj_iload0 F dX7_isPlace_0 ?_
  refine jj_if_lt F (tgt := 14) dX7_isPlace_1 rfl (by omega) (fun c1 => by exfalso; omega) (fun c1 => ?_)
  refine jj_iload0 F dX7_isPlace_4 ?_
  refine jj_bipush F (by decide) dX7_isPlace_5 ?_
  refine jj_icmp_ge F (tgt := 14) dX7_isPlace_7 rfl (by omega) (fun c7 => by exfalso; omega) (fun c7 => ?_)
  refine jj_iconst F dX7_isPlace_10 ?_
  refine jj_goto F (tgt := 15) dX7_isPlace_11 rfl ?_
  exact jj_zretr B dX7_isPlace_15 ⟨Nat.le_of_ble_eq_true rfl, Nat.le_of_ble_eq_true rfl⟩ (by omega) (rfl)
abbrev rm_X7_takeOf : Room := { frames := 1, cells := 0, slots := 0, locals := 20 }
set_option maxRecDepth 100000 in
set_option maxHeartbeats 400000 in
theorem k7_takeOf {l : Launch} {D : va_G} {ac : Nat → ClassId} (hl : l.stackTraces = false) {ad : Ad} {s e : Sg} {t : Int} {p : Int}  {G : jj_G} (hH : Has ad (cC ac ad s e) G) (ht : 0 ≤ t ∧ t < s 1 0) (hp : 0 ≤ p ∧ p < 20) : jj_C l D ac yX7_takeOf (.code yX7_takeOf cX7_takeOf 2 (some .int)) rm_X7_takeOf [.ref (ad 16 t), .int (jI p)] G (jj_ri (s 8 (20 * t + p)) G) (jj_nx) := by
  refine jj_ofx (own := RX7) (lv0 := [some (.ref (ad 16 t)), some (.int (jI p))]) hl (by decide +kernel) rfl rfl (Nat.le_of_ble_eq_true rfl) rfl ?_
  intro X B hN hl0 hdg hac hin
  subst hl0; subst hdg; subst hac
  have F := B.F

  refine jj_iload1 F dX7_takeOf_0 ?_
  refine jj_callSr B (k := 0) (n := 0) (k7_isPlace F.tr hp) lk_X7_70 rfl ⟨Nat.le_of_ble_eq_true rfl, Nat.le_of_ble_eq_true rfl, Nat.le_of_ble_eq_true rfl, Nat.le_of_ble_eq_true rfl, Nat.le_of_ble_eq_true rfl⟩ ⟨Nat.le_of_ble_eq_true rfl, Nat.le_of_ble_eq_true rfl, Nat.le_of_ble_eq_true rfl, Nat.le_of_ble_eq_true rfl⟩ jj_tx0 dX7_takeOf_1 ?_
  refine jj_if_eq F (tgt := 16) dX7_takeOf_4 rfl (by omega) (fun c4 => by exfalso; omega) (fun c4 => ?_)
  refine jj_aload0 F dX7_takeOf_7 ?_
  refine jj_get F (hH.at (k := 16) (i := t) (if_pos (by omega))) cs_7 (by decide) fd_X7_9 rfl dX7_takeOf_8 ?_
  refine jj_iload1 F dX7_takeOf_11 ?_
  refine c8_ald F (hH.at (k := 17) (i := t) (if_pos (by omega))) (by omega) rfl (by decide) dX7_takeOf_12 ?_
  refine jj_goto F (tgt := 17) dX7_takeOf_13 rfl ?_
  exact jj_iretr B dX7_takeOf_17 ⟨Nat.le_of_ble_eq_true rfl, Nat.le_of_ble_eq_true rfl⟩ (rfl)
abbrev rm_X7_lengthOf : Room := { frames := 1, cells := 0, slots := 0, locals := 20 }
set_option maxRecDepth 100000 in
set_option maxHeartbeats 400000 in
theorem k7_lengthOf {l : Launch} {D : va_G} {ac : Nat → ClassId} (hl : l.stackTraces = false) {ad : Ad} {s e : Sg} {t : Int} {p : Int}  {G : jj_G} (hH : Has ad (cC ac ad s e) G) (ht : 0 ≤ t ∧ t < s 1 0) (hp : 0 ≤ p ∧ p < 20) : jj_C l D ac yX7_lengthOf (.code yX7_lengthOf cX7_lengthOf 2 (some .int)) rm_X7_lengthOf [.ref (ad 16 t), .int (jI p)] G (jj_ri (s 10 (20 * t + p) - s 9 (20 * t + p)) G) (jj_nx) := by
  refine jj_ofx (own := RX7) (lv0 := [some (.ref (ad 16 t)), some (.int (jI p))]) hl (by decide +kernel) rfl rfl (Nat.le_of_ble_eq_true rfl) rfl ?_
  intro X B hN hl0 hdg hac hin
  subst hl0; subst hdg; subst hac
  have F := B.F

  refine jj_iload1 F dX7_lengthOf_0 ?_
  refine jj_callSr B (k := 0) (n := 0) (k7_isPlace F.tr hp) lk_X7_70 rfl ⟨Nat.le_of_ble_eq_true rfl, Nat.le_of_ble_eq_true rfl, Nat.le_of_ble_eq_true rfl, Nat.le_of_ble_eq_true rfl, Nat.le_of_ble_eq_true rfl⟩ ⟨Nat.le_of_ble_eq_true rfl, Nat.le_of_ble_eq_true rfl, Nat.le_of_ble_eq_true rfl, Nat.le_of_ble_eq_true rfl⟩ jj_tx0 dX7_lengthOf_1 ?_
  refine jj_if_eq F (tgt := 23) dX7_lengthOf_4 rfl (by omega) (fun c4 => by exfalso; omega) (fun c4 => ?_)
  refine jj_aload0 F dX7_lengthOf_7 ?_
  refine jj_get F (hH.at (k := 16) (i := t) (if_pos (by omega))) cs_7 (by decide) fd_X7_18 rfl dX7_lengthOf_8 ?_
  refine jj_iload1 F dX7_lengthOf_11 ?_
  refine c8_ald F (hH.at (k := 19) (i := t) (if_pos (by omega))) (by omega) rfl (by decide) dX7_lengthOf_12 ?_
  refine jj_aload0 F dX7_lengthOf_13 ?_
  refine jj_get F (hH.at (k := 16) (i := t) (if_pos (by omega))) cs_7 (by decide) fd_X7_15 rfl dX7_lengthOf_14 ?_
  refine jj_iload1 F dX7_lengthOf_17 ?_
  refine c8_ald F (hH.at (k := 18) (i := t) (if_pos (by omega))) (by omega) rfl (by decide) dX7_lengthOf_18 ?_
  refine jj_isub F dX7_lengthOf_19 ?_
  refine jj_goto F (tgt := 24) dX7_lengthOf_20 rfl ?_
  exact jj_iretr B dX7_lengthOf_24 ⟨Nat.le_of_ble_eq_true rfl, Nat.le_of_ble_eq_true rfl⟩ (rfl)
abbrev rm_X7_fromOf : Room := { frames := 1, cells := 0, slots := 0, locals := 20 }
set_option maxRecDepth 100000 in
set_option maxHeartbeats 400000 in
theorem k7_fromOf {l : Launch} {D : va_G} {ac : Nat → ClassId} (hl : l.stackTraces = false) {ad : Ad} {s e : Sg} {t : Int} {p : Int}  {G : jj_G} (hH : Has ad (cC ac ad s e) G) (ht : 0 ≤ t ∧ t < s 1 0) (hp : 0 ≤ p ∧ p < 20) : jj_C l D ac yX7_fromOf (.code yX7_fromOf cX7_fromOf 2 (some .int)) rm_X7_fromOf [.ref (ad 16 t), .int (jI p)] G (jj_ri (s 9 (20 * t + p)) G) (jj_nx) := by
  refine jj_ofx (own := RX7) (lv0 := [some (.ref (ad 16 t)), some (.int (jI p))]) hl (by decide +kernel) rfl rfl (Nat.le_of_ble_eq_true rfl) rfl ?_
  intro X B hN hl0 hdg hac hin
  subst hl0; subst hdg; subst hac
  have F := B.F

  refine jj_iload1 F dX7_fromOf_0 ?_
  refine jj_callSr B (k := 0) (n := 0) (k7_isPlace F.tr hp) lk_X7_70 rfl ⟨Nat.le_of_ble_eq_true rfl, Nat.le_of_ble_eq_true rfl, Nat.le_of_ble_eq_true rfl, Nat.le_of_ble_eq_true rfl, Nat.le_of_ble_eq_true rfl⟩ ⟨Nat.le_of_ble_eq_true rfl, Nat.le_of_ble_eq_true rfl, Nat.le_of_ble_eq_true rfl, Nat.le_of_ble_eq_true rfl⟩ jj_tx0 dX7_fromOf_1 ?_
  refine jj_if_eq F (tgt := 16) dX7_fromOf_4 rfl (by omega) (fun c4 => by exfalso; omega) (fun c4 => ?_)
  refine jj_aload0 F dX7_fromOf_7 ?_
  refine jj_get F (hH.at (k := 16) (i := t) (if_pos (by omega))) cs_7 (by decide) fd_X7_15 rfl dX7_fromOf_8 ?_
  refine jj_iload1 F dX7_fromOf_11 ?_
  refine c8_ald F (hH.at (k := 18) (i := t) (if_pos (by omega))) (by omega) rfl (by decide) dX7_fromOf_12 ?_
  refine jj_goto F (tgt := 17) dX7_fromOf_13 rfl ?_
  exact jj_iretr B dX7_fromOf_17 ⟨Nat.le_of_ble_eq_true rfl, Nat.le_of_ble_eq_true rfl⟩ (rfl)
abbrev rm_X7_spansBetween : Room := { frames := 2, cells := 0, slots := 0, locals := 41 }
set_option maxRecDepth 100000 in
set_option maxHeartbeats 400000 in
theorem k7_spansBetween {l : Launch} {D : va_G} {ac : Nat → ClassId} (hl : l.stackTraces = false) {ad : Ad} {s e : Sg} {t : Int} {f u : Int}  {G : jj_G} (hH : Has ad (cC ac ad s e) G) (hI : sI1 s) (ht : 0 ≤ t ∧ t < s 1 0) (hf : jR f) (hu : jR u) : jj_C l D ac yX7_spansBetween (.code yX7_spansBetween cX7_spansBetween 7 (some .int)) rm_X7_spansBetween [.ref (ad 16 t), .int (jI f), .int (jI u)] G (jj_ri (sSpans s t f u) G) (jj_nx) := by
  refine jj_ofx (own := RX7) (lv0 := [some (.ref (ad 16 t)), some (.int (jI f)), some (.int (jI u)), none, none, none, none]) hl (by decide +kernel) rfl rfl (Nat.le_of_ble_eq_true rfl) rfl ?_
  intro X B hN hl0 hdg hac hin
  subst hl0; subst hdg; subst hac
  have F := B.F

  have g := hI.tape ht
  refine jj_iconst F dX7_spansBetween_0 ?_
  refine jj_istore3 F dX7_spansBetween_1 (hN _ (by decide)) rfl ?_
  refine jj_iconst F dX7_spansBetween_2 ?_
  refine jj_istore4 F dX7_spansBetween_3 (hN _ (by decide)) rfl ?_
  refine jj_iconst F dX7_spansBetween_5 ?_
  refine jj_istore5 F dX7_spansBetween_6 (hN _ (by decide)) rfl ?_
  have loop : ∀ (n j : Nat) (x6 : Option Value), n + j = (s 7 t).toNat → jj_J X G 0 0 8 [some (.ref (ad 16 t)), some (.int (jI f)), some (.int (jI u)), some (.int (jI (sLenTo s t j))), some (.int (jI (sSpansTo s t f u j))), some (.int (jI j)), x6] [] := by
    intro n
    induction n with
    | zero =>
      intro j x6 hj
      have e1 : (j : Int) = s 7 t := by omega
      refine jj_iload5 F dX7_spansBetween_8 ?_
      refine jj_aload0 F dX7_spansBetween_10 ?_
      refine jj_get F (hH.at (k := 16) (i := t) (if_pos (by omega))) cs_7 (by decide) fd_X7_74 rfl dX7_spansBetween_11 ?_
      refine jj_icmp_ge F (tgt := 50) dX7_spansBetween_14 rfl (by omega) (fun c14 => ?_) (fun c14 => by exfalso; omega)
      refine jj_iload4 F dX7_spansBetween_50 ?_
      exact jj_iretr B dX7_spansBetween_52 ⟨Nat.le_of_ble_eq_true rfl, Nat.le_of_ble_eq_true rfl⟩ (by unfold sSpans; rw [show (s 7 t).toNat = j by omega])
    | succ n ih =>
      intro j x6 hj
      have e1 : (j : Int) < s 7 t := by omega
      have e2 : sLenTo s t (j + 1) = sLenTo s t j + (s 10 (20 * t + j) - s 9 (20 * t + j)) := rfl
      have e3 := sLen_le hI ht j (by omega)
      have e4 := sLen_le hI ht (j + 1) (by omega)
      have e5 := hI.span ht (show 0 ≤ (j : Int) ∧ (j : Int) < s 7 t by omega)
      refine jj_iload5 F dX7_spansBetween_8 ?_
      refine jj_aload0 F dX7_spansBetween_10 ?_
      refine jj_get F (hH.at (k := 16) (i := t) (if_pos (by omega))) cs_7 (by decide) fd_X7_74 rfl dX7_spansBetween_11 ?_
      refine jj_icmp_ge F (tgt := 50) dX7_spansBetween_14 rfl (by omega) (fun c14 => by exfalso; omega) (fun c14 => ?_)
      refine jj_iload3 F dX7_spansBetween_17 ?_
      refine jj_aload0 F dX7_spansBetween_18 ?_
      refine jj_iload5 F dX7_spansBetween_19 ?_
      refine jj_callVr B (k := 0) (n := 0) (k7_lengthOf F.tr hH ht (by omega)) lk_X7_77 (hH.at (k := 16) (i := t) (if_pos (by omega))) cs_7 rfl rfl ⟨Nat.le_of_ble_eq_true rfl, Nat.le_of_ble_eq_true rfl, Nat.le_of_ble_eq_true rfl, Nat.le_of_ble_eq_true rfl, Nat.le_of_ble_eq_true rfl⟩ ⟨Nat.le_of_ble_eq_true rfl, Nat.le_of_ble_eq_true rfl, Nat.le_of_ble_eq_true rfl, Nat.le_of_ble_eq_true rfl⟩ jj_tx0 dX7_spansBetween_21 ?_
      refine jj_iadd F dX7_spansBetween_24 ?_
      refine jj_istore6 F dX7_spansBetween_25 (hN _ (by decide)) rfl ?_
      refine jj_iload3 F dX7_spansBetween_27 ?_
      refine jj_iload2 F dX7_spansBetween_28 ?_
      refine jj_icmp_ge F (tgt := 41) dX7_spansBetween_29 rfl (by omega) (fun c29 => ?_) (fun c29 => ?_)
      · skip
        refine jj_iload6 F dX7_spansBetween_41 ?_
        refine jj_istore3 F dX7_spansBetween_43 (hN _ (by decide)) rfl ?_
        refine jj_iinc5 F dX7_spansBetween_44 (hN _ (by decide)) rfl ?_
        refine jj_goto F (tgt := 8) dX7_spansBetween_47 rfl ?_
        have ih1 := ih (j + 1) (some (.int (jI (sLenTo s t j + (s 10 (20 * t + j) - s 9 (20 * t + j)))))) (by omega)
        rw [show (((j + 1 : Nat)) : Int) = (j : Int) + 1 from rfl] at ih1
        simp only [sSpansTo] at ih1
        first | rw [if_pos (by omega)] at ih1 | rw [if_neg (by omega)] at ih1
        rw [e2] at ih1
        first | exact ih1 | (rw [Int.add_zero] at ih1; exact ih1)
      · skip
        refine jj_iload6 F dX7_spansBetween_32 ?_
        refine jj_iload1 F dX7_spansBetween_34 ?_
        refine jj_icmp_le F (tgt := 41) dX7_spansBetween_35 rfl (by omega) (fun c35 => ?_) (fun c35 => ?_)
        · skip
          refine jj_iload6 F dX7_spansBetween_41 ?_
          refine jj_istore3 F dX7_spansBetween_43 (hN _ (by decide)) rfl ?_
          refine jj_iinc5 F dX7_spansBetween_44 (hN _ (by decide)) rfl ?_
          refine jj_goto F (tgt := 8) dX7_spansBetween_47 rfl ?_
          have ih1 := ih (j + 1) (some (.int (jI (sLenTo s t j + (s 10 (20 * t + j) - s 9 (20 * t + j)))))) (by omega)
          rw [show (((j + 1 : Nat)) : Int) = (j : Int) + 1 from rfl] at ih1
          simp only [sSpansTo] at ih1
          first | rw [if_pos (by omega)] at ih1 | rw [if_neg (by omega)] at ih1
          rw [e2] at ih1
          first | exact ih1 | (rw [Int.add_zero] at ih1; exact ih1)
        · skip
          refine jj_iinc4 F dX7_spansBetween_38 (hN _ (by decide)) rfl ?_
          refine jj_iload6 F dX7_spansBetween_41 ?_
          refine jj_istore3 F dX7_spansBetween_43 (hN _ (by decide)) rfl ?_
          refine jj_iinc5 F dX7_spansBetween_44 (hN _ (by decide)) rfl ?_
          refine jj_goto F (tgt := 8) dX7_spansBetween_47 rfl ?_
          have ih1 := ih (j + 1) (some (.int (jI (sLenTo s t j + (s 10 (20 * t + j) - s 9 (20 * t + j)))))) (by omega)
          rw [show (((j + 1 : Nat)) : Int) = (j : Int) + 1 from rfl] at ih1
          simp only [sSpansTo] at ih1
          first | rw [if_pos (by omega)] at ih1 | rw [if_neg (by omega)] at ih1
          rw [e2] at ih1
          first | exact ih1 | (rw [Int.add_zero] at ih1; exact ih1)
  exact loop (s 7 t).toNat 0 none (by omega)
abbrev rm_X7_heardAt : Room := { frames := 2, cells := 0, slots := 0, locals := 41 }
set_option maxRecDepth 100000 in
set_option maxHeartbeats 400000 in
theorem k7_heardAt {l : Launch} {D : va_G} {ac : Nat → ClassId} (hl : l.stackTraces = false) {ad : Ad} {s e : Sg} {t : Int} {x : Int}  {G : jj_G} (hH : Has ad (cC ac ad s e) G) (hI : sI1 s) (ht : 0 ≤ t ∧ t < s 1 0) (hx : jR x) : jj_C l D ac yX7_heardAt (.code yX7_heardAt cX7_heardAt 5 (some .int)) rm_X7_heardAt [.ref (ad 16 t), .int (jI x)] G (jj_ri (sHeard s t x (s 7 t).toNat 0) G) (jj_nx) := by
  refine jj_ofx (own := RX7) (lv0 := [some (.ref (ad 16 t)), some (.int (jI x)), none, none, none]) hl (by decide +kernel) rfl rfl (Nat.le_of_ble_eq_true rfl) rfl ?_
  intro X B hN hl0 hdg hac hin
  subst hl0; subst hdg; subst hac
  have F := B.F

  have g := hI.tape ht
  refine jj_iconst F dX7_heardAt_0 ?_
  refine jj_istore2 F dX7_heardAt_1 (hN _ (by decide)) rfl ?_
  refine jj_iconst F dX7_heardAt_2 ?_
  refine jj_istore3 F dX7_heardAt_3 (hN _ (by decide)) rfl ?_
  have loop : ∀ (n j : Nat) (x4 : Option Value), n + j = (s 7 t).toNat → sHeard s t x (s 7 t).toNat 0 = sHeard s t x n j → jj_J X G 0 0 4 [some (.ref (ad 16 t)), some (.int (jI x)), some (.int (jI (sLenTo s t j))), some (.int (jI j)), x4] [] := by
    intro n
    induction n with
    | zero =>
      intro j x4 hj hs
      have e1 : (j : Int) = s 7 t := by omega
      refine jj_iload3 F dX7_heardAt_4 ?_
      refine jj_aload0 F dX7_heardAt_5 ?_
      refine jj_get F (hH.at (k := 16) (i := t) (if_pos (by omega))) cs_7 (by decide) fd_X7_74 rfl dX7_heardAt_6 ?_
      refine jj_icmp_ge F (tgt := 56) dX7_heardAt_9 rfl (by omega) (fun c9 => ?_) (fun c9 => by exfalso; omega)
      refine jj_iconst F dX7_heardAt_56 ?_
      exact jj_iretr B dX7_heardAt_57 ⟨Nat.le_of_ble_eq_true rfl, Nat.le_of_ble_eq_true rfl⟩ (hs.symm)
    | succ n ih =>
      intro j x4 hj hs
      have e1 : (j : Int) < s 7 t := by omega
      have e2 : sLenTo s t (j + 1) = sLenTo s t j + (s 10 (20 * t + j) - s 9 (20 * t + j)) := rfl
      have e3 := sLen_le hI ht j (by omega)
      have e4 := sLen_le hI ht (j + 1) (by omega)
      have e5 := hI.span ht (show 0 ≤ (j : Int) ∧ (j : Int) < s 7 t by omega)
      refine jj_iload3 F dX7_heardAt_4 ?_
      refine jj_aload0 F dX7_heardAt_5 ?_
      refine jj_get F (hH.at (k := 16) (i := t) (if_pos (by omega))) cs_7 (by decide) fd_X7_74 rfl dX7_heardAt_6 ?_
      refine jj_icmp_ge F (tgt := 56) dX7_heardAt_9 rfl (by omega) (fun c9 => by exfalso; omega) (fun c9 => ?_)
      refine jj_iload2 F dX7_heardAt_12 ?_
      refine jj_aload0 F dX7_heardAt_13 ?_
      refine jj_iload3 F dX7_heardAt_14 ?_
      refine jj_callVr B (k := 0) (n := 0) (k7_lengthOf F.tr hH ht (by omega)) lk_X7_77 (hH.at (k := 16) (i := t) (if_pos (by omega))) cs_7 rfl rfl ⟨Nat.le_of_ble_eq_true rfl, Nat.le_of_ble_eq_true rfl, Nat.le_of_ble_eq_true rfl, Nat.le_of_ble_eq_true rfl, Nat.le_of_ble_eq_true rfl⟩ ⟨Nat.le_of_ble_eq_true rfl, Nat.le_of_ble_eq_true rfl, Nat.le_of_ble_eq_true rfl, Nat.le_of_ble_eq_true rfl⟩ jj_tx0 dX7_heardAt_15 ?_
      refine jj_iadd F dX7_heardAt_18 ?_
      refine jj_istore4 F dX7_heardAt_19 (hN _ (by decide)) rfl ?_
      refine jj_iload1 F dX7_heardAt_21 ?_
      refine jj_iload4 F dX7_heardAt_22 ?_
      refine jj_icmp_ge F (tgt := 47) dX7_heardAt_24 rfl (by omega) (fun c24 => ?_) (fun c24 => ?_)
      · skip
        refine jj_iload4 F dX7_heardAt_47 ?_
        refine jj_istore2 F dX7_heardAt_49 (hN _ (by decide)) rfl ?_
        refine jj_iinc3 F dX7_heardAt_50 (hN _ (by decide)) rfl ?_
        refine jj_goto F (tgt := 4) dX7_heardAt_53 rfl ?_
        have ih1 := ih (j + 1) (some (.int (jI (sLenTo s t j + (s 10 (20 * t + j) - s 9 (20 * t + j)))))) (by omega) (by rw [hs]; show (if _ then _ else _) = _; rw [if_neg (by omega)])
        rw [show (((j + 1 : Nat)) : Int) = (j : Int) + 1 from rfl, e2] at ih1
        exact ih1
      · skip
        refine jj_sipush F (by decide) dX7_heardAt_27 ?_
        refine jj_aload0 F dX7_heardAt_30 ?_
        refine jj_iload3 F dX7_heardAt_31 ?_
        refine jj_callVr B (k := 0) (n := 0) (k7_takeOf F.tr hH ht (by omega)) lk_X7_81 (hH.at (k := 16) (i := t) (if_pos (by omega))) cs_7 rfl rfl ⟨Nat.le_of_ble_eq_true rfl, Nat.le_of_ble_eq_true rfl, Nat.le_of_ble_eq_true rfl, Nat.le_of_ble_eq_true rfl, Nat.le_of_ble_eq_true rfl⟩ ⟨Nat.le_of_ble_eq_true rfl, Nat.le_of_ble_eq_true rfl, Nat.le_of_ble_eq_true rfl, Nat.le_of_ble_eq_true rfl⟩ jj_tx0 dX7_heardAt_32 ?_
        refine jj_imul F dX7_heardAt_35 ?_
        refine jj_aload0 F dX7_heardAt_36 ?_
        refine jj_iload3 F dX7_heardAt_37 ?_
        refine jj_callVr B (k := 0) (n := 0) (k7_fromOf F.tr hH ht (by omega)) lk_X7_84 (hH.at (k := 16) (i := t) (if_pos (by omega))) cs_7 rfl rfl ⟨Nat.le_of_ble_eq_true rfl, Nat.le_of_ble_eq_true rfl, Nat.le_of_ble_eq_true rfl, Nat.le_of_ble_eq_true rfl, Nat.le_of_ble_eq_true rfl⟩ ⟨Nat.le_of_ble_eq_true rfl, Nat.le_of_ble_eq_true rfl, Nat.le_of_ble_eq_true rfl, Nat.le_of_ble_eq_true rfl⟩ jj_tx0 dX7_heardAt_38 ?_
        refine jj_iadd F dX7_heardAt_41 ?_
        refine jj_iload1 F dX7_heardAt_42 ?_
        refine jj_iadd F dX7_heardAt_43 ?_
        refine jj_iload2 F dX7_heardAt_44 ?_
        refine jj_isub F dX7_heardAt_45 ?_
        exact jj_iretr B dX7_heardAt_46 ⟨Nat.le_of_ble_eq_true rfl, Nat.le_of_ble_eq_true rfl⟩ (by rw [hs]; unfold sHeard; rw [if_pos (by omega)])
  exact loop (s 7 t).toNat 0 none (by omega) rfl
abbrev rm_X7_takeSet : Room := { frames := 2, cells := 0, slots := 0, locals := 41 }
set_option maxRecDepth 100000 in
set_option maxHeartbeats 400000 in
theorem k7_takeSet {l : Launch} {D : va_G} {ac : Nat → ClassId} (hl : l.stackTraces = false) {ad : Ad} {s e : Sg} {t : Int}  {G : jj_G} (hH : Has ad (cC ac ad s e) G) (hI : sI1 s) (ht : 0 ≤ t ∧ t < s 1 0)  : jj_C l D ac yX7_takeSet (.code yX7_takeSet cX7_takeSet 3 (some .int)) rm_X7_takeSet [.ref (ad 16 t)] G (jj_ri (sTakes s t) G) (jj_nx) := by
  refine jj_ofx (own := RX7) (lv0 := [some (.ref (ad 16 t)), none, none]) hl (by decide +kernel) rfl rfl (Nat.le_of_ble_eq_true rfl) rfl ?_
  intro X B hN hl0 hdg hac hin
  subst hl0; subst hdg; subst hac
  have F := B.F

  have g := hI.tape ht
  refine jj_iconst F dX7_takeSet_0 ?_
  refine jj_istore1 F dX7_takeSet_1 (hN _ (by decide)) rfl ?_
  refine jj_iconst F dX7_takeSet_2 ?_
  refine jj_istore2 F dX7_takeSet_3 (hN _ (by decide)) rfl ?_
  have loop : ∀ (n j : Nat), n + j = (s 7 t).toNat → jj_J X G 0 0 4 [some (.ref (ad 16 t)), some (.int (jI (sTakesTo s t j))), some (.int (jI j))] [] := by
    intro n
    induction n with
    | zero =>
      intro j hj
      have e1 : (j : Int) = s 7 t := by omega
      refine jj_iload2 F dX7_takeSet_4 ?_
      refine jj_aload0 F dX7_takeSet_5 ?_
      refine jj_get F (hH.at (k := 16) (i := t) (if_pos (by omega))) cs_7 (by decide) fd_X7_74 rfl dX7_takeSet_6 ?_
      refine jj_icmp_ge F (tgt := 28) dX7_takeSet_9 rfl (by omega) (fun c9 => ?_) (fun c9 => by exfalso; omega)
      refine jj_iload1 F dX7_takeSet_28 ?_
      exact jj_iretr B dX7_takeSet_29 ⟨Nat.le_of_ble_eq_true rfl, Nat.le_of_ble_eq_true rfl⟩ (by unfold sTakes; rw [show (s 7 t).toNat = j by omega])
    | succ n ih =>
      intro j hj
      have e1 : (j : Int) < s 7 t := by omega
      refine jj_iload2 F dX7_takeSet_4 ?_
      refine jj_aload0 F dX7_takeSet_5 ?_
      refine jj_get F (hH.at (k := 16) (i := t) (if_pos (by omega))) cs_7 (by decide) fd_X7_74 rfl dX7_takeSet_6 ?_
      refine jj_icmp_ge F (tgt := 28) dX7_takeSet_9 rfl (by omega) (fun c9 => by exfalso; omega) (fun c9 => ?_)
      refine jj_iload1 F dX7_takeSet_12 ?_
      refine jj_iconst F dX7_takeSet_13 ?_
      refine jj_aload0 F dX7_takeSet_14 ?_
      refine jj_iload2 F dX7_takeSet_15 ?_
      refine jj_callVr B (k := 0) (n := 0) (k7_takeOf F.tr hH ht (by omega)) lk_X7_81 (hH.at (k := 16) (i := t) (if_pos (by omega))) cs_7 rfl rfl ⟨Nat.le_of_ble_eq_true rfl, Nat.le_of_ble_eq_true rfl, Nat.le_of_ble_eq_true rfl, Nat.le_of_ble_eq_true rfl, Nat.le_of_ble_eq_true rfl⟩ ⟨Nat.le_of_ble_eq_true rfl, Nat.le_of_ble_eq_true rfl, Nat.le_of_ble_eq_true rfl, Nat.le_of_ble_eq_true rfl⟩ jj_tx0 dX7_takeSet_16 ?_
      refine jj_ishl F dX7_takeSet_19 ?_
      refine jj_topi (jI_of _) ?_
      refine jj_ior F dX7_takeSet_20 ?_
      refine jj_topi (jI_of _) ?_
      refine jj_istore1 F dX7_takeSet_21 (hN _ (by decide)) rfl ?_
      refine jj_iinc2 F dX7_takeSet_22 (hN _ (by decide)) rfl ?_
      refine jj_goto F (tgt := 4) dX7_takeSet_25 rfl ?_
      have ih1 := ih (j + 1) (by omega)
      rw [show (((j + 1 : Nat)) : Int) = (j : Int) + 1 from rfl] at ih1
      exact ih1
  exact loop (s 7 t).toNat 0 (by omega)
