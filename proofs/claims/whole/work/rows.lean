section
-- ===== PART A: goes FIRST, ahead of the names: the tables' words, and 'selects' of the private methods out of them =====
/-- a private method of a class that the tables say can be made, by its rows of tables_1 -/
def lw_okq (q : MethodName × Nat) : Prop := (q.1.cls ≠ "java/lang/invoke/MethodHandle" ∧ q.1.cls ≠ "java/lang/invoke/VarHandle") ∧ Cond.instantiable q.1.cls q.2 ∈ tables_1 ∧ Cond.privateMethod q.1 ∈ tables_1 ∧ Cond.instanceMethod q.1 ∈ tables_1
theorem lw_p0 : lw_okq (⟨"java/lang/Throwable", "fillInStackTrace", "(I)Ljava/lang/Throwable;"⟩, 6) := ⟨⟨by decide +kernel, by decide +kernel⟩, List.mem_of_getElem? (i := 195) (by decide +kernel), List.mem_of_getElem? (i := 193) (by decide +kernel), List.mem_of_getElem? (i := 194) (by decide +kernel)⟩
theorem lw_p1 : lw_okq (⟨"MatrixHouse", "nextTape", "()I"⟩, 10) := ⟨⟨by decide +kernel, by decide +kernel⟩, List.mem_of_getElem? (i := 19) (by decide +kernel), List.mem_of_getElem? (i := 245) (by decide +kernel), List.mem_of_getElem? (i := 246) (by decide +kernel)⟩
theorem lw_p2 : lw_okq (⟨"MatrixHouse$Tape", "append", "(III)V"⟩, 15) := ⟨⟨by decide +kernel, by decide +kernel⟩, List.mem_of_getElem? (i := 264) (by decide +kernel), List.mem_of_getElem? (i := 270) (by decide +kernel), List.mem_of_getElem? (i := 271) (by decide +kernel)⟩
theorem lw_p3 : lw_okq (⟨"MatrixHouse", "tapeAt", "(I)LMatrixHouse$Tape;"⟩, 10) := ⟨⟨by decide +kernel, by decide +kernel⟩, List.mem_of_getElem? (i := 19) (by decide +kernel), List.mem_of_getElem? (i := 341) (by decide +kernel), List.mem_of_getElem? (i := 342) (by decide +kernel)⟩
theorem lw_p4 : lw_okq (⟨"MatrixHouse", "requirePlayable", "(LMatrixHouse$Tape;)V"⟩, 10) := ⟨⟨by decide +kernel, by decide +kernel⟩, List.mem_of_getElem? (i := 19) (by decide +kernel), List.mem_of_getElem? (i := 347) (by decide +kernel), List.mem_of_getElem? (i := 348) (by decide +kernel)⟩
theorem lw_p5 : lw_okq (⟨"MatrixHouse$Tape", "copy", "(LMatrixHouse$Tape;II)V"⟩, 15) := ⟨⟨by decide +kernel, by decide +kernel⟩, List.mem_of_getElem? (i := 264) (by decide +kernel), List.mem_of_getElem? (i := 371) (by decide +kernel), List.mem_of_getElem? (i := 372) (by decide +kernel)⟩
theorem lw_p6 : lw_okq (⟨"MatrixHouse", "sideOfProgram", "()LMatrixHouse$Side;"⟩, 10) := ⟨⟨by decide +kernel, by decide +kernel⟩, List.mem_of_getElem? (i := 19) (by decide +kernel), List.mem_of_getElem? (i := 496) (by decide +kernel), List.mem_of_getElem? (i := 497) (by decide +kernel)⟩
theorem lw_p7 : lw_okq (⟨"MatrixHouse", "sideAt", "(I)LMatrixHouse$Side;"⟩, 10) := ⟨⟨by decide +kernel, by decide +kernel⟩, List.mem_of_getElem? (i := 19) (by decide +kernel), List.mem_of_getElem? (i := 539) (by decide +kernel), List.mem_of_getElem? (i := 540) (by decide +kernel)⟩
theorem lw_p8 : lw_okq (⟨"MatrixHouse$Royalties", "lessen", "(LMatrixHouse$Sale;I)V"⟩, 6) := ⟨⟨by decide +kernel, by decide +kernel⟩, List.mem_of_getElem? (i := 74) (by decide +kernel), List.mem_of_getElem? (i := 699) (by decide +kernel), List.mem_of_getElem? (i := 700) (by decide +kernel)⟩
theorem lw_p9 : lw_okq (⟨"MatrixHouse", "discAt", "(I)LMatrixHouse$Disc;"⟩, 10) := ⟨⟨by decide +kernel, by decide +kernel⟩, List.mem_of_getElem? (i := 19) (by decide +kernel), List.mem_of_getElem? (i := 736) (by decide +kernel), List.mem_of_getElem? (i := 737) (by decide +kernel)⟩
theorem lw_p10 : lw_okq (⟨"MatrixHouse", "requireJoinable", "(I)V"⟩, 10) := ⟨⟨by decide +kernel, by decide +kernel⟩, List.mem_of_getElem? (i := 19) (by decide +kernel), List.mem_of_getElem? (i := 787) (by decide +kernel), List.mem_of_getElem? (i := 788) (by decide +kernel)⟩
theorem lw_p11 : lw_okq (⟨"MatrixHouse", "leastNoisy", "(II)I"⟩, 10) := ⟨⟨by decide +kernel, by decide +kernel⟩, List.mem_of_getElem? (i := 19) (by decide +kernel), List.mem_of_getElem? (i := 793) (by decide +kernel), List.mem_of_getElem? (i := 794) (by decide +kernel)⟩
theorem lw_p12 : lw_okq (⟨"MatrixHouseModel", "goes", "(I)Z"⟩, 38) := ⟨⟨by decide +kernel, by decide +kernel⟩, List.mem_of_getElem? (i := 892) (by decide +kernel), List.mem_of_getElem? (i := 1030) (by decide +kernel), List.mem_of_getElem? (i := 1031) (by decide +kernel)⟩
theorem lw_p13 : lw_okq (⟨"MatrixHouseModel", "puts", "(III)V"⟩, 38) := ⟨⟨by decide +kernel, by decide +kernel⟩, List.mem_of_getElem? (i := 892) (by decide +kernel), List.mem_of_getElem? (i := 1034) (by decide +kernel), List.mem_of_getElem? (i := 1035) (by decide +kernel)⟩
theorem lw_p14 : lw_okq (⟨"MatrixHouseModel", "makes", "(II)I"⟩, 38) := ⟨⟨by decide +kernel, by decide +kernel⟩, List.mem_of_getElem? (i := 892) (by decide +kernel), List.mem_of_getElem? (i := 1038) (by decide +kernel), List.mem_of_getElem? (i := 1039) (by decide +kernel)⟩
theorem lw_p15 : lw_okq (⟨"MatrixHouseModel", "isTape", "(I)Z"⟩, 38) := ⟨⟨by decide +kernel, by decide +kernel⟩, List.mem_of_getElem? (i := 892) (by decide +kernel), List.mem_of_getElem? (i := 1046) (by decide +kernel), List.mem_of_getElem? (i := 1047) (by decide +kernel)⟩
def lw_privs_1 : List (MethodName × Nat) := [(⟨"java/lang/Throwable", "fillInStackTrace", "(I)Ljava/lang/Throwable;"⟩, 6), (⟨"MatrixHouse", "nextTape", "()I"⟩, 10), (⟨"MatrixHouse$Tape", "append", "(III)V"⟩, 15), (⟨"MatrixHouse", "tapeAt", "(I)LMatrixHouse$Tape;"⟩, 10), (⟨"MatrixHouse", "requirePlayable", "(LMatrixHouse$Tape;)V"⟩, 10), (⟨"MatrixHouse$Tape", "copy", "(LMatrixHouse$Tape;II)V"⟩, 15), (⟨"MatrixHouse", "sideOfProgram", "()LMatrixHouse$Side;"⟩, 10), (⟨"MatrixHouse", "sideAt", "(I)LMatrixHouse$Side;"⟩, 10), (⟨"MatrixHouse$Royalties", "lessen", "(LMatrixHouse$Sale;I)V"⟩, 6), (⟨"MatrixHouse", "discAt", "(I)LMatrixHouse$Disc;"⟩, 10), (⟨"MatrixHouse", "requireJoinable", "(I)V"⟩, 10), (⟨"MatrixHouse", "leastNoisy", "(II)I"⟩, 10), (⟨"MatrixHouseModel", "goes", "(I)Z"⟩, 38), (⟨"MatrixHouseModel", "puts", "(III)V"⟩, 38), (⟨"MatrixHouseModel", "makes", "(II)I"⟩, 38), (⟨"MatrixHouseModel", "isTape", "(I)Z"⟩, 38)]
theorem lw_r1 : ∀ q ∈ lw_privs_1, lw_okq q := List.forall_mem_cons.mpr ⟨lw_p0, List.forall_mem_cons.mpr ⟨lw_p1, List.forall_mem_cons.mpr ⟨lw_p2, List.forall_mem_cons.mpr ⟨lw_p3, List.forall_mem_cons.mpr ⟨lw_p4, List.forall_mem_cons.mpr ⟨lw_p5, List.forall_mem_cons.mpr ⟨lw_p6, List.forall_mem_cons.mpr ⟨lw_p7, List.forall_mem_cons.mpr ⟨lw_p8, List.forall_mem_cons.mpr ⟨lw_p9, List.forall_mem_cons.mpr ⟨lw_p10, List.forall_mem_cons.mpr ⟨lw_p11, List.forall_mem_cons.mpr ⟨lw_p12, List.forall_mem_cons.mpr ⟨lw_p13, List.forall_mem_cons.mpr ⟨lw_p14, List.forall_mem_cons.mpr ⟨lw_p15, fun _ h => absurd h List.not_mem_nil⟩⟩⟩⟩⟩⟩⟩⟩⟩⟩⟩⟩⟩⟩⟩⟩
theorem lw_p16 : lw_okq (⟨"MatrixHouseModel", "length", "(I)I"⟩, 38) := ⟨⟨by decide +kernel, by decide +kernel⟩, List.mem_of_getElem? (i := 892) (by decide +kernel), List.mem_of_getElem? (i := 1050) (by decide +kernel), List.mem_of_getElem? (i := 1051) (by decide +kernel)⟩
theorem lw_p17 : lw_okq (⟨"MatrixHouseModel", "isPlayable", "(I)Z"⟩, 38) := ⟨⟨by decide +kernel, by decide +kernel⟩, List.mem_of_getElem? (i := 892) (by decide +kernel), List.mem_of_getElem? (i := 1054) (by decide +kernel), List.mem_of_getElem? (i := 1055) (by decide +kernel)⟩
theorem lw_p18 : lw_okq (⟨"MatrixHouseModel", "spansIn", "(III)I"⟩, 38) := ⟨⟨by decide +kernel, by decide +kernel⟩, List.mem_of_getElem? (i := 892) (by decide +kernel), List.mem_of_getElem? (i := 1058) (by decide +kernel), List.mem_of_getElem? (i := 1059) (by decide +kernel)⟩
theorem lw_p19 : lw_okq (⟨"MatrixHouseModel", "copies", "(III)V"⟩, 38) := ⟨⟨by decide +kernel, by decide +kernel⟩, List.mem_of_getElem? (i := 892) (by decide +kernel), List.mem_of_getElem? (i := 1062) (by decide +kernel), List.mem_of_getElem? (i := 1063) (by decide +kernel)⟩
theorem lw_p20 : lw_okq (⟨"MatrixHouseModel", "takesOf", "(I)I"⟩, 38) := ⟨⟨by decide +kernel, by decide +kernel⟩, List.mem_of_getElem? (i := 892) (by decide +kernel), List.mem_of_getElem? (i := 1090) (by decide +kernel), List.mem_of_getElem? (i := 1091) (by decide +kernel)⟩
theorem lw_p21 : lw_okq (⟨"MatrixHouseModel", "canCut", "(I)Z"⟩, 38) := ⟨⟨by decide +kernel, by decide +kernel⟩, List.mem_of_getElem? (i := 892) (by decide +kernel), List.mem_of_getElem? (i := 1114) (by decide +kernel), List.mem_of_getElem? (i := 1115) (by decide +kernel)⟩
theorem lw_p22 : lw_okq (⟨"MatrixHouseModel", "secondsOf", "(II)I"⟩, 38) := ⟨⟨by decide +kernel, by decide +kernel⟩, List.mem_of_getElem? (i := 892) (by decide +kernel), List.mem_of_getElem? (i := 1122) (by decide +kernel), List.mem_of_getElem? (i := 1123) (by decide +kernel)⟩
theorem lw_p23 : lw_okq (⟨"MatrixHouseModel", "isNamed", "(III)Z"⟩, 38) := ⟨⟨by decide +kernel, by decide +kernel⟩, List.mem_of_getElem? (i := 892) (by decide +kernel), List.mem_of_getElem? (i := 1130) (by decide +kernel), List.mem_of_getElem? (i := 1131) (by decide +kernel)⟩
theorem lw_p24 : lw_okq (⟨"MatrixHouseModel", "dueOf", "(III)I"⟩, 38) := ⟨⟨by decide +kernel, by decide +kernel⟩, List.mem_of_getElem? (i := 892) (by decide +kernel), List.mem_of_getElem? (i := 1152) (by decide +kernel), List.mem_of_getElem? (i := 1153) (by decide +kernel)⟩
theorem lw_p25 : lw_okq (⟨"MatrixHouseModel", "discsOf", "(I)I"⟩, 38) := ⟨⟨by decide +kernel, by decide +kernel⟩, List.mem_of_getElem? (i := 892) (by decide +kernel), List.mem_of_getElem? (i := 1161) (by decide +kernel), List.mem_of_getElem? (i := 1162) (by decide +kernel)⟩
theorem lw_p26 : lw_okq (⟨"MatrixHouseModel", "takesOff", "(II)V"⟩, 38) := ⟨⟨by decide +kernel, by decide +kernel⟩, List.mem_of_getElem? (i := 892) (by decide +kernel), List.mem_of_getElem? (i := 1165) (by decide +kernel), List.mem_of_getElem? (i := 1166) (by decide +kernel)⟩
theorem lw_p27 : lw_okq (⟨"MatrixHouseModel", "isDisc", "(I)Z"⟩, 38) := ⟨⟨by decide +kernel, by decide +kernel⟩, List.mem_of_getElem? (i := 892) (by decide +kernel), List.mem_of_getElem? (i := 1177) (by decide +kernel), List.mem_of_getElem? (i := 1178) (by decide +kernel)⟩
theorem lw_p28 : lw_okq (⟨"MatrixHouseModel", "noiseOf", "(II)I"⟩, 38) := ⟨⟨by decide +kernel, by decide +kernel⟩, List.mem_of_getElem? (i := 892) (by decide +kernel), List.mem_of_getElem? (i := 1188) (by decide +kernel), List.mem_of_getElem? (i := 1189) (by decide +kernel)⟩
theorem lw_p29 : lw_okq (⟨"MatrixHouseModel", "areDiscs", "(I)Z"⟩, 38) := ⟨⟨by decide +kernel, by decide +kernel⟩, List.mem_of_getElem? (i := 892) (by decide +kernel), List.mem_of_getElem? (i := 1204) (by decide +kernel), List.mem_of_getElem? (i := 1205) (by decide +kernel)⟩
theorem lw_p30 : lw_okq (⟨"MatrixHouseModel", "areOfOneSide", "(I)Z"⟩, 38) := ⟨⟨by decide +kernel, by decide +kernel⟩, List.mem_of_getElem? (i := 892) (by decide +kernel), List.mem_of_getElem? (i := 1208) (by decide +kernel), List.mem_of_getElem? (i := 1209) (by decide +kernel)⟩
theorem lw_p31 : lw_okq (⟨"MatrixHouseModel", "joinOf", "(II)I"⟩, 38) := ⟨⟨by decide +kernel, by decide +kernel⟩, List.mem_of_getElem? (i := 892) (by decide +kernel), List.mem_of_getElem? (i := 1212) (by decide +kernel), List.mem_of_getElem? (i := 1213) (by decide +kernel)⟩
def lw_privs_2 : List (MethodName × Nat) := [(⟨"MatrixHouseModel", "length", "(I)I"⟩, 38), (⟨"MatrixHouseModel", "isPlayable", "(I)Z"⟩, 38), (⟨"MatrixHouseModel", "spansIn", "(III)I"⟩, 38), (⟨"MatrixHouseModel", "copies", "(III)V"⟩, 38), (⟨"MatrixHouseModel", "takesOf", "(I)I"⟩, 38), (⟨"MatrixHouseModel", "canCut", "(I)Z"⟩, 38), (⟨"MatrixHouseModel", "secondsOf", "(II)I"⟩, 38), (⟨"MatrixHouseModel", "isNamed", "(III)Z"⟩, 38), (⟨"MatrixHouseModel", "dueOf", "(III)I"⟩, 38), (⟨"MatrixHouseModel", "discsOf", "(I)I"⟩, 38), (⟨"MatrixHouseModel", "takesOff", "(II)V"⟩, 38), (⟨"MatrixHouseModel", "isDisc", "(I)Z"⟩, 38), (⟨"MatrixHouseModel", "noiseOf", "(II)I"⟩, 38), (⟨"MatrixHouseModel", "areDiscs", "(I)Z"⟩, 38), (⟨"MatrixHouseModel", "areOfOneSide", "(I)Z"⟩, 38), (⟨"MatrixHouseModel", "joinOf", "(II)I"⟩, 38)]
theorem lw_r2 : ∀ q ∈ lw_privs_2, lw_okq q := List.forall_mem_cons.mpr ⟨lw_p16, List.forall_mem_cons.mpr ⟨lw_p17, List.forall_mem_cons.mpr ⟨lw_p18, List.forall_mem_cons.mpr ⟨lw_p19, List.forall_mem_cons.mpr ⟨lw_p20, List.forall_mem_cons.mpr ⟨lw_p21, List.forall_mem_cons.mpr ⟨lw_p22, List.forall_mem_cons.mpr ⟨lw_p23, List.forall_mem_cons.mpr ⟨lw_p24, List.forall_mem_cons.mpr ⟨lw_p25, List.forall_mem_cons.mpr ⟨lw_p26, List.forall_mem_cons.mpr ⟨lw_p27, List.forall_mem_cons.mpr ⟨lw_p28, List.forall_mem_cons.mpr ⟨lw_p29, List.forall_mem_cons.mpr ⟨lw_p30, List.forall_mem_cons.mpr ⟨lw_p31, fun _ h => absurd h List.not_mem_nil⟩⟩⟩⟩⟩⟩⟩⟩⟩⟩⟩⟩⟩⟩⟩⟩
def lw_privs : List (MethodName × Nat) := lw_privs_1 ++ (lw_privs_2)
def lw_tbl : List Cond := k2_sels lw_privs ++ tables_1
theorem lw_privs_ok : ∀ q ∈ lw_privs, lw_okq q := by
  show ∀ q ∈ lw_privs_1 ++ (lw_privs_2), lw_okq q
  exact List.forall_mem_append.mpr ⟨lw_r1, lw_r2⟩
-- ===== end of PART A; then your names; then what follows =====
end
section
/-! ===== BEGIN words of one list among another's, by their places ===== -/
theorem goodIn_r {big : List Cond} (ws : List Cond) (ps : List Nat) (hp : ws = ps.filterMap (fun i => big[i]?)) (h : ws.all goodWord = true) : GoodIn big ws := by
  intro w hw
  have h1 := List.all_eq_true.mp h w hw
  rw [hp] at hw
  obtain ⟨i, -, hi⟩ := List.mem_filterMap.mp hw
  have hm : w ∈ big := by first | exact List.mem_of_getElem? hi | exact List.getElem?_mem hi
  exact ⟨hm, good_of_word h1⟩
theorem goodIn_app {big a b : List Cond} (ha : GoodIn big a) (hb : GoodIn big b) : GoodIn big (a ++ b) := fun w h => (List.mem_append.mp h).elim (ha w) (hb w)
theorem goodIn_ca {big a b : List Cond} {c : Cond} (ha : GoodIn big (c :: a)) (hb : GoodIn big b) : GoodIn big (c :: (a ++ b)) := fun w h => (List.mem_cons.mp h).elim (fun e => ha w (List.mem_cons.mpr (Or.inl e))) (fun h => (List.mem_append.mp h).elim (fun h => ha w (List.mem_cons.mpr (Or.inr h))) (hb w))
theorem goodIn_sub {big ws : List Cond} (hm : ∀ w ∈ ws, w ∈ big) (h : ws.all goodWord = true) : GoodIn big ws := fun w hw => ⟨hm w hw, good_of_word (List.all_eq_true.mp h w hw)⟩
/-! ===== END ===== -/

/-! ===== BEGIN exceptions that leave a method, and their catching by the caller (launches without stack traces) ===== -/
section VXA
/-! The laws vx_back, vx_callV, vx_callS, vx_callSW, vx_throw0, vx_throwS follow proofs of the library, with one case more: JvmDerived/Free/Laws.lean (Back.of_free), Shelf42/LK1.lean (callV, callS), Shelf/KitTraced.lean (throwNew0V, throwNewS). -/
/-- where a method has thrown q: the class by its name, the cell, what was written, the world -/
def vx_T (XC : String → State → State → Prop) (st : State) (q : Addr) (t : State) (mc ms : Nat) (free : Addr → Prop) : Prop :=
  ∃ (E : String) (ce : Cell) (L : List Loc), XC E st t ∧ t.heap[q]? = some ce ∧ ce.vm = .none ∧ st.vm.findClass E = some ce.cls ∧ st.WarmedH t.vm ∧ st.sameButNew ({ t with vm := st.vm } : State) L mc ms ∧ ∀ z ∈ L, free z.base
def vx_Q (Qc : Array Value → State → Outcome → State → Prop) (XC : String → State → State → Prop) (mc ms : Nat) (free : Addr → Prop) : Array Value → State → Outcome → State → Prop := fun a st o t =>
  (Qc a st o t ∧ ∃ L, FrameEnd st o t L mc ms ∧ ∀ q ∈ L, free q.base) ∨ ∃ q, o = .threw q ∧ vx_T XC st q t mc ms free
/-- a callee that returns or throws -/
def vx_Met (l : Launch) (y : MethodName) (ws : List Cond) (rm : Room) (Pc : Array Value → State → Prop) (Qc : Array Value → State → Outcome → State → Prop) (XC : String → State → State → Prop) (mc ms : Nat) (free : Addr → Prop) : Prop :=
  MetFree l y (headSpec ws rm) Pc (fun _ _ _ _ _ => True) (vx_Q Qc XC mc ms free)
def vx_Post (XC : String → State → State → Prop) (mc ms : Nat) (free : Addr → Prop) : Pt → Array Value → Addr → Pt → Prop := fun A a q B =>
  ∃ (g : JFrame) (mk : MethodId) (t : State) (L : List Loc) (E : String) (ce : Cell), B.U.heap = t.heap ∧ B.U.vm = t.vm ∧ XC E (A.U.calling g mk a) t ∧ t.heap[q]? = some ce ∧ ce.vm = .none ∧ A.U.vm.findClass E = some ce.cls ∧ B.locs = A.locs ++ L ∧ (∀ z ∈ L, free z.base) ∧ B.cells = A.cells + mc ∧ B.slots = A.slots + ms
def vx_Back (l : Launch) (R : Room) (p : Program) (e : Env) (below : List Frame) (s : State) (sargs : Array Value) (y : MethodName) (len W9 : Nat)
    (Pre : Pt → Array Value → Prop) (Post : Pt → Array Value → Option Value → Pt → Prop) (PostX : Pt → Array Value → Addr → Pt → Prop) : Prop :=
  ∀ (m : MethodId) (meth : Method) (c : Code) (A : Pt) (g : JFrame) (ig : Instr) (mk : MethodId) (a : Array Value),
    Stand p l e R s m sargs below meth c A.U A.locs A.cells A.slots → g.method = m → g.locals.size = c.maxLocals → decode c.code g.pc = .ok (ig, len) →
    2 * g.monitorRoom + (g.stack.map fun v => v.category).sum ≤ W9 → A.U.methodNamed? y = some mk → Pre A a →
    (∃ (v : Option Value) (B : Pt), Stand p l e R s m sargs below meth c B.U B.locs B.cells B.slots ∧ Post A a v B ∧
      Steps p.tables e below (doInvoke e (A.U.setTop g) [] mk a).1 (B.U.setTop { g with pc := g.pc + len, stack := v.toList ++ g.stack })) ∨
    (∃ (q : Addr) (B : Pt), Stand p l e R s m sargs below meth c B.U B.locs B.cells B.slots ∧ PostX A a q B ∧
      Steps p.tables e below (doInvoke e (A.U.setTop g) [] mk a).1 ((B.U.setTop g).pushFrame (.throwing q)))
section Payer
variable {l : Launch} {R : Room} {p : Program} {e : Env} {below : List Frame} {s : State} {sargs : Array Value} {y : MethodName} {len W9 : Nat}
theorem vx_back {ws : List Cond} {rm : Room} {Pc : Array Value → State → Prop} {Qc : Array Value → State → Outcome → State → Prop} {XC : String → State → State → Prop} {mc ms : Nat} {free : Addr → Prop} {bytes : ByteArray} {maxL : Nat} {ret : Option FieldType}
    (hM : vx_Met l y ws rm Pc Qc XC mc ms free) (hblind : FrameBlind Pc) (hrc : rm.cells = mc) (hrs : rm.slots = ms)
    (hframes : rm.frames + 1 ≤ R.frames) (hlocals : W9 + (maxL + 11) + rm.locals ≤ R.locals)
    (hws : ∀ w ∈ ws, ∀ a' U, s.WarmedH U.vm → w.before a' U = true) (hcode : Cond.code y bytes maxL ret ∈ ws) (hinit : ∀ a' U, s.WarmedH U.vm → (Cond.initialized y.cls).before a' U = true) :
    vx_Back l R p e below s sargs y len W9 (PreOf R mc ms Pc) (PostOf Qc mc ms free) (vx_Post XC mc ms free) := by
  intro m meth c A g ig mk a X hg hsize hdg hW hn hp
  have h1 : (headSpec ws rm).pre.before a A.U = true := atoms_intro fun w hw => hws w hw _ _ X.warmed
  have h2 : (Cond.code y bytes maxL ret).before a A.U = true := hws _ hcode _ _ X.warmed
  have h3 : (Cond.initialized y.cls).before a A.U = true := hinit _ _ X.warmed
  have h4 : A.cells + (headSpec ws rm).room.cells ≤ R.cells := by rw [show (headSpec ws rm).room.cells = mc from hrc]; exact hp.1
  have h5 : A.slots + (headSpec ws rm).room.slots ≤ R.slots := by rw [show (headSpec ws rm).room.slots = ms from hrs]; exact hp.2.1
  have hPc : Pc a (A.U.calling g mk a) := hblind _ _ _ _ hp.2.2
  obtain ⟨U, Ls, c0, s0⟩ := A
  dsimp only [Pt.U, Pt.locs, Pt.cells, Pt.slots] at h1 h2 h3 h4 h5 X hn hPc ⊢
  obtain ⟨methY, cY, hmY, hcY, -, hlY, -, -, -, -⟩ := Cond.code_spec hn h2
  obtain ⟨kY, hkY, -⟩ := className_of_methodNamed hn
  have hinitY : kY.init = .initialized := Cond.initialized_spec (findClass_of_methodNamed hn) hkY h3
  have h : At U g.method c below := by rw [hg]; exact X.here
  have hlocals9 : W9 + (maxL + 11) + (headSpec ws rm).room.locals ≤ R.locals := hlocals
  have happ : (headSpec ws rm).appliesLoose y e.platform (U.calling g mk a) = true :=
    Spec.appliesLoose_calling (g := g) h hdg hn hkY hinitY
      (X.room_calling (g := g) (R' := (headSpec ws rm).room) hsize hmY hcY hframes (by rw [hlY]; omega) h4 h5) h1
  obtain ⟨mid, hmid⟩ := h.above
  have hfr : (U.setTop g).frames = (.java g :: mid) ++ below := by rw [State.frames_setTop' g h.top, hmid]; rfl
  obtain ⟨o, s₂, hsteps, -, hend, hq⟩ := Steps.callFree hM p X.admits X.cas X.clock (acts := []) hfr happ hPc trivial
  have hq' : vx_Q Qc XC mc ms free a (U.calling g mk a) o s₂ := hq
  rw [State.frames_setTop' g h.top] at hend
  obtain ⟨g₀, hg0⟩ := Option.isSome_iff_exists.mp h.top
  obtain ⟨r, hr⟩ := State.topJava?_eq_some.mp hg0
  have hr' : (({ U with heap := s₂.heap, slotsUsed := s₂.slotsUsed } : State).setVm s₂.vm).frames = .java g₀ :: r := hr
  rcases hq' with ⟨hqc, L, hfe, hL⟩ | ⟨q, rfl, E, ce, L, hx, hce, hcv, hcl, hW₂, hsm, hL⟩
  · obtain ⟨⟨v, rfl⟩, hW₂, e2, q2, q3, q4, q5, q6⟩ := id hfe
    have e3 : s₂ = ({ (U.calling g mk a).setFrames s₂.frames with heap := s₂.heap, slotsUsed := s₂.slotsUsed } : State).setVm s₂.vm := by
      have : s₂ = ({ s₂ with vm := (U.calling g mk a).vm } : State).setVm s₂.vm := rfl
      rw [e2] at this
      exact this
    obtain ⟨c₂, i₂, len₂, hc₂, hd₂, hf₂⟩ := hend
    have hW' : U.WarmedH s₂.vm := hW₂
    have hcc : c₂ = c := by
      have h1 : s₂.code? g.method = U.code? g.method := by
        rw [State.code?_eq, State.code?_eq, hW'.alike.method?]
      exact Option.some.inj (hc₂.symm.trans (h1.trans h.code))
    subst hcc
    have hlen : len₂ = len := by rw [hdg] at hd₂; cases hd₂; rfl
    subst hlen
    have hs₂ : s₂ = (({ U with heap := s₂.heap, slotsUsed := s₂.slotsUsed } : State).setVm s₂.vm).setTop { g with pc := g.pc + len₂, stack := v.toList ++ g.stack } := by
      refine e3.trans ?_
      rw [hf₂, State.calling_eq h.top, State.setFrames_setFrames, State.setTop_of_frames _ hr', hr]
      rfl
    have hsame : U.sameButNew ({ U with heap := s₂.heap, slotsUsed := s₂.slotsUsed } : State) L mc ms := by
      refine ⟨?_, q2, q3, q4, q5, q6⟩
      obtain ⟨t, ht, -⟩ := State.frames_cons hr
      show ({ U with heap := s₂.heap, slotsUsed := s₂.slotsUsed } : State) = { U.setFrames U.frames with heap := s₂.heap, slotsUsed := s₂.slotsUsed }
      rw [State.setFrames_self ht]
    subst hg
    refine Or.inl ⟨v, ⟨(({ U with heap := s₂.heap, slotsUsed := s₂.slotsUsed } : State).setVm s₂.vm), Ls ++ L, c0 + mc, s0 + ms⟩,
      ⟨X.admits, X.cas, X.clock, X.frames, X.room, X.hears, X.method, X.code, (X.here.setHeapUsed s₂.heap s₂.slotsUsed).setVm hW'.alike, X.tail, State.WarmedH.trans X.warmed hW', X.limits, X.bytes, X.same.trans (hsame.setVm s.vm)⟩,
      ⟨g, mk, s₂, L, rfl, rfl, hqc, rfl, hL, rfl, rfl⟩, ?_⟩
    show Steps p.tables e below _ ((({ U with heap := s₂.heap, slotsUsed := s₂.slotsUsed } : State).setVm s₂.vm).setTop { g with pc := g.pc + len₂, stack := v.toList ++ g.stack })
    rw [← hs₂]
    exact hsteps
  · obtain ⟨e2, q2, q3, q4, q5, q6⟩ := id hsm
    have e3 : s₂ = ({ (U.calling g mk a).setFrames s₂.frames with heap := s₂.heap, slotsUsed := s₂.slotsUsed } : State).setVm s₂.vm := by
      have : s₂ = ({ s₂ with vm := (U.calling g mk a).vm } : State).setVm s₂.vm := rfl
      rw [e2] at this
      exact this
    have hf₂ : s₂.frames = .throwing q :: .java g :: U.frames.tail := hend
    have hW' : U.WarmedH s₂.vm := hW₂
    have hs₂ : s₂ = ((({ U with heap := s₂.heap, slotsUsed := s₂.slotsUsed } : State).setVm s₂.vm).setTop g).pushFrame (.throwing q) := by
      refine e3.trans ?_
      rw [hf₂, State.calling_eq h.top, State.setFrames_setFrames, State.pushFrame, State.frames_setTop _ hr', State.setTop_of_frames _ hr', State.setFrames_setFrames, hr]
      rfl
    have hsame : U.sameButNew ({ U with heap := s₂.heap, slotsUsed := s₂.slotsUsed } : State) L mc ms := by
      refine ⟨?_, q2, q3, q4, q5, q6⟩
      obtain ⟨t, ht, -⟩ := State.frames_cons hr
      show ({ U with heap := s₂.heap, slotsUsed := s₂.slotsUsed } : State) = { U.setFrames U.frames with heap := s₂.heap, slotsUsed := s₂.slotsUsed }
      rw [State.setFrames_self ht]
    subst hg
    refine Or.inr ⟨q, ⟨(({ U with heap := s₂.heap, slotsUsed := s₂.slotsUsed } : State).setVm s₂.vm), Ls ++ L, c0 + mc, s0 + ms⟩,
      ⟨X.admits, X.cas, X.clock, X.frames, X.room, X.hears, X.method, X.code, (X.here.setHeapUsed s₂.heap s₂.slotsUsed).setVm hW'.alike, X.tail, State.WarmedH.trans X.warmed hW', X.limits, X.bytes, X.same.trans (hsame.setVm s.vm)⟩,
      ⟨g, mk, s₂, L, E, ce, rfl, rfl, hx, hce, hcv, hcl, rfl, hL, rfl, rfl⟩, ?_⟩
    show Steps p.tables e below _ (((({ U with heap := s₂.heap, slotsUsed := s₂.slotsUsed } : State).setVm s₂.vm).setTop g).pushFrame (.throwing q))
    rw [← hs₂]
    exact hsteps
end Payer
section Calls
variable {p : Program} {l : Launch} {e : Env} {R : Room} {s : State} {m : MethodId} {args : Array Value} {below : List Frame} {meth : Method} {c : Code} {T : State} {locs : List Loc} {cells slots : Nat}
theorem vx_callV (X : Stand p l e R s m args below meth c T locs cells slots) (hexec : p.tables.exec = Jvm.exec) {own C : String} {index : Nat} {y : MethodName} {bytes : ByteArray} {maxL : Nat} {ret : Option FieldType}
    (hown : s.vm.findClass own = some m.cls) (hlink : (Cond.methodLink own index y).before args s = true) (hinst : (Cond.instanceMethod y).before args s = true) (hsel : (Cond.selects C y y).before args s = true)
    (hcode : (Cond.code y bytes maxL ret).before args s = true) (hy : y.cls ≠ "java/lang/invoke/MethodHandle" ∧ y.cls ≠ "java/lang/invoke/VarHandle")
    {W9 : Nat} {Pre : Pt → Array Value → Prop} {Post : Pt → Array Value → Option Value → Pt → Prop} {PostX : Pt → Array Value → Addr → Pt → Prop} (hK : vx_Back l R p e below s args y 3 W9 Pre Post PostX)
    {b : Addr} {cellB : Cell} (hcell : T.heap[b]? = some cellB) (hobj : cellB.vm.isStatics = false) (hcls : s.vm.findClass C = some cellB.cls)
    {g : JFrame} (hg : g.method = m) (hsize : g.locals.size = c.maxLocals) {argsL rest : List Value} (hlen : ∀ sig, parseMethodDescriptor y.desc = some sig → argsL.length = sig.parameters.length)
    (hstack : g.stack = argsL.reverse ++ .ref b :: rest) (hW : 2 * g.monitorRoom + (rest.map fun v => v.category).sum ≤ W9) (hdg : decode c.code g.pc = .ok (.invokevirtual index, 3))
    (hpre : ∀ vm₁, s.WarmedH vm₁ → Pre ⟨T.setVm vm₁, locs, cells, slots⟩ (Value.ref b :: argsL).toArray) :
    (∃ (v : Option Value) (vm₁ : Vm) (B : Pt), s.WarmedH vm₁ ∧ Stand p l e R s m args below meth c B.U B.locs B.cells B.slots ∧ Post ⟨T.setVm vm₁, locs, cells, slots⟩ (Value.ref b :: argsL).toArray v B ∧
      ∀ target, Steps p.tables e below (B.U.setTop { g with pc := g.pc + 3, stack := v.toList ++ rest }) target → Steps p.tables e below (T.setTop g) target) ∨
    (∃ (q : Addr) (vm₁ : Vm) (B : Pt), s.WarmedH vm₁ ∧ Stand p l e R s m args below meth c B.U B.locs B.cells B.slots ∧ PostX ⟨T.setVm vm₁, locs, cells, slots⟩ (Value.ref b :: argsL).toArray q B ∧
      Steps p.tables e below (T.setTop g) ((B.U.setTop { g with stack := rest }).pushFrame (.throwing q))) := by
  obtain ⟨mk, methM, hnamed, hmethM, hstM, habM⟩ := Cond.instanceMethod_spec hinst
  obtain ⟨methM', cM, hmethM', -, -, -, -, -, -, hsigM⟩ := Cond.code_spec hnamed hcode
  cases hmethM.symm.trans hmethM'
  obtain ⟨c2, r2, m2, q1, q2, q3, q4, kP, hkP, hkPi⟩ := Cond.selects_spec hsel
  cases hcls.symm.trans q1
  cases (State.methodFound?_of_named hnamed hy).symm.trans q2
  cases hnamed.symm.trans q3
  have hselP : selectMethod e.platform s.vm cellB.cls mk = .method mk := by rw [Launch.admits_selectMethod X.admits]; exact q4
  obtain ⟨vm₁, X₁, hstep₁⟩ := X.invokevirtual hexec hown hlink hnamed hmethM hstM hkP hkPi hy (a := b) (cell := cellB) hcell
    (fun z h => by rw [h] at hobj; cases hobj) hselP hmethM habM hkP hkPi (g := g) hg (argsL := argsL) (rest := rest) (hlen _ hsigM) hstack hdg
  rcases hK m meth c ⟨T.setVm vm₁, locs, cells, slots⟩ { g with stack := rest } (.invokevirtual index) mk (Value.ref b :: argsL).toArray X₁ hg hsize hdg hW (X₁.named hnamed) (hpre vm₁ X₁.warmed) with ⟨v, B, X', hpost, hsteps⟩ | ⟨q, B, X', hpost, hsteps⟩
  · exact Or.inl ⟨v, vm₁, B, X₁.warmed, X', hpost, fun target h => hstep₁ _ fun acts => by rw [doInvoke_state]; exact hsteps.trans h⟩
  · exact Or.inr ⟨q, vm₁, B, X₁.warmed, X', hpost, hstep₁ _ fun acts => by rw [doInvoke_state]; exact hsteps⟩
theorem vx_callS (X : Stand p l e R s m args below meth c T locs cells slots) (hexec : p.tables.exec = Jvm.exec) {own : String} {index : Nat} {y : MethodName} {bytes : ByteArray} {maxL : Nat} {ret : Option FieldType}
    (hown : s.vm.findClass own = some m.cls) (hlink : (Cond.methodLink own index y).before args s = true) (hstat : (Cond.static y).before args s = true) (hinit : (Cond.initialized y.cls).before args s = true)
    (hcode : (Cond.code y bytes maxL ret).before args s = true) (hy : y.cls ≠ "java/lang/invoke/MethodHandle" ∧ y.cls ≠ "java/lang/invoke/VarHandle")
    {W9 : Nat} {Pre : Pt → Array Value → Prop} {Post : Pt → Array Value → Option Value → Pt → Prop} {PostX : Pt → Array Value → Addr → Pt → Prop} (hK : vx_Back l R p e below s args y 3 W9 Pre Post PostX)
    {g : JFrame} (hg : g.method = m) (hsize : g.locals.size = c.maxLocals) {argsL rest : List Value} (hlen : ∀ sig, parseMethodDescriptor y.desc = some sig → argsL.length = sig.parameters.length)
    (hstack : g.stack = argsL.reverse ++ rest) (hW : 2 * g.monitorRoom + (rest.map fun v => v.category).sum ≤ W9) (hdg : decode c.code g.pc = .ok (.invokestatic index, 3))
    (hpre : ∀ vm₁, s.WarmedH vm₁ → Pre ⟨T.setVm vm₁, locs, cells, slots⟩ argsL.toArray) :
    (∃ (v : Option Value) (vm₁ : Vm) (B : Pt), s.WarmedH vm₁ ∧ Stand p l e R s m args below meth c B.U B.locs B.cells B.slots ∧ Post ⟨T.setVm vm₁, locs, cells, slots⟩ argsL.toArray v B ∧
      ∀ target, Steps p.tables e below (B.U.setTop { g with pc := g.pc + 3, stack := v.toList ++ rest }) target → Steps p.tables e below (T.setTop g) target) ∨
    (∃ (q : Addr) (vm₁ : Vm) (B : Pt), s.WarmedH vm₁ ∧ Stand p l e R s m args below meth c B.U B.locs B.cells B.slots ∧ PostX ⟨T.setVm vm₁, locs, cells, slots⟩ argsL.toArray q B ∧
      Steps p.tables e below (T.setTop g) ((B.U.setTop { g with stack := rest }).pushFrame (.throwing q))) := by
  obtain ⟨mk, hnamed⟩ := Cond.code_named hcode
  obtain ⟨methM, cM, hmethM, -, -, -, -, -, -, hsigM⟩ := Cond.code_spec hnamed hcode
  have hstatic : methM.isStatic = true := Cond.static_spec hnamed hmethM hstat
  obtain ⟨kP, hkP, -⟩ := className_of_methodNamed hnamed
  have hinitP : kP.init = .initialized := Cond.initialized_spec (findClass_of_methodNamed hnamed) hkP hinit
  obtain ⟨vm₁, X₁, hstep₁⟩ := X.invokestatic hexec hown hlink hnamed hmethM hstatic hkP hinitP hy (g := g) hg (argsL := argsL) (rest := rest) (hlen _ hsigM) hstack hdg
  rcases hK m meth c ⟨T.setVm vm₁, locs, cells, slots⟩ { g with stack := rest } (.invokestatic index) mk argsL.toArray X₁ hg hsize hdg hW (X₁.named hnamed) (hpre vm₁ X₁.warmed) with ⟨v, B, X', hpost, hsteps⟩ | ⟨q, B, X', hpost, hsteps⟩
  · exact Or.inl ⟨v, vm₁, B, X₁.warmed, X', hpost, fun target h => hstep₁ _ fun acts => by rw [doInvoke_state]; exact hsteps.trans h⟩
  · exact Or.inr ⟨q, vm₁, B, X₁.warmed, X', hpost, hstep₁ _ fun acts => by rw [doInvoke_state]; exact hsteps⟩
end Calls
theorem vx_cls {s : State} {T : State} {vm₁ : Vm} {E : String} {k : ClassId} (hW : s.WarmedH vm₁) (h : (T.setVm vm₁).vm.findClass E = some k) : s.vm.findClass E = some k := by
  have h1 : vm₁.findClass E = some k := h
  rw [hW.alike.findClass] at h1
  exact h1
/-- the method's frame g, with q thrown over it -/
def vx_W (p : Program) (l : Launch) (e : Env) (R : Room) (s : State) (m : MethodId) (args : Array Value) (below : List Frame) (meth : Method) (c : Code) (H : Heap) (locs : List Loc) (cells slots : Nat) (Q : State → Prop) (g : JFrame) (q : Addr) : Prop :=
  ∀ T : State, T.heap = H → Stand p l e R s m args below meth c T locs cells slots → ∃ t, Steps p.tables e below ((T.setTop g).pushFrame (.throwing q)) t ∧ Q t
def vx_Run (p : Program) (l : Launch) (e : Env) (R : Room) (s : State) (m : MethodId) (args : Array Value) (below : List Frame) (meth : Method) (c : Code) (H : Heap) (locs : List Loc) (cells slots mc ms : Nat) (g : JFrame) (rest : List Value) (Qa : State → Outcome → State → Prop) (XC : String → State → State → Prop) (free : Addr → Prop) : Prop :=
  ∀ T : State, T.heap = H → Stand p l e R s m args below meth c T locs cells slots →
    (∃ (v : Option Value) (st₀ t T' : State) (L : List Loc), st₀.heap = H ∧ Stand p l e R s m args below meth c T' (locs ++ L) (cells + mc) (slots + ms) ∧ (∀ q ∈ L, free q.base) ∧ T'.heap = t.heap ∧ T'.vm = t.vm ∧ Qa st₀ (.returned v) t ∧
      Goes p e below T g T' { g with pc := g.pc + 3, stack := v.toList ++ rest }) ∨
    (∃ (q : Addr) (st₀ t T' : State) (L : List Loc) (E : String) (ce : Cell), st₀.heap = H ∧ Stand p l e R s m args below meth c T' (locs ++ L) (cells + mc) (slots + ms) ∧ (∀ z ∈ L, free z.base) ∧ T'.heap = t.heap ∧ T'.vm = t.vm ∧ XC E st₀ t ∧ t.heap[q]? = some ce ∧ ce.vm = .none ∧ s.vm.findClass E = some ce.cls ∧
      Steps p.tables e below (T.setTop g) ((T'.setTop { g with stack := rest }).pushFrame (.throwing q)))
def vx_X {S : Type} (px : S → Prop) (B : String → S → State → Prop) (A : Nat → Prop) : String → State → State → Prop := fun E st t => ∃ u : S, px u ∧ B E u t ∧ va_F A st t
section Runs
variable {p : Program} {l : Launch} {e : Env} {R : Room} {s : State} {m : MethodId} {args : Array Value} {below : List Frame} {meth : Method} {c : Code} {H : Heap} {locs : List Loc} {cells slots : Nat}
variable {y : MethodName} {bytes cc : ByteArray} {maxL nL mc ms n index : Nat} {ret : Option FieldType} {ws : List Cond} {rm : Room} {Pc : Array Value → State → Prop} {Qc : Array Value → State → Outcome → State → Prop} {XC : String → State → State → Prop} {free : Addr → Prop} {Ts : List Cond} {own C : String} {b : Addr} {As rest : List Value} {g : JFrame}
theorem vx_callBack (cb : CallB R s args own index y bytes maxL ret ws rm mc ms n) (hM : vx_Met l y ws rm Pc Qc XC mc ms free) (hbl : FrameBlind Pc) : vx_Back l R p e below s args y 3 8 (PreOf R mc ms Pc) (PostOf Qc mc ms free) (vx_Post XC mc ms free) := by
  obtain ⟨hrc, hrs, hfr, hlo, hws, hcw, -, hini, -⟩ := cb
  exact vx_back (bytes := bytes) (maxL := maxL) (ret := ret) hM hbl hrc hrs hfr hlo hws hcw (fun a' U hW => word_at hW (Or.inl (by first | rfl | simp [Cond.onTables, Cond.keeps, Cond.steady])) hini)
theorem vx_runV (S : CallFix p m c cc nL s args Ts own) (hM : vx_Met l y ws rm Pc Qc XC mc ms free) (cw : CallW R s args own C index y bytes maxL ret ws rm mc ms n) (hp : PreV s H C b Pc As)
    (hg : g.method = m) (hn : As.length = n) (hsize : g.locals.size = nL) (hstack : g.stack = As.reverse ++ .ref b :: rest) (hW : 2 * g.monitorRoom + (rest.map fun v => v.category).sum ≤ 8) (hdg : decode cc g.pc = .ok (.invokevirtual index, 3)) (hf : cells + mc ≤ R.cells ∧ slots + ms ≤ R.slots) :
    vx_Run p l e R s m args below meth c H locs cells slots mc ms g rest (Qc (Value.ref b :: As).toArray) XC free := by
  have hK : vx_Back l R p e below s args y 3 8 (PreOf R mc ms Pc) (PostOf Qc mc ms free) (vx_Post XC mc ms free) := vx_callBack cw.1 hM hp.1
  obtain ⟨⟨-, -, -, -, -, -, hcode, -, hy, hlen, hl⟩, hin, hse⟩ := cw
  obtain ⟨hx, hb, hml, ho, -⟩ := S
  obtain ⟨-, ⟨cellB, hcB, hoB, hclB⟩, hPc⟩ := hp
  intro T hT X
  rcases vx_callV X hx (C := C) (bytes := bytes) (maxL := maxL) (ret := ret) ho hl hin hse hcode hy hK (by rw [hT]; exact hcB) hoB hclB hg (hsize.trans hml.symm) (argsL := As) (rest := rest) (fun sig h => hn.trans (hlen sig h)) hstack hW (by rw [hb]; exact hdg)
    (fun vm₁ hW₁ => ⟨hf.1, hf.2, hPc (T.setVm vm₁) hT hW₁⟩) with ⟨v, vm₁, ⟨U', l2, c2, s2⟩, hW₁, X', ⟨g', mk, t, L, e1, e2, hq, h1, hL, h2, h3⟩, st⟩ | ⟨q, vm₁, ⟨U', l2, c2, s2⟩, hW₁, X', ⟨g', mk, t, L, E, ce, e1, e2, hq, hce, hcv, hcl, h1, hL, h2, h3⟩, st⟩
  · dsimp only [Pt.U, Pt.locs, Pt.cells, Pt.slots] at X' e1 e2 h1 h2 h3 st
    subst h1; subst h2; subst h3
    exact Or.inl ⟨v, (T.setVm vm₁).calling g' mk (Value.ref b :: As).toArray, t, U', L, hT, X', hL, e1, e2, hq, st⟩
  · dsimp only [Pt.U, Pt.locs, Pt.cells, Pt.slots] at X' e1 e2 h1 h2 h3 st hcl
    subst h1; subst h2; subst h3
    exact Or.inr ⟨q, (T.setVm vm₁).calling g' mk (Value.ref b :: As).toArray, t, U', L, E, ce, hT, X', hL, e1, e2, hq, hce, hcv, vx_cls hW₁ hcl, st⟩
theorem vx_runS (S : CallFix p m c cc nL s args Ts own) (hM : vx_Met l y ws rm Pc Qc XC mc ms free) (cw : CallB R s args own index y bytes maxL ret ws rm mc ms n ∧ (Cond.static y).before args s = true) (hp : PreS s H Pc As)
    (hg : g.method = m) (hn : As.length = n) (hsize : g.locals.size = nL) (hstack : g.stack = As.reverse ++ rest) (hW : 2 * g.monitorRoom + (rest.map fun v => v.category).sum ≤ 8) (hdg : decode cc g.pc = .ok (.invokestatic index, 3)) (hf : cells + mc ≤ R.cells ∧ slots + ms ≤ R.slots) :
    vx_Run p l e R s m args below meth c H locs cells slots mc ms g rest (Qc As.toArray) XC free := by
  have hK : vx_Back l R p e below s args y 3 8 (PreOf R mc ms Pc) (PostOf Qc mc ms free) (vx_Post XC mc ms free) := vx_callBack cw.1 hM hp.1
  obtain ⟨⟨-, -, -, -, -, -, hcode, hini, hy, hlen, hl⟩, hstt⟩ := cw
  obtain ⟨hx, hb, hml, ho, -⟩ := S
  intro T hT X
  rcases vx_callS X hx (bytes := bytes) (maxL := maxL) (ret := ret) ho hl hstt hini hcode hy hK hg (hsize.trans hml.symm) (argsL := As) (rest := rest) (fun sig h => hn.trans (hlen sig h)) hstack hW (by rw [hb]; exact hdg)
    (fun vm₁ hW₁ => ⟨hf.1, hf.2, hp.2 (T.setVm vm₁) hT hW₁⟩) with ⟨v, vm₁, ⟨U', l2, c2, s2⟩, hW₁, X', ⟨g', mk, t, L, e1, e2, hq, h1, hL, h2, h3⟩, st⟩ | ⟨q, vm₁, ⟨U', l2, c2, s2⟩, hW₁, X', ⟨g', mk, t, L, E, ce, e1, e2, hq, hce, hcv, hcl, h1, hL, h2, h3⟩, st⟩
  · dsimp only [Pt.U, Pt.locs, Pt.cells, Pt.slots] at X' e1 e2 h1 h2 h3 st
    subst h1; subst h2; subst h3
    exact Or.inl ⟨v, (T.setVm vm₁).calling g' mk As.toArray, t, U', L, hT, X', hL, e1, e2, hq, st⟩
  · dsimp only [Pt.U, Pt.locs, Pt.cells, Pt.slots] at X' e1 e2 h1 h2 h3 st hcl
    subst h1; subst h2; subst h3
    exact Or.inr ⟨q, (T.setVm vm₁).calling g' mk As.toArray, t, U', L, E, ce, hT, X', hL, e1, e2, hq, hce, hcv, vx_cls hW₁ hcl, st⟩
end Runs
section Rows
variable {p : Program} {l : Launch} {e : Env} {R : Room} {s : State} {m : MethodId} {args : Array Value} {below : List Frame} {meth : Method} {c : Code} {H : Heap} {locs : List Loc} {cells slots : Nat} {Q : State → Prop}
variable {mc ms : Nat} {free : Addr → Prop} {A0 A1 : Nat → Prop} {H0 : Heap} {a : Array Value} {pc : Nat} {ls : Array Slot} {st0 rest : List Value}
theorem vx_keep {st₀ t T' : State} {L : List Loc} (h0 : st₀.heap = H) (e1 : T'.heap = t.heap) (hS : va_S A0 H0 H locs) (hA : ∀ q, q < H.size → A1 q → A0 q) (hf : ∀ q, free q → A0 q) (hL : ∀ q ∈ L, free q.base) (hF : va_F A1 st₀ t) :
    H.size ≤ T'.heap.size ∧ (∀ q : Nat, q < H.size → ¬ A1 q → T'.heap[q]? = H[q]?) ∧ va_S A0 H0 T'.heap (locs ++ L) := by
  obtain ⟨hz, hk⟩ := hF
  rw [h0] at hz hk
  exact ⟨by rw [e1]; exact hz, fun q h1 h2 => by rw [e1]; exact hk q h1 h2,
    ⟨Nat.le_trans hS.1 (by rw [e1]; exact hz), fun q h1 h2 => by rw [e1, hk q (Nat.lt_of_lt_of_le h1 hS.1) (fun z => h2 (hA q (Nat.lt_of_lt_of_le h1 hS.1) z))]; exact hS.2.1 q h1 h2, fun q hq => by
      rcases List.mem_append.mp hq with h | h
      · exact hS.2.2 q h
      · exact hf _ (hL q h)⟩⟩
theorem vx_calli {S SX : Type} {post : Int32 → S → Prop} {px : SX → Prop} {B : S → State → Prop} {BX : String → SX → State → Prop} {AX : Nat → Prop} (hr : vx_Run p l e R s m args below meth c H locs cells slots mc ms (F0 m pc ls st0) rest (va_Qi post B A1 a) (vx_X px BX AX) free) (hS : va_S A0 H0 H locs) (hA : ∀ q, q < H.size → A1 q → A0 q) (hf : ∀ q, free q → A0 q) (hAX : ∀ q, q < H.size → AX q → A0 q)
    (kx : ∀ (E : String) (ce : Cell) (q9 : Addr) (u : SX) (t : State) (H1 : Heap) (locs1 : List Loc), t.heap = H1 → s.vm.Alike t.vm → px u → BX E u t → H.size ≤ H1.size → (∀ q : Nat, q < H.size → ¬ AX q → H1[q]? = H[q]?) → va_S A0 H0 H1 locs1 → H1[q9]? = some ce → ce.vm = .none → s.vm.findClass E = some ce.cls → vx_W p l e R s m args below meth c H1 locs1 (cells + mc) (slots + ms) Q (F0 m pc ls rest) q9)
    (kk : ∀ (r : Int32) (u : S) (t : State) (H1 : Heap) (locs1 : List Loc), t.heap = H1 → s.vm.Alike t.vm → post r u → B u t → H.size ≤ H1.size → (∀ q : Nat, q < H.size → ¬ A1 q → H1[q]? = H[q]?) → va_S A0 H0 H1 locs1 → W p l e R s m args below meth c H1 locs1 (cells + mc) (slots + ms) Q (F0 m (pc + 3) ls (.int r :: rest))) : W p l e R s m args below meth c H locs cells slots Q (F0 m pc ls st0) := by
  intro T hT X
  rcases hr T hT X with ⟨v, st₀, t, T', L, h0, X', hL, e1, e2, ⟨⟨r, u, hv, hp, hb⟩, hF⟩, st⟩ | ⟨q, st₀, t, T', L, E, ce, h0, X', hL, e1, e2, ⟨u, hp, hb, hF⟩, hce, hcv, hcl, st⟩
  · cases hv
    obtain ⟨k1, k2, k3⟩ := vx_keep h0 e1 hS hA hf hL hF
    obtain ⟨t2, a1, b1⟩ := kk r u t T'.heap (locs ++ L) e1.symm (by rw [← e2]; exact X'.warmed.alike) hp hb k1 k2 k3 T' rfl X'
    exact ⟨t2, st t2 a1, b1⟩
  · obtain ⟨k1, k2, k3⟩ := vx_keep h0 e1 hS hAX hf hL hF
    obtain ⟨t2, a1, b1⟩ := kx E ce q u t T'.heap (locs ++ L) e1.symm (by rw [← e2]; exact X'.warmed.alike) hp hb k1 k2 k3 (by rw [e1]; exact hce) hcv hcl T' rfl X'
    exact ⟨t2, st.trans a1, b1⟩
theorem vx_calll {S SX : Type} {post : Int64 → S → Prop} {px : SX → Prop} {B : S → State → Prop} {BX : String → SX → State → Prop} {AX : Nat → Prop} (hr : vx_Run p l e R s m args below meth c H locs cells slots mc ms (F0 m pc ls st0) rest (va_Ql post B A1 a) (vx_X px BX AX) free) (hS : va_S A0 H0 H locs) (hA : ∀ q, q < H.size → A1 q → A0 q) (hf : ∀ q, free q → A0 q) (hAX : ∀ q, q < H.size → AX q → A0 q)
    (kx : ∀ (E : String) (ce : Cell) (q9 : Addr) (u : SX) (t : State) (H1 : Heap) (locs1 : List Loc), t.heap = H1 → s.vm.Alike t.vm → px u → BX E u t → H.size ≤ H1.size → (∀ q : Nat, q < H.size → ¬ AX q → H1[q]? = H[q]?) → va_S A0 H0 H1 locs1 → H1[q9]? = some ce → ce.vm = .none → s.vm.findClass E = some ce.cls → vx_W p l e R s m args below meth c H1 locs1 (cells + mc) (slots + ms) Q (F0 m pc ls rest) q9)
    (kk : ∀ (r : Int64) (u : S) (t : State) (H1 : Heap) (locs1 : List Loc), t.heap = H1 → s.vm.Alike t.vm → post r u → B u t → H.size ≤ H1.size → (∀ q : Nat, q < H.size → ¬ A1 q → H1[q]? = H[q]?) → va_S A0 H0 H1 locs1 → W p l e R s m args below meth c H1 locs1 (cells + mc) (slots + ms) Q (F0 m (pc + 3) ls (.long r :: rest))) : W p l e R s m args below meth c H locs cells slots Q (F0 m pc ls st0) := by
  intro T hT X
  rcases hr T hT X with ⟨v, st₀, t, T', L, h0, X', hL, e1, e2, ⟨⟨r, u, hv, hp, hb⟩, hF⟩, st⟩ | ⟨q, st₀, t, T', L, E, ce, h0, X', hL, e1, e2, ⟨u, hp, hb, hF⟩, hce, hcv, hcl, st⟩
  · cases hv
    obtain ⟨k1, k2, k3⟩ := vx_keep h0 e1 hS hA hf hL hF
    obtain ⟨t2, a1, b1⟩ := kk r u t T'.heap (locs ++ L) e1.symm (by rw [← e2]; exact X'.warmed.alike) hp hb k1 k2 k3 T' rfl X'
    exact ⟨t2, st t2 a1, b1⟩
  · obtain ⟨k1, k2, k3⟩ := vx_keep h0 e1 hS hAX hf hL hF
    obtain ⟨t2, a1, b1⟩ := kx E ce q u t T'.heap (locs ++ L) e1.symm (by rw [← e2]; exact X'.warmed.alike) hp hb k1 k2 k3 (by rw [e1]; exact hce) hcv hcl T' rfl X'
    exact ⟨t2, st.trans a1, b1⟩
theorem vx_callf {S SX : Type} {post : UInt32 → S → Prop} {px : SX → Prop} {B : S → State → Prop} {BX : String → SX → State → Prop} {AX : Nat → Prop} (hr : vx_Run p l e R s m args below meth c H locs cells slots mc ms (F0 m pc ls st0) rest (va_Qf post B A1 a) (vx_X px BX AX) free) (hS : va_S A0 H0 H locs) (hA : ∀ q, q < H.size → A1 q → A0 q) (hf : ∀ q, free q → A0 q) (hAX : ∀ q, q < H.size → AX q → A0 q)
    (kx : ∀ (E : String) (ce : Cell) (q9 : Addr) (u : SX) (t : State) (H1 : Heap) (locs1 : List Loc), t.heap = H1 → s.vm.Alike t.vm → px u → BX E u t → H.size ≤ H1.size → (∀ q : Nat, q < H.size → ¬ AX q → H1[q]? = H[q]?) → va_S A0 H0 H1 locs1 → H1[q9]? = some ce → ce.vm = .none → s.vm.findClass E = some ce.cls → vx_W p l e R s m args below meth c H1 locs1 (cells + mc) (slots + ms) Q (F0 m pc ls rest) q9)
    (kk : ∀ (r : UInt32) (u : S) (t : State) (H1 : Heap) (locs1 : List Loc), t.heap = H1 → s.vm.Alike t.vm → post r u → B u t → H.size ≤ H1.size → (∀ q : Nat, q < H.size → ¬ A1 q → H1[q]? = H[q]?) → va_S A0 H0 H1 locs1 → W p l e R s m args below meth c H1 locs1 (cells + mc) (slots + ms) Q (F0 m (pc + 3) ls (.float r :: rest))) : W p l e R s m args below meth c H locs cells slots Q (F0 m pc ls st0) := by
  intro T hT X
  rcases hr T hT X with ⟨v, st₀, t, T', L, h0, X', hL, e1, e2, ⟨⟨r, u, hv, hp, hb⟩, hF⟩, st⟩ | ⟨q, st₀, t, T', L, E, ce, h0, X', hL, e1, e2, ⟨u, hp, hb, hF⟩, hce, hcv, hcl, st⟩
  · cases hv
    obtain ⟨k1, k2, k3⟩ := vx_keep h0 e1 hS hA hf hL hF
    obtain ⟨t2, a1, b1⟩ := kk r u t T'.heap (locs ++ L) e1.symm (by rw [← e2]; exact X'.warmed.alike) hp hb k1 k2 k3 T' rfl X'
    exact ⟨t2, st t2 a1, b1⟩
  · obtain ⟨k1, k2, k3⟩ := vx_keep h0 e1 hS hAX hf hL hF
    obtain ⟨t2, a1, b1⟩ := kx E ce q u t T'.heap (locs ++ L) e1.symm (by rw [← e2]; exact X'.warmed.alike) hp hb k1 k2 k3 (by rw [e1]; exact hce) hcv hcl T' rfl X'
    exact ⟨t2, st.trans a1, b1⟩
theorem vx_calld {S SX : Type} {post : UInt64 → S → Prop} {px : SX → Prop} {B : S → State → Prop} {BX : String → SX → State → Prop} {AX : Nat → Prop} (hr : vx_Run p l e R s m args below meth c H locs cells slots mc ms (F0 m pc ls st0) rest (va_Qd post B A1 a) (vx_X px BX AX) free) (hS : va_S A0 H0 H locs) (hA : ∀ q, q < H.size → A1 q → A0 q) (hf : ∀ q, free q → A0 q) (hAX : ∀ q, q < H.size → AX q → A0 q)
    (kx : ∀ (E : String) (ce : Cell) (q9 : Addr) (u : SX) (t : State) (H1 : Heap) (locs1 : List Loc), t.heap = H1 → s.vm.Alike t.vm → px u → BX E u t → H.size ≤ H1.size → (∀ q : Nat, q < H.size → ¬ AX q → H1[q]? = H[q]?) → va_S A0 H0 H1 locs1 → H1[q9]? = some ce → ce.vm = .none → s.vm.findClass E = some ce.cls → vx_W p l e R s m args below meth c H1 locs1 (cells + mc) (slots + ms) Q (F0 m pc ls rest) q9)
    (kk : ∀ (r : UInt64) (u : S) (t : State) (H1 : Heap) (locs1 : List Loc), t.heap = H1 → s.vm.Alike t.vm → post r u → B u t → H.size ≤ H1.size → (∀ q : Nat, q < H.size → ¬ A1 q → H1[q]? = H[q]?) → va_S A0 H0 H1 locs1 → W p l e R s m args below meth c H1 locs1 (cells + mc) (slots + ms) Q (F0 m (pc + 3) ls (.double r :: rest))) : W p l e R s m args below meth c H locs cells slots Q (F0 m pc ls st0) := by
  intro T hT X
  rcases hr T hT X with ⟨v, st₀, t, T', L, h0, X', hL, e1, e2, ⟨⟨r, u, hv, hp, hb⟩, hF⟩, st⟩ | ⟨q, st₀, t, T', L, E, ce, h0, X', hL, e1, e2, ⟨u, hp, hb, hF⟩, hce, hcv, hcl, st⟩
  · cases hv
    obtain ⟨k1, k2, k3⟩ := vx_keep h0 e1 hS hA hf hL hF
    obtain ⟨t2, a1, b1⟩ := kk r u t T'.heap (locs ++ L) e1.symm (by rw [← e2]; exact X'.warmed.alike) hp hb k1 k2 k3 T' rfl X'
    exact ⟨t2, st t2 a1, b1⟩
  · obtain ⟨k1, k2, k3⟩ := vx_keep h0 e1 hS hAX hf hL hF
    obtain ⟨t2, a1, b1⟩ := kx E ce q u t T'.heap (locs ++ L) e1.symm (by rw [← e2]; exact X'.warmed.alike) hp hb k1 k2 k3 (by rw [e1]; exact hce) hcv hcl T' rfl X'
    exact ⟨t2, st.trans a1, b1⟩
theorem vx_callv {S SX : Type} {post : S → Prop} {px : SX → Prop} {B : S → State → Prop} {BX : String → SX → State → Prop} {AX : Nat → Prop} (hr : vx_Run p l e R s m args below meth c H locs cells slots mc ms (F0 m pc ls st0) rest (va_Qv post B A1 a) (vx_X px BX AX) free) (hS : va_S A0 H0 H locs) (hA : ∀ q, q < H.size → A1 q → A0 q) (hf : ∀ q, free q → A0 q) (hAX : ∀ q, q < H.size → AX q → A0 q)
    (kx : ∀ (E : String) (ce : Cell) (q9 : Addr) (u : SX) (t : State) (H1 : Heap) (locs1 : List Loc), t.heap = H1 → s.vm.Alike t.vm → px u → BX E u t → H.size ≤ H1.size → (∀ q : Nat, q < H.size → ¬ AX q → H1[q]? = H[q]?) → va_S A0 H0 H1 locs1 → H1[q9]? = some ce → ce.vm = .none → s.vm.findClass E = some ce.cls → vx_W p l e R s m args below meth c H1 locs1 (cells + mc) (slots + ms) Q (F0 m pc ls rest) q9)
    (kk : ∀ (u : S) (t : State) (H1 : Heap) (locs1 : List Loc), t.heap = H1 → s.vm.Alike t.vm → post u → B u t → H.size ≤ H1.size → (∀ q : Nat, q < H.size → ¬ A1 q → H1[q]? = H[q]?) → va_S A0 H0 H1 locs1 → W p l e R s m args below meth c H1 locs1 (cells + mc) (slots + ms) Q (F0 m (pc + 3) ls (rest))) : W p l e R s m args below meth c H locs cells slots Q (F0 m pc ls st0) := by
  intro T hT X
  rcases hr T hT X with ⟨v, st₀, t, T', L, h0, X', hL, e1, e2, ⟨⟨u, hv, hp, hb⟩, hF⟩, st⟩ | ⟨q, st₀, t, T', L, E, ce, h0, X', hL, e1, e2, ⟨u, hp, hb, hF⟩, hce, hcv, hcl, st⟩
  · cases hv
    obtain ⟨k1, k2, k3⟩ := vx_keep h0 e1 hS hA hf hL hF
    obtain ⟨t2, a1, b1⟩ := kk u t T'.heap (locs ++ L) e1.symm (by rw [← e2]; exact X'.warmed.alike) hp hb k1 k2 k3 T' rfl X'
    exact ⟨t2, st t2 a1, b1⟩
  · obtain ⟨k1, k2, k3⟩ := vx_keep h0 e1 hS hAX hf hL hF
    obtain ⟨t2, a1, b1⟩ := kx E ce q u t T'.heap (locs ++ L) e1.symm (by rw [← e2]; exact X'.warmed.alike) hp hb k1 k2 k3 (by rw [e1]; exact hce) hcv hcl T' rfl X'
    exact ⟨t2, st.trans a1, b1⟩
/-- caught by the row x of this method's table; the rows ahead don't take it -/
theorem vx_catch {own name : String} {E : String} {ce : Cell} {q : Addr} (hown : s.vm.findClass own = some m.cls) (pre : List ExceptionTableEntry) (x : ExceptionTableEntry) (suf : List ExceptionTableEntry) (hsplit : c.exceptionTable.toList = pre ++ x :: suf)
    (hpass : ∀ z ∈ pre, covers z pc = false ∨ (z.catchType ≠ 0 ∧ ∃ nm : String, (Cond.classLink own z.catchType nm).before args s = true ∧ va_Nc E nm s)) (hx : covers x pc = true) (h0 : x.catchType ≠ 0)
    (hlink : (Cond.classLink own x.catchType name).before args s = true) (hcast : (Cond.castable E name).before args s = true) (hcell : H[q]? = some ce) (hv : ce.vm = .none) (hcl : s.vm.findClass E = some ce.cls)
    (kk : W p l e R s m args below meth c H locs cells slots Q (F0 m x.handlerPc ls [.ref q])) : vx_W p l e R s m args below meth c H locs cells slots Q (F0 m pc ls rest) q := by
  intro T hT X
  have hpl : e.platform.magicAccessors = ({} : Platform).magicAccessors := by rw [X.admits.platform]
  obtain ⟨c3, c4, hc3, hc4, hasg⟩ := Cond.castable_spec hcast
  cases Option.some.inj (hc3.symm.trans hcl)
  obtain ⟨c5, hc5, hcl5⟩ := Cond.classLink_spec hown hlink e.platform hpl
  cases Option.some.inj (hc4.symm.trans hc5)
  obtain ⟨vm', X', st⟩ := X.thenCaughtThrough q (g := F0 m pc ls rest) rfl (Steps.refl _) (by rw [hT]; exact hcell) (by rw [hv]; rfl) (by obtain ⟨k9, h9, -⟩ := Vm.findClass_spec hcl; exact ⟨k9, h9⟩) pre x suf hsplit
    (fun z hz => by
      rcases hpass z hz with h | ⟨hz0, nm, hl1, hn1⟩
      · exact Or.inl h
      · obtain ⟨c6, hc6, hcl6⟩ := Cond.classLink_spec hown hl1 e.platform hpl
        obtain ⟨a8, b8, h1, h2, h3⟩ := hn1
        cases Option.some.inj (h1.symm.trans hcl)
        cases Option.some.inj (h2.symm.trans hc6)
        exact Or.inr ⟨hz0, _, hcl6, h3⟩) hx (Or.inr ⟨h0, c4, hcl5, hasg⟩)
  obtain ⟨t, a1, b1⟩ := kk (T.setVm vm') hT X'
  exact ⟨t, st.trans a1, b1⟩
end Rows
section Ends
variable {p : Program} {l : Launch} {e : Env} {R : Room} {s : State} {m : MethodId} {args : Array Value} {below : List Frame} {meth : Method} {c : Code} {H : Heap} {locs : List Loc} {cells slots : Nat} {Q : State → Prop}
variable {mc ms : Nat} {free : Addr → Prop} {A0 A1 : Nat → Prop} {H0 : Heap} {a : Array Value} {ls : Array Slot} {st0 rest : List Value}
variable {Qc : Array Value → State → Outcome → State → Prop} {XC : String → State → State → Prop}
/-- what a body that may throw owes at its end -/
def vx_MQ (below : List Frame) (Qc : Array Value → State → Outcome → State → Prop) (XC : String → State → State → Prop) (a : Array Value) (s : State) (mc ms : Nat) (free : Addr → Prop) : State → Prop := fun t =>
  ∃ o, t.status = .running ∧ Ended t below o ∧ vx_Q Qc XC mc ms free a s o t
theorem vx_ret {g : JFrame} {mc ms : Nat} (k : W p l e R s m args below meth c H locs cells slots (MQ below Qc args s mc ms free) g) : W p l e R s m args below meth c H locs cells slots (vx_MQ below Qc XC args s mc ms free) g := by
  intro T hT X
  obtain ⟨t, a1, o, b1, b2, b3, b4⟩ := k T hT X
  exact ⟨t, a1, o, b1, b2, Or.inl ⟨b3, b4⟩⟩
/-- not caught here: it goes on to the caller -/
theorem vx_widen {g : JFrame} {q : Addr} {k n : Nat} (h1 : cells ≤ k) (h2 : slots ≤ n) (kk : vx_W p l e R s m args below meth c H locs k n Q g q) : vx_W p l e R s m args below meth c H locs cells slots Q g q := fun T hT X => kk T hT (stand_widen X h1 h2)
theorem vx_out {pc : Nat} {E : String} {ce : Cell} {q : Addr} {mc ms : Nat} (hout : ∀ x ∈ c.exceptionTable.toList, covers x pc = false) (hlocks : meth.locks = false) (hcell : H[q]? = some ce) (hv : ce.vm = .none) (hcl : s.vm.findClass E = some ce.cls)
    (hx : ∀ t : State, t.heap = H → s.vm.Alike t.vm → XC E s t) (hf : ∀ z ∈ locs, free z.base) (hc : cells ≤ mc) (hs : slots ≤ ms) :
    vx_W p l e R s m args below meth c H locs cells slots (vx_MQ below Qc XC args s mc ms free) (F0 m pc ls rest) q := by
  intro T hT X
  obtain ⟨st1, hrun, hend, hW, hsm⟩ := X.leaveThrown q (g := F0 m pc ls rest) rfl rfl rfl hout hlocks
  have hcell9 : (T.setFrames (.throwing q :: below)).heap[q]? = some ce := by
    show T.heap[q]? = some ce
    rw [hT]; exact hcell
  exact ⟨_, st1, .threw q, hrun, hend, Or.inr ⟨q, rfl, E, ce, locs, hx _ hT hW.alike, hcell9, hv, hcl, hW, hsm.mono hc hs, hf⟩⟩
theorem vx_frame {U : State} {k n : Nat} (h : s.sameButNew ({ U with vm := s.vm } : State) locs k n) : s.heap.size ≤ U.heap.size ∧ ∀ q : Nat, q < s.heap.size → (∀ z ∈ locs, z.base ≠ q) → U.heap[q]? = s.heap[q]? := by
  obtain ⟨-, h2, -, -, -, h6⟩ := h
  refine ⟨h2, fun q hq hz => ?_⟩
  obtain ⟨c9, e1, e2, e3, e4⟩ := h6 q _ (Array.getElem?_eq_getElem hq)
  have hs : c9.slots = (s.heap[q]).slots := Array.ext_getElem? fun i => e4 i fun hm => hz _ hm rfl
  have h9 : c9 = s.heap[q] := by
    rw [hs] at e2
    exact e2
  have e5 : U.heap[q]? = some c9 := e1
  rw [e5, h9, Array.getElem?_eq_getElem hq]
/-- the words of a throw but the four that speak of the heap -/
def vx_no (w : Cond) : Bool := decide (w ≠ .isRef (.static Bundle.tN "UNASSIGNED_STACK" Bundle.steD)) && decide (w ≠ .isRef (.static Bundle.tN "SUPPRESSED_SENTINEL" Bundle.listD)) && decide (w ≠ .laysStatic Bundle.tN "UNASSIGNED_STACK" Bundle.steD) && decide (w ≠ .laysStatic Bundle.tN "SUPPRESSED_SENTINEL" Bundle.listD)
def vx_at0 (own : String) (ic : Nat) (X : String) (names : List String) : List Cond := (Bundle.ownAtoms0 own ic X names).filter vx_no
def vx_atS (own : String) (ic : Nat) (X : String) (names : List String) : List Cond := (Bundle.ownAtoms own ic X names).filter vx_no
/-- a word that the tables alone decide, or a good one -/
def vx_ot (w : Cond) : Bool := w.onTables || goodWord w
theorem vx_ot_at {args a' : Array Value} {s U : State} {w : Cond} (hW : s.WarmedH U.vm) (hvm : s.vm = U.vm) (hg : vx_ot w = true) (h : w.before args s = true) : w.before a' U = true := by
  simp only [vx_ot, Bool.or_eq_true] at hg
  rcases hg with hg | hg
  · exact va_tabs hg hvm h
  · exact word_at hW (good_of_word hg) h
/-- a list's words: the good ones out of the method's own list, the others by premises of their own -/
theorem vx_hat {args : Array Value} {s : State} {L B : List Cond} (h1 : ∀ w ∈ L.filter goodWord, w.before args s = true) (h2 : ∀ w ∈ L.filter (fun w => !goodWord w), w ∈ B) (h3 : ∀ w ∈ B, w.before args s = true) : ∀ w ∈ L, w.before args s = true := by
  intro w hw
  by_cases g : goodWord w = true
  · exact h1 w (List.mem_filter.mpr ⟨hw, g⟩)
  · refine h3 w (h2 w (List.mem_filter.mpr ⟨hw, ?_⟩))
    show (!goodWord w) = true
    cases hgw : goodWord w
    · rfl
    · exact absurd hgw g
theorem vx_c {args : Array Value} {s : State} {w : Cond} {B : List Cond} (h : w.before args s = true) (t : ∀ w ∈ B, w.before args s = true) : ∀ w' ∈ w :: B, w'.before args s = true := fun w' h' => (List.mem_cons.mp h').elim (fun e => by rw [e]; exact h) (t w')
theorem vx_n {args : Array Value} {s : State} : ∀ w ∈ ([] : List Cond), w.before args s = true := fun _ h => nomatch h
theorem vx_own {args : Array Value} {s : State} {L : List Cond} (h1 : ∀ w ∈ L.filter vx_no, w.before args s = true)
    (hU : (Cond.isRef (.static Bundle.tN "UNASSIGNED_STACK" Bundle.steD)).before args s = true) (hN : (Cond.isRef (.static Bundle.tN "SUPPRESSED_SENTINEL" Bundle.listD)).before args s = true)
    (lU : (Cond.laysStatic Bundle.tN "UNASSIGNED_STACK" Bundle.steD).before args s = true) (lN : (Cond.laysStatic Bundle.tN "SUPPRESSED_SENTINEL" Bundle.listD).before args s = true) : ∀ w ∈ L, w.before args s = true := by
  intro w hw
  by_cases e1 : w = .isRef (.static Bundle.tN "UNASSIGNED_STACK" Bundle.steD)
  · rw [e1]; exact hU
  · by_cases e2 : w = .isRef (.static Bundle.tN "SUPPRESSED_SENTINEL" Bundle.listD)
    · rw [e2]; exact hN
    · by_cases e3 : w = .laysStatic Bundle.tN "UNASSIGNED_STACK" Bundle.steD
      · rw [e3]; exact lU
      · by_cases e4 : w = .laysStatic Bundle.tN "SUPPRESSED_SENTINEL" Bundle.listD
        · rw [e4]; exact lN
        · exact h1 w (List.mem_filter.mpr ⟨hw, by unfold vx_no; rw [decide_eq_true e1, decide_eq_true e2, decide_eq_true e3, decide_eq_true e4]; rfl⟩)
/-- where a static field lies, its class's statics cell in H -/
def vx_L (C n d : String) (A : Nat → Prop) (U : State) (H : Heap) : Prop := ∃ (c : ClassId) (k : Class) (i : Nat) (f : Field) (a : Nat) (cell : Cell), U.vm.findClass C = some c ∧ U.fieldFound? C n d = some (c, k, i, f) ∧ f.isStatic = true ∧ k.statics = some a ∧ H[a]? = some cell ∧ cell.vm.isStatics = true ∧ cell.cls = c ∧ f.slot < cell.slots.size ∧ k.staticTypes[f.slot]? = some f.type ∧ ¬ A a
theorem vx_L.moved {C n d : String} {A : Nat → Prop} {u U : State} {H : Heap} (hvm : u.vm.Alike U.vm) (h : vx_L C n d A u H) : vx_L C n d A U H := by
  obtain ⟨c, k, i, f, a, cell, h1, h2, h3, h4, h5, h6, h7, h8, h9, h10⟩ := h
  obtain ⟨k', hi', he⟩ := State.fieldFound?_setVm hvm h2
  exact ⟨c, k', i, f, a, cell, by rw [hvm.findClass]; exact h1, hi', h3, by rw [he]; exact h4, h5, h6, h7, h8, by rw [he]; exact h9, h10⟩
theorem vx_L.kept {C n d : String} {A : Nat → Prop} {U : State} {H H1 : Heap} (h : vx_L C n d A U H) (hq : ∀ a : Nat, a < H.size → ¬ A a → H1[a]? = H[a]?) : vx_L C n d A U H1 := by
  obtain ⟨c, k, i, f, a, cell, h1, h2, h3, h4, h5, h6, h7, h8, h9, h10⟩ := h
  exact ⟨c, k, i, f, a, cell, h1, h2, h3, h4, by rw [hq a (Array.getElem?_eq_some_iff.mp h5).1 h10]; exact h5, h6, h7, h8, h9, h10⟩
theorem vx_L.narrow {C n d : String} {A B : Nat → Prop} {U : State} {H : Heap} (h : vx_L C n d A U H) (hAB : ∀ q, B q → A q) : vx_L C n d B U H := by
  obtain ⟨c, k, i, f, a, cell, h1, h2, h3, h4, h5, h6, h7, h8, h9, h10⟩ := h
  exact ⟨c, k, i, f, a, cell, h1, h2, h3, h4, h5, h6, h7, h8, h9, fun z => h10 (hAB _ z)⟩
theorem vx_L.word {C n d : String} {A : Nat → Prop} {s : State} {args : Array Value} (h : vx_L C n d A s s.heap) : (Cond.laysStatic C n d).before args s = true := by
  obtain ⟨c, k, i, f, a, cell, h1, h2, h3, h4, h5, h6, h7, h8, h9, -⟩ := h
  show (Cond.laysStatic C n d).holds args s none s [] = true
  exact Cond.laysStatic_of h1 h2 h3 h4 h5 h6 h7 h8 h9
/-- .. and what it holds: null or some reference -/
def vx_Zq (C n d : String) (A : Nat → Prop) (U : State) (H : Heap) : Prop := va_Zq C n d A U H ∧ vx_L C n d A U H
theorem vx_Zq.moved {C n d : String} {A : Nat → Prop} {u U : State} {H : Heap} (hvm : u.vm.Alike U.vm) (h : vx_Zq C n d A u H) : vx_Zq C n d A U H := ⟨va_Zq.moved hvm h.1, vx_L.moved hvm h.2⟩
theorem vx_Zq.kept {C n d : String} {A : Nat → Prop} {U : State} {H H1 : Heap} (h : vx_Zq C n d A U H) (hq : ∀ a : Nat, a < H.size → ¬ A a → H1[a]? = H[a]?) : vx_Zq C n d A U H1 := ⟨va_Zq.kept h.1 hq, vx_L.kept h.2 hq⟩
theorem vx_Zq.narrow {C n d : String} {A B : Nat → Prop} {U : State} {H : Heap} (h : vx_Zq C n d A U H) (hAB : ∀ q, B q → A q) : vx_Zq C n d B U H := ⟨va_Zq.narrow h.1 hAB, vx_L.narrow h.2 hAB⟩
theorem vx_Zqof {args : Array Value} {s : State} {C n d : String} {A : Nat → Prop} (hl : (Cond.laysStatic C n d).before args s = true) (hini : (Cond.initialized C).before args s = true) (h : (Cond.isRef (.static C n d)).before args s = true) (hA : ∀ a : Nat, a < s.heap.size → ¬ A a) : vx_Zq C n d A s s.heap := by
  refine ⟨va_Zqof hl hini h hA, ?_⟩
  obtain ⟨c, k, i, f, a, cell, h1, h2, h3, h4, h5, h6, h7, h8, h9⟩ := Cond.laysStatic_spec hl
  exact ⟨c, k, i, f, a, cell, h1, h2, h3, h4, h5, h6, h7, h8, h9, hA a (Array.getElem?_eq_some_iff.mp h5).1⟩
theorem vx_isRef {C n d : String} {v : Value} {A : Nat → Prop} {s : State} {args : Array Value} (h : va_Z C n d v A s s.heap) (hv : v.isRef = true) : (Cond.isRef (.static C n d)).before args s = true := by
  obtain ⟨cf, kf, fi, f, a, cell, h1, h2, h3, h4, h5, h6, h7, -⟩ := h
  have he : (Term.static C n d).eval args s none [] s = some v := by
    simp [Term.eval, State.fieldNamed?, h1, h2, h4, h5, h6, h7]
  simp only [Cond.before, Cond.holds, Cond.value, he]
  cases v <;> simp_all [Value.isRef]
theorem vx_isRefq {C n d : String} {A : Nat → Prop} {s : State} {args : Array Value} (h : va_Zq C n d A s s.heap) : (Cond.isRef (.static C n d)).before args s = true := by
  rcases h with h | ⟨t, h⟩
  · exact vx_isRef h rfl
  · exact vx_isRef h rfl
/-- the same frame, seen from here: as if the method were called anew in this heap -/
theorem vx_rebase {T : State} (X : Stand p l e R s m args below meth c T locs cells slots) {R' : Room} (hf : R'.frames ≤ R.frames) (hl : R'.locals ≤ R.locals) (hc : cells + R'.cells ≤ R.cells) (hs : slots + R'.slots ≤ R.slots) :
    Stand p l e R' ((T.setVm s.vm).setFrames (.invoking m args :: below)) m args below meth c T [] 0 0 := by
  have htop : (T.setVm s.vm).topJava?.isSome := X.here.top
  have hF : ((T.setVm s.vm).setFrames (.invoking m args :: below)).frames = .invoking m args :: below := State.frames_setFrames _ (State.cur_lt_of_top htop)
  obtain ⟨g₀, hg0⟩ := Option.isSome_iff_exists.mp htop
  obtain ⟨r, hr⟩ := State.topJava?_eq_some.mp hg0
  have hl9 : e.platform.stackLimits (T.setVm s.vm).me = e.platform.stackLimits s.me := X.limits
  have hb9 : (T.setVm s.vm).me.stackBytes = s.me.stackBytes := X.bytes
  refine ⟨X.admits, X.cas, X.clock, hF, ?_, X.hears, X.method, X.code, X.here, X.tail, X.warmed, ?_, ?_, ?_⟩
  · have h := X.room
    have hU : ((T.setVm s.vm).setFrames (.invoking m args :: below)).localsInUse = s.localsInUse := by
      rw [State.localsInUse_invoking hF (meth := meth) (c := c) X.method X.code, State.localsInUse_invoking X.frames X.method X.code]
    simp only [State.hasRoom, Bool.and_eq_true, decide_eq_true_eq] at h ⊢
    obtain ⟨⟨⟨⟨h1, h2, h3, h4, h5, h6⟩, h7⟩, h8⟩, h9⟩ := h
    rw [X.frames, List.length_cons] at h2 h3
    have q1 := X.heapSize
    have q2 := X.used
    simp only [hF, hU, List.length_cons, State.stackLimits_setFrames, State.stackBytes_setFrames, hl9, hb9]
    refine ⟨⟨⟨⟨by omega, by omega, by omega, by omega, by omega, h6⟩, ?_⟩, ?_⟩, X.book⟩
    · show T.heap.size + R'.cells ≤ e.platform.maxCells
      omega
    · show T.slotsUsed + R'.slots ≤ e.platform.maxSlots
      omega
  · rw [State.stackLimits_setFrames]; rfl
  · rw [State.stackBytes_setFrames]; rfl
  · refine ⟨?_, Nat.le_refl _, Nat.le_refl _, ?_, ?_, fun a c9 h9 => ⟨c9, h9, rfl, rfl, fun _ _ => rfl⟩⟩
    · obtain ⟨t, ht, -⟩ := State.frames_cons hr
      show T.setVm s.vm = { ((T.setVm s.vm).setFrames (.invoking m args :: below)).setFrames (T.setVm s.vm).frames with heap := T.heap, slotsUsed := T.slotsUsed }
      rw [State.setFrames_setFrames, State.setFrames_self ht]
      rfl
    · show T.slotsUsed = T.slotsUsed + ((T.heap.toList.drop T.heap.size).map (·.slots.size)).sum
      rw [List.drop_eq_nil_of_le (Nat.le_of_eq Array.length_toList)]
      rfl
    · show ((T.heap.toList.drop T.heap.size).map (·.slots.size)).sum ≤ 0
      rw [List.drop_eq_nil_of_le (Nat.le_of_eq Array.length_toList)]
      exact Nat.le_refl _
/-- 'throw new E()': new; dup; invokespecial; athrow -/
theorem vx_throw0 {cc : ByteArray} {pc : Nat} (hexec : p.tables.exec = Jvm.exec) (hb : c.code = cc) (hl : l.stackTraces = false) {own cls : String} {names : List String} {ik ic mc ms : Nat} {A : Nat → Prop}
    (hown : s.vm.findClass own = some m.cls) (hcls : Bundle.fit cls = true) (hnames : ∀ n ∈ names, Bundle.fit n = true)
    (hk : (Cond.classLink own ik cls).before args s = true) (hini : (Cond.initialized cls).before args s = true) (hat : ∀ w ∈ vx_at0 own ic cls names, w.before args s = true)
    (hgood : ∀ w ∈ Cond.classLink own ik cls :: Cond.initialized cls :: vx_at0 own ic cls names, vx_ot w = true)
    (hU : vx_Zq Bundle.tN "UNASSIGNED_STACK" Bundle.steD A s s.heap) (hN : vx_Zq Bundle.tN "SUPPRESSED_SENTINEL" Bundle.listD A s s.heap) (hS : va_S A s.heap H locs) (hsize : ls.size = c.maxLocals)
    (d0 : decode cc pc = .ok (.new ik, 3)) (d3 : decode cc (pc + 3) = .ok (.dup, 1)) (d4 : decode cc (pc + 4) = .ok (.invokespecial ic, 3)) (d7 : decode cc (pc + 7) = .ok (.athrow, 1))
    (hout : ∀ x ∈ c.exceptionTable.toList, covers x (pc + 7) = false)
    (hRframes : names.length + 3 < R.frames) (hRlocals : (rest.map fun v => v.category).sum + (13 * (names.length + 1) + 42) ≤ R.locals) (hRcells : cells + 1 ≤ R.cells) (hRslots : slots + 6 ≤ R.slots) (hlocks : meth.locks = false)
    (hx : ∀ t : State, s.vm.Alike t.vm → H.size ≤ t.heap.size → (∀ q : Nat, q < H.size → t.heap[q]? = H[q]?) → XC cls s t)
    (hf : ∀ z ∈ locs, free z.base) (hc : cells + 1 ≤ mc) (hs : slots + 6 ≤ ms) :
    W p l e R s m args below meth c H locs cells slots (vx_MQ below Qc XC args s mc ms free) (F0 m pc ls rest) := by
  intro T hT X
  have htr : e.platform.stackTraces = false := (show e.platform.stackTraces = l.stackTraces by rw [X.admits.platform]).trans hl
  have Y := vx_rebase X (R' := { frames := R.frames, locals := R.locals, cells := 1, slots := 6 }) (Nat.le_refl _) (Nat.le_refl _) hRcells hRslots
  obtain ⟨s', hA⟩ : ∃ z, z = (T.setVm s.vm).setFrames (.invoking m args :: below) := ⟨_, rfl⟩
  rw [← hA] at Y
  have hvm : s'.vm = s.vm := by rw [hA]; rfl
  have hhp : s'.heap = H := by rw [hA]; exact hT
  have hW0 : s.WarmedH s'.vm := by rw [hvm]; exact State.WarmedH.refl s
  have hat' : ∀ w ∈ vx_at0 own ic cls names, w.before args s' = true := fun w hw => vx_ot_at hW0 hvm.symm (hgood w (List.mem_cons_of_mem _ (List.mem_cons_of_mem _ hw))) (hat w hw)
  have hk' : (Cond.classLink own ik cls).before args s' = true := vx_ot_at hW0 hvm.symm (hgood _ List.mem_cons_self) hk
  have hini' : (Cond.initialized cls).before args s' = true := vx_ot_at hW0 hvm.symm (hgood _ (List.mem_cons_of_mem _ List.mem_cons_self)) hini
  have hU' : vx_Zq Bundle.tN "UNASSIGNED_STACK" Bundle.steD A s' s'.heap := by rw [hhp]; exact vx_Zq.moved hW0.alike (hU.kept hS.2.1)
  have hN' : vx_Zq Bundle.tN "SUPPRESSED_SENTINEL" Bundle.listD A s' s'.heap := by rw [hhp]; exact vx_Zq.moved hW0.alike (hN.kept hS.2.1)
  have h : ∀ w ∈ Bundle.ownAtoms0 own ic cls names, w.before args s' = true := vx_own hat' (vx_isRefq hU'.1) (vx_isRefq hN'.1) hU'.2.word hN'.2.word
  have hown' : s'.vm.findClass own = some m.cls := by rw [hvm]; exact hown
  have hins : (Cond.instantiable cls 6).before args s' = true := h _ (by simp [Bundle.ownAtoms0])
  obtain ⟨vm₁, cX, kX, hfX, hkX, -, -, X₁, st1⟩ := Y.newCold hexec (own := own) (C := cls) (index := ik) (n := 6) hown' hk' hins hini'
    (g := F0 m pc ls rest) rfl (by rw [hb]; exact d0) (Nat.le_refl _) (Nat.le_refl _)
  generalize hT1 : (T.setVm vm₁).pushCell { cls := cX, slots := kX.instanceTypes.map defaultValue, vm := .none } = T1 at X₁ st1
  have hcat : (Value.ref T.heap.size).category = 1 := rfl
  have hcellA : T1.heap[T.heap.size]? = some (freshCell cX kX) := by rw [← hT1]; exact State.heap_pushCell_size _ _
  have d3' : decode c.code (pc + 3) = .ok (.dup, 1) := by rw [hb]; exact d3
  obtain ⟨U, hsteps, hrun, hend, hW, hsame, ce, hce, hO⟩ := X₁.ctorThrow0 hexec htr (own := own) (cls := cls) (names := names) (ic := ic) hown' hcls hnames h (fun x hx => nomatch hx) hfX hkX hcellA (by rw [hhp, hT]; exact Nat.le_refl _)
    (g := { method := m, pc := pc + 4, locals := ls, stack := .ref T.heap.size :: .ref T.heap.size :: rest, locked := none }) rfl hsize rfl rfl (rest := rest) rfl
    (by rw [hb]; exact d4) (by rw [hb]; exact d7) hout hRframes (by simp only [List.map_cons, List.sum_cons, hcat]; omega) hlocks
  obtain ⟨f1, f2⟩ := vx_frame hsame
  rw [hhp] at f1 f2
  have hWs : s.WarmedH U.vm := State.WarmedH.trans hW0 hW
  have hcl : s.vm.findClass cls = some ce.cls := by
    have h9 := hO.cls
    rw [hvm] at h9
    exact h9
  have hall : s.sameButNew ({ U with vm := s.vm } : State) locs mc ms := by
    subst hA
    obtain ⟨e1, e2⟩ := hsame
    rw [State.setFrames_setFrames] at e1
    have h2 : (T.setVm s.vm).sameButNew ({ U with vm := s.vm } : State) [] (0 + 1) (0 + 6) := ⟨e1, e2⟩
    have h3 := X.same.trans h2
    rw [List.append_nil] at h3
    exact h3.mono hc hs
  refine ⟨U, ?_, .threw T.heap.size, hrun, hend, Or.inr ⟨T.heap.size, rfl, cls, ce, locs, hx U hWs.alike f1 (fun q hq => f2 q hq (fun z hz => nomatch hz)), hce, hO.vm, hcl, hWs, hall, hf⟩⟩
  refine st1 _ ?_
  show Steps p.tables e below (T1.setTop { method := m, pc := pc + 3, locals := ls, stack := .ref T.heap.size :: rest, locked := none }) _
  jvm_step X₁.here [X₁.here.top, hexec, d3', Value.category]
  exact hsteps
/-- 'throw new E("text")': new; dup; ldc; invokespecial; athrow -/
theorem vx_throwS {cc : ByteArray} {pc : Nat} (hexec : p.tables.exec = Jvm.exec) (hb : c.code = cc) (hl : l.stackTraces = false) {own cls text : String} {names : List String} {ik is ic mc ms sa : Nat} {A : Nat → Prop}
    (hown : s.vm.findClass own = some m.cls) (hcls : Bundle.fit cls = true) (hnames : ∀ n ∈ names, Bundle.fit n = true)
    (hk : (Cond.classLink own ik cls).before args s = true) (hini : (Cond.initialized cls).before args s = true) (hstr : vk_R own is text sa s) (hat : ∀ w ∈ vx_atS own ic cls names, w.before args s = true)
    (hgood : ∀ w ∈ Cond.classLink own ik cls :: Cond.initialized cls :: vx_atS own ic cls names, vx_ot w = true)
    (hU : vx_Zq Bundle.tN "UNASSIGNED_STACK" Bundle.steD A s s.heap) (hN : vx_Zq Bundle.tN "SUPPRESSED_SENTINEL" Bundle.listD A s s.heap) (hS : va_S A s.heap H locs) (hsize : ls.size = c.maxLocals)
    (d0 : decode cc pc = .ok (.new ik, 3)) (d3 : decode cc (pc + 3) = .ok (.dup, 1)) (d4 : decode cc (pc + 4) = .ok (.ldc is, 2)) (d6 : decode cc (pc + 6) = .ok (.invokespecial ic, 3)) (d9 : decode cc (pc + 9) = .ok (.athrow, 1))
    (hout : ∀ x ∈ c.exceptionTable.toList, covers x (pc + 9) = false)
    (hRframes : names.length + 3 < R.frames) (hRlocals : (rest.map fun v => v.category).sum + (13 * (names.length + 1) + 43) ≤ R.locals) (hRcells : cells + 1 ≤ R.cells) (hRslots : slots + 6 ≤ R.slots) (hlocks : meth.locks = false)
    (hx : ∀ t : State, s.vm.Alike t.vm → H.size ≤ t.heap.size → (∀ q : Nat, q < H.size → t.heap[q]? = H[q]?) → XC cls s t)
    (hf : ∀ z ∈ locs, free z.base) (hc : cells + 1 ≤ mc) (hs : slots + 6 ≤ ms) :
    W p l e R s m args below meth c H locs cells slots (vx_MQ below Qc XC args s mc ms free) (F0 m pc ls rest) := by
  intro T hT X
  have htr : e.platform.stackTraces = false := (show e.platform.stackTraces = l.stackTraces by rw [X.admits.platform]).trans hl
  have Y := vx_rebase X (R' := { frames := R.frames, locals := R.locals, cells := 1, slots := 6 }) (Nat.le_refl _) (Nat.le_refl _) hRcells hRslots
  obtain ⟨s', hA⟩ : ∃ z, z = (T.setVm s.vm).setFrames (.invoking m args :: below) := ⟨_, rfl⟩
  rw [← hA] at Y
  have hvm : s'.vm = s.vm := by rw [hA]; rfl
  have hhp : s'.heap = H := by rw [hA]; exact hT
  have hW0 : s.WarmedH s'.vm := by rw [hvm]; exact State.WarmedH.refl s
  have hat' : ∀ w ∈ vx_atS own ic cls names, w.before args s' = true := fun w hw => vx_ot_at hW0 hvm.symm (hgood w (List.mem_cons_of_mem _ (List.mem_cons_of_mem _ hw))) (hat w hw)
  have hk' : (Cond.classLink own ik cls).before args s' = true := vx_ot_at hW0 hvm.symm (hgood _ List.mem_cons_self) hk
  have hini' : (Cond.initialized cls).before args s' = true := vx_ot_at hW0 hvm.symm (hgood _ (List.mem_cons_of_mem _ List.mem_cons_self)) hini
  have hU' : vx_Zq Bundle.tN "UNASSIGNED_STACK" Bundle.steD A s' s'.heap := by rw [hhp]; exact vx_Zq.moved hW0.alike (hU.kept hS.2.1)
  have hN' : vx_Zq Bundle.tN "SUPPRESSED_SENTINEL" Bundle.listD A s' s'.heap := by rw [hhp]; exact vx_Zq.moved hW0.alike (hN.kept hS.2.1)
  have h : ∀ w ∈ Bundle.ownAtoms own ic cls names, w.before args s' = true := vx_own hat' (vx_isRefq hU'.1) (vx_isRefq hN'.1) hU'.2.word hN'.2.word
  have hown' : s'.vm.findClass own = some m.cls := by rw [hvm]; exact hown
  have hins : (Cond.instantiable cls 6).before args s' = true := h _ (by simp [Bundle.ownAtoms])
  obtain ⟨vm₁, cX, kX, hfX, hkX, -, -, X₁, st1⟩ := Y.newCold hexec (own := own) (C := cls) (index := ik) (n := 6) hown' hk' hins hini'
    (g := F0 m pc ls rest) rfl (by rw [hb]; exact d0) (Nat.le_refl _) (Nat.le_refl _)
  generalize hT1 : (T.setVm vm₁).pushCell { cls := cX, slots := kX.instanceTypes.map defaultValue, vm := .none } = T1 at X₁ st1
  have hcat : (Value.ref T.heap.size).category = 1 := rfl
  have hcellA : T1.heap[T.heap.size]? = some (freshCell cX kX) := by rw [← hT1]; exact State.heap_pushCell_size _ _
  have d3' : decode c.code (pc + 3) = .ok (.dup, 1) := by rw [hb]; exact d3
  have d4' : decode c.code (pc + 4) = .ok (.ldc is, 2) := by rw [hb]; exact d4
  have hstr' : vk_R own is text sa s' := vk_R.warm hW0 hstr
  obtain ⟨U, hsteps, hrun, hend, hW, hsame, ce, hce, hO⟩ := X₁.ctorThrowS hexec htr (own := own) (cls := cls) (names := names) (ic := ic) hown' hcls hnames h (fun x hx => nomatch hx) hfX hkX hcellA (by rw [hhp, hT]; exact Nat.le_refl _) (msg := .ref sa) rfl
    (g := { method := m, pc := pc + 6, locals := ls, stack := .ref sa :: .ref T.heap.size :: .ref T.heap.size :: rest, locked := none }) rfl hsize rfl rfl (rest := rest) rfl
    (by rw [hb]; exact d6) (by rw [hb]; exact d9) hout hRframes (by simp only [List.map_cons, List.sum_cons, hcat]; omega) hlocks
  obtain ⟨f1, f2⟩ := vx_frame hsame
  rw [hhp] at f1 f2
  have hWs : s.WarmedH U.vm := State.WarmedH.trans hW0 hW
  have hcl : s.vm.findClass cls = some ce.cls := by
    have h9 := hO.cls
    rw [hvm] at h9
    exact h9
  have hall : s.sameButNew ({ U with vm := s.vm } : State) locs mc ms := by
    subst hA
    obtain ⟨e1, e2⟩ := hsame
    rw [State.setFrames_setFrames] at e1
    have h2 : (T.setVm s.vm).sameButNew ({ U with vm := s.vm } : State) [] (0 + 1) (0 + 6) := ⟨e1, e2⟩
    have h3 := X.same.trans h2
    rw [List.append_nil] at h3
    exact h3.mono hc hs
  refine ⟨U, ?_, .threw T.heap.size, hrun, hend, Or.inr ⟨T.heap.size, rfl, cls, ce, locs, hx U hWs.alike f1 (fun q hq => f2 q hq (fun z hz => nomatch hz)), hce, hO.vm, hcl, hWs, hall, hf⟩⟩
  refine st1 _ ?_
  show Steps p.tables e below (T1.setTop { method := m, pc := pc + 3, locals := ls, stack := .ref T.heap.size :: rest, locked := none }) _
  jvm_step X₁.here [X₁.here.top, hexec, d3', Value.category]
  exact X₁.ldcString hexec (own := own) (text := text) (index := is) (a := sa) hown' hstr'.1 hstr'.2
    (g := { method := m, pc := pc + 4, locals := ls, stack := .ref T.heap.size :: .ref T.heap.size :: rest, locked := none }) rfl d4' _ hsteps
/-- 'throw new E("text")', the text by a wide index -/
theorem vx_throwSW {cc : ByteArray} {pc : Nat} (hexec : p.tables.exec = Jvm.exec) (hb : c.code = cc) (hl : l.stackTraces = false) {own cls text : String} {names : List String} {ik is ic mc ms sa : Nat} {A : Nat → Prop}
    (hown : s.vm.findClass own = some m.cls) (hcls : Bundle.fit cls = true) (hnames : ∀ n ∈ names, Bundle.fit n = true)
    (hk : (Cond.classLink own ik cls).before args s = true) (hini : (Cond.initialized cls).before args s = true) (hstr : vk_R own is text sa s) (hat : ∀ w ∈ vx_atS own ic cls names, w.before args s = true)
    (hgood : ∀ w ∈ Cond.classLink own ik cls :: Cond.initialized cls :: vx_atS own ic cls names, vx_ot w = true)
    (hU : vx_Zq Bundle.tN "UNASSIGNED_STACK" Bundle.steD A s s.heap) (hN : vx_Zq Bundle.tN "SUPPRESSED_SENTINEL" Bundle.listD A s s.heap) (hS : va_S A s.heap H locs) (hsize : ls.size = c.maxLocals)
    (d0 : decode cc pc = .ok (.new ik, 3)) (d3 : decode cc (pc + 3) = .ok (.dup, 1)) (d4 : decode cc (pc + 4) = .ok (.ldc_w is, 3)) (d7 : decode cc (pc + 7) = .ok (.invokespecial ic, 3)) (d10 : decode cc (pc + 10) = .ok (.athrow, 1))
    (hout : ∀ x ∈ c.exceptionTable.toList, covers x (pc + 10) = false)
    (hRframes : names.length + 3 < R.frames) (hRlocals : (rest.map fun v => v.category).sum + (13 * (names.length + 1) + 43) ≤ R.locals) (hRcells : cells + 1 ≤ R.cells) (hRslots : slots + 6 ≤ R.slots) (hlocks : meth.locks = false)
    (hx : ∀ t : State, s.vm.Alike t.vm → H.size ≤ t.heap.size → (∀ q : Nat, q < H.size → t.heap[q]? = H[q]?) → XC cls s t)
    (hf : ∀ z ∈ locs, free z.base) (hc : cells + 1 ≤ mc) (hs : slots + 6 ≤ ms) :
    W p l e R s m args below meth c H locs cells slots (vx_MQ below Qc XC args s mc ms free) (F0 m pc ls rest) := by
  intro T hT X
  have htr : e.platform.stackTraces = false := (show e.platform.stackTraces = l.stackTraces by rw [X.admits.platform]).trans hl
  have Y := vx_rebase X (R' := { frames := R.frames, locals := R.locals, cells := 1, slots := 6 }) (Nat.le_refl _) (Nat.le_refl _) hRcells hRslots
  obtain ⟨s', hA⟩ : ∃ z, z = (T.setVm s.vm).setFrames (.invoking m args :: below) := ⟨_, rfl⟩
  rw [← hA] at Y
  have hvm : s'.vm = s.vm := by rw [hA]; rfl
  have hhp : s'.heap = H := by rw [hA]; exact hT
  have hW0 : s.WarmedH s'.vm := by rw [hvm]; exact State.WarmedH.refl s
  have hat' : ∀ w ∈ vx_atS own ic cls names, w.before args s' = true := fun w hw => vx_ot_at hW0 hvm.symm (hgood w (List.mem_cons_of_mem _ (List.mem_cons_of_mem _ hw))) (hat w hw)
  have hk' : (Cond.classLink own ik cls).before args s' = true := vx_ot_at hW0 hvm.symm (hgood _ List.mem_cons_self) hk
  have hini' : (Cond.initialized cls).before args s' = true := vx_ot_at hW0 hvm.symm (hgood _ (List.mem_cons_of_mem _ List.mem_cons_self)) hini
  have hU' : vx_Zq Bundle.tN "UNASSIGNED_STACK" Bundle.steD A s' s'.heap := by rw [hhp]; exact vx_Zq.moved hW0.alike (hU.kept hS.2.1)
  have hN' : vx_Zq Bundle.tN "SUPPRESSED_SENTINEL" Bundle.listD A s' s'.heap := by rw [hhp]; exact vx_Zq.moved hW0.alike (hN.kept hS.2.1)
  have h : ∀ w ∈ Bundle.ownAtoms own ic cls names, w.before args s' = true := vx_own hat' (vx_isRefq hU'.1) (vx_isRefq hN'.1) hU'.2.word hN'.2.word
  have hown' : s'.vm.findClass own = some m.cls := by rw [hvm]; exact hown
  have hins : (Cond.instantiable cls 6).before args s' = true := h _ (by simp [Bundle.ownAtoms])
  obtain ⟨vm₁, cX, kX, hfX, hkX, -, -, X₁, st1⟩ := Y.newCold hexec (own := own) (C := cls) (index := ik) (n := 6) hown' hk' hins hini'
    (g := F0 m pc ls rest) rfl (by rw [hb]; exact d0) (Nat.le_refl _) (Nat.le_refl _)
  generalize hT1 : (T.setVm vm₁).pushCell { cls := cX, slots := kX.instanceTypes.map defaultValue, vm := .none } = T1 at X₁ st1
  have hcat : (Value.ref T.heap.size).category = 1 := rfl
  have hcellA : T1.heap[T.heap.size]? = some (freshCell cX kX) := by rw [← hT1]; exact State.heap_pushCell_size _ _
  have d3' : decode c.code (pc + 3) = .ok (.dup, 1) := by rw [hb]; exact d3
  have d4' : decode c.code (pc + 4) = .ok (.ldc_w is, 3) := by rw [hb]; exact d4
  have hstr' : vk_R own is text sa s' := vk_R.warm hW0 hstr
  obtain ⟨U, hsteps, hrun, hend, hW, hsame, ce, hce, hO⟩ := X₁.ctorThrowS hexec htr (own := own) (cls := cls) (names := names) (ic := ic) hown' hcls hnames h (fun x hx => nomatch hx) hfX hkX hcellA (by rw [hhp, hT]; exact Nat.le_refl _) (msg := .ref sa) rfl
    (g := { method := m, pc := pc + 7, locals := ls, stack := .ref sa :: .ref T.heap.size :: .ref T.heap.size :: rest, locked := none }) rfl hsize rfl rfl (rest := rest) rfl
    (by rw [hb]; exact d7) (by rw [hb]; exact d10) hout hRframes (by simp only [List.map_cons, List.sum_cons, hcat]; omega) hlocks
  obtain ⟨f1, f2⟩ := vx_frame hsame
  rw [hhp] at f1 f2
  have hWs : s.WarmedH U.vm := State.WarmedH.trans hW0 hW
  have hcl : s.vm.findClass cls = some ce.cls := by
    have h9 := hO.cls
    rw [hvm] at h9
    exact h9
  have hall : s.sameButNew ({ U with vm := s.vm } : State) locs mc ms := by
    subst hA
    obtain ⟨e1, e2⟩ := hsame
    rw [State.setFrames_setFrames] at e1
    have h2 : (T.setVm s.vm).sameButNew ({ U with vm := s.vm } : State) [] (0 + 1) (0 + 6) := ⟨e1, e2⟩
    have h3 := X.same.trans h2
    rw [List.append_nil] at h3
    exact h3.mono hc hs
  refine ⟨U, ?_, .threw T.heap.size, hrun, hend, Or.inr ⟨T.heap.size, rfl, cls, ce, locs, hx U hWs.alike f1 (fun q hq => f2 q hq (fun z hz => nomatch hz)), hce, hO.vm, hcl, hWs, hall, hf⟩⟩
  refine st1 _ ?_
  show Steps p.tables e below (T1.setTop { method := m, pc := pc + 3, locals := ls, stack := .ref T.heap.size :: rest, locked := none }) _
  jvm_step X₁.here [X₁.here.top, hexec, d3', Value.category]
  exact X₁.ldcStringW hexec (own := own) (text := text) (index := is) (a := sa) hown' hstr'.1 hstr'.2
    (g := { method := m, pc := pc + 4, locals := ls, stack := .ref T.heap.size :: .ref T.heap.size :: rest, locked := none }) rfl d4' _ hsteps
end Ends
section Bodies
variable {l : Launch}
theorem vx_ofW {y : MethodName} {ws ws' : List Cond} {rm : Room} {Pc : Array Value → State → Prop} {Qc : Array Value → State → Outcome → State → Prop} {XC : String → State → State → Prop} {mc ms : Nat} {free : Addr → Prop} {cc : ByteArray} {maxL : Nat} {ret : Option FieldType}
    (hy : plainName y.cls = true) (hw : ws = Cond.code y cc maxL ret :: ws')
    (body : ∀ p e s m args below meth c s₁, BodyLoose p l y (headSpec ws rm) cc maxL ret e s m args below meth c s₁ → c.maxLocals = maxL → (∀ x ∈ c.exceptionTable.toList, False) → Pc args s →
      W p l e (headSpec ws rm).room s m args below meth c s.heap [] 0 0 (vx_MQ below Qc XC args s mc ms free) (entryFrame m args maxL)) : vx_Met l y ws rm Pc Qc XC mc ms free := by
  refine MetFree.of_bodyS (code := cc) (maxLocals := maxL) (ret := ret) hy ?_ ?_
  · intro args s m h hn
    obtain ⟨meth, c, h1, h2, h3, h4, h5, h6, -, -⟩ := Cond.code_spec hn (atoms_spec (ws := ws) h _ (by rw [hw]; exact List.mem_cons_self))
    exact ⟨meth, c, h1, h2, h3, h4, h5, h6⟩
  · intro p e s m args below meth c s₁ B hml hP _
    have hh0 : s₁.heap = s.heap := by rw [B.state]; rfl
    have ht : ∀ x ∈ c.exceptionTable.toList, False := by
      obtain ⟨meth9, c9, h1, h2, -, -, -, -, h7, -⟩ := Cond.code_spec B.named (atoms_spec (ws := ws) B.pre _ (by rw [hw]; exact List.mem_cons_self))
      cases Option.some.inj (h1.symm.trans B.method)
      cases Option.some.inj (h2.symm.trans (Stand.of_body B).code)
      intro x hx
      rw [Array.isEmpty_iff.mp h7] at hx
      cases hx
    obtain ⟨t, a1, o, b1, b2, b3⟩ := body p e s m args below meth c s₁ B hml ht hP s₁ hh0 (Stand.of_body B)
    exact ⟨t, o, a1, b1, b2, b3⟩
/-- the table of a body with handlers -/
theorem vx_table {p : Program} {x y : MethodName} {S : Spec} {cc bytes : ByteArray} {maxL maxL' : Nat} {ret ret' : Option FieldType} {e : Env} {s s₁ : State} {m : MethodId} {args : Array Value} {below : List Frame} {meth : Method} {c : Code} {hh : List (Nat × Nat × Nat × Nat)}
    (B : BodyLoose p l y S cc maxL ret e s m args below meth c s₁) (h : (Cond.codeWith y bytes maxL' ret' hh).before args s = true) : c.exceptionTable.toList = tableOf hh := by
  obtain ⟨m9, meth9, c9, hn9, h1, h2, -, -, h6, -⟩ := Cond.codeWith_spec h
  cases Option.some.inj (hn9.symm.trans B.named)
  cases Option.some.inj (h1.symm.trans B.method)
  cases Option.some.inj (h2.symm.trans (Stand.of_body B).code)
  rw [← h6, table_eq]
end Bodies
end VXA
/-! ===== END ===== -/
/-! ===== BEGIN a static call of a method with an exception table ===== -/
section VXS
variable {p : Program} {l : Launch} {e : Env} {R : Room} {s : State} {m : MethodId} {args : Array Value} {below : List Frame} {meth : Method} {c : Code} {T : State} {H : Heap} {locs : List Loc} {cells slots : Nat}
abbrev vx_CSW (R : Room) (s : State) (args : Array Value) (own : String) (index : Nat) (y : MethodName) (bytes : ByteArray) (maxL : Nat) (ret : Option FieldType) (hh : List (Nat × Nat × Nat × Nat)) (ws : List Cond) (rm : Room) (mc ms n : Nat) : Prop :=
  (rm.cells = mc ∧ rm.slots = ms ∧ rm.frames + 1 ≤ R.frames ∧ 8 + (maxL + 11) + rm.locals ≤ R.locals ∧ (∀ w ∈ ws, ∀ (a' : Array Value) (U : State), s.WarmedH U.vm → w.before a' U = true) ∧ Cond.codeWith y bytes maxL ret hh ∈ ws) ∧
  (Cond.codeWith y bytes maxL ret hh).before args s = true ∧ (Cond.initialized y.cls).before args s = true ∧ (y.cls ≠ "java/lang/invoke/MethodHandle" ∧ y.cls ≠ "java/lang/invoke/VarHandle") ∧
  (∀ sig, parseMethodDescriptor y.desc = some sig → n = sig.parameters.length) ∧ (Cond.methodLink own index y).before args s = true ∧ (Cond.static y).before args s = true
theorem vx_cwSW {own : String} {index maxL mc ms : Nat} {y : MethodName} {bytes : ByteArray} {ret : Option FieldType} {hh : List (Nat × Nat × Nat × Nat)} {Ts ws ws' : List Cond} {rm : Room} (n : Nat) (ht : ∀ w ∈ Ts, w.before args s = true) (hT : GoodIn Ts (va_wsS own index y ws)) (hw : ws = Cond.codeWith y bytes maxL ret hh :: ws') (hrc : rm.cells = mc) (hrs : rm.slots = ms)
    (hd : y.cls ≠ "java/lang/invoke/MethodHandle" ∧ y.cls ≠ "java/lang/invoke/VarHandle" ∧ (parseMethodDescriptor y.desc).map (fun d => d.parameters.length) = some n) (hR : rm.frames + 1 ≤ R.frames ∧ 8 + (maxL + 11) + rm.locals ≤ R.locals) :
    vx_CSW R s args own index y bytes maxL ret hh ws rm mc ms n := by
  have ok : ∀ w ∈ va_wsS own index y ws, w.before args s = true := fun w h => ht w (hT w h).1
  have hG : GoodIn Ts ws := fun w h => hT w (by unfold va_wsS; exact List.mem_append_right _ h)
  have hc : Cond.codeWith y bytes maxL ret hh ∈ ws := by rw [hw]; exact List.mem_cons_self
  refine ⟨⟨hrc, hrs, hR.1, hR.2, pay_in ht hG, hc⟩, ht _ (hG _ hc).1, ok _ (by simp [va_wsS]), ⟨hd.1, hd.2.1⟩, fun sig h => ?_, ok _ (by simp [va_wsS]), ok _ (by simp [va_wsS])⟩
  have h2 := hd.2.2
  rw [h] at h2
  exact (Option.some.inj h2).symm
theorem vx_callSW (X : Stand p l e R s m args below meth c T locs cells slots) (hexec : p.tables.exec = Jvm.exec) {own : String} {index : Nat} {y : MethodName} {bytes : ByteArray} {maxL : Nat} {ret : Option FieldType} {hh : List (Nat × Nat × Nat × Nat)}
    (hown : s.vm.findClass own = some m.cls) (hlink : (Cond.methodLink own index y).before args s = true) (hstat : (Cond.static y).before args s = true) (hinit : (Cond.initialized y.cls).before args s = true)
    (hcode : (Cond.codeWith y bytes maxL ret hh).before args s = true) (hy : y.cls ≠ "java/lang/invoke/MethodHandle" ∧ y.cls ≠ "java/lang/invoke/VarHandle")
    {W9 : Nat} {Pre : Pt → Array Value → Prop} {Post : Pt → Array Value → Option Value → Pt → Prop} (hK : Back l R p e below s args y 3 W9 Pre Post)
    {g : JFrame} (hg : g.method = m) (hsize : g.locals.size = c.maxLocals) {argsL rest : List Value} (hlen : ∀ sig, parseMethodDescriptor y.desc = some sig → argsL.length = sig.parameters.length)
    (hstack : g.stack = argsL.reverse ++ rest) (hW : 2 * g.monitorRoom + (rest.map fun v => v.category).sum ≤ W9) (hdg : decode c.code g.pc = .ok (.invokestatic index, 3))
    (hpre : ∀ vm₁, s.WarmedH vm₁ → Pre ⟨T.setVm vm₁, locs, cells, slots⟩ argsL.toArray) :
    ∃ (v : Option Value) (vm₁ : Vm) (B : Pt), s.WarmedH vm₁ ∧ Stand p l e R s m args below meth c B.U B.locs B.cells B.slots ∧ Post ⟨T.setVm vm₁, locs, cells, slots⟩ argsL.toArray v B ∧
      ∀ target, Steps p.tables e below (B.U.setTop { g with pc := g.pc + 3, stack := v.toList ++ rest }) target → Steps p.tables e below (T.setTop g) target := by
  obtain ⟨mk, methM, cM, hnamed, hmethM, -, -, -, -, -, -, hsigM⟩ := Cond.codeWith_spec hcode
  have hstatic : methM.isStatic = true := Cond.static_spec hnamed hmethM hstat
  obtain ⟨kP, hkP, -⟩ := className_of_methodNamed hnamed
  have hinitP : kP.init = .initialized := Cond.initialized_spec (findClass_of_methodNamed hnamed) hkP hinit
  obtain ⟨vm₁, X₁, hstep₁⟩ := X.invokestatic hexec hown hlink hnamed hmethM hstatic hkP hinitP hy (g := g) hg (argsL := argsL) (rest := rest) (hlen _ hsigM) hstack hdg
  obtain ⟨v, B, X', hpost, hsteps⟩ := hK m meth c ⟨T.setVm vm₁, locs, cells, slots⟩ { g with stack := rest } (.invokestatic index) mk argsL.toArray X₁ hg hsize hdg hW (X₁.named hnamed) (hpre vm₁ X₁.warmed)
  exact ⟨v, vm₁, B, X₁.warmed, X', hpost, fun target h => hstep₁ _ fun acts => by rw [doInvoke_state]; exact hsteps.trans h⟩
theorem vx_runSW {y : MethodName} {bytes cc : ByteArray} {maxL nL mc ms n index : Nat} {ret : Option FieldType} {hh : List (Nat × Nat × Nat × Nat)} {ws : List Cond} {rm : Room} {Pc : Array Value → State → Prop} {Qc : Array Value → State → Outcome → State → Prop} {free : Addr → Prop} {Ts : List Cond} {own : String} {As rest : List Value} {g : JFrame}
    (S : CallFix p m c cc nL s args Ts own) (hM : Met l y ws rm Pc Qc mc ms free) (cw : vx_CSW R s args own index y bytes maxL ret hh ws rm mc ms n) (hp : PreS s H Pc As)
    (hg : g.method = m) (hn : As.length = n) (hsize : g.locals.size = nL) (hstack : g.stack = As.reverse ++ rest) (hW : 2 * g.monitorRoom + (rest.map fun v => v.category).sum ≤ 8) (hdg : decode cc g.pc = .ok (.invokestatic index, 3)) (hf : cells + mc ≤ R.cells ∧ slots + ms ≤ R.slots) :
    va_Run p l e R s m args below meth c H locs cells slots mc ms g rest (Qc As.toArray) (free) := by
  obtain ⟨⟨hrc, hrs, hfr, hlo, hws, hcw⟩, hcode, hini, hy, hlen, hl, hstt⟩ := cw
  have hK : Back l R p e below s args y 3 8 (PreOf R mc ms Pc) (PostOf Qc mc ms free) := va_backW (hh := hh) (bytes := bytes) (maxL := maxL) (ret := ret) hM hp.1 hrc hrs hfr hlo hws hcw (fun a' U hW => word_at hW (Or.inl (by first | rfl | simp [Cond.onTables, Cond.keeps, Cond.steady])) hini)
  obtain ⟨hx, hb, hml, ho, -⟩ := S
  intro T hT X
  obtain ⟨v, vm₁, ⟨U', l2, c2, s2⟩, hW₁, X', ⟨g', mk, t, L, e1, e2, hq, h1, hL, h2, h3⟩, st⟩ := vx_callSW X hx (hh := hh) (bytes := bytes) (maxL := maxL) (ret := ret) ho hl hstt hini hcode hy hK hg (hsize.trans hml.symm) (argsL := As) (rest := rest) (fun sig h => hn.trans (hlen sig h)) hstack hW (by rw [hb]; exact hdg)
    (fun vm₁ hW₁ => ⟨hf.1, hf.2, hp.2 (T.setVm vm₁) hT hW₁⟩)
  dsimp only [Pt.U, Pt.locs, Pt.cells, Pt.slots] at X' e1 e2 h1 h2 h3 st
  subst h1; subst h2; subst h3
  exact ⟨v, (T.setVm vm₁).calling g' mk As.toArray, t, U', L, hT, X', hL, e1, e2, hq, st⟩
/-- not caught here, past rows that name other classes: it goes on to the caller -/
theorem vx_outP {p : Program} {l : Launch} {e : Env} {R : Room} {s : State} {m : MethodId} {args : Array Value} {below : List Frame} {meth : Method} {c : Code} {H : Heap} {locs : List Loc} {cells slots : Nat} {free : Addr → Prop} {ls : Array Slot} {rest : List Value} {Qc : Array Value → State → Outcome → State → Prop} {XC : String → State → State → Prop}
    {pc : Nat} {own E : String} {ce : Cell} {q : Addr} {mc ms : Nat} (hown : s.vm.findClass own = some m.cls) (hlocks : meth.locks = false)
    (hpass : ∀ z ∈ c.exceptionTable.toList, covers z pc = false ∨ (z.catchType ≠ 0 ∧ ∃ nm : String, (Cond.classLink own z.catchType nm).before args s = true ∧ va_Nc E nm s)) (hcell : H[q]? = some ce) (hv : ce.vm = .none) (hcl : s.vm.findClass E = some ce.cls)
    (hx : ∀ t : State, t.heap = H → s.vm.Alike t.vm → XC E s t) (hf : ∀ z ∈ locs, free z.base) (hc : cells ≤ mc) (hs : slots ≤ ms) :
    vx_W p l e R s m args below meth c H locs cells slots (vx_MQ below Qc XC args s mc ms free) (F0 m pc ls rest) q := by
  intro T hT X
  have hpl : e.platform.magicAccessors = ({} : Platform).magicAccessors := by rw [X.admits.platform]
  obtain ⟨vm', hW', X', st⟩ := X.outThrough hlocks q (g := F0 m pc ls rest) rfl rfl rfl (cell := ce) (by rw [hT]; exact hcell) (by rw [hv]; rfl)
    (by obtain ⟨k9, h9, -⟩ := Vm.findClass_spec hcl; exact ⟨k9, h9⟩) (fun z hz => by
      rcases hpass z hz with h | ⟨hz0, nm, hl1, hn1⟩
      · exact Or.inl h
      · obtain ⟨c6, hc6, hcl6⟩ := Cond.classLink_spec hown hl1 e.platform hpl
        obtain ⟨a8, b8, h1, h2, h3⟩ := hn1
        cases Option.some.inj (h1.symm.trans hcl)
        cases Option.some.inj (h2.symm.trans hc6)
        exact Or.inr ⟨hz0, _, hcl6, h3⟩)
  obtain ⟨g₀, hfr⟩ := X'.frames_eq
  have hcell9 : ((T.setVm vm').setFrames (.throwing q :: below)).heap[q]? = some ce := by
    show T.heap[q]? = some ce
    rw [hT]; exact hcell
  have hend : Ended ((T.setVm vm').setFrames (.throwing q :: below)) below (.threw q) := State.frames_setFrames _ (State.cur_lt_of_frames hfr)
  refine ⟨(T.setVm vm').setFrames (.throwing q :: below), ?_, .threw q, X'.here.running, hend, Or.inr ⟨q, rfl, E, ce, locs, hx _ hT (X'.ends _).1.alike, hcell9, hv, hcl, (X'.ends _).1, (X'.ends _).2.mono hc hs, hf⟩⟩
  rw [X.pushThrowing_eq]
  exact st
/-- a thing of a world lies in the heap -/
theorem vx_lt {D : va_G} {cl : List vw_C} {ws : va_W} {H1 : Heap} (h : va_P D cl ws H1) {k : Nat} {q : Nat × va_E} (hk : ws[k]? = some q) : q.1 < H1.size := (h k q hk).lt
end VXS
/-! ===== END ===== -/
/-! ===== BEGIN methods with a table of their own: called by a name, returning or throwing ===== -/
section VXH
/-! vx_backW, vx_callVX, vx_callSX, vx_callVW, vx_runVW, vx_runVX, vx_runSX, vx_ofWH follow the same proofs as their sisters above (Free/Laws.lean, Shelf42/LK1.lean); vx_outP calls Shelf42/NT130.lean (outThrough). -/
section
variable {l : Launch} {R : Room} {p : Program} {e : Env} {below : List Frame} {s : State} {sargs : Array Value} {y : MethodName} {len W9 : Nat}
theorem vx_backW {ws : List Cond} {rm : Room} {Pc : Array Value → State → Prop} {Qc : Array Value → State → Outcome → State → Prop} {XC : String → State → State → Prop} {mc ms : Nat} {free : Addr → Prop} {bytes : ByteArray} {maxL : Nat} {ret : Option FieldType} {hh : List (Nat × Nat × Nat × Nat)}
    (hM : vx_Met l y ws rm Pc Qc XC mc ms free) (hblind : FrameBlind Pc) (hrc : rm.cells = mc) (hrs : rm.slots = ms)
    (hframes : rm.frames + 1 ≤ R.frames) (hlocals : W9 + (maxL + 11) + rm.locals ≤ R.locals)
    (hws : ∀ w ∈ ws, ∀ a' U, s.WarmedH U.vm → w.before a' U = true) (hcode : Cond.codeWith y bytes maxL ret hh ∈ ws) (hinit : ∀ a' U, s.WarmedH U.vm → (Cond.initialized y.cls).before a' U = true) :
    vx_Back l R p e below s sargs y len W9 (PreOf R mc ms Pc) (PostOf Qc mc ms free) (vx_Post XC mc ms free) := by
  intro m meth c A g ig mk a X hg hsize hdg hW hn hp
  have h1 : (headSpec ws rm).pre.before a A.U = true := atoms_intro fun w hw => hws w hw _ _ X.warmed
  have h2 : (Cond.codeWith y bytes maxL ret hh).before a A.U = true := hws _ hcode _ _ X.warmed
  have h3 : (Cond.initialized y.cls).before a A.U = true := hinit _ _ X.warmed
  have h4 : A.cells + (headSpec ws rm).room.cells ≤ R.cells := by rw [show (headSpec ws rm).room.cells = mc from hrc]; exact hp.1
  have h5 : A.slots + (headSpec ws rm).room.slots ≤ R.slots := by rw [show (headSpec ws rm).room.slots = ms from hrs]; exact hp.2.1
  have hPc : Pc a (A.U.calling g mk a) := hblind _ _ _ _ hp.2.2
  obtain ⟨U, Ls, c0, s0⟩ := A
  dsimp only [Pt.U, Pt.locs, Pt.cells, Pt.slots] at h1 h2 h3 h4 h5 X hn hPc ⊢
  obtain ⟨m9, methY, cY, hn9, hmY, hcY, -, hlY, -⟩ := Cond.codeWith_spec h2
  cases Option.some.inj (hn9.symm.trans hn)
  obtain ⟨kY, hkY, -⟩ := className_of_methodNamed hn
  have hinitY : kY.init = .initialized := Cond.initialized_spec (findClass_of_methodNamed hn) hkY h3
  have h : At U g.method c below := by rw [hg]; exact X.here
  have hlocals9 : W9 + (maxL + 11) + (headSpec ws rm).room.locals ≤ R.locals := hlocals
  have happ : (headSpec ws rm).appliesLoose y e.platform (U.calling g mk a) = true :=
    Spec.appliesLoose_calling (g := g) h hdg hn hkY hinitY
      (X.room_calling (g := g) (R' := (headSpec ws rm).room) hsize hmY hcY hframes (by rw [hlY]; omega) h4 h5) h1
  obtain ⟨mid, hmid⟩ := h.above
  have hfr : (U.setTop g).frames = (.java g :: mid) ++ below := by rw [State.frames_setTop' g h.top, hmid]; rfl
  obtain ⟨o, s₂, hsteps, -, hend, hq⟩ := Steps.callFree hM p X.admits X.cas X.clock (acts := []) hfr happ hPc trivial
  have hq' : vx_Q Qc XC mc ms free a (U.calling g mk a) o s₂ := hq
  rw [State.frames_setTop' g h.top] at hend
  obtain ⟨g₀, hg0⟩ := Option.isSome_iff_exists.mp h.top
  obtain ⟨r, hr⟩ := State.topJava?_eq_some.mp hg0
  have hr' : (({ U with heap := s₂.heap, slotsUsed := s₂.slotsUsed } : State).setVm s₂.vm).frames = .java g₀ :: r := hr
  rcases hq' with ⟨hqc, L, hfe, hL⟩ | ⟨q, rfl, E, ce, L, hx, hce, hcv, hcl, hW₂, hsm, hL⟩
  · obtain ⟨⟨v, rfl⟩, hW₂, e2, q2, q3, q4, q5, q6⟩ := id hfe
    have e3 : s₂ = ({ (U.calling g mk a).setFrames s₂.frames with heap := s₂.heap, slotsUsed := s₂.slotsUsed } : State).setVm s₂.vm := by
      have : s₂ = ({ s₂ with vm := (U.calling g mk a).vm } : State).setVm s₂.vm := rfl
      rw [e2] at this
      exact this
    obtain ⟨c₂, i₂, len₂, hc₂, hd₂, hf₂⟩ := hend
    have hW' : U.WarmedH s₂.vm := hW₂
    have hcc : c₂ = c := by
      have h1 : s₂.code? g.method = U.code? g.method := by
        rw [State.code?_eq, State.code?_eq, hW'.alike.method?]
      exact Option.some.inj (hc₂.symm.trans (h1.trans h.code))
    subst hcc
    have hlen : len₂ = len := by rw [hdg] at hd₂; cases hd₂; rfl
    subst hlen
    have hs₂ : s₂ = (({ U with heap := s₂.heap, slotsUsed := s₂.slotsUsed } : State).setVm s₂.vm).setTop { g with pc := g.pc + len₂, stack := v.toList ++ g.stack } := by
      refine e3.trans ?_
      rw [hf₂, State.calling_eq h.top, State.setFrames_setFrames, State.setTop_of_frames _ hr', hr]
      rfl
    have hsame : U.sameButNew ({ U with heap := s₂.heap, slotsUsed := s₂.slotsUsed } : State) L mc ms := by
      refine ⟨?_, q2, q3, q4, q5, q6⟩
      obtain ⟨t, ht, -⟩ := State.frames_cons hr
      show ({ U with heap := s₂.heap, slotsUsed := s₂.slotsUsed } : State) = { U.setFrames U.frames with heap := s₂.heap, slotsUsed := s₂.slotsUsed }
      rw [State.setFrames_self ht]
    subst hg
    refine Or.inl ⟨v, ⟨(({ U with heap := s₂.heap, slotsUsed := s₂.slotsUsed } : State).setVm s₂.vm), Ls ++ L, c0 + mc, s0 + ms⟩,
      ⟨X.admits, X.cas, X.clock, X.frames, X.room, X.hears, X.method, X.code, (X.here.setHeapUsed s₂.heap s₂.slotsUsed).setVm hW'.alike, X.tail, State.WarmedH.trans X.warmed hW', X.limits, X.bytes, X.same.trans (hsame.setVm s.vm)⟩,
      ⟨g, mk, s₂, L, rfl, rfl, hqc, rfl, hL, rfl, rfl⟩, ?_⟩
    show Steps p.tables e below _ ((({ U with heap := s₂.heap, slotsUsed := s₂.slotsUsed } : State).setVm s₂.vm).setTop { g with pc := g.pc + len₂, stack := v.toList ++ g.stack })
    rw [← hs₂]
    exact hsteps
  · obtain ⟨e2, q2, q3, q4, q5, q6⟩ := id hsm
    have e3 : s₂ = ({ (U.calling g mk a).setFrames s₂.frames with heap := s₂.heap, slotsUsed := s₂.slotsUsed } : State).setVm s₂.vm := by
      have : s₂ = ({ s₂ with vm := (U.calling g mk a).vm } : State).setVm s₂.vm := rfl
      rw [e2] at this
      exact this
    have hf₂ : s₂.frames = .throwing q :: .java g :: U.frames.tail := hend
    have hW' : U.WarmedH s₂.vm := hW₂
    have hs₂ : s₂ = ((({ U with heap := s₂.heap, slotsUsed := s₂.slotsUsed } : State).setVm s₂.vm).setTop g).pushFrame (.throwing q) := by
      refine e3.trans ?_
      rw [hf₂, State.calling_eq h.top, State.setFrames_setFrames, State.pushFrame, State.frames_setTop _ hr', State.setTop_of_frames _ hr', State.setFrames_setFrames, hr]
      rfl
    have hsame : U.sameButNew ({ U with heap := s₂.heap, slotsUsed := s₂.slotsUsed } : State) L mc ms := by
      refine ⟨?_, q2, q3, q4, q5, q6⟩
      obtain ⟨t, ht, -⟩ := State.frames_cons hr
      show ({ U with heap := s₂.heap, slotsUsed := s₂.slotsUsed } : State) = { U.setFrames U.frames with heap := s₂.heap, slotsUsed := s₂.slotsUsed }
      rw [State.setFrames_self ht]
    subst hg
    refine Or.inr ⟨q, ⟨(({ U with heap := s₂.heap, slotsUsed := s₂.slotsUsed } : State).setVm s₂.vm), Ls ++ L, c0 + mc, s0 + ms⟩,
      ⟨X.admits, X.cas, X.clock, X.frames, X.room, X.hears, X.method, X.code, (X.here.setHeapUsed s₂.heap s₂.slotsUsed).setVm hW'.alike, X.tail, State.WarmedH.trans X.warmed hW', X.limits, X.bytes, X.same.trans (hsame.setVm s.vm)⟩,
      ⟨g, mk, s₂, L, E, ce, rfl, rfl, hx, hce, hcv, hcl, rfl, hL, rfl, rfl⟩, ?_⟩
    show Steps p.tables e below _ (((({ U with heap := s₂.heap, slotsUsed := s₂.slotsUsed } : State).setVm s₂.vm).setTop g).pushFrame (.throwing q))
    rw [← hs₂]
    exact hsteps
end
variable {p : Program} {l : Launch} {e : Env} {R : Room} {s : State} {m : MethodId} {args : Array Value} {below : List Frame} {meth : Method} {c : Code} {T : State} {H : Heap} {locs : List Loc} {cells slots : Nat}
theorem vx_callVX (X : Stand p l e R s m args below meth c T locs cells slots) (hexec : p.tables.exec = Jvm.exec) {own C : String} {index : Nat} {y : MethodName} {bytes : ByteArray} {maxL : Nat} {ret : Option FieldType} {hh : List (Nat × Nat × Nat × Nat)}
    (hown : s.vm.findClass own = some m.cls) (hlink : (Cond.methodLink own index y).before args s = true) (hinst : (Cond.instanceMethod y).before args s = true) (hsel : (Cond.selects C y y).before args s = true)
    (hcode : (Cond.codeWith y bytes maxL ret hh).before args s = true) (hy : y.cls ≠ "java/lang/invoke/MethodHandle" ∧ y.cls ≠ "java/lang/invoke/VarHandle")
    {W9 : Nat} {Pre : Pt → Array Value → Prop} {Post : Pt → Array Value → Option Value → Pt → Prop} {PostX : Pt → Array Value → Addr → Pt → Prop} (hK : vx_Back l R p e below s args y 3 W9 Pre Post PostX)
    {b : Addr} {cellB : Cell} (hcell : T.heap[b]? = some cellB) (hobj : cellB.vm.isStatics = false) (hcls : s.vm.findClass C = some cellB.cls)
    {g : JFrame} (hg : g.method = m) (hsize : g.locals.size = c.maxLocals) {argsL rest : List Value} (hlen : ∀ sig, parseMethodDescriptor y.desc = some sig → argsL.length = sig.parameters.length)
    (hstack : g.stack = argsL.reverse ++ .ref b :: rest) (hW : 2 * g.monitorRoom + (rest.map fun v => v.category).sum ≤ W9) (hdg : decode c.code g.pc = .ok (.invokevirtual index, 3))
    (hpre : ∀ vm₁, s.WarmedH vm₁ → Pre ⟨T.setVm vm₁, locs, cells, slots⟩ (Value.ref b :: argsL).toArray) :
    (∃ (v : Option Value) (vm₁ : Vm) (B : Pt), s.WarmedH vm₁ ∧ Stand p l e R s m args below meth c B.U B.locs B.cells B.slots ∧ Post ⟨T.setVm vm₁, locs, cells, slots⟩ (Value.ref b :: argsL).toArray v B ∧
      ∀ target, Steps p.tables e below (B.U.setTop { g with pc := g.pc + 3, stack := v.toList ++ rest }) target → Steps p.tables e below (T.setTop g) target) ∨
    (∃ (q : Addr) (vm₁ : Vm) (B : Pt), s.WarmedH vm₁ ∧ Stand p l e R s m args below meth c B.U B.locs B.cells B.slots ∧ PostX ⟨T.setVm vm₁, locs, cells, slots⟩ (Value.ref b :: argsL).toArray q B ∧
      Steps p.tables e below (T.setTop g) ((B.U.setTop { g with stack := rest }).pushFrame (.throwing q))) := by
  obtain ⟨mk, methM, hnamed, hmethM, hstM, habM⟩ := Cond.instanceMethod_spec hinst
  obtain ⟨m8, methM', cM, hn8, hmethM', -, -, -, -, -, -, hsigM⟩ := Cond.codeWith_spec hcode
  cases Option.some.inj (hn8.symm.trans hnamed)
  cases hmethM.symm.trans hmethM'
  obtain ⟨c2, r2, m2, q1, q2, q3, q4, kP, hkP, hkPi⟩ := Cond.selects_spec hsel
  cases hcls.symm.trans q1
  cases (State.methodFound?_of_named hnamed hy).symm.trans q2
  cases hnamed.symm.trans q3
  have hselP : selectMethod e.platform s.vm cellB.cls mk = .method mk := by rw [Launch.admits_selectMethod X.admits]; exact q4
  obtain ⟨vm₁, X₁, hstep₁⟩ := X.invokevirtual hexec hown hlink hnamed hmethM hstM hkP hkPi hy (a := b) (cell := cellB) hcell
    (fun z h => by rw [h] at hobj; cases hobj) hselP hmethM habM hkP hkPi (g := g) hg (argsL := argsL) (rest := rest) (hlen _ hsigM) hstack hdg
  rcases hK m meth c ⟨T.setVm vm₁, locs, cells, slots⟩ { g with stack := rest } (.invokevirtual index) mk (Value.ref b :: argsL).toArray X₁ hg hsize hdg hW (X₁.named hnamed) (hpre vm₁ X₁.warmed) with ⟨v, B, X', hpost, hsteps⟩ | ⟨q, B, X', hpost, hsteps⟩
  · exact Or.inl ⟨v, vm₁, B, X₁.warmed, X', hpost, fun target h => hstep₁ _ fun acts => by rw [doInvoke_state]; exact hsteps.trans h⟩
  · exact Or.inr ⟨q, vm₁, B, X₁.warmed, X', hpost, hstep₁ _ fun acts => by rw [doInvoke_state]; exact hsteps⟩
theorem vx_callSX (X : Stand p l e R s m args below meth c T locs cells slots) (hexec : p.tables.exec = Jvm.exec) {own : String} {index : Nat} {y : MethodName} {bytes : ByteArray} {maxL : Nat} {ret : Option FieldType} {hh : List (Nat × Nat × Nat × Nat)}
    (hown : s.vm.findClass own = some m.cls) (hlink : (Cond.methodLink own index y).before args s = true) (hstat : (Cond.static y).before args s = true) (hinit : (Cond.initialized y.cls).before args s = true)
    (hcode : (Cond.codeWith y bytes maxL ret hh).before args s = true) (hy : y.cls ≠ "java/lang/invoke/MethodHandle" ∧ y.cls ≠ "java/lang/invoke/VarHandle")
    {W9 : Nat} {Pre : Pt → Array Value → Prop} {Post : Pt → Array Value → Option Value → Pt → Prop} {PostX : Pt → Array Value → Addr → Pt → Prop} (hK : vx_Back l R p e below s args y 3 W9 Pre Post PostX)
    {g : JFrame} (hg : g.method = m) (hsize : g.locals.size = c.maxLocals) {argsL rest : List Value} (hlen : ∀ sig, parseMethodDescriptor y.desc = some sig → argsL.length = sig.parameters.length)
    (hstack : g.stack = argsL.reverse ++ rest) (hW : 2 * g.monitorRoom + (rest.map fun v => v.category).sum ≤ W9) (hdg : decode c.code g.pc = .ok (.invokestatic index, 3))
    (hpre : ∀ vm₁, s.WarmedH vm₁ → Pre ⟨T.setVm vm₁, locs, cells, slots⟩ argsL.toArray) :
    (∃ (v : Option Value) (vm₁ : Vm) (B : Pt), s.WarmedH vm₁ ∧ Stand p l e R s m args below meth c B.U B.locs B.cells B.slots ∧ Post ⟨T.setVm vm₁, locs, cells, slots⟩ argsL.toArray v B ∧
      ∀ target, Steps p.tables e below (B.U.setTop { g with pc := g.pc + 3, stack := v.toList ++ rest }) target → Steps p.tables e below (T.setTop g) target) ∨
    (∃ (q : Addr) (vm₁ : Vm) (B : Pt), s.WarmedH vm₁ ∧ Stand p l e R s m args below meth c B.U B.locs B.cells B.slots ∧ PostX ⟨T.setVm vm₁, locs, cells, slots⟩ argsL.toArray q B ∧
      Steps p.tables e below (T.setTop g) ((B.U.setTop { g with stack := rest }).pushFrame (.throwing q))) := by
  obtain ⟨mk, methM, cM, hnamed, hmethM, -, -, -, -, -, -, hsigM⟩ := Cond.codeWith_spec hcode
  have hstatic : methM.isStatic = true := Cond.static_spec hnamed hmethM hstat
  obtain ⟨kP, hkP, -⟩ := className_of_methodNamed hnamed
  have hinitP : kP.init = .initialized := Cond.initialized_spec (findClass_of_methodNamed hnamed) hkP hinit
  obtain ⟨vm₁, X₁, hstep₁⟩ := X.invokestatic hexec hown hlink hnamed hmethM hstatic hkP hinitP hy (g := g) hg (argsL := argsL) (rest := rest) (hlen _ hsigM) hstack hdg
  rcases hK m meth c ⟨T.setVm vm₁, locs, cells, slots⟩ { g with stack := rest } (.invokestatic index) mk argsL.toArray X₁ hg hsize hdg hW (X₁.named hnamed) (hpre vm₁ X₁.warmed) with ⟨v, B, X', hpost, hsteps⟩ | ⟨q, B, X', hpost, hsteps⟩
  · exact Or.inl ⟨v, vm₁, B, X₁.warmed, X', hpost, fun target h => hstep₁ _ fun acts => by rw [doInvoke_state]; exact hsteps.trans h⟩
  · exact Or.inr ⟨q, vm₁, B, X₁.warmed, X', hpost, hstep₁ _ fun acts => by rw [doInvoke_state]; exact hsteps⟩
theorem vx_callVW (X : Stand p l e R s m args below meth c T locs cells slots) (hexec : p.tables.exec = Jvm.exec) {own C : String} {index : Nat} {y : MethodName} {bytes : ByteArray} {maxL : Nat} {ret : Option FieldType} {hh : List (Nat × Nat × Nat × Nat)}
    (hown : s.vm.findClass own = some m.cls) (hlink : (Cond.methodLink own index y).before args s = true) (hinst : (Cond.instanceMethod y).before args s = true) (hsel : (Cond.selects C y y).before args s = true)
    (hcode : (Cond.codeWith y bytes maxL ret hh).before args s = true) (hy : y.cls ≠ "java/lang/invoke/MethodHandle" ∧ y.cls ≠ "java/lang/invoke/VarHandle")
    {W9 : Nat} {Pre : Pt → Array Value → Prop} {Post : Pt → Array Value → Option Value → Pt → Prop} (hK : Back l R p e below s args y 3 W9 Pre Post)
    {b : Addr} {cellB : Cell} (hcell : T.heap[b]? = some cellB) (hobj : cellB.vm.isStatics = false) (hcls : s.vm.findClass C = some cellB.cls)
    {g : JFrame} (hg : g.method = m) (hsize : g.locals.size = c.maxLocals) {argsL rest : List Value} (hlen : ∀ sig, parseMethodDescriptor y.desc = some sig → argsL.length = sig.parameters.length)
    (hstack : g.stack = argsL.reverse ++ .ref b :: rest) (hW : 2 * g.monitorRoom + (rest.map fun v => v.category).sum ≤ W9) (hdg : decode c.code g.pc = .ok (.invokevirtual index, 3))
    (hpre : ∀ vm₁, s.WarmedH vm₁ → Pre ⟨T.setVm vm₁, locs, cells, slots⟩ (Value.ref b :: argsL).toArray) :
    ∃ (v : Option Value) (vm₁ : Vm) (B : Pt), s.WarmedH vm₁ ∧ Stand p l e R s m args below meth c B.U B.locs B.cells B.slots ∧ Post ⟨T.setVm vm₁, locs, cells, slots⟩ (Value.ref b :: argsL).toArray v B ∧
      ∀ target, Steps p.tables e below (B.U.setTop { g with pc := g.pc + 3, stack := v.toList ++ rest }) target → Steps p.tables e below (T.setTop g) target := by
  obtain ⟨mk, methM, hnamed, hmethM, hstM, habM⟩ := Cond.instanceMethod_spec hinst
  obtain ⟨m8, methM', cM, hn8, hmethM', -, -, -, -, -, -, hsigM⟩ := Cond.codeWith_spec hcode
  cases Option.some.inj (hn8.symm.trans hnamed)
  cases hmethM.symm.trans hmethM'
  obtain ⟨c2, r2, m2, q1, q2, q3, q4, kP, hkP, hkPi⟩ := Cond.selects_spec hsel
  cases hcls.symm.trans q1
  cases (State.methodFound?_of_named hnamed hy).symm.trans q2
  cases hnamed.symm.trans q3
  have hselP : selectMethod e.platform s.vm cellB.cls mk = .method mk := by rw [Launch.admits_selectMethod X.admits]; exact q4
  obtain ⟨vm₁, X₁, hstep₁⟩ := X.invokevirtual hexec hown hlink hnamed hmethM hstM hkP hkPi hy (a := b) (cell := cellB) hcell
    (fun z h => by rw [h] at hobj; cases hobj) hselP hmethM habM hkP hkPi (g := g) hg (argsL := argsL) (rest := rest) (hlen _ hsigM) hstack hdg
  obtain ⟨v, B, X', hpost, hsteps⟩ := hK m meth c ⟨T.setVm vm₁, locs, cells, slots⟩ { g with stack := rest } (.invokevirtual index) mk (Value.ref b :: argsL).toArray X₁ hg hsize hdg hW (X₁.named hnamed) (hpre vm₁ X₁.warmed)
  exact ⟨v, vm₁, B, X₁.warmed, X', hpost, fun target h => hstep₁ _ fun acts => by rw [doInvoke_state]; exact hsteps.trans h⟩
abbrev vx_CVW (R : Room) (s : State) (args : Array Value) (own C : String) (index : Nat) (y : MethodName) (bytes : ByteArray) (maxL : Nat) (ret : Option FieldType) (hh : List (Nat × Nat × Nat × Nat)) (ws : List Cond) (rm : Room) (mc ms n : Nat) : Prop :=
  (rm.cells = mc ∧ rm.slots = ms ∧ rm.frames + 1 ≤ R.frames ∧ 8 + (maxL + 11) + rm.locals ≤ R.locals ∧ (∀ w ∈ ws, ∀ (a' : Array Value) (U : State), s.WarmedH U.vm → w.before a' U = true) ∧ Cond.codeWith y bytes maxL ret hh ∈ ws) ∧
  (Cond.codeWith y bytes maxL ret hh).before args s = true ∧ (Cond.initialized y.cls).before args s = true ∧ (y.cls ≠ "java/lang/invoke/MethodHandle" ∧ y.cls ≠ "java/lang/invoke/VarHandle") ∧
  (∀ sig, parseMethodDescriptor y.desc = some sig → n = sig.parameters.length) ∧ (Cond.methodLink own index y).before args s = true ∧ (Cond.instanceMethod y).before args s = true ∧ (Cond.selects C y y).before args s = true
theorem vx_cwVW {own C : String} {index maxL mc ms : Nat} {y : MethodName} {bytes : ByteArray} {ret : Option FieldType} {hh : List (Nat × Nat × Nat × Nat)} {Ts ws ws' : List Cond} {rm : Room} (n : Nat) (ht : ∀ w ∈ Ts, w.before args s = true) (hT : GoodIn Ts (wsV own index C y ws)) (hw : ws = Cond.codeWith y bytes maxL ret hh :: ws') (hrc : rm.cells = mc) (hrs : rm.slots = ms)
    (hd : y.cls = C ∧ y.cls ≠ "java/lang/invoke/MethodHandle" ∧ y.cls ≠ "java/lang/invoke/VarHandle" ∧ (parseMethodDescriptor y.desc).map (fun d => d.parameters.length) = some n) (hR : rm.frames + 1 ≤ R.frames ∧ 8 + (maxL + 11) + rm.locals ≤ R.locals) :
    vx_CVW R s args own C index y bytes maxL ret hh ws rm mc ms n := by
  obtain ⟨hC, hd⟩ := hd
  subst hC
  have ok : ∀ w ∈ wsV own index y.cls y ws, w.before args s = true := fun w h => ht w (hT w h).1
  have hG : GoodIn Ts ws := fun w h => hT w (by unfold wsV; exact List.mem_append_right _ h)
  have hc : Cond.codeWith y bytes maxL ret hh ∈ ws := by rw [hw]; exact List.mem_cons_self
  refine ⟨⟨hrc, hrs, hR.1, hR.2, pay_in ht hG, hc⟩, ht _ (hG _ hc).1, ok _ (by simp [wsV]), ⟨hd.1, hd.2.1⟩, fun sig h => ?_, ok _ (by simp [wsV]), ok _ (by simp [wsV]), ok _ (by simp [wsV])⟩
  have h2 := hd.2.2
  rw [h] at h2
  exact (Option.some.inj h2).symm
theorem vx_runVW {y : MethodName} {bytes cc : ByteArray} {maxL nL mc ms n index : Nat} {ret : Option FieldType} {hh : List (Nat × Nat × Nat × Nat)} {ws : List Cond} {rm : Room} {Pc : Array Value → State → Prop} {Qc : Array Value → State → Outcome → State → Prop} {free : Addr → Prop} {Ts : List Cond} {own C : String} {b : Addr} {As rest : List Value} {g : JFrame}
    (S : CallFix p m c cc nL s args Ts own) (hM : Met l y ws rm Pc Qc mc ms free) (cw : vx_CVW R s args own C index y bytes maxL ret hh ws rm mc ms n) (hp : PreV s H C b Pc As)
    (hg : g.method = m) (hn : As.length = n) (hsize : g.locals.size = nL) (hstack : g.stack = As.reverse ++ .ref b :: rest) (hW : 2 * g.monitorRoom + (rest.map fun v => v.category).sum ≤ 8) (hdg : decode cc g.pc = .ok (.invokevirtual index, 3)) (hf : cells + mc ≤ R.cells ∧ slots + ms ≤ R.slots) :
    va_Run p l e R s m args below meth c H locs cells slots mc ms g rest (Qc (Value.ref b :: As).toArray) free := by
  obtain ⟨⟨hrc, hrs, hfr, hlo, hws, hcw⟩, hcode, hini, hy, hlen, hl, hin, hse⟩ := cw
  have hK : Back l R p e below s args y 3 8 (PreOf R mc ms Pc) (PostOf Qc mc ms free) := va_backW (hh := hh) (bytes := bytes) (maxL := maxL) (ret := ret) hM hp.1 hrc hrs hfr hlo hws hcw (fun a' U hW => word_at hW (Or.inl (by first | rfl | simp [Cond.onTables, Cond.keeps, Cond.steady])) hini)
  obtain ⟨hx, hb, hml, ho, -⟩ := S
  obtain ⟨-, ⟨cellB, hcB, hoB, hclB⟩, hPc⟩ := hp
  intro T hT X
  obtain ⟨v, vm₁, ⟨U', l2, c2, s2⟩, hW₁, X', ⟨g', mk, t, L, e1, e2, hq, h1, hL, h2, h3⟩, st⟩ := vx_callVW X hx (C := C) (hh := hh) (bytes := bytes) (maxL := maxL) (ret := ret) ho hl hin hse hcode hy hK (by rw [hT]; exact hcB) hoB hclB hg (hsize.trans hml.symm) (argsL := As) (rest := rest) (fun sig h => hn.trans (hlen sig h)) hstack hW (by rw [hb]; exact hdg)
    (fun vm₁ hW₁ => ⟨hf.1, hf.2, hPc (T.setVm vm₁) hT hW₁⟩)
  dsimp only [Pt.U, Pt.locs, Pt.cells, Pt.slots] at X' e1 e2 h1 h2 h3 st
  subst h1; subst h2; subst h3
  exact ⟨v, (T.setVm vm₁).calling g' mk (Value.ref b :: As).toArray, t, U', L, hT, X', hL, e1, e2, hq, st⟩
section
variable {y : MethodName} {bytes cc : ByteArray} {maxL nL mc ms n index : Nat} {ret : Option FieldType} {ws : List Cond} {rm : Room} {Pc : Array Value → State → Prop} {Qc : Array Value → State → Outcome → State → Prop} {XC : String → State → State → Prop} {free : Addr → Prop} {Ts : List Cond} {own C : String} {b : Addr} {As rest : List Value} {g : JFrame}
theorem vx_runVX {hh : List (Nat × Nat × Nat × Nat)} (S : CallFix p m c cc nL s args Ts own) (hM : vx_Met l y ws rm Pc Qc XC mc ms free) (cw : vx_CVW R s args own C index y bytes maxL ret hh ws rm mc ms n) (hp : PreV s H C b Pc As)
    (hg : g.method = m) (hn : As.length = n) (hsize : g.locals.size = nL) (hstack : g.stack = As.reverse ++ .ref b :: rest) (hW : 2 * g.monitorRoom + (rest.map fun v => v.category).sum ≤ 8) (hdg : decode cc g.pc = .ok (.invokevirtual index, 3)) (hf : cells + mc ≤ R.cells ∧ slots + ms ≤ R.slots) :
    vx_Run p l e R s m args below meth c H locs cells slots mc ms g rest (Qc (Value.ref b :: As).toArray) XC free := by
  obtain ⟨⟨hrc, hrs, hfr, hlo, hws, hcw⟩, hcode, hini, hy, hlen, hl, hin, hse⟩ := cw
  have hK : vx_Back l R p e below s args y 3 8 (PreOf R mc ms Pc) (PostOf Qc mc ms free) (vx_Post XC mc ms free) := vx_backW (hh := hh) (bytes := bytes) (maxL := maxL) (ret := ret) hM hp.1 hrc hrs hfr hlo hws hcw (fun a' U hW => word_at hW (Or.inl (by first | rfl | simp [Cond.onTables, Cond.keeps, Cond.steady])) hini)
  obtain ⟨hx, hb, hml, ho, -⟩ := S
  obtain ⟨-, ⟨cellB, hcB, hoB, hclB⟩, hPc⟩ := hp
  intro T hT X
  rcases vx_callVX X hx (C := C) (hh := hh) (bytes := bytes) (maxL := maxL) (ret := ret) ho hl hin hse hcode hy hK (by rw [hT]; exact hcB) hoB hclB hg (hsize.trans hml.symm) (argsL := As) (rest := rest) (fun sig h => hn.trans (hlen sig h)) hstack hW (by rw [hb]; exact hdg)
    (fun vm₁ hW₁ => ⟨hf.1, hf.2, hPc (T.setVm vm₁) hT hW₁⟩) with ⟨v, vm₁, ⟨U', l2, c2, s2⟩, hW₁, X', ⟨g', mk, t, L, e1, e2, hq, h1, hL, h2, h3⟩, st⟩ | ⟨q, vm₁, ⟨U', l2, c2, s2⟩, hW₁, X', ⟨g', mk, t, L, E, ce, e1, e2, hq, hce, hcv, hcl, h1, hL, h2, h3⟩, st⟩
  · dsimp only [Pt.U, Pt.locs, Pt.cells, Pt.slots] at X' e1 e2 h1 h2 h3 st
    subst h1; subst h2; subst h3
    exact Or.inl ⟨v, (T.setVm vm₁).calling g' mk (Value.ref b :: As).toArray, t, U', L, hT, X', hL, e1, e2, hq, st⟩
  · dsimp only [Pt.U, Pt.locs, Pt.cells, Pt.slots] at X' e1 e2 h1 h2 h3 st hcl
    subst h1; subst h2; subst h3
    exact Or.inr ⟨q, (T.setVm vm₁).calling g' mk (Value.ref b :: As).toArray, t, U', L, E, ce, hT, X', hL, e1, e2, hq, hce, hcv, vx_cls hW₁ hcl, st⟩
theorem vx_runSX {hh : List (Nat × Nat × Nat × Nat)} (S : CallFix p m c cc nL s args Ts own) (hM : vx_Met l y ws rm Pc Qc XC mc ms free) (cw : vx_CSW R s args own index y bytes maxL ret hh ws rm mc ms n) (hp : PreS s H Pc As)
    (hg : g.method = m) (hn : As.length = n) (hsize : g.locals.size = nL) (hstack : g.stack = As.reverse ++ rest) (hW : 2 * g.monitorRoom + (rest.map fun v => v.category).sum ≤ 8) (hdg : decode cc g.pc = .ok (.invokestatic index, 3)) (hf : cells + mc ≤ R.cells ∧ slots + ms ≤ R.slots) :
    vx_Run p l e R s m args below meth c H locs cells slots mc ms g rest (Qc As.toArray) XC free := by
  obtain ⟨⟨hrc, hrs, hfr, hlo, hws, hcw⟩, hcode, hini, hy, hlen, hl, hstt⟩ := cw
  have hK : vx_Back l R p e below s args y 3 8 (PreOf R mc ms Pc) (PostOf Qc mc ms free) (vx_Post XC mc ms free) := vx_backW (hh := hh) (bytes := bytes) (maxL := maxL) (ret := ret) hM hp.1 hrc hrs hfr hlo hws hcw (fun a' U hW => word_at hW (Or.inl (by first | rfl | simp [Cond.onTables, Cond.keeps, Cond.steady])) hini)
  obtain ⟨hx, hb, hml, ho, -⟩ := S
  intro T hT X
  rcases vx_callSX X hx (hh := hh) (bytes := bytes) (maxL := maxL) (ret := ret) ho hl hstt hini hcode hy hK hg (hsize.trans hml.symm) (argsL := As) (rest := rest) (fun sig h => hn.trans (hlen sig h)) hstack hW (by rw [hb]; exact hdg)
    (fun vm₁ hW₁ => ⟨hf.1, hf.2, hp.2 (T.setVm vm₁) hT hW₁⟩) with ⟨v, vm₁, ⟨U', l2, c2, s2⟩, hW₁, X', ⟨g', mk, t, L, e1, e2, hq, h1, hL, h2, h3⟩, st⟩ | ⟨q, vm₁, ⟨U', l2, c2, s2⟩, hW₁, X', ⟨g', mk, t, L, E, ce, e1, e2, hq, hce, hcv, hcl, h1, hL, h2, h3⟩, st⟩
  · dsimp only [Pt.U, Pt.locs, Pt.cells, Pt.slots] at X' e1 e2 h1 h2 h3 st
    subst h1; subst h2; subst h3
    exact Or.inl ⟨v, (T.setVm vm₁).calling g' mk As.toArray, t, U', L, hT, X', hL, e1, e2, hq, st⟩
  · dsimp only [Pt.U, Pt.locs, Pt.cells, Pt.slots] at X' e1 e2 h1 h2 h3 st hcl
    subst h1; subst h2; subst h3
    exact Or.inr ⟨q, (T.setVm vm₁).calling g' mk As.toArray, t, U', L, E, ce, hT, X', hL, e1, e2, hq, hce, hcv, vx_cls hW₁ hcl, st⟩
end
end VXH
theorem vx_ofWH {l : Launch} {y : MethodName} {ws ws' : List Cond} {rm : Room} {Pc : Array Value → State → Prop} {Qc : Array Value → State → Outcome → State → Prop} {XC : String → State → State → Prop} {mc ms : Nat} {free : Addr → Prop} {cc : ByteArray} {maxL : Nat} {ret : Option FieldType} {hh : List (Nat × Nat × Nat × Nat)}
    (hy : plainName y.cls = true) (hw : ws = Cond.codeWith y cc maxL ret hh :: ws')
    (body : ∀ p e s m args below meth c s₁, BodyLoose p l y (headSpec ws rm) cc maxL ret e s m args below meth c s₁ → c.maxLocals = maxL → Pc args s →
      W p l e (headSpec ws rm).room s m args below meth c s.heap [] 0 0 (vx_MQ below Qc XC args s mc ms free) (entryFrame m args maxL)) : vx_Met l y ws rm Pc Qc XC mc ms free := by
  refine MetFree.of_bodyS (code := cc) (maxLocals := maxL) (ret := ret) hy ?_ ?_
  · intro args s m h hn
    obtain ⟨m9, meth, c, hn9, h1, h2, h3, h4, -, h5, h6, -⟩ := Cond.codeWith_spec (atoms_spec (ws := ws) h _ (by rw [hw]; exact List.mem_cons_self))
    cases hn.symm.trans hn9
    exact ⟨meth, c, h1, h2, h3, h4, h5, h6⟩
  · intro p e s m args below meth c s₁ B hml hP _
    have hh0 : s₁.heap = s.heap := by rw [B.state]; rfl
    obtain ⟨t, a1, o, b1, b2, b3⟩ := body p e s m args below meth c s₁ B hml hP s₁ hh0 (Stand.of_body B)
    exact ⟨t, o, a1, b1, b2, b3⟩
/-! ===== END ===== -/

def RX0 : String := "MatrixHouse$Disc"
def TX0 : u_T := fun k => match k with
  | 0 => ("MatrixHouse$Disc", "side", "LMatrixHouse$Side;", true)
  | 1 => ("MatrixHouse$Disc", "scratches", "[I", true)
  | _ => ("MatrixHouse$Disc", "wear", "I", false)
def tyX0 : Nat → FieldType := fun k => match k with
  | 0 => .object "MatrixHouse$Side"
  | 1 => .array .int
  | _ => .int
abbrev wsX00 : List Cond := u_ws RX0 TX0 3
theorem nmX0 : ∀ a, a < 3 → ∀ b, b < 3 → a ≠ b → (TX0 a).2.1 ≠ (TX0 b).2.1 := by decide +kernel
theorem tyX0_ok : ∀ k, k < 3 → parseFieldDescriptor (TX0 k).2.2.1 = some (tyX0 k) := by decide +kernel
abbrev cX0_init : ByteArray := prog_2_method_1_code
def yX0_init : MethodName := ⟨RX0, "<init>", "(LMatrixHouse$Side;)V"⟩
abbrev cX0_addScratch : ByteArray := prog_2_method_2_code
def yX0_addScratch : MethodName := ⟨RX0, "addScratch", "(I)V"⟩
abbrev cX0_noiseOf : ByteArray := prog_2_method_3_code
def yX0_noiseOf : MethodName := ⟨RX0, "noiseOf", "(I)I"⟩
abbrev cX0_noiseOfAll : ByteArray := prog_2_method_4_code
def yX0_noiseOfAll : MethodName := ⟨RX0, "noiseOfAll", "()I"⟩
def RX1 : String := "MatrixHouse$Program"
def TX1 : u_T := fun k => match k with
  | 0 => ("MatrixHouse$Program", "row", "[LMatrixHouse$Tape;", true)
  | _ => ("MatrixHouse$Program", "count", "I", false)
def tyX1 : Nat → FieldType := fun k => match k with
  | 0 => .array (.object "MatrixHouse$Tape")
  | _ => .int
abbrev wsX10 : List Cond := u_ws RX1 TX1 2
theorem nmX1 : ∀ a, a < 2 → ∀ b, b < 2 → a ≠ b → (TX1 a).2.1 ≠ (TX1 b).2.1 := by decide +kernel
theorem tyX1_ok : ∀ k, k < 2 → parseFieldDescriptor (TX1 k).2.2.1 = some (tyX1 k) := by decide +kernel
abbrev cX1_init : ByteArray := prog_3_method_1_code
def yX1_init : MethodName := ⟨RX1, "<init>", "()V"⟩
abbrev cX1_append : ByteArray := prog_3_method_2_code
def yX1_append : MethodName := ⟨RX1, "append", "(LMatrixHouse$Tape;)V"⟩
abbrev cX1_empty : ByteArray := prog_3_method_3_code
def yX1_empty : MethodName := ⟨RX1, "empty", "()V"⟩
abbrev cX1_isPlayable : ByteArray := prog_3_method_4_code
def yX1_isPlayable : MethodName := ⟨RX1, "isPlayable", "(I)Z"⟩
abbrev cX1_length : ByteArray := prog_3_method_5_code
def yX1_length : MethodName := ⟨RX1, "length", "()I"⟩
def RX2 : String := "MatrixHouse$Royalties"
def TX2 : u_T := fun k => match k with
  | 0 => ("MatrixHouse$Royalties", "rates", "[I", true)
  | 1 => ("MatrixHouse$Royalties", "advances", "[I", true)
  | 2 => ("MatrixHouse$Royalties", "paidOut", "[I", true)
  | 3 => ("MatrixHouse$Royalties", "balances", "[I", true)
  | 4 => ("MatrixHouse$Royalties", "sales", "[LMatrixHouse$Sale;", true)
  | _ => ("MatrixHouse$Royalties", "saleCount", "I", false)
def tyX2 : Nat → FieldType := fun k => match k with
  | 0 => .array .int
  | 1 => .array .int
  | 2 => .array .int
  | 3 => .array .int
  | 4 => .array (.object "MatrixHouse$Sale")
  | _ => .int
abbrev wsX20 : List Cond := u_ws RX2 TX2 6
theorem nmX2 : ∀ a, a < 6 → ∀ b, b < 6 → a ≠ b → (TX2 a).2.1 ≠ (TX2 b).2.1 := by decide +kernel
theorem tyX2_ok : ∀ k, k < 6 → parseFieldDescriptor (TX2 k).2.2.1 = some (tyX2 k) := by decide +kernel
abbrev cX2_init : ByteArray := prog_4_method_1_code
def yX2_init : MethodName := ⟨RX2, "<init>", "()V"⟩
abbrev cX2_isFull : ByteArray := prog_4_method_2_code
def yX2_isFull : MethodName := ⟨RX2, "isFull", "()Z"⟩
abbrev cX2_book : ByteArray := prog_4_method_3_code
def yX2_book : MethodName := ⟨RX2, "book", "(LMatrixHouse$Sale;)V"⟩
abbrev cX2_takeBack : ByteArray := prog_4_method_4_code
def yX2_takeBack : MethodName := ⟨RX2, "takeBack", "(LMatrixHouse$Stamper;I)V"⟩
abbrev cX2_lessen : ByteArray := prog_4_method_5_code
def yX2_lessen : MethodName := ⟨RX2, "lessen", "(LMatrixHouse$Sale;I)V"⟩
abbrev cX2_dueOfAllSales : ByteArray := prog_4_method_6_code
def yX2_dueOfAllSales : MethodName := ⟨RX2, "dueOfAllSales", "(I)I"⟩
def RX3 : String := "MatrixHouse$Sale"
def TX3 : u_T := fun k => match k with
  | 0 => ("MatrixHouse$Sale", "side", "LMatrixHouse$Side;", true)
  | 1 => ("MatrixHouse$Sale", "stamper", "LMatrixHouse$Stamper;", true)
  | 2 => ("MatrixHouse$Sale", "rates", "[I", true)
  | _ => ("MatrixHouse$Sale", "left", "I", false)
def tyX3 : Nat → FieldType := fun k => match k with
  | 0 => .object "MatrixHouse$Side"
  | 1 => .object "MatrixHouse$Stamper"
  | 2 => .array .int
  | _ => .int
abbrev wsX30 : List Cond := u_ws RX3 TX3 4
theorem nmX3 : ∀ a, a < 4 → ∀ b, b < 4 → a ≠ b → (TX3 a).2.1 ≠ (TX3 b).2.1 := by decide +kernel
theorem tyX3_ok : ∀ k, k < 4 → parseFieldDescriptor (TX3 k).2.2.1 = some (tyX3 k) := by decide +kernel
abbrev cX3_init : ByteArray := prog_5_method_1_code
def yX3_init : MethodName := ⟨RX3, "<init>", "(LMatrixHouse$Side;LMatrixHouse$Stamper;[II)V"⟩
abbrev cX3_dueTo : ByteArray := prog_5_method_2_code
def yX3_dueTo : MethodName := ⟨RX3, "dueTo", "(I)I"⟩
def RX4 : String := "MatrixHouse$Side"
def TX4 : u_T := fun k => match k with
  | 0 => ("MatrixHouse$Side", "artistSeconds", "[I", true)
  | 1 => ("MatrixHouse$Side", "stampers", "[LMatrixHouse$Stamper;", true)
  | 2 => ("MatrixHouse$Side", "stampersMade", "I", false)
  | 3 => ("MatrixHouse$Side", "allSeconds", "I", false)
  | _ => ("MatrixHouse$Side", "takeSet", "I", false)
def tyX4 : Nat → FieldType := fun k => match k with
  | 0 => .array .int
  | 1 => .array (.object "MatrixHouse$Stamper")
  | 2 => .int
  | 3 => .int
  | _ => .int
abbrev wsX40 : List Cond := u_ws RX4 TX4 5
theorem nmX4 : ∀ a, a < 5 → ∀ b, b < 5 → a ≠ b → (TX4 a).2.1 ≠ (TX4 b).2.1 := by decide +kernel
theorem tyX4_ok : ∀ k, k < 5 → parseFieldDescriptor (TX4 k).2.2.1 = some (tyX4 k) := by decide +kernel
abbrev cX4_init : ByteArray := prog_6_method_1_code
def yX4_init : MethodName := ⟨RX4, "<init>", "()V"⟩
abbrev cX4_addSpan : ByteArray := prog_6_method_2_code
def yX4_addSpan : MethodName := ⟨RX4, "addSpan", "(III)V"⟩
abbrev cX4_secondsOf : ByteArray := prog_6_method_3_code
def yX4_secondsOf : MethodName := ⟨RX4, "secondsOf", "(I)I"⟩
abbrev cX4_stamperAt : ByteArray := prog_6_method_4_code
def yX4_stamperAt : MethodName := ⟨RX4, "stamperAt", "(I)LMatrixHouse$Stamper;"⟩
abbrev cX4_make : ByteArray := prog_6_method_5_code
def yX4_make : MethodName := ⟨RX4, "make", "(II)V"⟩
abbrev cX4_isAnySold : ByteArray := prog_6_method_6_code
def yX4_isAnySold : MethodName := ⟨RX4, "isAnySold", "()Z"⟩
def RX5 : String := "MatrixHouse$SoundFile"
def TX5 : u_T := fun k => match k with
  | 0 => ("MatrixHouse$SoundFile", "isMade", "Z", false)
  | 1 => ("MatrixHouse$SoundFile", "partNoises", "[I", true)
  | 2 => ("MatrixHouse$SoundFile", "repairedParts", "[I", true)
  | 3 => ("MatrixHouse$SoundFile", "noisesAhead", "[I", true)
  | _ => ("MatrixHouse$SoundFile", "repairs", "I", false)
def tyX5 : Nat → FieldType := fun k => match k with
  | 0 => .boolean
  | 1 => .array .int
  | 2 => .array .int
  | 3 => .array .int
  | _ => .int
abbrev wsX50 : List Cond := u_ws RX5 TX5 5
theorem nmX5 : ∀ a, a < 5 → ∀ b, b < 5 → a ≠ b → (TX5 a).2.1 ≠ (TX5 b).2.1 := by decide +kernel
theorem tyX5_ok : ∀ k, k < 5 → parseFieldDescriptor (TX5 k).2.2.1 = some (tyX5 k) := by decide +kernel
abbrev cX5_init : ByteArray := prog_7_method_1_code
def yX5_init : MethodName := ⟨RX5, "<init>", "()V"⟩
abbrev cX5_begin : ByteArray := prog_7_method_2_code
def yX5_begin : MethodName := ⟨RX5, "begin", "()V"⟩
abbrev cX5_write : ByteArray := prog_7_method_3_code
def yX5_write : MethodName := ⟨RX5, "write", "(II)V"⟩
abbrev cX5_noiseOf : ByteArray := prog_7_method_4_code
def yX5_noiseOf : MethodName := ⟨RX5, "noiseOf", "(I)I"⟩
abbrev cX5_halve : ByteArray := prog_7_method_5_code
def yX5_halve : MethodName := ⟨RX5, "halve", "(I)I"⟩
abbrev cX5_takeBackLatest : ByteArray := prog_7_method_6_code
def yX5_takeBackLatest : MethodName := ⟨RX5, "takeBackLatest", "()I"⟩
def RX6 : String := "MatrixHouse$Stamper"
def TX6 : u_T := fun k => match k with
  | 0 => ("MatrixHouse$Stamper", "madeOn", "I", true)
  | 1 => ("MatrixHouse$Stamper", "pressed", "I", false)
  | 2 => ("MatrixHouse$Stamper", "firstPressing", "I", false)
  | 3 => ("MatrixHouse$Stamper", "latestPressing", "I", false)
  | 4 => ("MatrixHouse$Stamper", "everSold", "I", false)
  | 5 => ("MatrixHouse$Stamper", "cameBack", "I", false)
  | _ => ("MatrixHouse$Stamper", "named", "I", false)
def tyX6 : Nat → FieldType := fun k => match k with
  | 0 => .int
  | 1 => .int
  | 2 => .int
  | 3 => .int
  | 4 => .int
  | 5 => .int
  | _ => .int
abbrev wsX60 : List Cond := u_ws RX6 TX6 7
theorem nmX6 : ∀ a, a < 7 → ∀ b, b < 7 → a ≠ b → (TX6 a).2.1 ≠ (TX6 b).2.1 := by decide +kernel
theorem tyX6_ok : ∀ k, k < 7 → parseFieldDescriptor (TX6 k).2.2.1 = some (tyX6 k) := by decide +kernel
abbrev cX6_init : ByteArray := prog_8_method_1_code
def yX6_init : MethodName := ⟨RX6, "<init>", "(I)V"⟩
abbrev cX6_neverSold : ByteArray := prog_8_method_2_code
def yX6_neverSold : MethodName := ⟨RX6, "neverSold", "()I"⟩
abbrev cX6_stillSold : ByteArray := prog_8_method_3_code
def yX6_stillSold : MethodName := ⟨RX6, "stillSold", "()I"⟩
abbrev cX6_unnamed : ByteArray := prog_8_method_4_code
def yX6_unnamed : MethodName := ⟨RX6, "unnamed", "()I"⟩
def RX7 : String := "MatrixHouse$Tape"
def TX7 : u_T := fun k => match k with
  | 0 => ("MatrixHouse$Tape", "number", "I", true)
  | 1 => ("MatrixHouse$Tape", "vault", "I", true)
  | 2 => ("MatrixHouse$Tape", "generation", "I", true)
  | 3 => ("MatrixHouse$Tape", "artist", "I", true)
  | 4 => ("MatrixHouse$Tape", "source", "LMatrixHouse$Tape;", true)
  | 5 => ("MatrixHouse$Tape", "sourceFrom", "I", true)
  | 6 => ("MatrixHouse$Tape", "sourceTo", "I", true)
  | 7 => ("MatrixHouse$Tape", "tail", "LMatrixHouse$Tape;", true)
  | 8 => ("MatrixHouse$Tape", "spanTakes", "[I", true)
  | 9 => ("MatrixHouse$Tape", "spanFroms", "[I", true)
  | 10 => ("MatrixHouse$Tape", "spanTos", "[I", true)
  | 11 => ("MatrixHouse$Tape", "spans", "I", false)
  | 12 => ("MatrixHouse$Tape", "length", "I", false)
  | 13 => ("MatrixHouse$Tape", "how", "I", false)
  | _ => ("MatrixHouse$Tape", "bakedOn", "I", false)
def tyX7 : Nat → FieldType := fun k => match k with
  | 0 => .int
  | 1 => .int
  | 2 => .int
  | 3 => .int
  | 4 => .object "MatrixHouse$Tape"
  | 5 => .int
  | 6 => .int
  | 7 => .object "MatrixHouse$Tape"
  | 8 => .array .int
  | 9 => .array .int
  | 10 => .array .int
  | 11 => .int
  | 12 => .int
  | 13 => .int
  | _ => .int
abbrev wsX70 : List Cond := u_ws RX7 TX7 15
theorem nmX7 : ∀ a, a < 15 → ∀ b, b < 15 → a ≠ b → (TX7 a).2.1 ≠ (TX7 b).2.1 := by decide +kernel
theorem tyX7_ok : ∀ k, k < 15 → parseFieldDescriptor (TX7 k).2.2.1 = some (tyX7 k) := by decide +kernel
abbrev cX7_init : ByteArray := prog_9_method_1_code
def yX7_init : MethodName := ⟨RX7, "<init>", "(IIII)V"⟩
abbrev cX7_init_ : ByteArray := prog_9_method_2_code
def yX7_init_ : MethodName := ⟨RX7, "<init>", "(IILMatrixHouse$Tape;IILMatrixHouse$Tape;)V"⟩
abbrev cX7_isPlayable : ByteArray := prog_9_method_3_code
def yX7_isPlayable : MethodName := ⟨RX7, "isPlayable", "(I)Z"⟩
abbrev cX7_spanLength : ByteArray := prog_9_method_4_code
def yX7_spanLength : MethodName := ⟨RX7, "spanLength", "(I)I"⟩
abbrev cX7_spansBetween : ByteArray := prog_9_method_5_code
def yX7_spansBetween : MethodName := ⟨RX7, "spansBetween", "(II)I"⟩
abbrev cX7_heardAt : ByteArray := prog_9_method_6_code
def yX7_heardAt : MethodName := ⟨RX7, "heardAt", "(I)I"⟩
abbrev cX7_takeSet : ByteArray := prog_9_method_7_code
def yX7_takeSet : MethodName := ⟨RX7, "takeSet", "()I"⟩
abbrev cX7_copy : ByteArray := prog_9_method_8_code
def yX7_copy : MethodName := ⟨RX7, "copy", "(LMatrixHouse$Tape;II)V"⟩
abbrev cX7_append : ByteArray := prog_9_method_9_code
def yX7_append : MethodName := ⟨RX7, "append", "(III)V"⟩
def RX8 : String := "MatrixHouse"
def TX8 : u_T := fun k => match k with
  | 0 => ("MatrixHouse", "day", "I", false)
  | 1 => ("MatrixHouse", "tapes", "[LMatrixHouse$Tape;", true)
  | 2 => ("MatrixHouse", "tapeCount", "I", false)
  | 3 => ("MatrixHouse", "program", "LMatrixHouse$Program;", true)
  | 4 => ("MatrixHouse", "sides", "[LMatrixHouse$Side;", true)
  | 5 => ("MatrixHouse", "sideCount", "I", false)
  | 6 => ("MatrixHouse", "discs", "[LMatrixHouse$Disc;", true)
  | 7 => ("MatrixHouse", "discCount", "I", false)
  | 8 => ("MatrixHouse", "soundFile", "LMatrixHouse$SoundFile;", true)
  | _ => ("MatrixHouse", "royalties", "LMatrixHouse$Royalties;", true)
def tyX8 : Nat → FieldType := fun k => match k with
  | 0 => .int
  | 1 => .array (.object "MatrixHouse$Tape")
  | 2 => .int
  | 3 => .object "MatrixHouse$Program"
  | 4 => .array (.object "MatrixHouse$Side")
  | 5 => .int
  | 6 => .array (.object "MatrixHouse$Disc")
  | 7 => .int
  | 8 => .object "MatrixHouse$SoundFile"
  | _ => .object "MatrixHouse$Royalties"
abbrev wsX80 : List Cond := u_ws RX8 TX8 10
theorem nmX8 : ∀ a, a < 10 → ∀ b, b < 10 → a ≠ b → (TX8 a).2.1 ≠ (TX8 b).2.1 := by decide +kernel
theorem tyX8_ok : ∀ k, k < 10 → parseFieldDescriptor (TX8 k).2.2.1 = some (tyX8 k) := by decide +kernel
abbrev cX8_init : ByteArray := prog_1_method_1_code
def yX8_init : MethodName := ⟨RX8, "<init>", "()V"⟩
abbrev cX8_session : ByteArray := prog_1_method_2_code
def yX8_session : MethodName := ⟨RX8, "session", "(III)I"⟩
abbrev cX8_splice : ByteArray := prog_1_method_3_code
def yX8_splice : MethodName := ⟨RX8, "splice", "(IIIII)I"⟩
abbrev cX8_shed : ByteArray := prog_1_method_4_code
def yX8_shed : MethodName := ⟨RX8, "shed", "(I)V"⟩
abbrev cX8_bake : ByteArray := prog_1_method_5_code
def yX8_bake : MethodName := ⟨RX8, "bake", "(I)I"⟩
abbrev cX8_fire : ByteArray := prog_1_method_6_code
def yX8_fire : MethodName := ⟨RX8, "fire", "(I)I"⟩
abbrev cX8_tapeIs : ByteArray := prog_1_method_7_code
def yX8_tapeIs : MethodName := ⟨RX8, "tapeIs", "(II)I"⟩
abbrev cX8_heard : ByteArray := prog_1_method_8_code
def yX8_heard : MethodName := ⟨RX8, "heard", "(II)I"⟩
abbrev cX8_takes : ByteArray := prog_1_method_9_code
def yX8_takes : MethodName := ⟨RX8, "takes", "(I)I"⟩
abbrev cX8_takesAnew : ByteArray := prog_1_method_10_code
def yX8_takesAnew : MethodName := ⟨RX8, "takesAnew", "(I)I"⟩
abbrev cX8_isLost : ByteArray := prog_1_method_11_code
def yX8_isLost : MethodName := ⟨RX8, "isLost", "(I)Z"⟩
abbrev cX8_add : ByteArray := prog_1_method_12_code
def yX8_add : MethodName := ⟨RX8, "add", "(I)I"⟩
abbrev cX8_clear : ByteArray := prog_1_method_13_code
def yX8_clear : MethodName := ⟨RX8, "clear", "()I"⟩
abbrev cX8_cut : ByteArray := prog_1_method_14_code
def yX8_cut : MethodName := ⟨RX8, "cut", "(I)I"⟩
abbrev cX8_seconds : ByteArray := prog_1_method_15_code
def yX8_seconds : MethodName := ⟨RX8, "seconds", "(II)I"⟩
abbrev cX8_stamper : ByteArray := prog_1_method_16_code
def yX8_stamper : MethodName := ⟨RX8, "stamper", "(III)I"⟩
abbrev cX8_press : ByteArray := prog_1_method_17_code
def yX8_press : MethodName := ⟨RX8, "press", "(IIII)I"⟩
abbrev cX8_stamperIs : ByteArray := prog_1_method_18_code
def yX8_stamperIs : MethodName := ⟨RX8, "stamperIs", "(IIII)I"⟩
abbrev cX8_sell : ByteArray := prog_1_method_19_code
def yX8_sell : MethodName := ⟨RX8, "sell", "(IIII)I"⟩
abbrev cX8_back : ByteArray := prog_1_method_20_code
def yX8_back : MethodName := ⟨RX8, "back", "(IIII)I"⟩
abbrev cX8_disc : ByteArray := prog_1_method_21_code
def yX8_disc : MethodName := ⟨RX8, "disc", "(III)I"⟩
abbrev cX8_play : ByteArray := prog_1_method_22_code
def yX8_play : MethodName := ⟨RX8, "play", "(III)I"⟩
abbrev cX8_scratch : ByteArray := prog_1_method_23_code
def yX8_scratch : MethodName := ⟨RX8, "scratch", "(II)I"⟩
abbrev cX8_noise : ByteArray := prog_1_method_24_code
def yX8_noise : MethodName := ⟨RX8, "noise", "(II)I"⟩
abbrev cX8_grade : ByteArray := prog_1_method_25_code
def yX8_grade : MethodName := ⟨RX8, "grade", "(I)I"⟩
abbrev cX8_join : ByteArray := prog_1_method_26_code
def yX8_join : MethodName := ⟨RX8, "join", "(II)I"⟩
abbrev cX8_file : ByteArray := prog_1_method_27_code
def yX8_file : MethodName := ⟨RX8, "file", "(I)I"⟩
abbrev cX8_repair : ByteArray := prog_1_method_28_code
def yX8_repair : MethodName := ⟨RX8, "repair", "(I)I"⟩
abbrev cX8_undo : ByteArray := prog_1_method_29_code
def yX8_undo : MethodName := ⟨RX8, "undo", "()I"⟩
abbrev cX8_fileIs : ByteArray := prog_1_method_30_code
def yX8_fileIs : MethodName := ⟨RX8, "fileIs", "(I)I"⟩
abbrev cX8_contract : ByteArray := prog_1_method_31_code
def yX8_contract : MethodName := ⟨RX8, "contract", "(III)I"⟩
abbrev cX8_account : ByteArray := prog_1_method_32_code
def yX8_account : MethodName := ⟨RX8, "account", "(I)I"⟩
abbrev cX8_accountAnew : ByteArray := prog_1_method_33_code
def yX8_accountAnew : MethodName := ⟨RX8, "accountAnew", "(I)I"⟩
abbrev cX8_payOut : ByteArray := prog_1_method_34_code
def yX8_payOut : MethodName := ⟨RX8, "payOut", "(I)I"⟩
abbrev cX8_pass : ByteArray := prog_1_method_35_code
def yX8_pass : MethodName := ⟨RX8, "pass", "(I)I"⟩
abbrev cX8_requireArtist : ByteArray := prog_1_method_36_code
def yX8_requireArtist : MethodName := ⟨RX8, "requireArtist", "(I)V"⟩
abbrev cX8_requireVault : ByteArray := prog_1_method_37_code
def yX8_requireVault : MethodName := ⟨RX8, "requireVault", "(I)V"⟩
abbrev cX8_requirePart : ByteArray := prog_1_method_38_code
def yX8_requirePart : MethodName := ⟨RX8, "requirePart", "(I)V"⟩
abbrev cX8_requireDiscCount : ByteArray := prog_1_method_39_code
def yX8_requireDiscCount : MethodName := ⟨RX8, "requireDiscCount", "(I)V"⟩
abbrev cX8_requirePlayable : ByteArray := prog_1_method_40_code
def yX8_requirePlayable : MethodName := ⟨RX8, "requirePlayable", "(LMatrixHouse$Tape;)V"⟩
abbrev cX8_tapeAt : ByteArray := prog_1_method_41_code
def yX8_tapeAt : MethodName := ⟨RX8, "tapeAt", "(I)LMatrixHouse$Tape;"⟩
abbrev cX8_sideAt : ByteArray := prog_1_method_42_code
def yX8_sideAt : MethodName := ⟨RX8, "sideAt", "(I)LMatrixHouse$Side;"⟩
abbrev cX8_discAt : ByteArray := prog_1_method_43_code
def yX8_discAt : MethodName := ⟨RX8, "discAt", "(I)LMatrixHouse$Disc;"⟩
abbrev cX8_nextTape : ByteArray := prog_1_method_44_code
def yX8_nextTape : MethodName := ⟨RX8, "nextTape", "()I"⟩
abbrev cX8_has : ByteArray := prog_1_method_45_code
def yX8_has : MethodName := ⟨RX8, "has", "(II)Z"⟩
abbrev cX8_takesByMaking : ByteArray := prog_1_method_46_code
def yX8_takesByMaking : MethodName := ⟨RX8, "takesByMaking", "(LMatrixHouse$Tape;)I"⟩
abbrev cX8_sideOfProgram : ByteArray := prog_1_method_47_code
def yX8_sideOfProgram : MethodName := ⟨RX8, "sideOfProgram", "()LMatrixHouse$Side;"⟩
abbrev cX8_placeOf : ByteArray := prog_1_method_48_code
def yX8_placeOf : MethodName := ⟨RX8, "placeOf", "(II)I"⟩
abbrev cX8_hasWhatItNeeds : ByteArray := prog_1_method_49_code
def yX8_hasWhatItNeeds : MethodName := ⟨RX8, "hasWhatItNeeds", "(LMatrixHouse$Side;I)Z"⟩
abbrev cX8_requireJoinable : ByteArray := prog_1_method_50_code
def yX8_requireJoinable : MethodName := ⟨RX8, "requireJoinable", "(I)V"⟩
abbrev cX8_leastNoisy : ByteArray := prog_1_method_51_code
def yX8_leastNoisy : MethodName := ⟨RX8, "leastNoisy", "(II)I"⟩
def RX9 : String := "MatrixHouseModel"
def TX9 : u_T := fun k => match k with
  | 0 => ("MatrixHouseModel", "day", "I", false)
  | 1 => ("MatrixHouseModel", "tapes", "I", false)
  | 2 => ("MatrixHouseModel", "how", "[I", true)
  | 3 => ("MatrixHouseModel", "bakedOn", "[I", true)
  | 4 => ("MatrixHouseModel", "generations", "[I", true)
  | 5 => ("MatrixHouseModel", "vaults", "[I", true)
  | 6 => ("MatrixHouseModel", "artists", "[I", true)
  | 7 => ("MatrixHouseModel", "spans", "[I", true)
  | 8 => ("MatrixHouseModel", "spanTake", "[I", true)
  | 9 => ("MatrixHouseModel", "spanFrom", "[I", true)
  | 10 => ("MatrixHouseModel", "spanTo", "[I", true)
  | 11 => ("MatrixHouseModel", "added", "I", false)
  | 12 => ("MatrixHouseModel", "program", "[I", true)
  | 13 => ("MatrixHouseModel", "sides", "I", false)
  | 14 => ("MatrixHouseModel", "heardOf", "[I", true)
  | 15 => ("MatrixHouseModel", "takesOn", "[I", true)
  | 16 => ("MatrixHouseModel", "madeOn", "[I", true)
  | 17 => ("MatrixHouseModel", "pressed", "[I", true)
  | 18 => ("MatrixHouseModel", "sold", "[I", true)
  | 19 => ("MatrixHouseModel", "cameBack", "[I", true)
  | 20 => ("MatrixHouseModel", "firstOn", "[I", true)
  | 21 => ("MatrixHouseModel", "latestOn", "[I", true)
  | 22 => ("MatrixHouseModel", "discs", "I", false)
  | 23 => ("MatrixHouseModel", "discOf", "[I", true)
  | 24 => ("MatrixHouseModel", "wear", "[I", true)
  | 25 => ("MatrixHouseModel", "scratches", "[I", true)
  | 26 => ("MatrixHouseModel", "hasFile", "Z", false)
  | 27 => ("MatrixHouseModel", "file", "[I", true)
  | 28 => ("MatrixHouseModel", "repairs", "I", false)
  | 29 => ("MatrixHouseModel", "repaired", "[I", true)
  | 30 => ("MatrixHouseModel", "wasNoise", "[I", true)
  | 31 => ("MatrixHouseModel", "sales", "I", false)
  | 32 => ("MatrixHouseModel", "saleOf", "[I", true)
  | 33 => ("MatrixHouseModel", "left", "[I", true)
  | 34 => ("MatrixHouseModel", "saleRate", "[I", true)
  | 35 => ("MatrixHouseModel", "rate", "[I", true)
  | 36 => ("MatrixHouseModel", "account", "[I", true)
  | _ => ("MatrixHouseModel", "thrown", "I", false)
def tyX9 : Nat → FieldType := fun k => match k with
  | 0 => .int
  | 1 => .int
  | 2 => .array .int
  | 3 => .array .int
  | 4 => .array .int
  | 5 => .array .int
  | 6 => .array .int
  | 7 => .array .int
  | 8 => .array .int
  | 9 => .array .int
  | 10 => .array .int
  | 11 => .int
  | 12 => .array .int
  | 13 => .int
  | 14 => .array .int
  | 15 => .array .int
  | 16 => .array .int
  | 17 => .array .int
  | 18 => .array .int
  | 19 => .array .int
  | 20 => .array .int
  | 21 => .array .int
  | 22 => .int
  | 23 => .array .int
  | 24 => .array .int
  | 25 => .array .int
  | 26 => .boolean
  | 27 => .array .int
  | 28 => .int
  | 29 => .array .int
  | 30 => .array .int
  | 31 => .int
  | 32 => .array .int
  | 33 => .array .int
  | 34 => .array .int
  | 35 => .array .int
  | 36 => .array .int
  | _ => .int
abbrev wsX90 : List Cond := u_ws RX9 TX9 38
theorem nmX9 : ∀ a, a < 38 → ∀ b, b < 38 → a ≠ b → (TX9 a).2.1 ≠ (TX9 b).2.1 := by decide +kernel
theorem tyX9_ok : ∀ k, k < 38 → parseFieldDescriptor (TX9 k).2.2.1 = some (tyX9 k) := by decide +kernel
abbrev cX9_init : ByteArray := prog_11_method_1_code
def yX9_init : MethodName := ⟨RX9, "<init>", "()V"⟩
abbrev cX9_thrown : ByteArray := prog_11_method_2_code
def yX9_thrown : MethodName := ⟨RX9, "thrown", "()I"⟩
abbrev cX9_goes : ByteArray := prog_11_method_3_code
def yX9_goes : MethodName := ⟨RX9, "goes", "(I)Z"⟩
abbrev cX9_isIn : ByteArray := prog_11_method_4_code
def yX9_isIn : MethodName := ⟨RX9, "isIn", "(III)Z"⟩
abbrev cX9_isTape : ByteArray := prog_11_method_5_code
def yX9_isTape : MethodName := ⟨RX9, "isTape", "(I)Z"⟩
abbrev cX9_isArtist : ByteArray := prog_11_method_6_code
def yX9_isArtist : MethodName := ⟨RX9, "isArtist", "(I)Z"⟩
abbrev cX9_isVault : ByteArray := prog_11_method_7_code
def yX9_isVault : MethodName := ⟨RX9, "isVault", "(I)Z"⟩
abbrev cX9_isPlayable : ByteArray := prog_11_method_8_code
def yX9_isPlayable : MethodName := ⟨RX9, "isPlayable", "(I)Z"⟩
abbrev cX9_length : ByteArray := prog_11_method_9_code
def yX9_length : MethodName := ⟨RX9, "length", "(I)I"⟩
abbrev cX9_puts : ByteArray := prog_11_method_10_code
def yX9_puts : MethodName := ⟨RX9, "puts", "(III)V"⟩
abbrev cX9_makes : ByteArray := prog_11_method_11_code
def yX9_makes : MethodName := ⟨RX9, "makes", "(II)I"⟩
abbrev cX9_session : ByteArray := prog_11_method_12_code
def yX9_session : MethodName := ⟨RX9, "session", "(III)I"⟩
abbrev cX9_spansIn : ByteArray := prog_11_method_13_code
def yX9_spansIn : MethodName := ⟨RX9, "spansIn", "(III)I"⟩
abbrev cX9_copies : ByteArray := prog_11_method_14_code
def yX9_copies : MethodName := ⟨RX9, "copies", "(III)V"⟩
abbrev cX9_splice : ByteArray := prog_11_method_15_code
def yX9_splice : MethodName := ⟨RX9, "splice", "(IIIII)I"⟩
abbrev cX9_shed : ByteArray := prog_11_method_16_code
def yX9_shed : MethodName := ⟨RX9, "shed", "(I)V"⟩
abbrev cX9_bake : ByteArray := prog_11_method_17_code
def yX9_bake : MethodName := ⟨RX9, "bake", "(I)I"⟩
abbrev cX9_fire : ByteArray := prog_11_method_18_code
def yX9_fire : MethodName := ⟨RX9, "fire", "(I)I"⟩
abbrev cX9_tapeIs : ByteArray := prog_11_method_19_code
def yX9_tapeIs : MethodName := ⟨RX9, "tapeIs", "(II)I"⟩
abbrev cX9_heard : ByteArray := prog_11_method_20_code
def yX9_heard : MethodName := ⟨RX9, "heard", "(II)I"⟩
abbrev cX9_takesOf : ByteArray := prog_11_method_21_code
def yX9_takesOf : MethodName := ⟨RX9, "takesOf", "(I)I"⟩
abbrev cX9_takes : ByteArray := prog_11_method_22_code
def yX9_takes : MethodName := ⟨RX9, "takes", "(I)I"⟩
abbrev cX9_takesAnew : ByteArray := prog_11_method_23_code
def yX9_takesAnew : MethodName := ⟨RX9, "takesAnew", "(I)I"⟩
abbrev cX9_isLost : ByteArray := prog_11_method_24_code
def yX9_isLost : MethodName := ⟨RX9, "isLost", "(I)Z"⟩
abbrev cX9_add : ByteArray := prog_11_method_25_code
def yX9_add : MethodName := ⟨RX9, "add", "(I)I"⟩
abbrev cX9_clear : ByteArray := prog_11_method_26_code
def yX9_clear : MethodName := ⟨RX9, "clear", "()I"⟩
abbrev cX9_canCut : ByteArray := prog_11_method_27_code
def yX9_canCut : MethodName := ⟨RX9, "canCut", "(I)Z"⟩
abbrev cX9_cut : ByteArray := prog_11_method_28_code
def yX9_cut : MethodName := ⟨RX9, "cut", "(I)I"⟩
abbrev cX9_secondsOf : ByteArray := prog_11_method_29_code
def yX9_secondsOf : MethodName := ⟨RX9, "secondsOf", "(II)I"⟩
abbrev cX9_seconds : ByteArray := prog_11_method_30_code
def yX9_seconds : MethodName := ⟨RX9, "seconds", "(II)I"⟩
abbrev cX9_isNamed : ByteArray := prog_11_method_31_code
def yX9_isNamed : MethodName := ⟨RX9, "isNamed", "(III)Z"⟩
abbrev cX9_stamperOf : ByteArray := prog_11_method_32_code
def yX9_stamperOf : MethodName := ⟨RX9, "stamperOf", "(III)I"⟩
abbrev cX9_needed : ByteArray := prog_11_method_33_code
def yX9_needed : MethodName := ⟨RX9, "needed", "(I)I"⟩
abbrev cX9_stamper : ByteArray := prog_11_method_34_code
def yX9_stamper : MethodName := ⟨RX9, "stamper", "(III)I"⟩
abbrev cX9_press : ByteArray := prog_11_method_35_code
def yX9_press : MethodName := ⟨RX9, "press", "(IIII)I"⟩
abbrev cX9_stamperIs : ByteArray := prog_11_method_36_code
def yX9_stamperIs : MethodName := ⟨RX9, "stamperIs", "(IIII)I"⟩
abbrev cX9_dueOf : ByteArray := prog_11_method_37_code
def yX9_dueOf : MethodName := ⟨RX9, "dueOf", "(III)I"⟩
abbrev cX9_sell : ByteArray := prog_11_method_38_code
def yX9_sell : MethodName := ⟨RX9, "sell", "(IIII)I"⟩
abbrev cX9_discsOf : ByteArray := prog_11_method_39_code
def yX9_discsOf : MethodName := ⟨RX9, "discsOf", "(I)I"⟩
abbrev cX9_takesOff : ByteArray := prog_11_method_40_code
def yX9_takesOff : MethodName := ⟨RX9, "takesOff", "(II)V"⟩
abbrev cX9_back : ByteArray := prog_11_method_41_code
def yX9_back : MethodName := ⟨RX9, "back", "(IIII)I"⟩
abbrev cX9_isDisc : ByteArray := prog_11_method_42_code
def yX9_isDisc : MethodName := ⟨RX9, "isDisc", "(I)Z"⟩
abbrev cX9_isPart : ByteArray := prog_11_method_43_code
def yX9_isPart : MethodName := ⟨RX9, "isPart", "(I)Z"⟩
abbrev cX9_disc : ByteArray := prog_11_method_44_code
def yX9_disc : MethodName := ⟨RX9, "disc", "(III)I"⟩
abbrev cX9_play : ByteArray := prog_11_method_45_code
def yX9_play : MethodName := ⟨RX9, "play", "(III)I"⟩
abbrev cX9_noiseOf : ByteArray := prog_11_method_46_code
def yX9_noiseOf : MethodName := ⟨RX9, "noiseOf", "(II)I"⟩
abbrev cX9_scratch : ByteArray := prog_11_method_47_code
def yX9_scratch : MethodName := ⟨RX9, "scratch", "(II)I"⟩
abbrev cX9_noise : ByteArray := prog_11_method_48_code
def yX9_noise : MethodName := ⟨RX9, "noise", "(II)I"⟩
abbrev cX9_grade : ByteArray := prog_11_method_49_code
def yX9_grade : MethodName := ⟨RX9, "grade", "(I)I"⟩
abbrev cX9_areDiscs : ByteArray := prog_11_method_50_code
def yX9_areDiscs : MethodName := ⟨RX9, "areDiscs", "(I)Z"⟩
abbrev cX9_areOfOneSide : ByteArray := prog_11_method_51_code
def yX9_areOfOneSide : MethodName := ⟨RX9, "areOfOneSide", "(I)Z"⟩
abbrev cX9_joinOf : ByteArray := prog_11_method_52_code
def yX9_joinOf : MethodName := ⟨RX9, "joinOf", "(II)I"⟩
abbrev cX9_join : ByteArray := prog_11_method_53_code
def yX9_join : MethodName := ⟨RX9, "join", "(II)I"⟩
abbrev cX9_file : ByteArray := prog_11_method_54_code
def yX9_file : MethodName := ⟨RX9, "file", "(I)I"⟩
abbrev cX9_repair : ByteArray := prog_11_method_55_code
def yX9_repair : MethodName := ⟨RX9, "repair", "(I)I"⟩
abbrev cX9_undo : ByteArray := prog_11_method_56_code
def yX9_undo : MethodName := ⟨RX9, "undo", "()I"⟩
abbrev cX9_fileIs : ByteArray := prog_11_method_57_code
def yX9_fileIs : MethodName := ⟨RX9, "fileIs", "(I)I"⟩
abbrev cX9_contract : ByteArray := prog_11_method_58_code
def yX9_contract : MethodName := ⟨RX9, "contract", "(III)I"⟩
abbrev cX9_account : ByteArray := prog_11_method_59_code
def yX9_account : MethodName := ⟨RX9, "account", "(I)I"⟩
abbrev cX9_accountAnew : ByteArray := prog_11_method_60_code
def yX9_accountAnew : MethodName := ⟨RX9, "accountAnew", "(I)I"⟩
abbrev cX9_payOut : ByteArray := prog_11_method_61_code
def yX9_payOut : MethodName := ⟨RX9, "payOut", "(I)I"⟩
abbrev cX9_pass : ByteArray := prog_11_method_62_code
def yX9_pass : MethodName := ⟨RX9, "pass", "(I)I"⟩
def RJx8e188 : String := "java/lang/Cloneable"
def TJx8e188 : u_T := fun k => match k with
  | _ => ("", "", "", false)
def tyJx8e188 : Nat → FieldType := fun k => match k with
  | _ => .int
theorem nmJx8e188 : ∀ a, a < 0 → ∀ b, b < 0 → a ≠ b → (TJx8e188 a).2.1 ≠ (TJx8e188 b).2.1 := by decide +kernel
theorem tyJx8e188_ok : ∀ k, k < 0 → parseFieldDescriptor (TJx8e188 k).2.2.1 = some (tyJx8e188 k) := by decide +kernel
def RJ9 : String := "java/lang/Math"
def TJ9 : u_T := fun k => match k with
  | _ => ("", "", "", false)
def tyJ9 : Nat → FieldType := fun k => match k with
  | _ => .int
theorem nmJ9 : ∀ a, a < 0 → ∀ b, b < 0 → a ≠ b → (TJ9 a).2.1 ≠ (TJ9 b).2.1 := by decide +kernel
theorem tyJ9_ok : ∀ k, k < 0 → parseFieldDescriptor (TJ9 k).2.2.1 = some (tyJ9 k) := by decide +kernel
abbrev cJ9_max_7cf53 : ByteArray := prog_17_method_65_code
def yJ9_max_7cf53 : MethodName := ⟨RJ9, "max", "(II)I"⟩
abbrev cJ9_min_7cf53 : ByteArray := prog_17_method_69_code
def yJ9_min_7cf53 : MethodName := ⟨RJ9, "min", "(II)I"⟩
def RJ0 : String := "java/lang/String"
def TJ0 : u_T := fun k => match k with
  | _ => ("", "", "", false)
def tyJ0 : Nat → FieldType := fun k => match k with
  | _ => .int
theorem nmJ0 : ∀ a, a < 0 → ∀ b, b < 0 → a ≠ b → (TJ0 a).2.1 ≠ (TJ0 b).2.1 := by decide +kernel
theorem tyJ0_ok : ∀ k, k < 0 → parseFieldDescriptor (TJ0 k).2.2.1 = some (tyJ0 k) := by decide +kernel
def RL : String := "MatrixHouseLaw"
abbrev cL_session : ByteArray := method_3_code
def yL_session : MethodName := ⟨RL, "session", "(LMatrixHouse;III[J)I"⟩
abbrev cL_splice : ByteArray := method_4_code
def yL_splice : MethodName := ⟨RL, "splice", "(LMatrixHouse;IIIII[J)I"⟩
abbrev cL_shed : ByteArray := method_5_code
def yL_shed : MethodName := ⟨RL, "shed", "(LMatrixHouse;I)I"⟩
abbrev cL_bake : ByteArray := method_6_code
def yL_bake : MethodName := ⟨RL, "bake", "(LMatrixHouse;I[J)I"⟩
abbrev cL_fire : ByteArray := method_7_code
def yL_fire : MethodName := ⟨RL, "fire", "(LMatrixHouse;I[J)I"⟩
abbrev cL_tapeIs : ByteArray := method_8_code
def yL_tapeIs : MethodName := ⟨RL, "tapeIs", "(LMatrixHouse;II[J)I"⟩
abbrev cL_heard : ByteArray := method_9_code
def yL_heard : MethodName := ⟨RL, "heard", "(LMatrixHouse;II[J)I"⟩
abbrev cL_takes : ByteArray := method_10_code
def yL_takes : MethodName := ⟨RL, "takes", "(LMatrixHouse;I[J)I"⟩
abbrev cL_takesAnew : ByteArray := method_11_code
def yL_takesAnew : MethodName := ⟨RL, "takesAnew", "(LMatrixHouse;I[J)I"⟩
abbrev cL_isLost : ByteArray := method_12_code
def yL_isLost : MethodName := ⟨RL, "isLost", "(LMatrixHouse;I[J)I"⟩
abbrev cL_add : ByteArray := method_13_code
def yL_add : MethodName := ⟨RL, "add", "(LMatrixHouse;I[J)I"⟩
abbrev cL_cut : ByteArray := method_14_code
def yL_cut : MethodName := ⟨RL, "cut", "(LMatrixHouse;I[J)I"⟩
abbrev cL_seconds : ByteArray := method_15_code
def yL_seconds : MethodName := ⟨RL, "seconds", "(LMatrixHouse;II[J)I"⟩
abbrev cL_stamper : ByteArray := method_16_code
def yL_stamper : MethodName := ⟨RL, "stamper", "(LMatrixHouse;III[J)I"⟩
abbrev cL_press : ByteArray := method_17_code
def yL_press : MethodName := ⟨RL, "press", "(LMatrixHouse;IIII[J)I"⟩
abbrev cL_stamperIs : ByteArray := method_18_code
def yL_stamperIs : MethodName := ⟨RL, "stamperIs", "(LMatrixHouse;IIII[J)I"⟩
abbrev cL_sell : ByteArray := method_19_code
def yL_sell : MethodName := ⟨RL, "sell", "(LMatrixHouse;IIII[J)I"⟩
abbrev cL_back : ByteArray := method_20_code
def yL_back : MethodName := ⟨RL, "back", "(LMatrixHouse;IIII[J)I"⟩
abbrev cL_disc : ByteArray := method_21_code
def yL_disc : MethodName := ⟨RL, "disc", "(LMatrixHouse;III[J)I"⟩
abbrev cL_play : ByteArray := method_22_code
def yL_play : MethodName := ⟨RL, "play", "(LMatrixHouse;III[J)I"⟩
abbrev cL_scratch : ByteArray := method_23_code
def yL_scratch : MethodName := ⟨RL, "scratch", "(LMatrixHouse;II[J)I"⟩
abbrev cL_noise : ByteArray := method_24_code
def yL_noise : MethodName := ⟨RL, "noise", "(LMatrixHouse;II[J)I"⟩
abbrev cL_grade : ByteArray := method_25_code
def yL_grade : MethodName := ⟨RL, "grade", "(LMatrixHouse;I[J)I"⟩
abbrev cL_join : ByteArray := method_26_code
def yL_join : MethodName := ⟨RL, "join", "(LMatrixHouse;II[J)I"⟩
abbrev cL_file : ByteArray := method_27_code
def yL_file : MethodName := ⟨RL, "file", "(LMatrixHouse;I[J)I"⟩
abbrev cL_repair : ByteArray := method_28_code
def yL_repair : MethodName := ⟨RL, "repair", "(LMatrixHouse;I[J)I"⟩
abbrev cL_undo : ByteArray := method_29_code
def yL_undo : MethodName := ⟨RL, "undo", "(LMatrixHouse;[J)I"⟩
abbrev cL_fileIs : ByteArray := method_30_code
def yL_fileIs : MethodName := ⟨RL, "fileIs", "(LMatrixHouse;I[J)I"⟩
abbrev cL_contract : ByteArray := method_31_code
def yL_contract : MethodName := ⟨RL, "contract", "(LMatrixHouse;III[J)I"⟩
abbrev cL_account : ByteArray := method_32_code
def yL_account : MethodName := ⟨RL, "account", "(LMatrixHouse;I[J)I"⟩
abbrev cL_accountAnew : ByteArray := method_33_code
def yL_accountAnew : MethodName := ⟨RL, "accountAnew", "(LMatrixHouse;I[J)I"⟩
abbrev cL_payOut : ByteArray := method_34_code
def yL_payOut : MethodName := ⟨RL, "payOut", "(LMatrixHouse;I[J)I"⟩
abbrev cL_pass : ByteArray := method_35_code
def yL_pass : MethodName := ⟨RL, "pass", "(LMatrixHouse;I[J)I"⟩
abbrev cL_law : ByteArray := code
def yL_law : MethodName := ⟨RL, "law", "([I)Z"⟩
abbrev vwCl : List vw_C := [(RX0, TX0, 3), (RX1, TX1, 2), (RX2, TX2, 6), (RX3, TX3, 4), (RX4, TX4, 5), (RX5, TX5, 5), (RX6, TX6, 7), (RX7, TX7, 15), (RX8, TX8, 10), (RX9, TX9, 38)]
end
section
/-! ===== BEGIN a constructor that throws (launches without stack traces) ===== -/
section VXIA
variable {p : Program} {l : Launch} {e : Env} {R : Room} {s : State} {m : MethodId} {args : Array Value} {below : List Frame} {meth : Method} {c : Code} {T : State} {locs : List Loc} {cells slots : Nat}
theorem vx_callI (X : Stand p l e R s m args below meth c T locs cells slots) (hexec : p.tables.exec = Jvm.exec) {own : String} {index : Nat} {y : MethodName} {bytes : ByteArray} {maxL : Nat}
    (hown : s.vm.findClass own = some m.cls) (hy1 : y.name = "<init>") (hlink : (Cond.methodLink own index y).before args s = true) (hinst : (Cond.instanceMethod y).before args s = true)
    (hcode : (Cond.code y bytes maxL none).before args s = true) (hy : y.cls ≠ "java/lang/invoke/MethodHandle" ∧ y.cls ≠ "java/lang/invoke/VarHandle")
    {W9 : Nat} {Pre : Pt → Array Value → Prop} {Post : Pt → Array Value → Option Value → Pt → Prop} {PostX : Pt → Array Value → Addr → Pt → Prop} (hK : vx_Back l R p e below s args y 3 W9 Pre Post PostX)
    {g : JFrame} (hg : g.method = m) (hsize : g.locals.size = c.maxLocals) {a : Addr} {argsL rest : List Value} (hlen : ∀ sig, parseMethodDescriptor y.desc = some sig → argsL.length = sig.parameters.length)
    (hstack : g.stack = argsL.reverse ++ .ref a :: rest) (hW : 2 * g.monitorRoom + (rest.map fun v => v.category).sum ≤ W9) (hdg : decode c.code g.pc = .ok (.invokespecial index, 3))
    (hpre : ∀ vm₁, s.WarmedH vm₁ → Pre ⟨T.setVm vm₁, locs, cells, slots⟩ (Value.ref a :: argsL).toArray) :
    (∃ (v : Option Value) (vm₁ : Vm) (B : Pt), s.WarmedH vm₁ ∧ Stand p l e R s m args below meth c B.U B.locs B.cells B.slots ∧ Post ⟨T.setVm vm₁, locs, cells, slots⟩ (Value.ref a :: argsL).toArray v B ∧
      ∀ target, Steps p.tables e below (B.U.setTop { g with pc := g.pc + 3, stack := v.toList ++ rest }) target → Steps p.tables e below (T.setTop g) target) ∨
    (∃ (q : Addr) (vm₁ : Vm) (B : Pt), s.WarmedH vm₁ ∧ Stand p l e R s m args below meth c B.U B.locs B.cells B.slots ∧ PostX ⟨T.setVm vm₁, locs, cells, slots⟩ (Value.ref a :: argsL).toArray q B ∧
      Steps p.tables e below (T.setTop g) ((B.U.setTop { g with stack := rest }).pushFrame (.throwing q))) := by
  subst hg
  have hpl : e.platform.magicAccessors = ({} : Platform).magicAccessors := by rw [X.admits.platform]
  obtain ⟨mk, methM, cM, kP, vm₁, hnamed, hmethM, hcodeM, -, hlocalsM, -, hkP, -, hW₁, hstep₁⟩ := Steps.initColdArgs (e := e) X.here hexec X.warmed hpl hown hy1 hy hlink hinst hcode (f := g) rfl hlen hstack hdg
  have X₁ := X.noted hW₁
  rcases hK g.method meth c ⟨T.setVm vm₁, locs, cells, slots⟩ { g with stack := rest } (.invokespecial index) mk (Value.ref a :: argsL).toArray X₁ rfl hsize hdg hW (X₁.named hnamed) (hpre vm₁ X₁.warmed) with ⟨v, B, X', hpost, hsteps⟩ | ⟨q, B, X', hpost, hsteps⟩
  · exact Or.inl ⟨v, vm₁, B, X₁.warmed, X', hpost, fun target h => hstep₁ _ fun acts => by rw [doInvoke_state]; exact hsteps.trans h⟩
  · exact Or.inr ⟨q, vm₁, B, X₁.warmed, X', hpost, hstep₁ _ fun acts => by rw [doInvoke_state]; exact hsteps⟩
end VXIA
section VXIB
variable {p : Program} {l : Launch} {e : Env} {R : Room} {s : State} {m : MethodId} {args : Array Value} {below : List Frame} {meth : Method} {c : Code} {H : Heap} {locs : List Loc} {cells slots : Nat}
variable {y : MethodName} {bytes cc : ByteArray} {maxL nL mc ms n index : Nat} {ret : Option FieldType} {ws : List Cond} {rm : Room} {Pc : Array Value → State → Prop} {Qc : Array Value → State → Outcome → State → Prop} {XC : String → State → State → Prop} {free : Addr → Prop} {Ts : List Cond} {own C : String} {b : Addr} {As rest : List Value} {g : JFrame}
theorem vx_runI (S : CallFix p m c cc nL s args Ts own) (hM : vx_Met l y ws rm Pc Qc XC mc ms free) (cw : CallB R s args own index y bytes maxL none ws rm mc ms n ∧ y.name = "<init>" ∧ (Cond.instanceMethod y).before args s = true) (hp : PreS s H Pc (.ref b :: As))
    (hg : g.method = m) (hn : As.length = n) (hsize : g.locals.size = nL) (hstack : g.stack = As.reverse ++ .ref b :: rest) (hW : 2 * g.monitorRoom + (rest.map fun v => v.category).sum ≤ 8) (hdg : decode cc g.pc = .ok (.invokespecial index, 3)) (hf : cells + mc ≤ R.cells ∧ slots + ms ≤ R.slots) :
    vx_Run p l e R s m args below meth c H locs cells slots mc ms g rest (Qc (Value.ref b :: As).toArray) XC free := by
  have hK : vx_Back l R p e below s args y 3 8 (PreOf R mc ms Pc) (PostOf Qc mc ms free) (vx_Post XC mc ms free) := vx_callBack cw.1 hM hp.1
  obtain ⟨⟨-, -, -, -, -, -, hcode, -, hy, hlen, hl⟩, hy1, hin⟩ := cw
  obtain ⟨hx, hb, hml, ho, -⟩ := S
  have hPc := hp.2
  intro T hT X
  rcases vx_callI X hx (bytes := bytes) (maxL := maxL) ho hy1 hl hin hcode hy hK hg (hsize.trans hml.symm) (a := b) (argsL := As) (rest := rest) (fun sig h => hn.trans (hlen sig h)) hstack hW (by rw [hb]; exact hdg)
    (fun vm₁ hW₁ => ⟨hf.1, hf.2, hPc (T.setVm vm₁) hT hW₁⟩) with ⟨v, vm₁, ⟨U', l2, c2, s2⟩, hW₁, X', ⟨g', mk, t, L, e1, e2, hq, h1, hL, h2, h3⟩, st⟩ | ⟨q, vm₁, ⟨U', l2, c2, s2⟩, hW₁, X', ⟨g', mk, t, L, E, ce, e1, e2, hq, hce, hcv, hcl, h1, hL, h2, h3⟩, st⟩
  · dsimp only [Pt.U, Pt.locs, Pt.cells, Pt.slots] at X' e1 e2 h1 h2 h3 st
    subst h1; subst h2; subst h3
    exact Or.inl ⟨v, (T.setVm vm₁).calling g' mk (Value.ref b :: As).toArray, t, U', L, hT, X', hL, e1, e2, hq, st⟩
  · dsimp only [Pt.U, Pt.locs, Pt.cells, Pt.slots] at X' e1 e2 h1 h2 h3 st hcl
    subst h1; subst h2; subst h3
    exact Or.inr ⟨q, (T.setVm vm₁).calling g' mk (Value.ref b :: As).toArray, t, U', L, E, ce, hT, X', hL, e1, e2, hq, hce, hcv, vx_cls hW₁ hcl, st⟩
end VXIB
/-! ===== END ===== -/
/-! ===== BEGIN a private constructor of a nest mate that throws ===== -/
section VXIC
variable {p : Program} {l : Launch} {e : Env} {R : Room} {s : State} {m : MethodId} {args : Array Value} {below : List Frame} {meth : Method} {c : Code} {T : State} {locs : List Loc} {cells slots : Nat}
theorem vx_callIN (X : Stand p l e R s m args below meth c T locs cells slots) (hexec : p.tables.exec = Jvm.exec) {own : String} {index : Nat} {host : String} {y : MethodName} {bytes : ByteArray} {maxL : Nat}
    (hown : s.vm.findClass own = some m.cls) (hy1 : y.name = "<init>") (hlink : (Cond.methodLinkNest own index y host).before args s = true) (hinst : (Cond.instanceMethod y).before args s = true)
    (hcode : (Cond.code y bytes maxL none).before args s = true) (hy : y.cls ≠ "java/lang/invoke/MethodHandle" ∧ y.cls ≠ "java/lang/invoke/VarHandle")
    {W9 : Nat} {Pre : Pt → Array Value → Prop} {Post : Pt → Array Value → Option Value → Pt → Prop} {PostX : Pt → Array Value → Addr → Pt → Prop} (hK : vx_Back l R p e below s args y 3 W9 Pre Post PostX)
    {g : JFrame} (hg : g.method = m) (hsize : g.locals.size = c.maxLocals) {a : Addr} {argsL rest : List Value} (hlen : ∀ sig, parseMethodDescriptor y.desc = some sig → argsL.length = sig.parameters.length)
    (hstack : g.stack = argsL.reverse ++ .ref a :: rest) (hW : 2 * g.monitorRoom + (rest.map fun v => v.category).sum ≤ W9) (hdg : decode c.code g.pc = .ok (.invokespecial index, 3))
    (hpre : ∀ vm₁, s.WarmedH vm₁ → Pre ⟨T.setVm vm₁, locs, cells, slots⟩ (Value.ref a :: argsL).toArray) :
    (∃ (v : Option Value) (vm₁ : Vm) (B : Pt), s.WarmedH vm₁ ∧ Stand p l e R s m args below meth c B.U B.locs B.cells B.slots ∧ Post ⟨T.setVm vm₁, locs, cells, slots⟩ (Value.ref a :: argsL).toArray v B ∧
      ∀ target, Steps p.tables e below (B.U.setTop { g with pc := g.pc + 3, stack := v.toList ++ rest }) target → Steps p.tables e below (T.setTop g) target) ∨
    (∃ (q : Addr) (vm₁ : Vm) (B : Pt), s.WarmedH vm₁ ∧ Stand p l e R s m args below meth c B.U B.locs B.cells B.slots ∧ PostX ⟨T.setVm vm₁, locs, cells, slots⟩ (Value.ref a :: argsL).toArray q B ∧
      Steps p.tables e below (T.setTop g) ((B.U.setTop { g with stack := rest }).pushFrame (.throwing q))) := by
  subst hg
  have hpl : e.platform.magicAccessors = ({} : Platform).magicAccessors := by rw [X.admits.platform]
  obtain ⟨mk, methM, cM, kP, vm₁, hnamed, hmethM, hcodeM, -, hlocalsM, -, hkP, -, hW₁, hstep₁⟩ := Steps.initColdArgsNest (e := e) X.here hexec X.warmed hpl hown hy1 hy hlink hinst hcode (f := g) rfl hlen hstack hdg
  have X₁ := X.noted hW₁
  rcases hK g.method meth c ⟨T.setVm vm₁, locs, cells, slots⟩ { g with stack := rest } (.invokespecial index) mk (Value.ref a :: argsL).toArray X₁ rfl hsize hdg hW (X₁.named hnamed) (hpre vm₁ X₁.warmed) with ⟨v, B, X', hpost, hsteps⟩ | ⟨q, B, X', hpost, hsteps⟩
  · exact Or.inl ⟨v, vm₁, B, X₁.warmed, X', hpost, fun target h => hstep₁ _ fun acts => by rw [doInvoke_state]; exact hsteps.trans h⟩
  · exact Or.inr ⟨q, vm₁, B, X₁.warmed, X', hpost, hstep₁ _ fun acts => by rw [doInvoke_state]; exact hsteps⟩
end VXIC
section VXID
variable {p : Program} {l : Launch} {e : Env} {R : Room} {s : State} {m : MethodId} {args : Array Value} {below : List Frame} {meth : Method} {c : Code} {H : Heap} {locs : List Loc} {cells slots : Nat}
theorem vx_runIN {y : MethodName} {bytes cc : ByteArray} {maxL nL mc ms n index : Nat} {ws : List Cond} {rm : Room} {Pc : Array Value → State → Prop} {Qc : Array Value → State → Outcome → State → Prop} {XC : String → State → State → Prop} {free : Addr → Prop} {Ts : List Cond} {own host : String} {b : Addr} {As rest : List Value} {g : JFrame}
    (S : CallFix p m c cc nL s args Ts own) (hM : vx_Met l y ws rm Pc Qc XC mc ms free) (cw : va_CN R s args own index y host bytes maxL none ws rm mc ms n ∧ y.name = "<init>" ∧ (Cond.instanceMethod y).before args s = true) (hp : PreS s H Pc (.ref b :: As))
    (hg : g.method = m) (hn : As.length = n) (hsize : g.locals.size = nL) (hstack : g.stack = As.reverse ++ .ref b :: rest) (hW : 2 * g.monitorRoom + (rest.map fun v => v.category).sum ≤ 8) (hdg : decode cc g.pc = .ok (.invokespecial index, 3)) (hf : cells + mc ≤ R.cells ∧ slots + ms ≤ R.slots) :
    vx_Run p l e R s m args below meth c H locs cells slots mc ms g rest (Qc (Value.ref b :: As).toArray) XC free := by
  obtain ⟨⟨⟨hrc, hrs, hfr, hlo, hws, hcw⟩, hcode, hini, hy, hlen, hl⟩, hx1, hx2⟩ := cw
  have hK : vx_Back l R p e below s args y 3 8 (PreOf R mc ms Pc) (PostOf Qc mc ms free) (vx_Post XC mc ms free) := vx_back (bytes := bytes) (maxL := maxL) (ret := none) hM hp.1 hrc hrs hfr hlo hws hcw (fun a' U hW => word_at hW (Or.inl (by first | rfl | simp [Cond.onTables, Cond.keeps, Cond.steady])) hini)
  obtain ⟨hx, hb, hml, ho, -⟩ := S
  have hPc := hp.2
  intro T hT X
  rcases vx_callIN X hx (bytes := bytes) (maxL := maxL) ho hx1 hl hx2 hcode hy hK hg (hsize.trans hml.symm) (a := b) (argsL := As) (rest := rest) (fun sig h => hn.trans (hlen sig h)) hstack hW (by rw [hb]; exact hdg)
    (fun vm₁ hW₁ => ⟨hf.1, hf.2, hPc (T.setVm vm₁) hT hW₁⟩) with ⟨v, vm₁, ⟨U', l2, c2, s2⟩, hW₁, X', ⟨g', mk, t, L, e1, e2, hq, h1, hL, h2, h3⟩, st⟩ | ⟨q, vm₁, ⟨U', l2, c2, s2⟩, hW₁, X', ⟨g', mk, t, L, E, ce, e1, e2, hq, hce, hcv, hcl, h1, hL, h2, h3⟩, st⟩
  · dsimp only [Pt.U, Pt.locs, Pt.cells, Pt.slots] at X' e1 e2 h1 h2 h3 st
    subst h1; subst h2; subst h3
    exact Or.inl ⟨v, (T.setVm vm₁).calling g' mk (Value.ref b :: As).toArray, t, U', L, hT, X', hL, e1, e2, hq, st⟩
  · dsimp only [Pt.U, Pt.locs, Pt.cells, Pt.slots] at X' e1 e2 h1 h2 h3 st hcl
    subst h1; subst h2; subst h3
    exact Or.inr ⟨q, (T.setVm vm₁).calling g' mk (Value.ref b :: As).toArray, t, U', L, E, ce, hT, X', hL, e1, e2, hq, hce, hcv, vx_cls hW₁ hcl, st⟩
end VXID
/-! ===== END ===== -/
end
section
/-! ===== J: the kit's rows over one abstract heap (a function from addresses to cells), with the method's facts bundled ===== -/
def jI (x : Int) : Int32 := Int32.ofInt x
def jL (x : Int) : Int64 := Int64.ofInt x
abbrev jj_G : Type := Nat → Option va_E
def jj_u (G : jj_G) (a : Nat) (e : va_E) : jj_G := fun q => if q = a then some e else G q
theorem jj_us {G : jj_G} {a : Nat} {e : va_E} : jj_u G a e a = some e := by simp [jj_u]
theorem jj_un {G : jj_G} {a q : Nat} {e : va_E} (h : q ≠ a) : jj_u G a e q = G q := by simp [jj_u, h]
/-- cells: a row of ints, of longs, of references; an object -/
def jj_ai (cA : ClassId) (n : Nat) (g : Int → Int) : va_E := .inl (cA, n, .inl (fun i => jI (g (i : Int))))
def jj_al (cA : ClassId) (n : Nat) (g : Int → Int) : va_E := .inl (cA, n, .inr (.inl (fun i => jL (g (i : Int)))))
def jj_aq (cA : ClassId) (n : Nat) (g : Int → Option Nat) : va_E := .inl (cA, n, .inr (.inr (.inr (.inr (fun i => g (i : Int))))))
def jj_o (ci : Nat) (fs : List Value) : va_E := .inr (ci, fs)
def ju {α : Type} (g : Int → α) (i : Int) (x : α) : Int → α := fun j => if j = i then x else g j
theorem ju_s {α : Type} {g : Int → α} {i : Int} {x : α} : ju g i x i = x := by simp [ju]
theorem ju_n {α : Type} {g : Int → α} {i j : Int} {x : α} (h : j ≠ i) : ju g i x j = g j := by simp [ju, h]
def jj_L (G : jj_G) (ws : va_W) : Prop := ∀ (a : Nat) (e : va_E), G a = some e ↔ ∃ k : Nat, ws[k]? = some (a, e)
def jj_W (D : va_G) (A : Nat → Prop) (G : jj_G) (H : Heap) : Prop := ∃ ws : va_W, va_P D vwCl ws H ∧ va_D A ws ∧ jj_L G ws
def jj_A (G : jj_G) (sz : Nat) : Nat → Prop := fun q => G q ≠ none ∨ sz ≤ q
theorem jj_L.set {G : jj_G} {ws : va_W} {A : Nat → Prop} {k a : Nat} {e0 e : va_E} (h : jj_L G ws) (hD : va_D A ws) (hk : ws[k]? = some (a, e0)) : jj_L (jj_u G a e) (ws.set k (a, e)) := by
  have hl := (List.getElem?_eq_some_iff.mp hk).1
  intro b e'
  by_cases hb : b = a
  · subst hb
    rw [jj_us]
    constructor
    · intro h1
      cases h1
      exact ⟨k, List.getElem?_set_self hl⟩
    · rintro ⟨j, hj⟩
      by_cases hjk : j = k
      · subst hjk
        rw [List.getElem?_set_self hl] at hj
        cases hj; rfl
      · rw [List.getElem?_set_ne (Ne.symm hjk)] at hj
        exact absurd (hD.1 j k _ _ hj hk rfl) hjk
  · rw [jj_un hb]
    refine (h b e').trans ⟨?_, ?_⟩
    · rintro ⟨j, hj⟩
      refine ⟨j, ?_⟩
      by_cases hjk : j = k
      · subst hjk
        rw [hk] at hj
        cases hj
        exact absurd rfl hb
      · rw [List.getElem?_set_ne (Ne.symm hjk)]; exact hj
    · rintro ⟨j, hj⟩
      by_cases hjk : j = k
      · subst hjk
        rw [List.getElem?_set_self hl] at hj
        cases hj
        exact absurd rfl hb
      · rw [List.getElem?_set_ne (Ne.symm hjk)] at hj
        exact ⟨j, hj⟩
theorem jj_L.fresh {G : jj_G} {ws : va_W} {A : Nat → Prop} {a : Nat} {e : va_E} (h : jj_L G ws) (hD : va_D A (ws ++ [(a, e)])) : G a = none := by
  cases hg : G a with
  | none => rfl
  | some x =>
    obtain ⟨k, hk⟩ := (h a x).mp hg
    have hl := (List.getElem?_eq_some_iff.mp hk).1
    have h1 : (ws ++ [(a, e)])[k]? = some (a, x) := by rw [List.getElem?_append_left hl]; exact hk
    have h2 : (ws ++ [(a, e)])[ws.length]? = some (a, e) := by simp
    have := hD.1 _ _ _ _ h1 h2 rfl
    omega
theorem jj_L.push {G : jj_G} {ws : va_W} {a : Nat} {e : va_E} (h : jj_L G ws) (hf : G a = none) : jj_L (jj_u G a e) (ws ++ [(a, e)]) := by
  intro b e'
  have key : ∀ (j : Nat) (q : Nat × va_E), (ws ++ [(a, e)])[j]? = some q ↔ ws[j]? = some q ∨ (j = ws.length ∧ q = (a, e)) := by
    intro j q
    by_cases hl : j < ws.length
    · rw [List.getElem?_append_left hl]
      exact ⟨Or.inl, fun h => h.elim id (fun h => absurd h.1 (by omega))⟩
    · rw [List.getElem?_append_right (by omega)]
      constructor
      · intro hj
        have hz : j - ws.length < 1 := (List.getElem?_eq_some_iff.mp hj).1
        have h0 : j - ws.length = 0 := by omega
        rw [h0] at hj
        cases hj
        exact Or.inr ⟨by omega, rfl⟩
      · rintro (h1 | ⟨rfl, rfl⟩)
        · exact absurd (List.getElem?_eq_some_iff.mp h1).1 hl
        · simp
  by_cases hb : b = a
  · subst hb
    rw [jj_us]
    constructor
    · intro h1; cases h1
      exact ⟨ws.length, (key _ _).mpr (Or.inr ⟨rfl, rfl⟩)⟩
    · rintro ⟨j, hj⟩
      rcases (key _ _).mp hj with h1 | ⟨-, h1⟩
      · have := (h b e').mpr ⟨j, h1⟩
        rw [hf] at this; cases this
      · cases h1; rfl
  · rw [jj_un hb]
    refine (h b e').trans ⟨?_, ?_⟩
    · rintro ⟨j, hj⟩
      exact ⟨j, (key _ _).mpr (Or.inl hj)⟩
    · rintro ⟨j, hj⟩
      rcases (key _ _).mp hj with h1 | ⟨-, h1⟩
      · exact ⟨j, h1⟩
      · cases h1; exact absurd rfl hb
/-- one cell of it -/
theorem jj_W.at {D : va_G} {A : Nat → Prop} {G : jj_G} {H : Heap} {a : Nat} {e : va_E} (h : jj_W D A G H) (hG : G a = some e) : va_P D vwCl [(a, e)] H ∧ A a := by
  obtain ⟨ws, hP, hD, hL⟩ := h
  obtain ⟨k, hk⟩ := (hL a e).mp hG
  exact ⟨fun j q hj => by
    have hz : j < 1 := (List.getElem?_eq_some_iff.mp hj).1
    rw [show j = 0 by omega] at hj
    cases hj
    exact hP k _ hk, hD.2 k _ hk⟩
theorem jj_W.dom {D : va_G} {A : Nat → Prop} {G : jj_G} {H : Heap} (h : jj_W D A G H) {a : Nat} (hG : G a ≠ none) : A a ∧ a < H.size := by
  cases hg : G a with
  | none => exact absurd hg hG
  | some e =>
    obtain ⟨hP, hA⟩ := h.at hg
    exact ⟨hA, (hP 0 (a, e) rfl).lt⟩
/-- the world seen by a callee -/
theorem jj_W.into {D : va_G} {A : Nat → Prop} {G : jj_G} {H : Heap} (h : jj_W D A G H) : jj_W D (jj_A G H.size) G H := by
  obtain ⟨ws, hP, hD, hL⟩ := h
  exact ⟨ws, hP, hD.weaken (fun k q hk _ => Or.inl (by rw [(hL q.1 q.2).mpr ⟨k, hk⟩]; exact fun h => by cases h)), hL⟩
theorem jj_W.back {D : va_G} {A B : Nat → Prop} {G : jj_G} {H : Heap} (h : jj_W D B G H) (hBA : ∀ q, B q → A q) : jj_W D A G H := by
  obtain ⟨ws, hP, hD, hL⟩ := h
  exact ⟨ws, hP, hD.weaken (fun k q _ hB => hBA _ hB), hL⟩
theorem jj_W.kept {D : va_G} {A : Nat → Prop} {G : jj_G} {H H1 : Heap} (h : jj_W D A G H) (hq : ∀ q : Nat, q < H.size → G q ≠ none → H1[q]? = H[q]?) : jj_W D A G H1 := by
  obtain ⟨ws, hP, hD, hL⟩ := h
  exact ⟨ws, hP.kept (fun k q hk => hq q.1 ((hP k q hk).lt) (by rw [(hL q.1 q.2).mpr ⟨k, hk⟩]; exact fun h => by cases h)), hD, hL⟩
/-! locals: a list by slots, none where nothing is known -/
def jj_l (ls : Array Slot) (nL : Nat) (lv : List (Option Value)) : Prop := ls.size = nL ∧ lv_wf ls ∧ ∀ (i : Nat) (v : Value), lv[i]? = some (some v) → ls[i]? = some (.val v)
def jj_p : Nat → List (Option Value) → List (Nat × Value)
  | _, [] => []
  | i, none :: r => jj_p (i + 1) r
  | i, some v :: r => (i, v) :: jj_p (i + 1) r
theorem jj_p_iff : ∀ (lv : List (Option Value)) (i j : Nat) (v : Value), (j, v) ∈ jj_p i lv ↔ ∃ k, j = i + k ∧ lv[k]? = some (some v)
  | [], i, j, v => by simp [jj_p]
  | none :: r, i, j, v => by
    rw [jj_p, jj_p_iff r (i + 1) j v]
    constructor
    · rintro ⟨k, h1, h2⟩
      exact ⟨k + 1, by omega, by simpa using h2⟩
    · rintro ⟨k, h1, h2⟩
      cases k with
      | zero => simp at h2
      | succ k => exact ⟨k, by omega, by simpa using h2⟩
  | some w :: r, i, j, v => by
    rw [jj_p, List.mem_cons, jj_p_iff r (i + 1) j v]
    constructor
    · rintro (h | ⟨k, h1, h2⟩)
      · cases h; exact ⟨0, rfl, rfl⟩
      · exact ⟨k + 1, by omega, by simpa using h2⟩
    · rintro ⟨k, h1, h2⟩
      cases k with
      | zero =>
        simp at h2
        left; rw [h2]; simp [h1]
      | succ k => exact Or.inr ⟨k, by omega, by simpa using h2⟩
theorem jj_l.has {ls : Array Slot} {nL : Nat} {lv : List (Option Value)} (h : jj_l ls nL lv) : lv_has ls nL (jj_p 0 lv) := by
  refine ⟨h.1, h.2.1, fun q hq => ?_⟩
  obtain ⟨k, h1, h2⟩ := (jj_p_iff lv 0 q.1 q.2).mp hq
  have := h.2.2 k q.2 h2
  rw [show q.1 = k by omega]
  exact this
theorem jj_l.of {ls : Array Slot} {nL : Nat} {lv : List (Option Value)} {l : List (Nat × Value)} (h : lv_has ls nL l) (hl : ∀ q ∈ jj_p 0 lv, q ∈ l) : jj_l ls nL lv :=
  ⟨h.1, h.2.1, fun i v hv => h.2.2 (i, v) (hl _ ((jj_p_iff lv 0 i v).mpr ⟨i, by omega, hv⟩))⟩
def jj_nc (lv : List (Option Value)) (i : Nat) : Bool := match i with
  | 0 => true
  | j + 1 => match lv[j]? with
    | some (some w) => w.category != 2
    | _ => true
theorem jj_l.set1 {ls' : Array Slot} {nL i : Nat} {lv : List (Option Value)} {v : Value} (h : lv_has ls' nL ((i, v) :: (jj_p 0 lv).filter (fun q => !(q.1 == i) && !(q.1 + 1 == i && q.2.category == 2)))) (hc : jj_nc lv i = true) : jj_l ls' nL (lv.set i (some v)) := by
  refine jj_l.of h fun q hq => ?_
  obtain ⟨k, h1, h2⟩ := (jj_p_iff _ 0 q.1 q.2).mp hq
  have hk : q.1 = k := by omega
  by_cases hki : k = i
  · subst hki
    have hlt : k < lv.length := by
      have := (List.getElem?_eq_some_iff.mp h2).1
      simpa using this
    rw [List.getElem?_set_self hlt] at h2
    have h3 : v = q.2 := by simpa using h2
    rw [h3, ← hk]
    exact List.mem_cons_self
  · rw [List.getElem?_set_ne (Ne.symm hki)] at h2
    refine List.mem_cons_of_mem _ (List.mem_filter.mpr ⟨(jj_p_iff _ 0 q.1 q.2).mpr ⟨k, by omega, h2⟩, ?_⟩)
    have hne : (q.1 == i) = false := by rw [hk]; simpa using hki
    rw [hne]
    by_cases hn : q.1 + 1 = i
    · have hi : i = k + 1 := by omega
      subst hi
      simp only [jj_nc, h2] at hc
      have : (q.2.category == 2) = false := by simpa using hc
      rw [this]; simp
    · have : (q.1 + 1 == i) = false := by simpa using hn
      rw [this]; simp
theorem jj_l.set2 {ls' : Array Slot} {nL i : Nat} {lv : List (Option Value)} {v : Value} (h : lv_has ls' nL ((i, v) :: (jj_p 0 lv).filter (fun q => !(q.1 == i) && (!(q.1 == i + 1) && !(q.1 + 1 == i && q.2.category == 2))))) (hc : jj_nc lv i = true) : jj_l ls' nL ((lv.set i (some v)).set (i + 1) none) := by
  refine jj_l.of h fun q hq => ?_
  obtain ⟨k, h1, h2⟩ := (jj_p_iff _ 0 q.1 q.2).mp hq
  have hk : q.1 = k := by omega
  have hk1 : k ≠ i + 1 := by
    intro e
    subst e
    have hlt := (List.getElem?_eq_some_iff.mp h2).1
    rw [List.getElem?_set_self (by simpa using hlt)] at h2
    cases h2
  rw [List.getElem?_set_ne (Ne.symm hk1)] at h2
  by_cases hki : k = i
  · subst hki
    have hlt : k < lv.length := by
      have := (List.getElem?_eq_some_iff.mp h2).1
      simpa using this
    rw [List.getElem?_set_self hlt] at h2
    have h3 : v = q.2 := by simpa using h2
    rw [h3, ← hk]
    exact List.mem_cons_self
  · rw [List.getElem?_set_ne (Ne.symm hki)] at h2
    refine List.mem_cons_of_mem _ (List.mem_filter.mpr ⟨(jj_p_iff _ 0 q.1 q.2).mpr ⟨k, by omega, h2⟩, ?_⟩)
    have hne : (q.1 == i) = false := by rw [hk]; simpa using hki
    have hne1 : (q.1 == i + 1) = false := by rw [hk]; simpa using hk1
    rw [hne, hne1]
    by_cases hn : q.1 + 1 = i
    · have hi : i = k + 1 := by omega
      subst hi
      simp only [jj_nc, h2] at hc
      have : (q.2.category == 2) = false := by simpa using hc
      rw [this]; simp
    · have : (q.1 + 1 == i) = false := by simpa using hn
      rw [this]; simp
/-! the words that hold in every state of the run -/
def jj_GW : List Cond := lw_tbl.filter goodWord
def jj_tw : Cond → Bool
  | .methodLinkNest .. => true
  | .castable .. => true
  | .declares .. => true
  | _ => false
def jj_T : List Cond := lw_tbl.filter jj_tw
def jj_sw : Cond → Option (String × Nat × String)
  | .stringRef o k t => some (o, k, t)
  | _ => none
def jj_S : List (String × Nat × String) := lw_tbl.filterMap jj_sw
def jj_O : List String := ["MatrixHouse$Tape", "MatrixHouse$Side", "MatrixHouse$Stamper", "MatrixHouse$Disc", "MatrixHouse$Sale"]
def jj_N : List (String × String) := [("java/lang/IllegalArgumentException", "java/lang/IndexOutOfBoundsException"), ("java/lang/IllegalStateException", "java/lang/IndexOutOfBoundsException"), ("java/lang/IllegalStateException", "java/lang/IllegalArgumentException")]
/-- the array classes: ints, longs, and the rows of objects -/
def jj_ty (ac : Nat → ClassId) : List (ClassId × FieldType) := [(ac 0, .int), (ac 1, .long), (ac 2, .object "MatrixHouse$Tape"), (ac 3, .object "MatrixHouse$Side"), (ac 4, .object "MatrixHouse$Stamper"), (ac 5, .object "MatrixHouse$Disc"), (ac 6, .object "MatrixHouse$Sale")]
def jj_E (D : va_G) (ac : Nat → ClassId) (A : Nat → Prop) (U : State) (H : Heap) : Prop :=
  (∀ w ∈ jj_GW, w.before #[] U = true) ∧ va_K D vwCl (jj_ty ac) U ∧ (∀ q ∈ jj_S, ∃ a : Nat, vk_R q.1 q.2.1 q.2.2 a U) ∧ (∀ w ∈ jj_T, va_Nw w U) ∧ (∀ C ∈ jj_O, va_AO C U) ∧ (∀ q ∈ jj_N, va_Nc q.1 q.2 U) ∧
  vx_Zq Bundle.tN "UNASSIGNED_STACK" Bundle.steD A U H ∧ vx_Zq Bundle.tN "SUPPRESSED_SENTINEL" Bundle.listD A U H
theorem jj_gw {w : Cond} (i : Nat) (h : lw_tbl[i]? = some w) (hg : goodWord w = true) : w ∈ jj_GW := List.mem_filter.mpr ⟨List.mem_of_getElem? h, hg⟩
theorem jj_tw_mem {w : Cond} (i : Nat) (h : lw_tbl[i]? = some w) (hg : jj_tw w = true) : w ∈ jj_T := List.mem_filter.mpr ⟨List.mem_of_getElem? h, hg⟩
theorem jj_gw_good {w : Cond} (h : w ∈ jj_GW) : goodWord w = true := (List.mem_filter.mp h).2
theorem jj_warmT {w : Cond} (hw : w ∈ jj_T) {s U : State} (hW : s.WarmedH U.vm) (h : va_Nw w s) : va_Nw w U := by
  have h2 := (List.mem_filter.mp hw).2
  cases w <;> first | exact va_Nw.warmM hW h | exact va_Nw.warmC hW h | exact va_Nw.warmD hW h | (simp [jj_tw] at h2; done)
theorem jj_E.warm {D : va_G} {ac : Nat → ClassId} {A B : Nat → Prop} {s U : State} {H H1 : Heap} (h : jj_E D ac A s H) (hW : s.WarmedH U.vm) (hq : ∀ a : Nat, a < H.size → ¬ A a → H1[a]? = H[a]?) (hAB : ∀ q, B q → A q) : jj_E D ac B U H1 := by
  obtain ⟨h1, h2, h3, h4, h5, h6, h7, h8⟩ := h
  refine ⟨fun w hw => word_at hW (good_of_word (jj_gw_good hw)) (h1 w hw), va_K.moved hW.alike h2, fun q hqq => ?_, fun w hw => jj_warmT hw hW (h4 w hw), fun C hC => va_AO.moved hW.alike (h5 C hC), fun q hqq => va_Nc.moved hW.alike (h6 q hqq), ((vx_Zq.moved hW.alike h7).kept hq).narrow hAB, ((vx_Zq.moved hW.alike h8).kept hq).narrow hAB⟩
  obtain ⟨a, ha⟩ := h3 q hqq
  exact ⟨a, vk_R.warm hW ha⟩
end
section
/-! the method's context in one: program, launch, env, room, start, method, args, frames below, method, code, locals' size, free cells, class numbers, array classes, end -/
def jj_X : Type := Program × Launch × Env × Room × State × MethodId × Array Value × List Frame × Method × Code × Nat × (Nat → Prop) × va_G × (Nat → ClassId) × (State → Prop)
def jj_J : jj_X → jj_G → Nat → Nat → Nat → List (Option Value) → List Value → Prop
  | (p, l, e, R, s, m, args, below, meth, c, nL, A, D, _, Q), G, kc, kn, pc, lv, st =>
    ∀ (H : Heap) (locs : List Loc) (ls : Array Slot), jj_W D A G H → va_S A s.heap H locs → jj_l ls nL lv → W p l e R s m args below meth c H locs kc kn Q (F0 m pc ls st)
/-- what the method's rows rest on -/
def jj_F : jj_X → String → ByteArray → Room → Prop
  | (p, l, _, R, s, m, args, _, meth, c, nL, A, D, ac, _), own, cc, rm =>
    p.tables.exec = Jvm.exec ∧ c.code = cc ∧ c.maxLocals = nL ∧ s.vm.findClass own = some m.cls ∧ R = rm ∧ (∀ q, s.heap.size ≤ q → A q) ∧ jj_E D ac A s s.heap ∧ l.stackTraces = false ∧ meth.locks = false ∧ (∀ w ∈ jj_GW, w.before args s = true) ∧ (∀ q, A q → q < s.heap.size → True)
def jj_Pc (D : va_G) (ac : Nat → ClassId) (av : List Value) (G : jj_G) (sz : Nat) : Array Value → State → Prop := va_Pc av (fun U => U.heap.size = sz ∧ jj_W D (jj_A G sz) G U.heap ∧ jj_E D ac (jj_A G sz) U U.heap)
def jj_Qc (D : va_G) (G : jj_G) (sz : Nat) (post : Option Value → jj_G → Prop) : Array Value → State → Outcome → State → Prop := fun _ st o t =>
  (∃ (v : Option Value) (G' : jj_G), o = .returned v ∧ post v G' ∧ jj_W D (jj_A G sz) G' t.heap) ∧ va_F (jj_A G sz) st t
def jj_XC (D : va_G) (G : jj_G) (sz : Nat) (px : String → Prop) : String → State → State → Prop := fun E st t => px E ∧ jj_W D (jj_A G sz) G t.heap ∧ va_F (jj_A G sz) st t
/-- a method's contract: from a heap that holds G, it returns with post, or throws with px and G as it was -/
def jj_C (l : Launch) (D : va_G) (ac : Nat → ClassId) (y : MethodName) (cw : Cond) (rm : Room) (av : List Value) (G : jj_G) (post : Option Value → jj_G → Prop) (px : String → Prop) : Prop :=
  ∀ sz : Nat, vx_Met l y [cw] rm (jj_Pc D ac av G sz) (jj_Qc D G sz post) (jj_XC D G sz px) rm.cells rm.slots (jj_A G sz)
/-- .. and what the ends of a body rest on -/
def jj_B : jj_X → String → ByteArray → Room → Option FieldType → jj_G → (Option Value → jj_G → Prop) → (String → Prop) → Prop
  | X@(_, _, _, _, s, _, args, below, meth, c, _, A, D, _, Q), own, cc, rm, ret, G, post, px =>
    jj_F X own cc rm ∧ meth.sig.returnType = ret ∧ A = jj_A G s.heap.size ∧ Q = vx_MQ below (jj_Qc D G s.heap.size post) (jj_XC D G s.heap.size px) args s rm.cells rm.slots (jj_A G s.heap.size) ∧ ∀ x ∈ c.exceptionTable.toList, False
def jj_D (cc : ByteArray) (pc : Nat) (i : Instr) (len nx : Nat) : Prop := nx = pc + len ∧ decode cc pc = .ok (i, len)
def jj_en (av : List Value) (n : Nat) : List (Option Value) := av.map some ++ List.replicate (n - av.length) none
theorem jj_en_mem {av : List Value} {n : Nat} (hc : av.all (fun v => v.category == 1) = true) : ∀ q ∈ jj_p 0 (jj_en av n), q ∈ lv_args 0 av := by
  have key : ∀ (l : List Value) (i : Nat), l.all (fun v => v.category == 1) = true → ∀ (k : Nat) (v : Value), l[k]? = some v → (i + k, v) ∈ lv_args i l := by
    intro l
    induction l with
    | nil => intro i _ k v h; simp at h
    | cons a l ih =>
      intro i hc k v h
      simp only [List.all_cons, Bool.and_eq_true, beq_iff_eq] at hc
      rw [lv_args, if_neg (by rw [hc.1]; decide)]
      cases k with
      | zero => simp at h; rw [h]; exact List.mem_cons_self
      | succ k =>
        have := ih (i + 1) hc.2 k v (by simpa using h)
        rw [show i + (k + 1) = i + 1 + k by omega]
        exact List.mem_cons_of_mem _ this
  intro q hq
  obtain ⟨k, h1, h2⟩ := (jj_p_iff _ 0 q.1 q.2).mp hq
  have h3 : av[k]? = some q.2 := by
    unfold jj_en at h2
    by_cases hk : k < (av.map some).length
    · rw [List.getElem?_append_left hk, List.getElem?_map] at h2
      cases hav : av[k]? with
      | none => rw [hav] at h2; cases h2
      | some w => rw [hav] at h2; simp at h2; rw [h2]
    · rw [List.getElem?_append_right (by omega), List.getElem?_replicate] at h2
      split at h2 <;> cases h2
  have := key av 0 hc k q.2 h3
  rw [show q = (q.1, q.2) from rfl, show q.1 = 0 + k by omega]
  exact this
set_option maxHeartbeats 4000000 in
theorem jj_blind {D : va_G} {ac : Nat → ClassId} {av : List Value} {G : jj_G} {sz : Nat} : FrameBlind (jj_Pc D ac av G sz) := by
  intro a U g mk h
  obtain ⟨h1, h2, h3, h4⟩ := h
  exact ⟨h1, h2, h3, h4.warm (U := U.calling g mk a) (State.WarmedH.refl U) (fun _ _ _ => rfl) (fun _ h => h)⟩
set_option maxHeartbeats 4000000 in
theorem jj_of {l : Launch} {D : va_G} {ac : Nat → ClassId} {y : MethodName} {own : String} {bytes : ByteArray} {maxL : Nat} {ret : Option FieldType} {rm : Room} {av : List Value} {G : jj_G} {post : Option Value → jj_G → Prop} {px : String → Prop} {lv0 : List (Option Value)}
    (hl : l.stackTraces = false) (hy : plainName y.cls = true) (ho : y.cls = own) (hc : av.all (fun v => v.category == 1) = true) (hlen : (lg_sl av).length ≤ maxL) (hlv : jj_en av maxL = lv0)
    (body : ∀ X : jj_X, jj_B X own bytes rm ret G post px → jj_J X G 0 0 0 lv0 []) : jj_C l D ac y (.code y bytes maxL ret) rm av G post px := by
  intro sz
  refine vx_ofW (cc := bytes) (maxL := maxL) (ret := ret) hy rfl ?_
  intro p e s m args below meth c s₁ B hml hno hv
  obtain ⟨rfl, rfl, hW, hE⟩ := hv
  subst ho
  have hE' : ∀ w ∈ jj_GW, w.before av.toArray s = true := fun w hw => word_at (State.WarmedH.refl s) (good_of_word (jj_gw_good hw)) (hE.1 w hw)
  have h0 := body (p, l, e, (headSpec [Cond.code y bytes maxL ret] rm).room, s, m, av.toArray, below, meth, c, maxL, jj_A G s.heap.size, D, ac, vx_MQ below (jj_Qc D G s.heap.size post) (jj_XC D G s.heap.size px) av.toArray s rm.cells rm.slots (jj_A G s.heap.size))
    ⟨⟨B.exec, B.bytes, hml, findClass_of_methodNamed B.named, rfl, fun q h => Or.inr h, hE, hl, B.notSynchronized, hE', fun _ _ _ => trivial⟩, B.returns, rfl, rfl, hno⟩
  have hl1 := lv_entry av (n := maxL) hlen
  rw [lg_entry_eq]
  subst hlv
  exact h0 s.heap [] _ hW va_S.rf (jj_l.of hl1 (jj_en_mem hc))
end
section
def jj_nL : jj_X → Nat
  | (_, _, _, _, _, _, _, _, _, _, nL, _, _, _, _) => nL
def jj_ncv (x : Option Value) : Bool := match x with
  | some w => w.category != 2
  | none => true
/-! numbers -/
theorem jI_toInt {x : Int} (h1 : -2147483648 ≤ x) (h2 : x ≤ 2147483647) : (jI x).toInt = x := by
  unfold jI
  rw [Int32.toInt_ofInt]
  simp only [Int.bmod, Int32.size]
  omega
theorem jI_of (x : Int32) : x = jI x.toInt := (Int32.ofInt_toInt x).symm
theorem jI_rng (x : Int32) : -2147483648 ≤ x.toInt ∧ x.toInt ≤ 2147483647 := ⟨Int32.le_toInt x, by have := Int32.toInt_lt x; omega⟩
theorem jI_add (a b : Int) : jI a + jI b = jI (a + b) := (Int32.ofInt_add a b).symm
theorem jI_sub (a b : Int) : jI a - jI b = jI (a - b) := (Int32.ofInt_sub a b).symm
theorem jI_mul (a b : Int) : jI a * jI b = jI (a * b) := (Int32.ofInt_mul a b).symm
theorem jI_inj {a b : Int} (h : -2147483648 ≤ a ∧ a ≤ 2147483647 ∧ -2147483648 ≤ b ∧ b ≤ 2147483647) : jI a = jI b ↔ a = b := by
  rw [← Int32.toInt_inj, jI_toInt h.1 h.2.1, jI_toInt h.2.2.1 h.2.2.2]
theorem jI_le {a b : Int} (h : -2147483648 ≤ a ∧ a ≤ 2147483647 ∧ -2147483648 ≤ b ∧ b ≤ 2147483647) : jI a ≤ jI b ↔ a ≤ b := by
  rw [Int32.le_iff_toInt_le, jI_toInt h.1 h.2.1, jI_toInt h.2.2.1 h.2.2.2]
theorem jI_lt {a b : Int} (h : -2147483648 ≤ a ∧ a ≤ 2147483647 ∧ -2147483648 ≤ b ∧ b ≤ 2147483647) : jI a < jI b ↔ a < b := by
  rw [Int32.lt_iff_toInt_lt, jI_toInt h.1 h.2.1, jI_toInt h.2.2.1 h.2.2.2]
theorem jI_0 : (0 : Int32) = jI 0 := by decide
theorem jI_div {a b : Int} (h : 0 ≤ a ∧ a ≤ 2147483647 ∧ 0 < b ∧ b ≤ 2147483647) : jI a / jI b = jI (a / b) := by
  rw [← Int32.toInt_inj, Int32.toInt_div, jI_toInt (by omega) (by omega), jI_toInt (by omega) (by omega)]
  have h1 : a.tdiv b = a / b := Int.tdiv_eq_ediv_of_nonneg h.1
  have h2 : 0 ≤ a / b := Int.ediv_nonneg h.1 (by omega)
  have h3 : a / b ≤ a := Int.ediv_le_self b h.1
  rw [h1, jI_toInt (by omega) (by omega)]
  simp only [Int.bmod]
  omega
theorem jI_mod {a b : Int} (h : 0 ≤ a ∧ a ≤ 2147483647 ∧ 0 < b ∧ b ≤ 2147483647) : jI a - jI a / jI b * jI b = jI (a % b) := by
  rw [jI_div h, jI_mul, jI_sub]
  congr 1
  have := Int.emod_def a b
  rw [this, Int.mul_comm]
theorem jL_toInt {x : Int} (h1 : -9223372036854775808 ≤ x) (h2 : x ≤ 9223372036854775807) : (jL x).toInt = x := by
  unfold jL
  rw [Int64.toInt_ofInt]
  simp only [Int.bmod, Int64.size]
  omega
theorem jL_mul (a b : Int) : jL a * jL b = jL (a * b) := (Int64.ofInt_mul a b).symm
theorem jL_of_I {x : Int} (h1 : -2147483648 ≤ x) (h2 : x ≤ 2147483647) : (jI x).toInt64 = jL x := by
  rw [← Int64.toInt_inj, Int32.toInt_toInt64, jI_toInt h1 h2, jL_toInt (by omega) (by omega)]
theorem jI_of_L (x : Int) : (jL x).toInt32 = jI x := by
  unfold jL jI
  first | exact Int64.toInt32_ofInt x | simp
theorem jL_div {a b : Int} (h : 0 ≤ a ∧ a ≤ 9223372036854775807 ∧ 0 < b ∧ b ≤ 9223372036854775807) : jL a / jL b = jL (a / b) := by
  rw [← Int64.toInt_inj, Int64.toInt_div, jL_toInt (by omega) (by omega), jL_toInt (by omega) (by omega)]
  have h1 : a.tdiv b = a / b := Int.tdiv_eq_ediv_of_nonneg h.1
  have h2 : 0 ≤ a / b := Int.ediv_nonneg h.1 (by omega)
  have h3 : a / b ≤ a := Int.ediv_le_self b h.1
  rw [h1, jL_toInt (by omega) (by omega)]
  simp only [Int.bmod]
  omega
theorem jL_inj {a b : Int} (h : -9223372036854775808 ≤ a ∧ a ≤ 9223372036854775807 ∧ -9223372036854775808 ≤ b ∧ b ≤ 9223372036854775807) : jL a = jL b ↔ a = b := by
  rw [← Int64.toInt_inj, jL_toInt h.1 h.2.1, jL_toInt h.2.2.1 h.2.2.2]
theorem jL_lt {a b : Int} (h : -9223372036854775808 ≤ a ∧ a ≤ 9223372036854775807 ∧ -9223372036854775808 ≤ b ∧ b ≤ 9223372036854775807) : jL a < jL b ↔ a < b := by
  rw [Int64.lt_iff_toInt_lt, jL_toInt h.1 h.2.1, jL_toInt h.2.2.1 h.2.2.2]
theorem jI_in {x : Int} {n : Nat} (h : 0 ≤ x ∧ x < n) (hn : n ≤ 100000) : vp_in (jI x) n ∧ (((jI x).toNatClampNeg : Nat) : Int) = x := by
  have h1 : (jI x).toInt = x := jI_toInt (by omega) (by omega)
  have h2 : (((jI x).toNatClampNeg : Nat) : Int) = x := by
    rw [show (jI x).toNatClampNeg = (jI x).toInt.toNat from rfl, h1]
    omega
  refine ⟨vp_in_iff.mpr ⟨by omega, by omega⟩, h2⟩
section JR
variable {X : jj_X} {own : String} {cc : ByteArray} {rm : Room} {G : jj_G} {kc kn pc nx : Nat} {lv lr : List (Option Value)} {st : List Value}

theorem jj_iconst (F : jj_F X own cc rm) {n : Int} (d : jj_D cc pc (.iconst n) 1 nx) (kk : jj_J X G kc kn nx lv (.int (jI n) :: st)) : jj_J X G kc kn pc lv st := by
  obtain ⟨p, l, e, R, s, m, args, below, meth, c, nL, A, D, ac, Q⟩ := X
  obtain ⟨hx, hb, hml, hown, hR, hA, hE, hs, hk, hts, -⟩ := F
  obtain ⟨rfl, hd⟩ := d
  intro H locs ls hW hS hl
  exact lv_iconst hx hb hd rfl (kk H locs ls hW hS hl)
theorem jj_bipush (F : jj_F X own cc rm) {n : Int} (hv : (Int8.ofInt n).toInt32 = jI n) (d : jj_D cc pc (.bipush n) 2 nx) (kk : jj_J X G kc kn nx lv (.int (jI n) :: st)) : jj_J X G kc kn pc lv st := by
  obtain ⟨p, l, e, R, s, m, args, below, meth, c, nL, A, D, ac, Q⟩ := X
  obtain ⟨hx, hb, hml, hown, hR, hA, hE, hs, hk, hts, -⟩ := F
  obtain ⟨rfl, hd⟩ := d
  intro H locs ls hW hS hl
  exact lv_bipush hx hb hd hv (kk H locs ls hW hS hl)
theorem jj_sipush (F : jj_F X own cc rm) {n : Int} (hv : (Int16.ofInt n).toInt32 = jI n) (d : jj_D cc pc (.sipush n) 3 nx) (kk : jj_J X G kc kn nx lv (.int (jI n) :: st)) : jj_J X G kc kn pc lv st := by
  obtain ⟨p, l, e, R, s, m, args, below, meth, c, nL, A, D, ac, Q⟩ := X
  obtain ⟨hx, hb, hml, hown, hR, hA, hE, hs, hk, hts, -⟩ := F
  obtain ⟨rfl, hd⟩ := d
  intro H locs ls hW hS hl
  exact lv_sipush hx hb hd hv (kk H locs ls hW hS hl)
theorem jj_lconst (F : jj_F X own cc rm) {n : Fin 2} {v : Int} (hv : Int64.ofNat (n : Nat) = jL v) (d : jj_D cc pc (.lconst n) 1 nx) (kk : jj_J X G kc kn nx lv (.long (jL v) :: st)) : jj_J X G kc kn pc lv st := by
  obtain ⟨p, l, e, R, s, m, args, below, meth, c, nL, A, D, ac, Q⟩ := X
  obtain ⟨hx, hb, hml, hown, hR, hA, hE, hs, hk, hts, -⟩ := F
  obtain ⟨rfl, hd⟩ := d
  intro H locs ls hW hS hl
  exact lv_lconst hx hb hd hv (kk H locs ls hW hS hl)
theorem jj_null (F : jj_F X own cc rm) (d : jj_D cc pc (.aconst_null) 1 nx) (kk : jj_J X G kc kn nx lv (.null :: st)) : jj_J X G kc kn pc lv st := by
  obtain ⟨p, l, e, R, s, m, args, below, meth, c, nL, A, D, ac, Q⟩ := X
  obtain ⟨hx, hb, hml, hown, hR, hA, hE, hs, hk, hts, -⟩ := F
  obtain ⟨rfl, hd⟩ := d
  intro H locs ls hW hS hl
  exact lv_null hx hb hd (kk H locs ls hW hS hl)
theorem jj_ldc (F : jj_F X own cc rm) {i : Nat} {w : Int32} {v : Int} (hw : Cond.constant own i w ∈ jj_GW) (hv : w = jI v) (d : jj_D cc pc (.ldc i) 2 nx) (kk : jj_J X G kc kn nx lv (.int (jI v) :: st)) : jj_J X G kc kn pc lv st := by
  obtain ⟨p, l, e, R, s, m, args, below, meth, c, nL, A, D, ac, Q⟩ := X
  obtain ⟨hx, hb, hml, hown, hR, hA, hE, hs, hk, hts, -⟩ := F
  obtain ⟨rfl, hd⟩ := d
  intro H locs ls hW hS hl
  subst hv
  exact lv_ldc hx hb hown (hts _ hw) hd (kk H locs ls hW hS hl)
theorem jj_ldc2 (F : jj_F X own cc rm) {i : Nat} {w : Int64} {v : Int} (hw : Cond.constantLong own i w ∈ jj_GW) (hv : w = jL v) (d : jj_D cc pc (.ldc2_w i) 3 nx) (kk : jj_J X G kc kn nx lv (.long (jL v) :: st)) : jj_J X G kc kn pc lv st := by
  obtain ⟨p, l, e, R, s, m, args, below, meth, c, nL, A, D, ac, Q⟩ := X
  obtain ⟨hx, hb, hml, hown, hR, hA, hE, hs, hk, hts, -⟩ := F
  obtain ⟨rfl, hd⟩ := d
  intro H locs ls hW hS hl
  subst hv
  exact lv_ldc2 hx hb hown (hts _ hw) hd (kk H locs ls hW hS hl)
theorem jj_iadd (F : jj_F X own cc rm) {a b : Int} (d : jj_D cc pc (.iadd) 1 nx) (kk : jj_J X G kc kn nx lv (.int (jI (a + b)) :: st)) : jj_J X G kc kn pc lv (.int (jI b) :: .int (jI a) :: st) := by
  obtain ⟨p, l, e, R, s, m, args, below, meth, c, nL, A, D, ac, Q⟩ := X
  obtain ⟨hx, hb, hml, hown, hR, hA, hE, hs, hk, hts, -⟩ := F
  obtain ⟨rfl, hd⟩ := d
  intro H locs ls hW hS hl
  refine lv_iadd hx hb hd ?_
  rw [jI_add]
  exact kk H locs ls hW hS hl
theorem jj_isub (F : jj_F X own cc rm) {a b : Int} (d : jj_D cc pc (.isub) 1 nx) (kk : jj_J X G kc kn nx lv (.int (jI (a - b)) :: st)) : jj_J X G kc kn pc lv (.int (jI b) :: .int (jI a) :: st) := by
  obtain ⟨p, l, e, R, s, m, args, below, meth, c, nL, A, D, ac, Q⟩ := X
  obtain ⟨hx, hb, hml, hown, hR, hA, hE, hs, hk, hts, -⟩ := F
  obtain ⟨rfl, hd⟩ := d
  intro H locs ls hW hS hl
  refine lv_isub hx hb hd ?_
  rw [jI_sub]
  exact kk H locs ls hW hS hl
theorem jj_imul (F : jj_F X own cc rm) {a b : Int} (d : jj_D cc pc (.imul) 1 nx) (kk : jj_J X G kc kn nx lv (.int (jI (a * b)) :: st)) : jj_J X G kc kn pc lv (.int (jI b) :: .int (jI a) :: st) := by
  obtain ⟨p, l, e, R, s, m, args, below, meth, c, nL, A, D, ac, Q⟩ := X
  obtain ⟨hx, hb, hml, hown, hR, hA, hE, hs, hk, hts, -⟩ := F
  obtain ⟨rfl, hd⟩ := d
  intro H locs ls hW hS hl
  refine lv_imul hx hb hd ?_
  rw [jI_mul]
  exact kk H locs ls hW hS hl
theorem jj_idiv (F : jj_F X own cc rm) {a b : Int} (h : 0 ≤ a ∧ a ≤ 2147483647 ∧ 0 < b ∧ b ≤ 2147483647) (d : jj_D cc pc (.idiv) 1 nx) (kk : jj_J X G kc kn nx lv (.int (jI (a / b)) :: st)) : jj_J X G kc kn pc lv (.int (jI b) :: .int (jI a) :: st) := by
  obtain ⟨p, l, e, R, s, m, args, below, meth, c, nL, A, D, ac, Q⟩ := X
  obtain ⟨hx, hb, hml, hown, hR, hA, hE, hs, hk, hts, -⟩ := F
  obtain ⟨rfl, hd⟩ := d
  intro H locs ls hW hS hl
  refine lv_idiv hx hb hd (fun q => ?_) ?_
  · rw [jI_0, jI_inj (by omega)] at q
    omega
  · rw [jI_div h]
    exact kk H locs ls hW hS hl
theorem jj_irem (F : jj_F X own cc rm) {a b : Int} (h : 0 ≤ a ∧ a ≤ 2147483647 ∧ 0 < b ∧ b ≤ 2147483647) (d : jj_D cc pc (.irem) 1 nx) (kk : jj_J X G kc kn nx lv (.int (jI (a % b)) :: st)) : jj_J X G kc kn pc lv (.int (jI b) :: .int (jI a) :: st) := by
  obtain ⟨p, l, e, R, s, m, args, below, meth, c, nL, A, D, ac, Q⟩ := X
  obtain ⟨hx, hb, hml, hown, hR, hA, hE, hs, hk, hts, -⟩ := F
  obtain ⟨rfl, hd⟩ := d
  intro H locs ls hW hS hl
  refine lv_irem hx hb hd (fun q => ?_) ?_
  · rw [jI_0, jI_inj (by omega)] at q
    omega
  · rw [jI_mod h]
    exact kk H locs ls hW hS hl
theorem jj_iand (F : jj_F X own cc rm) {x y : Int32} (d : jj_D cc pc (.iand) 1 nx) (kk : jj_J X G kc kn nx lv (.int (x &&& y) :: st)) : jj_J X G kc kn pc lv (.int y :: .int x :: st) := by
  obtain ⟨p, l, e, R, s, m, args, below, meth, c, nL, A, D, ac, Q⟩ := X
  obtain ⟨hx, hb, hml, hown, hR, hA, hE, hs, hk, hts, -⟩ := F
  obtain ⟨rfl, hd⟩ := d
  intro H locs ls hW hS hl
  exact lv_iand hx hb hd (kk H locs ls hW hS hl)
theorem jj_ior (F : jj_F X own cc rm) {x y : Int32} (d : jj_D cc pc (.ior) 1 nx) (kk : jj_J X G kc kn nx lv (.int (x ||| y) :: st)) : jj_J X G kc kn pc lv (.int y :: .int x :: st) := by
  obtain ⟨p, l, e, R, s, m, args, below, meth, c, nL, A, D, ac, Q⟩ := X
  obtain ⟨hx, hb, hml, hown, hR, hA, hE, hs, hk, hts, -⟩ := F
  obtain ⟨rfl, hd⟩ := d
  intro H locs ls hW hS hl
  exact lv_ior hx hb hd (kk H locs ls hW hS hl)
theorem jj_ixor (F : jj_F X own cc rm) {x y : Int32} (d : jj_D cc pc (.ixor) 1 nx) (kk : jj_J X G kc kn nx lv (.int (x ^^^ y) :: st)) : jj_J X G kc kn pc lv (.int y :: .int x :: st) := by
  obtain ⟨p, l, e, R, s, m, args, below, meth, c, nL, A, D, ac, Q⟩ := X
  obtain ⟨hx, hb, hml, hown, hR, hA, hE, hs, hk, hts, -⟩ := F
  obtain ⟨rfl, hd⟩ := d
  intro H locs ls hW hS hl
  exact lv_ixor hx hb hd (kk H locs ls hW hS hl)
theorem jj_ishl (F : jj_F X own cc rm) {x y : Int32} (d : jj_D cc pc (.ishl) 1 nx) (kk : jj_J X G kc kn nx lv (.int (x <<< (y &&& 31)) :: st)) : jj_J X G kc kn pc lv (.int y :: .int x :: st) := by
  obtain ⟨p, l, e, R, s, m, args, below, meth, c, nL, A, D, ac, Q⟩ := X
  obtain ⟨hx, hb, hml, hown, hR, hA, hE, hs, hk, hts, -⟩ := F
  obtain ⟨rfl, hd⟩ := d
  intro H locs ls hW hS hl
  exact lv_ishl hx hb hd (kk H locs ls hW hS hl)
theorem jj_ishr (F : jj_F X own cc rm) {x y : Int32} (d : jj_D cc pc (.ishr) 1 nx) (kk : jj_J X G kc kn nx lv (.int (x >>> (y &&& 31)) :: st)) : jj_J X G kc kn pc lv (.int y :: .int x :: st) := by
  obtain ⟨p, l, e, R, s, m, args, below, meth, c, nL, A, D, ac, Q⟩ := X
  obtain ⟨hx, hb, hml, hown, hR, hA, hE, hs, hk, hts, -⟩ := F
  obtain ⟨rfl, hd⟩ := d
  intro H locs ls hW hS hl
  exact lv_ishr hx hb hd (kk H locs ls hW hS hl)
theorem jj_i2l (F : jj_F X own cc rm) {a : Int} (h : -2147483648 ≤ a ∧ a ≤ 2147483647) (d : jj_D cc pc (.i2l) 1 nx) (kk : jj_J X G kc kn nx lv (.long (jL a) :: st)) : jj_J X G kc kn pc lv (.int (jI a) :: st) := by
  obtain ⟨p, l, e, R, s, m, args, below, meth, c, nL, A, D, ac, Q⟩ := X
  obtain ⟨hx, hb, hml, hown, hR, hA, hE, hs, hk, hts, -⟩ := F
  obtain ⟨rfl, hd⟩ := d
  intro H locs ls hW hS hl
  exact lv_i2l hx hb hd (jL_of_I h.1 h.2) (kk H locs ls hW hS hl)
theorem jj_i2lx (F : jj_F X own cc rm) {x : Int32} (d : jj_D cc pc (.i2l) 1 nx) (kk : jj_J X G kc kn nx lv (.long x.toInt64 :: st)) : jj_J X G kc kn pc lv (.int x :: st) := by
  obtain ⟨p, l, e, R, s, m, args, below, meth, c, nL, A, D, ac, Q⟩ := X
  obtain ⟨hx, hb, hml, hown, hR, hA, hE, hs, hk, hts, -⟩ := F
  obtain ⟨rfl, hd⟩ := d
  intro H locs ls hW hS hl
  exact lv_i2l hx hb hd rfl (kk H locs ls hW hS hl)
theorem jj_l2i (F : jj_F X own cc rm) {a : Int} (d : jj_D cc pc (.l2i) 1 nx) (kk : jj_J X G kc kn nx lv (.int (jI a) :: st)) : jj_J X G kc kn pc lv (.long (jL a) :: st) := by
  obtain ⟨p, l, e, R, s, m, args, below, meth, c, nL, A, D, ac, Q⟩ := X
  obtain ⟨hx, hb, hml, hown, hR, hA, hE, hs, hk, hts, -⟩ := F
  obtain ⟨rfl, hd⟩ := d
  intro H locs ls hW hS hl
  exact lv_l2i hx hb hd (jI_of_L a) (kk H locs ls hW hS hl)
theorem jj_lmul (F : jj_F X own cc rm) {a b : Int} (d : jj_D cc pc (.lmul) 1 nx) (kk : jj_J X G kc kn nx lv (.long (jL (a * b)) :: st)) : jj_J X G kc kn pc lv (.long (jL b) :: .long (jL a) :: st) := by
  obtain ⟨p, l, e, R, s, m, args, below, meth, c, nL, A, D, ac, Q⟩ := X
  obtain ⟨hx, hb, hml, hown, hR, hA, hE, hs, hk, hts, -⟩ := F
  obtain ⟨rfl, hd⟩ := d
  intro H locs ls hW hS hl
  refine lv_lmul hx hb hd ?_
  rw [jL_mul]
  exact kk H locs ls hW hS hl
theorem jj_ldiv (F : jj_F X own cc rm) {a b : Int} (h : 0 ≤ a ∧ a ≤ 9223372036854775807 ∧ 0 < b ∧ b ≤ 9223372036854775807) (d : jj_D cc pc (.ldiv) 1 nx) (kk : jj_J X G kc kn nx lv (.long (jL (a / b)) :: st)) : jj_J X G kc kn pc lv (.long (jL b) :: .long (jL a) :: st) := by
  obtain ⟨p, l, e, R, s, m, args, below, meth, c, nL, A, D, ac, Q⟩ := X
  obtain ⟨hx, hb, hml, hown, hR, hA, hE, hs, hk, hts, -⟩ := F
  obtain ⟨rfl, hd⟩ := d
  intro H locs ls hW hS hl
  refine lv_ldiv hx hb hd (fun q => ?_) ?_
  · rw [show (0 : Int64) = jL 0 by decide, jL_inj (by omega)] at q
    omega
  · rw [jL_div h]
    exact kk H locs ls hW hS hl
theorem jj_lcmp (F : jj_F X own cc rm) {x y : Int64} (d : jj_D cc pc (.lcmp) 1 nx) (kk : jj_J X G kc kn nx lv (.int (lg_cmp x y) :: st)) : jj_J X G kc kn pc lv (.long y :: .long x :: st) := by
  obtain ⟨p, l, e, R, s, m, args, below, meth, c, nL, A, D, ac, Q⟩ := X
  obtain ⟨hx, hb, hml, hown, hR, hA, hE, hs, hk, hts, -⟩ := F
  obtain ⟨rfl, hd⟩ := d
  intro H locs ls hW hS hl
  exact W.lcmp hx hb hd (kk H locs ls hW hS hl)
theorem jj_dup (F : jj_F X own cc rm) {v : Value} (hv : v.category = 1) (d : jj_D cc pc (.dup) 1 nx) (kk : jj_J X G kc kn nx lv (v :: v :: st)) : jj_J X G kc kn pc lv (v :: st) := by
  obtain ⟨p, l, e, R, s, m, args, below, meth, c, nL, A, D, ac, Q⟩ := X
  obtain ⟨hx, hb, hml, hown, hR, hA, hE, hs, hk, hts, -⟩ := F
  obtain ⟨rfl, hd⟩ := d
  intro H locs ls hW hS hl
  exact lv_dup hx hb hd hv (kk H locs ls hW hS hl)
theorem jj_dup2 (F : jj_F X own cc rm) {v w : Value} (hv : v.category = 1) (hw : w.category = 1) (d : jj_D cc pc (.dup2) 1 nx) (kk : jj_J X G kc kn nx lv (v :: w :: v :: w :: st)) : jj_J X G kc kn pc lv (v :: w :: st) := by
  obtain ⟨p, l, e, R, s, m, args, below, meth, c, nL, A, D, ac, Q⟩ := X
  obtain ⟨hx, hb, hml, hown, hR, hA, hE, hs, hk, hts, -⟩ := F
  obtain ⟨rfl, hd⟩ := d
  intro H locs ls hW hS hl
  exact lv_dup2_11 hx hb hd hv hw (kk H locs ls hW hS hl)
theorem jj_goto (F : jj_F X own cc rm) {off : Int} {tgt : Nat} (d : jj_D cc pc (.goto off) 3 nx) (ht : (pc : Int) + off = (tgt : Int)) (kk : jj_J X G kc kn tgt lv st) : jj_J X G kc kn pc lv st := by
  obtain ⟨p, l, e, R, s, m, args, below, meth, c, nL, A, D, ac, Q⟩ := X
  obtain ⟨hx, hb, hml, hown, hR, hA, hE, hs, hk, hts, -⟩ := F
  obtain ⟨rfl, hd⟩ := d
  intro H locs ls hW hS hl
  exact lv_goto hx hb hd ht (kk H locs ls hW hS hl)
theorem jj_icmp_eq (F : jj_F X own cc rm) {off : Int} {tgt : Nat} {a b : Int} (d : jj_D cc pc (.if_icmp .eq off) 3 nx) (ht : (pc : Int) + off = (tgt : Int)) (h : -2147483648 ≤ a ∧ a ≤ 2147483647 ∧ -2147483648 ≤ b ∧ b ≤ 2147483647) (kt : a = b → jj_J X G kc kn tgt lv st) (kf : ¬ a = b → jj_J X G kc kn nx lv st) : jj_J X G kc kn pc lv (.int (jI b) :: .int (jI a) :: st) := by
  obtain ⟨p, l, e, R, s, m, args, below, meth, c, nL, A, D, ac, Q⟩ := X
  obtain ⟨hx, hb, hml, hown, hR, hA, hE, hs, hk, hts, -⟩ := F
  obtain ⟨rfl, hd⟩ := d
  intro H locs ls hW hS hl
  have q1 := jI_inj h
  have q2 := jI_le h
  have q3 := jI_lt h
  have q4 := jI_le (a := b) (b := a) (by omega)
  have q5 := jI_lt (a := b) (b := a) (by omega)
  refine lv_icmp_eq hx hb hd ht (fun z => kt ?_ H locs ls hW hS hl) (fun z => kf ?_ H locs ls hW hS hl) <;> simp only [q1, q2, q3, q4, q5] at z <;> omega
theorem jj_if_eq (F : jj_F X own cc rm) {off : Int} {tgt : Nat} {a : Int} (d : jj_D cc pc (.ifCond .eq off) 3 nx) (ht : (pc : Int) + off = (tgt : Int)) (h : -2147483648 ≤ a ∧ a ≤ 2147483647) (kt : a = 0 → jj_J X G kc kn tgt lv st) (kf : ¬ a = 0 → jj_J X G kc kn nx lv st) : jj_J X G kc kn pc lv (.int (jI a) :: st) := by
  obtain ⟨p, l, e, R, s, m, args, below, meth, c, nL, A, D, ac, Q⟩ := X
  obtain ⟨hx, hb, hml, hown, hR, hA, hE, hs, hk, hts, -⟩ := F
  obtain ⟨rfl, hd⟩ := d
  intro H locs ls hW hS hl
  have q1 := jI_inj (a := a) (b := 0) (by omega)
  have q2 := jI_le (a := a) (b := 0) (by omega)
  have q3 := jI_lt (a := a) (b := 0) (by omega)
  have q4 := jI_le (a := 0) (b := a) (by omega)
  have q5 := jI_lt (a := 0) (b := a) (by omega)
  refine lv_if_eq hx hb hd ht (fun z => kt ?_ H locs ls hW hS hl) (fun z => kf ?_ H locs ls hW hS hl) <;> simp only [jI_0, q1, q2, q3, q4, q5] at z <;> omega
theorem jj_icmp_ne (F : jj_F X own cc rm) {off : Int} {tgt : Nat} {a b : Int} (d : jj_D cc pc (.if_icmp .ne off) 3 nx) (ht : (pc : Int) + off = (tgt : Int)) (h : -2147483648 ≤ a ∧ a ≤ 2147483647 ∧ -2147483648 ≤ b ∧ b ≤ 2147483647) (kt : ¬ a = b → jj_J X G kc kn tgt lv st) (kf : a = b → jj_J X G kc kn nx lv st) : jj_J X G kc kn pc lv (.int (jI b) :: .int (jI a) :: st) := by
  obtain ⟨p, l, e, R, s, m, args, below, meth, c, nL, A, D, ac, Q⟩ := X
  obtain ⟨hx, hb, hml, hown, hR, hA, hE, hs, hk, hts, -⟩ := F
  obtain ⟨rfl, hd⟩ := d
  intro H locs ls hW hS hl
  have q1 := jI_inj h
  have q2 := jI_le h
  have q3 := jI_lt h
  have q4 := jI_le (a := b) (b := a) (by omega)
  have q5 := jI_lt (a := b) (b := a) (by omega)
  refine lv_icmp_ne hx hb hd ht (fun z => kt ?_ H locs ls hW hS hl) (fun z => kf ?_ H locs ls hW hS hl) <;> simp only [q1, q2, q3, q4, q5] at z <;> omega
theorem jj_if_ne (F : jj_F X own cc rm) {off : Int} {tgt : Nat} {a : Int} (d : jj_D cc pc (.ifCond .ne off) 3 nx) (ht : (pc : Int) + off = (tgt : Int)) (h : -2147483648 ≤ a ∧ a ≤ 2147483647) (kt : ¬ a = 0 → jj_J X G kc kn tgt lv st) (kf : a = 0 → jj_J X G kc kn nx lv st) : jj_J X G kc kn pc lv (.int (jI a) :: st) := by
  obtain ⟨p, l, e, R, s, m, args, below, meth, c, nL, A, D, ac, Q⟩ := X
  obtain ⟨hx, hb, hml, hown, hR, hA, hE, hs, hk, hts, -⟩ := F
  obtain ⟨rfl, hd⟩ := d
  intro H locs ls hW hS hl
  have q1 := jI_inj (a := a) (b := 0) (by omega)
  have q2 := jI_le (a := a) (b := 0) (by omega)
  have q3 := jI_lt (a := a) (b := 0) (by omega)
  have q4 := jI_le (a := 0) (b := a) (by omega)
  have q5 := jI_lt (a := 0) (b := a) (by omega)
  refine lv_if_ne hx hb hd ht (fun z => kt ?_ H locs ls hW hS hl) (fun z => kf ?_ H locs ls hW hS hl) <;> simp only [jI_0, q1, q2, q3, q4, q5] at z <;> omega
theorem jj_icmp_lt (F : jj_F X own cc rm) {off : Int} {tgt : Nat} {a b : Int} (d : jj_D cc pc (.if_icmp .lt off) 3 nx) (ht : (pc : Int) + off = (tgt : Int)) (h : -2147483648 ≤ a ∧ a ≤ 2147483647 ∧ -2147483648 ≤ b ∧ b ≤ 2147483647) (kt : a < b → jj_J X G kc kn tgt lv st) (kf : b ≤ a → jj_J X G kc kn nx lv st) : jj_J X G kc kn pc lv (.int (jI b) :: .int (jI a) :: st) := by
  obtain ⟨p, l, e, R, s, m, args, below, meth, c, nL, A, D, ac, Q⟩ := X
  obtain ⟨hx, hb, hml, hown, hR, hA, hE, hs, hk, hts, -⟩ := F
  obtain ⟨rfl, hd⟩ := d
  intro H locs ls hW hS hl
  have q1 := jI_inj h
  have q2 := jI_le h
  have q3 := jI_lt h
  have q4 := jI_le (a := b) (b := a) (by omega)
  have q5 := jI_lt (a := b) (b := a) (by omega)
  refine lv_icmp_lt hx hb hd ht (fun z => kt ?_ H locs ls hW hS hl) (fun z => kf ?_ H locs ls hW hS hl) <;> simp only [q1, q2, q3, q4, q5] at z <;> omega
theorem jj_if_lt (F : jj_F X own cc rm) {off : Int} {tgt : Nat} {a : Int} (d : jj_D cc pc (.ifCond .lt off) 3 nx) (ht : (pc : Int) + off = (tgt : Int)) (h : -2147483648 ≤ a ∧ a ≤ 2147483647) (kt : a < 0 → jj_J X G kc kn tgt lv st) (kf : 0 ≤ a → jj_J X G kc kn nx lv st) : jj_J X G kc kn pc lv (.int (jI a) :: st) := by
  obtain ⟨p, l, e, R, s, m, args, below, meth, c, nL, A, D, ac, Q⟩ := X
  obtain ⟨hx, hb, hml, hown, hR, hA, hE, hs, hk, hts, -⟩ := F
  obtain ⟨rfl, hd⟩ := d
  intro H locs ls hW hS hl
  have q1 := jI_inj (a := a) (b := 0) (by omega)
  have q2 := jI_le (a := a) (b := 0) (by omega)
  have q3 := jI_lt (a := a) (b := 0) (by omega)
  have q4 := jI_le (a := 0) (b := a) (by omega)
  have q5 := jI_lt (a := 0) (b := a) (by omega)
  refine lv_if_lt hx hb hd ht (fun z => kt ?_ H locs ls hW hS hl) (fun z => kf ?_ H locs ls hW hS hl) <;> simp only [jI_0, q1, q2, q3, q4, q5] at z <;> omega
theorem jj_icmp_ge (F : jj_F X own cc rm) {off : Int} {tgt : Nat} {a b : Int} (d : jj_D cc pc (.if_icmp .ge off) 3 nx) (ht : (pc : Int) + off = (tgt : Int)) (h : -2147483648 ≤ a ∧ a ≤ 2147483647 ∧ -2147483648 ≤ b ∧ b ≤ 2147483647) (kt : b ≤ a → jj_J X G kc kn tgt lv st) (kf : a < b → jj_J X G kc kn nx lv st) : jj_J X G kc kn pc lv (.int (jI b) :: .int (jI a) :: st) := by
  obtain ⟨p, l, e, R, s, m, args, below, meth, c, nL, A, D, ac, Q⟩ := X
  obtain ⟨hx, hb, hml, hown, hR, hA, hE, hs, hk, hts, -⟩ := F
  obtain ⟨rfl, hd⟩ := d
  intro H locs ls hW hS hl
  have q1 := jI_inj h
  have q2 := jI_le h
  have q3 := jI_lt h
  have q4 := jI_le (a := b) (b := a) (by omega)
  have q5 := jI_lt (a := b) (b := a) (by omega)
  refine lv_icmp_ge hx hb hd ht (fun z => kt ?_ H locs ls hW hS hl) (fun z => kf ?_ H locs ls hW hS hl) <;> simp only [q1, q2, q3, q4, q5] at z <;> omega
theorem jj_if_ge (F : jj_F X own cc rm) {off : Int} {tgt : Nat} {a : Int} (d : jj_D cc pc (.ifCond .ge off) 3 nx) (ht : (pc : Int) + off = (tgt : Int)) (h : -2147483648 ≤ a ∧ a ≤ 2147483647) (kt : 0 ≤ a → jj_J X G kc kn tgt lv st) (kf : a < 0 → jj_J X G kc kn nx lv st) : jj_J X G kc kn pc lv (.int (jI a) :: st) := by
  obtain ⟨p, l, e, R, s, m, args, below, meth, c, nL, A, D, ac, Q⟩ := X
  obtain ⟨hx, hb, hml, hown, hR, hA, hE, hs, hk, hts, -⟩ := F
  obtain ⟨rfl, hd⟩ := d
  intro H locs ls hW hS hl
  have q1 := jI_inj (a := a) (b := 0) (by omega)
  have q2 := jI_le (a := a) (b := 0) (by omega)
  have q3 := jI_lt (a := a) (b := 0) (by omega)
  have q4 := jI_le (a := 0) (b := a) (by omega)
  have q5 := jI_lt (a := 0) (b := a) (by omega)
  refine lv_if_ge hx hb hd ht (fun z => kt ?_ H locs ls hW hS hl) (fun z => kf ?_ H locs ls hW hS hl) <;> simp only [jI_0, q1, q2, q3, q4, q5] at z <;> omega
theorem jj_icmp_gt (F : jj_F X own cc rm) {off : Int} {tgt : Nat} {a b : Int} (d : jj_D cc pc (.if_icmp .gt off) 3 nx) (ht : (pc : Int) + off = (tgt : Int)) (h : -2147483648 ≤ a ∧ a ≤ 2147483647 ∧ -2147483648 ≤ b ∧ b ≤ 2147483647) (kt : b < a → jj_J X G kc kn tgt lv st) (kf : a ≤ b → jj_J X G kc kn nx lv st) : jj_J X G kc kn pc lv (.int (jI b) :: .int (jI a) :: st) := by
  obtain ⟨p, l, e, R, s, m, args, below, meth, c, nL, A, D, ac, Q⟩ := X
  obtain ⟨hx, hb, hml, hown, hR, hA, hE, hs, hk, hts, -⟩ := F
  obtain ⟨rfl, hd⟩ := d
  intro H locs ls hW hS hl
  have q1 := jI_inj h
  have q2 := jI_le h
  have q3 := jI_lt h
  have q4 := jI_le (a := b) (b := a) (by omega)
  have q5 := jI_lt (a := b) (b := a) (by omega)
  refine lv_icmp_gt hx hb hd ht (fun z => kt ?_ H locs ls hW hS hl) (fun z => kf ?_ H locs ls hW hS hl) <;> simp only [q1, q2, q3, q4, q5] at z <;> omega
theorem jj_if_gt (F : jj_F X own cc rm) {off : Int} {tgt : Nat} {a : Int} (d : jj_D cc pc (.ifCond .gt off) 3 nx) (ht : (pc : Int) + off = (tgt : Int)) (h : -2147483648 ≤ a ∧ a ≤ 2147483647) (kt : 0 < a → jj_J X G kc kn tgt lv st) (kf : a ≤ 0 → jj_J X G kc kn nx lv st) : jj_J X G kc kn pc lv (.int (jI a) :: st) := by
  obtain ⟨p, l, e, R, s, m, args, below, meth, c, nL, A, D, ac, Q⟩ := X
  obtain ⟨hx, hb, hml, hown, hR, hA, hE, hs, hk, hts, -⟩ := F
  obtain ⟨rfl, hd⟩ := d
  intro H locs ls hW hS hl
  have q1 := jI_inj (a := a) (b := 0) (by omega)
  have q2 := jI_le (a := a) (b := 0) (by omega)
  have q3 := jI_lt (a := a) (b := 0) (by omega)
  have q4 := jI_le (a := 0) (b := a) (by omega)
  have q5 := jI_lt (a := 0) (b := a) (by omega)
  refine lv_if_gt hx hb hd ht (fun z => kt ?_ H locs ls hW hS hl) (fun z => kf ?_ H locs ls hW hS hl) <;> simp only [jI_0, q1, q2, q3, q4, q5] at z <;> omega
theorem jj_icmp_le (F : jj_F X own cc rm) {off : Int} {tgt : Nat} {a b : Int} (d : jj_D cc pc (.if_icmp .le off) 3 nx) (ht : (pc : Int) + off = (tgt : Int)) (h : -2147483648 ≤ a ∧ a ≤ 2147483647 ∧ -2147483648 ≤ b ∧ b ≤ 2147483647) (kt : a ≤ b → jj_J X G kc kn tgt lv st) (kf : b < a → jj_J X G kc kn nx lv st) : jj_J X G kc kn pc lv (.int (jI b) :: .int (jI a) :: st) := by
  obtain ⟨p, l, e, R, s, m, args, below, meth, c, nL, A, D, ac, Q⟩ := X
  obtain ⟨hx, hb, hml, hown, hR, hA, hE, hs, hk, hts, -⟩ := F
  obtain ⟨rfl, hd⟩ := d
  intro H locs ls hW hS hl
  have q1 := jI_inj h
  have q2 := jI_le h
  have q3 := jI_lt h
  have q4 := jI_le (a := b) (b := a) (by omega)
  have q5 := jI_lt (a := b) (b := a) (by omega)
  refine lv_icmp_le hx hb hd ht (fun z => kt ?_ H locs ls hW hS hl) (fun z => kf ?_ H locs ls hW hS hl) <;> simp only [q1, q2, q3, q4, q5] at z <;> omega
theorem jj_if_le (F : jj_F X own cc rm) {off : Int} {tgt : Nat} {a : Int} (d : jj_D cc pc (.ifCond .le off) 3 nx) (ht : (pc : Int) + off = (tgt : Int)) (h : -2147483648 ≤ a ∧ a ≤ 2147483647) (kt : a ≤ 0 → jj_J X G kc kn tgt lv st) (kf : 0 < a → jj_J X G kc kn nx lv st) : jj_J X G kc kn pc lv (.int (jI a) :: st) := by
  obtain ⟨p, l, e, R, s, m, args, below, meth, c, nL, A, D, ac, Q⟩ := X
  obtain ⟨hx, hb, hml, hown, hR, hA, hE, hs, hk, hts, -⟩ := F
  obtain ⟨rfl, hd⟩ := d
  intro H locs ls hW hS hl
  have q1 := jI_inj (a := a) (b := 0) (by omega)
  have q2 := jI_le (a := a) (b := 0) (by omega)
  have q3 := jI_lt (a := a) (b := 0) (by omega)
  have q4 := jI_le (a := 0) (b := a) (by omega)
  have q5 := jI_lt (a := 0) (b := a) (by omega)
  refine lv_if_le hx hb hd ht (fun z => kt ?_ H locs ls hW hS hl) (fun z => kf ?_ H locs ls hW hS hl) <;> simp only [jI_0, q1, q2, q3, q4, q5] at z <;> omega
theorem jj_icmpx_eq (F : jj_F X own cc rm) {off : Int} {tgt : Nat} {x y : Int32} (d : jj_D cc pc (.if_icmp .eq off) 3 nx) (ht : (pc : Int) + off = (tgt : Int)) (kt : x = y → jj_J X G kc kn tgt lv st) (kf : ¬ x = y → jj_J X G kc kn nx lv st) : jj_J X G kc kn pc lv (.int y :: .int x :: st) := by
  obtain ⟨p, l, e, R, s, m, args, below, meth, c, nL, A, D, ac, Q⟩ := X
  obtain ⟨hx, hb, hml, hown, hR, hA, hE, hs, hk, hts, -⟩ := F
  obtain ⟨rfl, hd⟩ := d
  intro H locs ls hW hS hl
  refine lv_icmp_eq hx hb hd ht (fun z => kt ?_ H locs ls hW hS hl) (fun z => kf ?_ H locs ls hW hS hl) <;> first | exact z | exact Decidable.not_not.mp z
theorem jj_ifx_eq (F : jj_F X own cc rm) {off : Int} {tgt : Nat} {x : Int32} (d : jj_D cc pc (.ifCond .eq off) 3 nx) (ht : (pc : Int) + off = (tgt : Int)) (kt : x = 0 → jj_J X G kc kn tgt lv st) (kf : ¬ x = 0 → jj_J X G kc kn nx lv st) : jj_J X G kc kn pc lv (.int x :: st) := by
  obtain ⟨p, l, e, R, s, m, args, below, meth, c, nL, A, D, ac, Q⟩ := X
  obtain ⟨hx, hb, hml, hown, hR, hA, hE, hs, hk, hts, -⟩ := F
  obtain ⟨rfl, hd⟩ := d
  intro H locs ls hW hS hl
  refine lv_if_eq hx hb hd ht (fun z => kt ?_ H locs ls hW hS hl) (fun z => kf ?_ H locs ls hW hS hl) <;> first | exact z | exact Decidable.not_not.mp z
theorem jj_icmpx_ne (F : jj_F X own cc rm) {off : Int} {tgt : Nat} {x y : Int32} (d : jj_D cc pc (.if_icmp .ne off) 3 nx) (ht : (pc : Int) + off = (tgt : Int)) (kt : ¬ x = y → jj_J X G kc kn tgt lv st) (kf : x = y → jj_J X G kc kn nx lv st) : jj_J X G kc kn pc lv (.int y :: .int x :: st) := by
  obtain ⟨p, l, e, R, s, m, args, below, meth, c, nL, A, D, ac, Q⟩ := X
  obtain ⟨hx, hb, hml, hown, hR, hA, hE, hs, hk, hts, -⟩ := F
  obtain ⟨rfl, hd⟩ := d
  intro H locs ls hW hS hl
  refine lv_icmp_ne hx hb hd ht (fun z => kt ?_ H locs ls hW hS hl) (fun z => kf ?_ H locs ls hW hS hl) <;> first | exact z | exact Decidable.not_not.mp z
theorem jj_ifx_ne (F : jj_F X own cc rm) {off : Int} {tgt : Nat} {x : Int32} (d : jj_D cc pc (.ifCond .ne off) 3 nx) (ht : (pc : Int) + off = (tgt : Int)) (kt : ¬ x = 0 → jj_J X G kc kn tgt lv st) (kf : x = 0 → jj_J X G kc kn nx lv st) : jj_J X G kc kn pc lv (.int x :: st) := by
  obtain ⟨p, l, e, R, s, m, args, below, meth, c, nL, A, D, ac, Q⟩ := X
  obtain ⟨hx, hb, hml, hown, hR, hA, hE, hs, hk, hts, -⟩ := F
  obtain ⟨rfl, hd⟩ := d
  intro H locs ls hW hS hl
  refine lv_if_ne hx hb hd ht (fun z => kt ?_ H locs ls hW hS hl) (fun z => kf ?_ H locs ls hW hS hl) <;> first | exact z | exact Decidable.not_not.mp z
theorem jj_ifx_gt (F : jj_F X own cc rm) {off : Int} {tgt : Nat} {x : Int32} (d : jj_D cc pc (.ifCond .gt off) 3 nx) (ht : (pc : Int) + off = (tgt : Int)) (kt : 0 < x → jj_J X G kc kn tgt lv st) (kf : ¬ 0 < x → jj_J X G kc kn nx lv st) : jj_J X G kc kn pc lv (.int x :: st) := by
  obtain ⟨p, l, e, R, s, m, args, below, meth, c, nL, A, D, ac, Q⟩ := X
  obtain ⟨hx, hb, hml, hown, hR, hA, hE, hs, hk, hts, -⟩ := F
  obtain ⟨rfl, hd⟩ := d
  intro H locs ls hW hS hl
  exact lv_if_gt hx hb hd ht (fun z => kt z H locs ls hW hS hl) (fun z => kf z H locs ls hW hS hl)
theorem jj_ifx_le (F : jj_F X own cc rm) {off : Int} {tgt : Nat} {x : Int32} (d : jj_D cc pc (.ifCond .le off) 3 nx) (ht : (pc : Int) + off = (tgt : Int)) (kt : x ≤ 0 → jj_J X G kc kn tgt lv st) (kf : ¬ x ≤ 0 → jj_J X G kc kn nx lv st) : jj_J X G kc kn pc lv (.int x :: st) := by
  obtain ⟨p, l, e, R, s, m, args, below, meth, c, nL, A, D, ac, Q⟩ := X
  obtain ⟨hx, hb, hml, hown, hR, hA, hE, hs, hk, hts, -⟩ := F
  obtain ⟨rfl, hd⟩ := d
  intro H locs ls hW hS hl
  exact lv_if_le hx hb hd ht (fun z => kt z H locs ls hW hS hl) (fun z => kf z H locs ls hW hS hl)
theorem jj_ifnull (F : jj_F X own cc rm) {off : Int} {tgt : Nat} {r : Option Nat} (d : jj_D cc pc (.ifnull off) 3 nx) (ht : (pc : Int) + off = (tgt : Int)) (kt : r = none → jj_J X G kc kn tgt lv st) (kf : ∀ a : Nat, r = some a → jj_J X G kc kn nx lv st) : jj_J X G kc kn pc lv (va_rf r :: st) := by
  obtain ⟨p, l, e, R, s, m, args, below, meth, c, nL, A, D, ac, Q⟩ := X
  obtain ⟨hx, hb, hml, hown, hR, hA, hE, hs, hk, hts, -⟩ := F
  obtain ⟨rfl, hd⟩ := d
  intro H locs ls hW hS hl
  cases r with
  | none => exact lv_ifnullN hx hb hd ht (kt rfl H locs ls hW hS hl)
  | some a => exact lv_ifnull hx hb hd (kf a rfl H locs ls hW hS hl)
theorem jj_ifnonnull (F : jj_F X own cc rm) {off : Int} {tgt : Nat} {r : Option Nat} (d : jj_D cc pc (.ifnonnull off) 3 nx) (ht : (pc : Int) + off = (tgt : Int)) (kt : ∀ a : Nat, r = some a → jj_J X G kc kn tgt lv st) (kf : r = none → jj_J X G kc kn nx lv st) : jj_J X G kc kn pc lv (va_rf r :: st) := by
  obtain ⟨p, l, e, R, s, m, args, below, meth, c, nL, A, D, ac, Q⟩ := X
  obtain ⟨hx, hb, hml, hown, hR, hA, hE, hs, hk, hts, -⟩ := F
  obtain ⟨rfl, hd⟩ := d
  intro H locs ls hW hS hl
  cases r with
  | none => exact lv_ifnonnullN hx hb hd (kf rfl H locs ls hW hS hl)
  | some a => exact lv_ifnonnull hx hb hd ht (kt a rfl H locs ls hW hS hl)
theorem jj_acmp_ne (F : jj_F X own cc rm) {off : Int} {tgt : Nat} {r1 r2 : Option Nat} (d : jj_D cc pc (.if_acmp .ne off) 3 nx) (ht : (pc : Int) + off = (tgt : Int)) (kt : ¬ r1 = r2 → jj_J X G kc kn tgt lv st) (kf : r1 = r2 → jj_J X G kc kn nx lv st) : jj_J X G kc kn pc lv (va_rf r2 :: va_rf r1 :: st) := by
  obtain ⟨p, l, e, R, s, m, args, below, meth, c, nL, A, D, ac, Q⟩ := X
  obtain ⟨hx, hb, hml, hown, hR, hA, hE, hs, hk, hts, -⟩ := F
  obtain ⟨rfl, hd⟩ := d
  intro H locs ls hW hS hl
  exact lv_acmp_ne hx hb hd ht (fun z => kt z H locs ls hW hS hl) (fun z => kf z H locs ls hW hS hl)
theorem jj_acmp_eq (F : jj_F X own cc rm) {off : Int} {tgt : Nat} {r1 r2 : Option Nat} (d : jj_D cc pc (.if_acmp .eq off) 3 nx) (ht : (pc : Int) + off = (tgt : Int)) (kt : r1 = r2 → jj_J X G kc kn tgt lv st) (kf : ¬ r1 = r2 → jj_J X G kc kn nx lv st) : jj_J X G kc kn pc lv (va_rf r2 :: va_rf r1 :: st) := by
  obtain ⟨p, l, e, R, s, m, args, below, meth, c, nL, A, D, ac, Q⟩ := X
  obtain ⟨hx, hb, hml, hown, hR, hA, hE, hs, hk, hts, -⟩ := F
  obtain ⟨rfl, hd⟩ := d
  intro H locs ls hW hS hl
  exact lv_acmp_eq hx hb hd ht (fun z => kt z H locs ls hW hS hl) (fun z => kf z H locs ls hW hS hl)
theorem jj_tableOut (F : jj_F X own cc rm) {dflt lo hi : Int} {offs : Array Int} {len tgt : Nat} {a : Int} (d : jj_D cc pc (.tableswitch dflt lo hi offs) len nx) (ht : (pc : Int) + dflt = (tgt : Int)) (h : -2147483648 ≤ a ∧ a ≤ 2147483647) (ho : a < lo ∨ hi < a) (kk : jj_J X G kc kn tgt lv st) : jj_J X G kc kn pc lv (.int (jI a) :: st) := by
  obtain ⟨p, l, e, R, s, m, args, below, meth, c, nL, A, D, ac, Q⟩ := X
  obtain ⟨hx, hb, hml, hown, hR, hA, hE, hs, hk, hts, -⟩ := F
  obtain ⟨rfl, hd⟩ := d
  intro H locs ls hW hS hl
  exact lv_tableOut hx hb hd (by rw [jI_toInt h.1 h.2]; exact ho) ht (kk H locs ls hW hS hl)
theorem jj_tableIn (F : jj_F X own cc rm) {dflt lo hi : Int} {offs : Array Int} {len tgt : Nat} {a off : Int} (d : jj_D cc pc (.tableswitch dflt lo hi offs) len nx) (h : -2147483648 ≤ a ∧ a ≤ 2147483647) (h1 : lo ≤ a ∧ a ≤ hi) (ho : offs[(a - lo).toNat]? = some off) (ht : (pc : Int) + off = (tgt : Int)) (kk : jj_J X G kc kn tgt lv st) : jj_J X G kc kn pc lv (.int (jI a) :: st) := by
  obtain ⟨p, l, e, R, s, m, args, below, meth, c, nL, A, D, ac, Q⟩ := X
  obtain ⟨hx, hb, hml, hown, hR, hA, hE, hs, hk, hts, -⟩ := F
  obtain ⟨rfl, hd⟩ := d
  intro H locs ls hW hS hl
  exact lv_tableIn hx hb hd (by rw [jI_toInt h.1 h.2]; omega) (by rw [jI_toInt h.1 h.2]; omega) (by rw [jI_toInt h.1 h.2]; exact ho) ht (kk H locs ls hW hS hl)
/-- the value on top, said otherwise -/
theorem jj_top {v w : Value} (h : v = w) (kk : jj_J X G kc kn pc lv (w :: st)) : jj_J X G kc kn pc lv (v :: st) := by rw [h]; exact kk
theorem jj_topi {x : Int32} {a : Int} (h : x = jI a) (kk : jj_J X G kc kn pc lv (.int (jI a) :: st)) : jj_J X G kc kn pc lv (.int x :: st) := by rw [h]; exact kk
theorem jj_eqi {a b : Int} (h : a = b) (kk : jj_J X G kc kn pc lv (.int (jI b) :: st)) : jj_J X G kc kn pc lv (.int (jI a) :: st) := by rw [h]; exact kk
theorem jj_namei {a : Int} (kk : ∀ b : Int, b = a → jj_J X G kc kn pc lv (.int (jI b) :: st)) : jj_J X G kc kn pc lv (.int (jI a) :: st) := kk a rfl
theorem jj_wide {k n : Nat} (h : kc ≤ k ∧ kn ≤ n) (kk : jj_J X G k n pc lv st) : jj_J X G kc kn pc lv st := by
  obtain ⟨p, l, e, R, s, m, args, below, meth, c, nL, A, D, ac, Q⟩ := X
  intro H locs ls hW hS hl
  exact W.widen h.1 h.2 (kk H locs ls hW hS hl)
/-- fewer locals known -/
theorem jj_less {lv' : List (Option Value)} (h : ∀ (i : Nat) (v : Value), lv'[i]? = some (some v) → lv[i]? = some (some v)) (kk : jj_J X G kc kn pc lv' st) : jj_J X G kc kn pc lv st := by
  obtain ⟨p, l, e, R, s, m, args, below, meth, c, nL, A, D, ac, Q⟩ := X
  intro H locs ls hW hS hl
  exact kk H locs ls hW hS ⟨hl.1, hl.2.1, fun i v hv => hl.2.2 i v (h i v hv)⟩

theorem jj_iloadA (F : jj_F X own cc rm) {k : Fin 4} {x : Int32} (d : jj_D cc pc (.iload_n k) 1 nx) (hv : lv[((k : Fin 4) : Nat)]? = some (some (.int x))) (kk : jj_J X G kc kn nx lv (.int x :: st)) : jj_J X G kc kn pc lv st := by
  obtain ⟨p, l, e, R, s, m, args, below, meth, c, nL, A, D, ac, Q⟩ := X
  obtain ⟨hx, hb, hml, hown, hR, hA, hE, hs, hk, hts, -⟩ := F
  obtain ⟨rfl, hd⟩ := d
  intro H locs ls hW hS hl
  exact lv_iload_n hx hb hd rfl (hl.2.2 _ _ hv) (kk H locs ls hW hS hl)
theorem jj_iloadB (F : jj_F X own cc rm) {i : Nat} {x : Int32} (d : jj_D cc pc (.iload i) 2 nx) (hv : lv[i]? = some (some (.int x))) (kk : jj_J X G kc kn nx lv (.int x :: st)) : jj_J X G kc kn pc lv st := by
  obtain ⟨p, l, e, R, s, m, args, below, meth, c, nL, A, D, ac, Q⟩ := X
  obtain ⟨hx, hb, hml, hown, hR, hA, hE, hs, hk, hts, -⟩ := F
  obtain ⟨rfl, hd⟩ := d
  intro H locs ls hW hS hl
  exact lv_iload hx hb hd (hl.2.2 _ _ hv) (kk H locs ls hW hS hl)
theorem jj_lloadA (F : jj_F X own cc rm) {k : Fin 4} {x : Int64} (d : jj_D cc pc (.lload_n k) 1 nx) (hv : lv[((k : Fin 4) : Nat)]? = some (some (.long x))) (kk : jj_J X G kc kn nx lv (.long x :: st)) : jj_J X G kc kn pc lv st := by
  obtain ⟨p, l, e, R, s, m, args, below, meth, c, nL, A, D, ac, Q⟩ := X
  obtain ⟨hx, hb, hml, hown, hR, hA, hE, hs, hk, hts, -⟩ := F
  obtain ⟨rfl, hd⟩ := d
  intro H locs ls hW hS hl
  exact lv_lload_n hx hb hd rfl (hl.2.2 _ _ hv) (kk H locs ls hW hS hl)
theorem jj_lloadB (F : jj_F X own cc rm) {i : Nat} {x : Int64} (d : jj_D cc pc (.lload i) 2 nx) (hv : lv[i]? = some (some (.long x))) (kk : jj_J X G kc kn nx lv (.long x :: st)) : jj_J X G kc kn pc lv st := by
  obtain ⟨p, l, e, R, s, m, args, below, meth, c, nL, A, D, ac, Q⟩ := X
  obtain ⟨hx, hb, hml, hown, hR, hA, hE, hs, hk, hts, -⟩ := F
  obtain ⟨rfl, hd⟩ := d
  intro H locs ls hW hS hl
  exact lv_lload hx hb hd (hl.2.2 _ _ hv) (kk H locs ls hW hS hl)
theorem jj_aloadA (F : jj_F X own cc rm) {k : Fin 4} {x : Nat} (d : jj_D cc pc (.aload_n k) 1 nx) (hv : lv[((k : Fin 4) : Nat)]? = some (some (.ref x))) (kk : jj_J X G kc kn nx lv (.ref x :: st)) : jj_J X G kc kn pc lv st := by
  obtain ⟨p, l, e, R, s, m, args, below, meth, c, nL, A, D, ac, Q⟩ := X
  obtain ⟨hx, hb, hml, hown, hR, hA, hE, hs, hk, hts, -⟩ := F
  obtain ⟨rfl, hd⟩ := d
  intro H locs ls hW hS hl
  exact lv_aload_n hx hb hd rfl (hl.2.2 _ _ hv) (kk H locs ls hW hS hl)
theorem jj_aloadB (F : jj_F X own cc rm) {i : Nat} {x : Nat} (d : jj_D cc pc (.aload i) 2 nx) (hv : lv[i]? = some (some (.ref x))) (kk : jj_J X G kc kn nx lv (.ref x :: st)) : jj_J X G kc kn pc lv st := by
  obtain ⟨p, l, e, R, s, m, args, below, meth, c, nL, A, D, ac, Q⟩ := X
  obtain ⟨hx, hb, hml, hown, hR, hA, hE, hs, hk, hts, -⟩ := F
  obtain ⟨rfl, hd⟩ := d
  intro H locs ls hW hS hl
  exact lv_aload hx hb hd (hl.2.2 _ _ hv) (kk H locs ls hW hS hl)
theorem jj_nloadA (F : jj_F X own cc rm) {k : Fin 4}  (d : jj_D cc pc (.aload_n k) 1 nx) (hv : lv[((k : Fin 4) : Nat)]? = some (some (.null))) (kk : jj_J X G kc kn nx lv (.null :: st)) : jj_J X G kc kn pc lv st := by
  obtain ⟨p, l, e, R, s, m, args, below, meth, c, nL, A, D, ac, Q⟩ := X
  obtain ⟨hx, hb, hml, hown, hR, hA, hE, hs, hk, hts, -⟩ := F
  obtain ⟨rfl, hd⟩ := d
  intro H locs ls hW hS hl
  exact lv_aload_nN hx hb hd rfl (hl.2.2 _ _ hv) (kk H locs ls hW hS hl)
theorem jj_nloadB (F : jj_F X own cc rm) {i : Nat}  (d : jj_D cc pc (.aload i) 2 nx) (hv : lv[i]? = some (some (.null))) (kk : jj_J X G kc kn nx lv (.null :: st)) : jj_J X G kc kn pc lv st := by
  obtain ⟨p, l, e, R, s, m, args, below, meth, c, nL, A, D, ac, Q⟩ := X
  obtain ⟨hx, hb, hml, hown, hR, hA, hE, hs, hk, hts, -⟩ := F
  obtain ⟨rfl, hd⟩ := d
  intro H locs ls hW hS hl
  exact lv_aloadN hx hb hd (hl.2.2 _ _ hv) (kk H locs ls hW hS hl)
theorem jj_qloadA (F : jj_F X own cc rm) {k : Fin 4} {r : Option Nat} (d : jj_D cc pc (.aload_n k) 1 nx) (hv : lv[((k : Fin 4) : Nat)]? = some (some (va_rf r))) (kk : jj_J X G kc kn nx lv (va_rf r :: st)) : jj_J X G kc kn pc lv st := by
  cases r with
  | none => exact jj_nloadA F d hv kk
  | some a => exact jj_aloadA F d hv kk
theorem jj_qloadB (F : jj_F X own cc rm) {i : Nat} {r : Option Nat} (d : jj_D cc pc (.aload i) 2 nx) (hv : lv[i]? = some (some (va_rf r))) (kk : jj_J X G kc kn nx lv (va_rf r :: st)) : jj_J X G kc kn pc lv st := by
  cases r with
  | none => exact jj_nloadB F d hv kk
  | some a => exact jj_aloadB F d hv kk
theorem jj_istoreA (F : jj_F X own cc rm) {k : Fin 4} {x : Int32} (d : jj_D cc pc (.istore_n k) 1 nx) (hn : ((k : Fin 4) : Nat) < jj_nL X) (hc : jj_nc lv ((k : Fin 4) : Nat) = true) (kk : jj_J X G kc kn nx (lv.set ((k : Fin 4) : Nat) (some (.int x))) st) : jj_J X G kc kn pc lv (.int x :: st) := by
  obtain ⟨p, l, e, R, s, m, args, below, meth, c, nL, A, D, ac, Q⟩ := X
  obtain ⟨hx, hb, hml, hown, hR, hA, hE, hs, hk, hts, -⟩ := F
  obtain ⟨rfl, hd⟩ := d
  intro H locs ls hW hS hl
  exact lv_istore_n hx hb hd rfl hl.has hn rfl (fun ls' hl' => kk H locs ls' hW hS (jj_l.set1 hl' hc))
theorem jj_istoreB (F : jj_F X own cc rm) {i : Nat} {x : Int32} (d : jj_D cc pc (.istore i) 2 nx) (hn : i < jj_nL X) (hc : jj_nc lv i = true) (kk : jj_J X G kc kn nx (lv.set i (some (.int x))) st) : jj_J X G kc kn pc lv (.int x :: st) := by
  obtain ⟨p, l, e, R, s, m, args, below, meth, c, nL, A, D, ac, Q⟩ := X
  obtain ⟨hx, hb, hml, hown, hR, hA, hE, hs, hk, hts, -⟩ := F
  obtain ⟨rfl, hd⟩ := d
  intro H locs ls hW hS hl
  exact lv_istore hx hb hd hl.has hn rfl (fun ls' hl' => kk H locs ls' hW hS (jj_l.set1 hl' hc))
theorem jj_astoreA (F : jj_F X own cc rm) {k : Fin 4} {x : Nat} (d : jj_D cc pc (.astore_n k) 1 nx) (hn : ((k : Fin 4) : Nat) < jj_nL X) (hc : jj_nc lv ((k : Fin 4) : Nat) = true) (kk : jj_J X G kc kn nx (lv.set ((k : Fin 4) : Nat) (some (.ref x))) st) : jj_J X G kc kn pc lv (.ref x :: st) := by
  obtain ⟨p, l, e, R, s, m, args, below, meth, c, nL, A, D, ac, Q⟩ := X
  obtain ⟨hx, hb, hml, hown, hR, hA, hE, hs, hk, hts, -⟩ := F
  obtain ⟨rfl, hd⟩ := d
  intro H locs ls hW hS hl
  exact lv_astore_n hx hb hd rfl hl.has hn rfl (fun ls' hl' => kk H locs ls' hW hS (jj_l.set1 hl' hc))
theorem jj_astoreB (F : jj_F X own cc rm) {i : Nat} {x : Nat} (d : jj_D cc pc (.astore i) 2 nx) (hn : i < jj_nL X) (hc : jj_nc lv i = true) (kk : jj_J X G kc kn nx (lv.set i (some (.ref x))) st) : jj_J X G kc kn pc lv (.ref x :: st) := by
  obtain ⟨p, l, e, R, s, m, args, below, meth, c, nL, A, D, ac, Q⟩ := X
  obtain ⟨hx, hb, hml, hown, hR, hA, hE, hs, hk, hts, -⟩ := F
  obtain ⟨rfl, hd⟩ := d
  intro H locs ls hW hS hl
  exact lv_astore hx hb hd hl.has hn rfl (fun ls' hl' => kk H locs ls' hW hS (jj_l.set1 hl' hc))
theorem jj_nstoreA (F : jj_F X own cc rm) {k : Fin 4}  (d : jj_D cc pc (.astore_n k) 1 nx) (hn : ((k : Fin 4) : Nat) < jj_nL X) (hc : jj_nc lv ((k : Fin 4) : Nat) = true) (kk : jj_J X G kc kn nx (lv.set ((k : Fin 4) : Nat) (some (.null))) st) : jj_J X G kc kn pc lv (.null :: st) := by
  obtain ⟨p, l, e, R, s, m, args, below, meth, c, nL, A, D, ac, Q⟩ := X
  obtain ⟨hx, hb, hml, hown, hR, hA, hE, hs, hk, hts, -⟩ := F
  obtain ⟨rfl, hd⟩ := d
  intro H locs ls hW hS hl
  exact lv_astore_nN hx hb hd rfl hl.has hn rfl (fun ls' hl' => kk H locs ls' hW hS (jj_l.set1 hl' hc))
theorem jj_nstoreB (F : jj_F X own cc rm) {i : Nat}  (d : jj_D cc pc (.astore i) 2 nx) (hn : i < jj_nL X) (hc : jj_nc lv i = true) (kk : jj_J X G kc kn nx (lv.set i (some (.null))) st) : jj_J X G kc kn pc lv (.null :: st) := by
  obtain ⟨p, l, e, R, s, m, args, below, meth, c, nL, A, D, ac, Q⟩ := X
  obtain ⟨hx, hb, hml, hown, hR, hA, hE, hs, hk, hts, -⟩ := F
  obtain ⟨rfl, hd⟩ := d
  intro H locs ls hW hS hl
  exact lv_astoreN hx hb hd hl.has hn rfl (fun ls' hl' => kk H locs ls' hW hS (jj_l.set1 hl' hc))
theorem jj_lstoreA (F : jj_F X own cc rm) {k : Fin 4} {x : Int64} (d : jj_D cc pc (.lstore_n k) 1 nx) (hn : ((k : Fin 4) : Nat) + 1 < jj_nL X) (hc : jj_nc lv ((k : Fin 4) : Nat) = true) (kk : jj_J X G kc kn nx ((lv.set ((k : Fin 4) : Nat) (some (.long x))).set (((k : Fin 4) : Nat) + 1) none) st) : jj_J X G kc kn pc lv (.long x :: st) := by
  obtain ⟨p, l, e, R, s, m, args, below, meth, c, nL, A, D, ac, Q⟩ := X
  obtain ⟨hx, hb, hml, hown, hR, hA, hE, hs, hk, hts, -⟩ := F
  obtain ⟨rfl, hd⟩ := d
  intro H locs ls hW hS hl
  exact lv_lstore_n hx hb hd rfl hl.has hn rfl (fun ls' hl' => kk H locs ls' hW hS (jj_l.set2 hl' hc))
theorem jj_lstoreB (F : jj_F X own cc rm) {i : Nat} {x : Int64} (d : jj_D cc pc (.lstore i) 2 nx) (hn : i + 1 < jj_nL X) (hc : jj_nc lv i = true) (kk : jj_J X G kc kn nx ((lv.set i (some (.long x))).set (i + 1) none) st) : jj_J X G kc kn pc lv (.long x :: st) := by
  obtain ⟨p, l, e, R, s, m, args, below, meth, c, nL, A, D, ac, Q⟩ := X
  obtain ⟨hx, hb, hml, hown, hR, hA, hE, hs, hk, hts, -⟩ := F
  obtain ⟨rfl, hd⟩ := d
  intro H locs ls hW hS hl
  exact lv_lstore hx hb hd hl.has hn rfl (fun ls' hl' => kk H locs ls' hW hS (jj_l.set2 hl' hc))
theorem jj_iinc (F : jj_F X own cc rm) {i : Nat} {n a : Int} (d : jj_D cc pc (.iinc i n) 3 nx) (hv : lv[i]? = some (some (.int (jI a)))) (hn : i < jj_nL X) (hc : jj_nc lv i = true) (kk : jj_J X G kc kn nx (lv.set i (some (.int (jI (a + n))))) st) : jj_J X G kc kn pc lv st := by
  obtain ⟨p, l, e, R, s, m, args, below, meth, c, nL, A, D, ac, Q⟩ := X
  obtain ⟨hx, hb, hml, hown, hR, hA, hE, hs, hk, hts, -⟩ := F
  obtain ⟨rfl, hd⟩ := d
  intro H locs ls hW hS hl
  obtain ⟨k, hk⟩ := List.getElem?_of_mem ((jj_p_iff lv 0 i _).mpr ⟨i, by omega, hv⟩)
  exact lv_iinc (v := jI (a + n)) hx hb hd hl.has hk (jI_add a n) hn rfl (fun ls' hl' => kk H locs ls' hW hS (jj_l.set1 hl' hc))
theorem jj_iload0 (F : jj_F X own cc rm) {x : Int32} (d : jj_D cc pc (.iload_n 0) 1 nx) (kk : jj_J X G kc kn nx (some (.int x) :: lr) (.int x :: st)) : jj_J X G kc kn pc (some (.int x) :: lr) st := jj_iloadA F d rfl kk
theorem jj_aload0 (F : jj_F X own cc rm) {x : Nat} (d : jj_D cc pc (.aload_n 0) 1 nx) (kk : jj_J X G kc kn nx (some (.ref x) :: lr) (.ref x :: st)) : jj_J X G kc kn pc (some (.ref x) :: lr) st := jj_aloadA F d rfl kk
theorem jj_nload0 (F : jj_F X own cc rm)  (d : jj_D cc pc (.aload_n 0) 1 nx) (kk : jj_J X G kc kn nx (some (.null) :: lr) (.null :: st)) : jj_J X G kc kn pc (some (.null) :: lr) st := jj_nloadA F d rfl kk
theorem jj_qload0 (F : jj_F X own cc rm) {r : Option Nat} (d : jj_D cc pc (.aload_n 0) 1 nx) (kk : jj_J X G kc kn nx (some (va_rf r) :: lr) (va_rf r :: st)) : jj_J X G kc kn pc (some (va_rf r) :: lr) st := jj_qloadA F d rfl kk
theorem jj_lload0 (F : jj_F X own cc rm) {x : Int64} (d : jj_D cc pc (.lload_n 0) 1 nx) (kk : jj_J X G kc kn nx (some (.long x) :: lr) (.long x :: st)) : jj_J X G kc kn pc (some (.long x) :: lr) st := jj_lloadA F d rfl kk
theorem jj_istore0 (F : jj_F X own cc rm) {x : Int32} {x0 : Option Value} (d : jj_D cc pc (.istore_n 0) 1 nx) (hn : 0 < jj_nL X) (kk : jj_J X G kc kn nx (some (.int x) :: lr) st) : jj_J X G kc kn pc (x0 :: lr) (.int x :: st) := jj_istoreA F d hn rfl kk
theorem jj_astore0 (F : jj_F X own cc rm) {x : Nat} {x0 : Option Value} (d : jj_D cc pc (.astore_n 0) 1 nx) (hn : 0 < jj_nL X) (kk : jj_J X G kc kn nx (some (.ref x) :: lr) st) : jj_J X G kc kn pc (x0 :: lr) (.ref x :: st) := jj_astoreA F d hn rfl kk
theorem jj_nstore0 (F : jj_F X own cc rm)  {x0 : Option Value} (d : jj_D cc pc (.astore_n 0) 1 nx) (hn : 0 < jj_nL X) (kk : jj_J X G kc kn nx (some (.null) :: lr) st) : jj_J X G kc kn pc (x0 :: lr) (.null :: st) := jj_nstoreA F d hn rfl kk
theorem jj_qstore0 (F : jj_F X own cc rm) {r : Option Nat} {x0 : Option Value} (d : jj_D cc pc (.astore_n 0) 1 nx) (hn : 0 < jj_nL X) (kk : jj_J X G kc kn nx (some (va_rf r) :: lr) st) : jj_J X G kc kn pc (x0 :: lr) (va_rf r :: st) := by
  cases r with
  | none => exact jj_nstore0 F d hn  kk
  | some a => exact jj_astore0 F d hn  kk
theorem jj_iinc0 (F : jj_F X own cc rm) {n a : Int} (d : jj_D cc pc (.iinc 0 n) 3 nx) (hn : 0 < jj_nL X) (kk : jj_J X G kc kn nx (some (.int (jI (a + n))) :: lr) st) : jj_J X G kc kn pc (some (.int (jI a)) :: lr) st := jj_iinc F d rfl hn rfl kk
theorem jj_iload1 (F : jj_F X own cc rm) {x : Int32} {x0 : Option Value} (d : jj_D cc pc (.iload_n 1) 1 nx) (kk : jj_J X G kc kn nx (x0 :: some (.int x) :: lr) (.int x :: st)) : jj_J X G kc kn pc (x0 :: some (.int x) :: lr) st := jj_iloadA F d rfl kk
theorem jj_aload1 (F : jj_F X own cc rm) {x : Nat} {x0 : Option Value} (d : jj_D cc pc (.aload_n 1) 1 nx) (kk : jj_J X G kc kn nx (x0 :: some (.ref x) :: lr) (.ref x :: st)) : jj_J X G kc kn pc (x0 :: some (.ref x) :: lr) st := jj_aloadA F d rfl kk
theorem jj_nload1 (F : jj_F X own cc rm)  {x0 : Option Value} (d : jj_D cc pc (.aload_n 1) 1 nx) (kk : jj_J X G kc kn nx (x0 :: some (.null) :: lr) (.null :: st)) : jj_J X G kc kn pc (x0 :: some (.null) :: lr) st := jj_nloadA F d rfl kk
theorem jj_qload1 (F : jj_F X own cc rm) {r : Option Nat} {x0 : Option Value} (d : jj_D cc pc (.aload_n 1) 1 nx) (kk : jj_J X G kc kn nx (x0 :: some (va_rf r) :: lr) (va_rf r :: st)) : jj_J X G kc kn pc (x0 :: some (va_rf r) :: lr) st := jj_qloadA F d rfl kk
theorem jj_lload1 (F : jj_F X own cc rm) {x : Int64} {x0 : Option Value} (d : jj_D cc pc (.lload_n 1) 1 nx) (kk : jj_J X G kc kn nx (x0 :: some (.long x) :: lr) (.long x :: st)) : jj_J X G kc kn pc (x0 :: some (.long x) :: lr) st := jj_lloadA F d rfl kk
theorem jj_istore1 (F : jj_F X own cc rm) {x : Int32} {x0 x1 : Option Value} (d : jj_D cc pc (.istore_n 1) 1 nx) (hn : 1 < jj_nL X) (hc : jj_ncv x0 = true) (kk : jj_J X G kc kn nx (x0 :: some (.int x) :: lr) st) : jj_J X G kc kn pc (x0 :: x1 :: lr) (.int x :: st) := jj_istoreA F d hn (by cases x0 <;> first | rfl | exact hc) kk
theorem jj_astore1 (F : jj_F X own cc rm) {x : Nat} {x0 x1 : Option Value} (d : jj_D cc pc (.astore_n 1) 1 nx) (hn : 1 < jj_nL X) (hc : jj_ncv x0 = true) (kk : jj_J X G kc kn nx (x0 :: some (.ref x) :: lr) st) : jj_J X G kc kn pc (x0 :: x1 :: lr) (.ref x :: st) := jj_astoreA F d hn (by cases x0 <;> first | rfl | exact hc) kk
theorem jj_nstore1 (F : jj_F X own cc rm)  {x0 x1 : Option Value} (d : jj_D cc pc (.astore_n 1) 1 nx) (hn : 1 < jj_nL X) (hc : jj_ncv x0 = true) (kk : jj_J X G kc kn nx (x0 :: some (.null) :: lr) st) : jj_J X G kc kn pc (x0 :: x1 :: lr) (.null :: st) := jj_nstoreA F d hn (by cases x0 <;> first | rfl | exact hc) kk
theorem jj_qstore1 (F : jj_F X own cc rm) {r : Option Nat} {x0 x1 : Option Value} (d : jj_D cc pc (.astore_n 1) 1 nx) (hn : 1 < jj_nL X) (hc : jj_ncv x0 = true) (kk : jj_J X G kc kn nx (x0 :: some (va_rf r) :: lr) st) : jj_J X G kc kn pc (x0 :: x1 :: lr) (va_rf r :: st) := by
  cases r with
  | none => exact jj_nstore1 F d hn hc kk
  | some a => exact jj_astore1 F d hn hc kk
theorem jj_iinc1 (F : jj_F X own cc rm) {n a : Int} {x0 : Option Value} (d : jj_D cc pc (.iinc 1 n) 3 nx) (hn : 1 < jj_nL X) (hc : jj_ncv x0 = true) (kk : jj_J X G kc kn nx (x0 :: some (.int (jI (a + n))) :: lr) st) : jj_J X G kc kn pc (x0 :: some (.int (jI a)) :: lr) st := jj_iinc F d rfl hn (by cases x0 <;> first | rfl | exact hc) kk
theorem jj_iload2 (F : jj_F X own cc rm) {x : Int32} {x0 x1 : Option Value} (d : jj_D cc pc (.iload_n 2) 1 nx) (kk : jj_J X G kc kn nx (x0 :: x1 :: some (.int x) :: lr) (.int x :: st)) : jj_J X G kc kn pc (x0 :: x1 :: some (.int x) :: lr) st := jj_iloadA F d rfl kk
theorem jj_aload2 (F : jj_F X own cc rm) {x : Nat} {x0 x1 : Option Value} (d : jj_D cc pc (.aload_n 2) 1 nx) (kk : jj_J X G kc kn nx (x0 :: x1 :: some (.ref x) :: lr) (.ref x :: st)) : jj_J X G kc kn pc (x0 :: x1 :: some (.ref x) :: lr) st := jj_aloadA F d rfl kk
theorem jj_nload2 (F : jj_F X own cc rm)  {x0 x1 : Option Value} (d : jj_D cc pc (.aload_n 2) 1 nx) (kk : jj_J X G kc kn nx (x0 :: x1 :: some (.null) :: lr) (.null :: st)) : jj_J X G kc kn pc (x0 :: x1 :: some (.null) :: lr) st := jj_nloadA F d rfl kk
theorem jj_qload2 (F : jj_F X own cc rm) {r : Option Nat} {x0 x1 : Option Value} (d : jj_D cc pc (.aload_n 2) 1 nx) (kk : jj_J X G kc kn nx (x0 :: x1 :: some (va_rf r) :: lr) (va_rf r :: st)) : jj_J X G kc kn pc (x0 :: x1 :: some (va_rf r) :: lr) st := jj_qloadA F d rfl kk
theorem jj_lload2 (F : jj_F X own cc rm) {x : Int64} {x0 x1 : Option Value} (d : jj_D cc pc (.lload_n 2) 1 nx) (kk : jj_J X G kc kn nx (x0 :: x1 :: some (.long x) :: lr) (.long x :: st)) : jj_J X G kc kn pc (x0 :: x1 :: some (.long x) :: lr) st := jj_lloadA F d rfl kk
theorem jj_istore2 (F : jj_F X own cc rm) {x : Int32} {x0 x1 x2 : Option Value} (d : jj_D cc pc (.istore_n 2) 1 nx) (hn : 2 < jj_nL X) (hc : jj_ncv x1 = true) (kk : jj_J X G kc kn nx (x0 :: x1 :: some (.int x) :: lr) st) : jj_J X G kc kn pc (x0 :: x1 :: x2 :: lr) (.int x :: st) := jj_istoreA F d hn (by cases x1 <;> first | rfl | exact hc) kk
theorem jj_astore2 (F : jj_F X own cc rm) {x : Nat} {x0 x1 x2 : Option Value} (d : jj_D cc pc (.astore_n 2) 1 nx) (hn : 2 < jj_nL X) (hc : jj_ncv x1 = true) (kk : jj_J X G kc kn nx (x0 :: x1 :: some (.ref x) :: lr) st) : jj_J X G kc kn pc (x0 :: x1 :: x2 :: lr) (.ref x :: st) := jj_astoreA F d hn (by cases x1 <;> first | rfl | exact hc) kk
theorem jj_nstore2 (F : jj_F X own cc rm)  {x0 x1 x2 : Option Value} (d : jj_D cc pc (.astore_n 2) 1 nx) (hn : 2 < jj_nL X) (hc : jj_ncv x1 = true) (kk : jj_J X G kc kn nx (x0 :: x1 :: some (.null) :: lr) st) : jj_J X G kc kn pc (x0 :: x1 :: x2 :: lr) (.null :: st) := jj_nstoreA F d hn (by cases x1 <;> first | rfl | exact hc) kk
theorem jj_qstore2 (F : jj_F X own cc rm) {r : Option Nat} {x0 x1 x2 : Option Value} (d : jj_D cc pc (.astore_n 2) 1 nx) (hn : 2 < jj_nL X) (hc : jj_ncv x1 = true) (kk : jj_J X G kc kn nx (x0 :: x1 :: some (va_rf r) :: lr) st) : jj_J X G kc kn pc (x0 :: x1 :: x2 :: lr) (va_rf r :: st) := by
  cases r with
  | none => exact jj_nstore2 F d hn hc kk
  | some a => exact jj_astore2 F d hn hc kk
theorem jj_iinc2 (F : jj_F X own cc rm) {n a : Int} {x0 x1 : Option Value} (d : jj_D cc pc (.iinc 2 n) 3 nx) (hn : 2 < jj_nL X) (hc : jj_ncv x1 = true) (kk : jj_J X G kc kn nx (x0 :: x1 :: some (.int (jI (a + n))) :: lr) st) : jj_J X G kc kn pc (x0 :: x1 :: some (.int (jI a)) :: lr) st := jj_iinc F d rfl hn (by cases x1 <;> first | rfl | exact hc) kk
theorem jj_iload3 (F : jj_F X own cc rm) {x : Int32} {x0 x1 x2 : Option Value} (d : jj_D cc pc (.iload_n 3) 1 nx) (kk : jj_J X G kc kn nx (x0 :: x1 :: x2 :: some (.int x) :: lr) (.int x :: st)) : jj_J X G kc kn pc (x0 :: x1 :: x2 :: some (.int x) :: lr) st := jj_iloadA F d rfl kk
theorem jj_aload3 (F : jj_F X own cc rm) {x : Nat} {x0 x1 x2 : Option Value} (d : jj_D cc pc (.aload_n 3) 1 nx) (kk : jj_J X G kc kn nx (x0 :: x1 :: x2 :: some (.ref x) :: lr) (.ref x :: st)) : jj_J X G kc kn pc (x0 :: x1 :: x2 :: some (.ref x) :: lr) st := jj_aloadA F d rfl kk
theorem jj_nload3 (F : jj_F X own cc rm)  {x0 x1 x2 : Option Value} (d : jj_D cc pc (.aload_n 3) 1 nx) (kk : jj_J X G kc kn nx (x0 :: x1 :: x2 :: some (.null) :: lr) (.null :: st)) : jj_J X G kc kn pc (x0 :: x1 :: x2 :: some (.null) :: lr) st := jj_nloadA F d rfl kk
theorem jj_qload3 (F : jj_F X own cc rm) {r : Option Nat} {x0 x1 x2 : Option Value} (d : jj_D cc pc (.aload_n 3) 1 nx) (kk : jj_J X G kc kn nx (x0 :: x1 :: x2 :: some (va_rf r) :: lr) (va_rf r :: st)) : jj_J X G kc kn pc (x0 :: x1 :: x2 :: some (va_rf r) :: lr) st := jj_qloadA F d rfl kk
theorem jj_lload3 (F : jj_F X own cc rm) {x : Int64} {x0 x1 x2 : Option Value} (d : jj_D cc pc (.lload_n 3) 1 nx) (kk : jj_J X G kc kn nx (x0 :: x1 :: x2 :: some (.long x) :: lr) (.long x :: st)) : jj_J X G kc kn pc (x0 :: x1 :: x2 :: some (.long x) :: lr) st := jj_lloadA F d rfl kk
theorem jj_istore3 (F : jj_F X own cc rm) {x : Int32} {x0 x1 x2 x3 : Option Value} (d : jj_D cc pc (.istore_n 3) 1 nx) (hn : 3 < jj_nL X) (hc : jj_ncv x2 = true) (kk : jj_J X G kc kn nx (x0 :: x1 :: x2 :: some (.int x) :: lr) st) : jj_J X G kc kn pc (x0 :: x1 :: x2 :: x3 :: lr) (.int x :: st) := jj_istoreA F d hn (by cases x2 <;> first | rfl | exact hc) kk
theorem jj_astore3 (F : jj_F X own cc rm) {x : Nat} {x0 x1 x2 x3 : Option Value} (d : jj_D cc pc (.astore_n 3) 1 nx) (hn : 3 < jj_nL X) (hc : jj_ncv x2 = true) (kk : jj_J X G kc kn nx (x0 :: x1 :: x2 :: some (.ref x) :: lr) st) : jj_J X G kc kn pc (x0 :: x1 :: x2 :: x3 :: lr) (.ref x :: st) := jj_astoreA F d hn (by cases x2 <;> first | rfl | exact hc) kk
theorem jj_nstore3 (F : jj_F X own cc rm)  {x0 x1 x2 x3 : Option Value} (d : jj_D cc pc (.astore_n 3) 1 nx) (hn : 3 < jj_nL X) (hc : jj_ncv x2 = true) (kk : jj_J X G kc kn nx (x0 :: x1 :: x2 :: some (.null) :: lr) st) : jj_J X G kc kn pc (x0 :: x1 :: x2 :: x3 :: lr) (.null :: st) := jj_nstoreA F d hn (by cases x2 <;> first | rfl | exact hc) kk
theorem jj_qstore3 (F : jj_F X own cc rm) {r : Option Nat} {x0 x1 x2 x3 : Option Value} (d : jj_D cc pc (.astore_n 3) 1 nx) (hn : 3 < jj_nL X) (hc : jj_ncv x2 = true) (kk : jj_J X G kc kn nx (x0 :: x1 :: x2 :: some (va_rf r) :: lr) st) : jj_J X G kc kn pc (x0 :: x1 :: x2 :: x3 :: lr) (va_rf r :: st) := by
  cases r with
  | none => exact jj_nstore3 F d hn hc kk
  | some a => exact jj_astore3 F d hn hc kk
theorem jj_iinc3 (F : jj_F X own cc rm) {n a : Int} {x0 x1 x2 : Option Value} (d : jj_D cc pc (.iinc 3 n) 3 nx) (hn : 3 < jj_nL X) (hc : jj_ncv x2 = true) (kk : jj_J X G kc kn nx (x0 :: x1 :: x2 :: some (.int (jI (a + n))) :: lr) st) : jj_J X G kc kn pc (x0 :: x1 :: x2 :: some (.int (jI a)) :: lr) st := jj_iinc F d rfl hn (by cases x2 <;> first | rfl | exact hc) kk
theorem jj_iload4 (F : jj_F X own cc rm) {x : Int32} {x0 x1 x2 x3 : Option Value} (d : jj_D cc pc (.iload 4) 2 nx) (kk : jj_J X G kc kn nx (x0 :: x1 :: x2 :: x3 :: some (.int x) :: lr) (.int x :: st)) : jj_J X G kc kn pc (x0 :: x1 :: x2 :: x3 :: some (.int x) :: lr) st := jj_iloadB F d rfl kk
theorem jj_aload4 (F : jj_F X own cc rm) {x : Nat} {x0 x1 x2 x3 : Option Value} (d : jj_D cc pc (.aload 4) 2 nx) (kk : jj_J X G kc kn nx (x0 :: x1 :: x2 :: x3 :: some (.ref x) :: lr) (.ref x :: st)) : jj_J X G kc kn pc (x0 :: x1 :: x2 :: x3 :: some (.ref x) :: lr) st := jj_aloadB F d rfl kk
theorem jj_nload4 (F : jj_F X own cc rm)  {x0 x1 x2 x3 : Option Value} (d : jj_D cc pc (.aload 4) 2 nx) (kk : jj_J X G kc kn nx (x0 :: x1 :: x2 :: x3 :: some (.null) :: lr) (.null :: st)) : jj_J X G kc kn pc (x0 :: x1 :: x2 :: x3 :: some (.null) :: lr) st := jj_nloadB F d rfl kk
theorem jj_qload4 (F : jj_F X own cc rm) {r : Option Nat} {x0 x1 x2 x3 : Option Value} (d : jj_D cc pc (.aload 4) 2 nx) (kk : jj_J X G kc kn nx (x0 :: x1 :: x2 :: x3 :: some (va_rf r) :: lr) (va_rf r :: st)) : jj_J X G kc kn pc (x0 :: x1 :: x2 :: x3 :: some (va_rf r) :: lr) st := jj_qloadB F d rfl kk
theorem jj_lload4 (F : jj_F X own cc rm) {x : Int64} {x0 x1 x2 x3 : Option Value} (d : jj_D cc pc (.lload 4) 2 nx) (kk : jj_J X G kc kn nx (x0 :: x1 :: x2 :: x3 :: some (.long x) :: lr) (.long x :: st)) : jj_J X G kc kn pc (x0 :: x1 :: x2 :: x3 :: some (.long x) :: lr) st := jj_lloadB F d rfl kk
theorem jj_istore4 (F : jj_F X own cc rm) {x : Int32} {x0 x1 x2 x3 x4 : Option Value} (d : jj_D cc pc (.istore 4) 2 nx) (hn : 4 < jj_nL X) (hc : jj_ncv x3 = true) (kk : jj_J X G kc kn nx (x0 :: x1 :: x2 :: x3 :: some (.int x) :: lr) st) : jj_J X G kc kn pc (x0 :: x1 :: x2 :: x3 :: x4 :: lr) (.int x :: st) := jj_istoreB F d hn (by cases x3 <;> first | rfl | exact hc) kk
theorem jj_astore4 (F : jj_F X own cc rm) {x : Nat} {x0 x1 x2 x3 x4 : Option Value} (d : jj_D cc pc (.astore 4) 2 nx) (hn : 4 < jj_nL X) (hc : jj_ncv x3 = true) (kk : jj_J X G kc kn nx (x0 :: x1 :: x2 :: x3 :: some (.ref x) :: lr) st) : jj_J X G kc kn pc (x0 :: x1 :: x2 :: x3 :: x4 :: lr) (.ref x :: st) := jj_astoreB F d hn (by cases x3 <;> first | rfl | exact hc) kk
theorem jj_nstore4 (F : jj_F X own cc rm)  {x0 x1 x2 x3 x4 : Option Value} (d : jj_D cc pc (.astore 4) 2 nx) (hn : 4 < jj_nL X) (hc : jj_ncv x3 = true) (kk : jj_J X G kc kn nx (x0 :: x1 :: x2 :: x3 :: some (.null) :: lr) st) : jj_J X G kc kn pc (x0 :: x1 :: x2 :: x3 :: x4 :: lr) (.null :: st) := jj_nstoreB F d hn (by cases x3 <;> first | rfl | exact hc) kk
theorem jj_qstore4 (F : jj_F X own cc rm) {r : Option Nat} {x0 x1 x2 x3 x4 : Option Value} (d : jj_D cc pc (.astore 4) 2 nx) (hn : 4 < jj_nL X) (hc : jj_ncv x3 = true) (kk : jj_J X G kc kn nx (x0 :: x1 :: x2 :: x3 :: some (va_rf r) :: lr) st) : jj_J X G kc kn pc (x0 :: x1 :: x2 :: x3 :: x4 :: lr) (va_rf r :: st) := by
  cases r with
  | none => exact jj_nstore4 F d hn hc kk
  | some a => exact jj_astore4 F d hn hc kk
theorem jj_iinc4 (F : jj_F X own cc rm) {n a : Int} {x0 x1 x2 x3 : Option Value} (d : jj_D cc pc (.iinc 4 n) 3 nx) (hn : 4 < jj_nL X) (hc : jj_ncv x3 = true) (kk : jj_J X G kc kn nx (x0 :: x1 :: x2 :: x3 :: some (.int (jI (a + n))) :: lr) st) : jj_J X G kc kn pc (x0 :: x1 :: x2 :: x3 :: some (.int (jI a)) :: lr) st := jj_iinc F d rfl hn (by cases x3 <;> first | rfl | exact hc) kk
theorem jj_iload5 (F : jj_F X own cc rm) {x : Int32} {x0 x1 x2 x3 x4 : Option Value} (d : jj_D cc pc (.iload 5) 2 nx) (kk : jj_J X G kc kn nx (x0 :: x1 :: x2 :: x3 :: x4 :: some (.int x) :: lr) (.int x :: st)) : jj_J X G kc kn pc (x0 :: x1 :: x2 :: x3 :: x4 :: some (.int x) :: lr) st := jj_iloadB F d rfl kk
theorem jj_aload5 (F : jj_F X own cc rm) {x : Nat} {x0 x1 x2 x3 x4 : Option Value} (d : jj_D cc pc (.aload 5) 2 nx) (kk : jj_J X G kc kn nx (x0 :: x1 :: x2 :: x3 :: x4 :: some (.ref x) :: lr) (.ref x :: st)) : jj_J X G kc kn pc (x0 :: x1 :: x2 :: x3 :: x4 :: some (.ref x) :: lr) st := jj_aloadB F d rfl kk
theorem jj_nload5 (F : jj_F X own cc rm)  {x0 x1 x2 x3 x4 : Option Value} (d : jj_D cc pc (.aload 5) 2 nx) (kk : jj_J X G kc kn nx (x0 :: x1 :: x2 :: x3 :: x4 :: some (.null) :: lr) (.null :: st)) : jj_J X G kc kn pc (x0 :: x1 :: x2 :: x3 :: x4 :: some (.null) :: lr) st := jj_nloadB F d rfl kk
theorem jj_qload5 (F : jj_F X own cc rm) {r : Option Nat} {x0 x1 x2 x3 x4 : Option Value} (d : jj_D cc pc (.aload 5) 2 nx) (kk : jj_J X G kc kn nx (x0 :: x1 :: x2 :: x3 :: x4 :: some (va_rf r) :: lr) (va_rf r :: st)) : jj_J X G kc kn pc (x0 :: x1 :: x2 :: x3 :: x4 :: some (va_rf r) :: lr) st := jj_qloadB F d rfl kk
theorem jj_lload5 (F : jj_F X own cc rm) {x : Int64} {x0 x1 x2 x3 x4 : Option Value} (d : jj_D cc pc (.lload 5) 2 nx) (kk : jj_J X G kc kn nx (x0 :: x1 :: x2 :: x3 :: x4 :: some (.long x) :: lr) (.long x :: st)) : jj_J X G kc kn pc (x0 :: x1 :: x2 :: x3 :: x4 :: some (.long x) :: lr) st := jj_lloadB F d rfl kk
theorem jj_istore5 (F : jj_F X own cc rm) {x : Int32} {x0 x1 x2 x3 x4 x5 : Option Value} (d : jj_D cc pc (.istore 5) 2 nx) (hn : 5 < jj_nL X) (hc : jj_ncv x4 = true) (kk : jj_J X G kc kn nx (x0 :: x1 :: x2 :: x3 :: x4 :: some (.int x) :: lr) st) : jj_J X G kc kn pc (x0 :: x1 :: x2 :: x3 :: x4 :: x5 :: lr) (.int x :: st) := jj_istoreB F d hn (by cases x4 <;> first | rfl | exact hc) kk
theorem jj_astore5 (F : jj_F X own cc rm) {x : Nat} {x0 x1 x2 x3 x4 x5 : Option Value} (d : jj_D cc pc (.astore 5) 2 nx) (hn : 5 < jj_nL X) (hc : jj_ncv x4 = true) (kk : jj_J X G kc kn nx (x0 :: x1 :: x2 :: x3 :: x4 :: some (.ref x) :: lr) st) : jj_J X G kc kn pc (x0 :: x1 :: x2 :: x3 :: x4 :: x5 :: lr) (.ref x :: st) := jj_astoreB F d hn (by cases x4 <;> first | rfl | exact hc) kk
theorem jj_nstore5 (F : jj_F X own cc rm)  {x0 x1 x2 x3 x4 x5 : Option Value} (d : jj_D cc pc (.astore 5) 2 nx) (hn : 5 < jj_nL X) (hc : jj_ncv x4 = true) (kk : jj_J X G kc kn nx (x0 :: x1 :: x2 :: x3 :: x4 :: some (.null) :: lr) st) : jj_J X G kc kn pc (x0 :: x1 :: x2 :: x3 :: x4 :: x5 :: lr) (.null :: st) := jj_nstoreB F d hn (by cases x4 <;> first | rfl | exact hc) kk
theorem jj_qstore5 (F : jj_F X own cc rm) {r : Option Nat} {x0 x1 x2 x3 x4 x5 : Option Value} (d : jj_D cc pc (.astore 5) 2 nx) (hn : 5 < jj_nL X) (hc : jj_ncv x4 = true) (kk : jj_J X G kc kn nx (x0 :: x1 :: x2 :: x3 :: x4 :: some (va_rf r) :: lr) st) : jj_J X G kc kn pc (x0 :: x1 :: x2 :: x3 :: x4 :: x5 :: lr) (va_rf r :: st) := by
  cases r with
  | none => exact jj_nstore5 F d hn hc kk
  | some a => exact jj_astore5 F d hn hc kk
theorem jj_iinc5 (F : jj_F X own cc rm) {n a : Int} {x0 x1 x2 x3 x4 : Option Value} (d : jj_D cc pc (.iinc 5 n) 3 nx) (hn : 5 < jj_nL X) (hc : jj_ncv x4 = true) (kk : jj_J X G kc kn nx (x0 :: x1 :: x2 :: x3 :: x4 :: some (.int (jI (a + n))) :: lr) st) : jj_J X G kc kn pc (x0 :: x1 :: x2 :: x3 :: x4 :: some (.int (jI a)) :: lr) st := jj_iinc F d rfl hn (by cases x4 <;> first | rfl | exact hc) kk
theorem jj_iload6 (F : jj_F X own cc rm) {x : Int32} {x0 x1 x2 x3 x4 x5 : Option Value} (d : jj_D cc pc (.iload 6) 2 nx) (kk : jj_J X G kc kn nx (x0 :: x1 :: x2 :: x3 :: x4 :: x5 :: some (.int x) :: lr) (.int x :: st)) : jj_J X G kc kn pc (x0 :: x1 :: x2 :: x3 :: x4 :: x5 :: some (.int x) :: lr) st := jj_iloadB F d rfl kk
theorem jj_aload6 (F : jj_F X own cc rm) {x : Nat} {x0 x1 x2 x3 x4 x5 : Option Value} (d : jj_D cc pc (.aload 6) 2 nx) (kk : jj_J X G kc kn nx (x0 :: x1 :: x2 :: x3 :: x4 :: x5 :: some (.ref x) :: lr) (.ref x :: st)) : jj_J X G kc kn pc (x0 :: x1 :: x2 :: x3 :: x4 :: x5 :: some (.ref x) :: lr) st := jj_aloadB F d rfl kk
theorem jj_nload6 (F : jj_F X own cc rm)  {x0 x1 x2 x3 x4 x5 : Option Value} (d : jj_D cc pc (.aload 6) 2 nx) (kk : jj_J X G kc kn nx (x0 :: x1 :: x2 :: x3 :: x4 :: x5 :: some (.null) :: lr) (.null :: st)) : jj_J X G kc kn pc (x0 :: x1 :: x2 :: x3 :: x4 :: x5 :: some (.null) :: lr) st := jj_nloadB F d rfl kk
theorem jj_qload6 (F : jj_F X own cc rm) {r : Option Nat} {x0 x1 x2 x3 x4 x5 : Option Value} (d : jj_D cc pc (.aload 6) 2 nx) (kk : jj_J X G kc kn nx (x0 :: x1 :: x2 :: x3 :: x4 :: x5 :: some (va_rf r) :: lr) (va_rf r :: st)) : jj_J X G kc kn pc (x0 :: x1 :: x2 :: x3 :: x4 :: x5 :: some (va_rf r) :: lr) st := jj_qloadB F d rfl kk
theorem jj_lload6 (F : jj_F X own cc rm) {x : Int64} {x0 x1 x2 x3 x4 x5 : Option Value} (d : jj_D cc pc (.lload 6) 2 nx) (kk : jj_J X G kc kn nx (x0 :: x1 :: x2 :: x3 :: x4 :: x5 :: some (.long x) :: lr) (.long x :: st)) : jj_J X G kc kn pc (x0 :: x1 :: x2 :: x3 :: x4 :: x5 :: some (.long x) :: lr) st := jj_lloadB F d rfl kk
theorem jj_istore6 (F : jj_F X own cc rm) {x : Int32} {x0 x1 x2 x3 x4 x5 x6 : Option Value} (d : jj_D cc pc (.istore 6) 2 nx) (hn : 6 < jj_nL X) (hc : jj_ncv x5 = true) (kk : jj_J X G kc kn nx (x0 :: x1 :: x2 :: x3 :: x4 :: x5 :: some (.int x) :: lr) st) : jj_J X G kc kn pc (x0 :: x1 :: x2 :: x3 :: x4 :: x5 :: x6 :: lr) (.int x :: st) := jj_istoreB F d hn (by cases x5 <;> first | rfl | exact hc) kk
theorem jj_astore6 (F : jj_F X own cc rm) {x : Nat} {x0 x1 x2 x3 x4 x5 x6 : Option Value} (d : jj_D cc pc (.astore 6) 2 nx) (hn : 6 < jj_nL X) (hc : jj_ncv x5 = true) (kk : jj_J X G kc kn nx (x0 :: x1 :: x2 :: x3 :: x4 :: x5 :: some (.ref x) :: lr) st) : jj_J X G kc kn pc (x0 :: x1 :: x2 :: x3 :: x4 :: x5 :: x6 :: lr) (.ref x :: st) := jj_astoreB F d hn (by cases x5 <;> first | rfl | exact hc) kk
theorem jj_nstore6 (F : jj_F X own cc rm)  {x0 x1 x2 x3 x4 x5 x6 : Option Value} (d : jj_D cc pc (.astore 6) 2 nx) (hn : 6 < jj_nL X) (hc : jj_ncv x5 = true) (kk : jj_J X G kc kn nx (x0 :: x1 :: x2 :: x3 :: x4 :: x5 :: some (.null) :: lr) st) : jj_J X G kc kn pc (x0 :: x1 :: x2 :: x3 :: x4 :: x5 :: x6 :: lr) (.null :: st) := jj_nstoreB F d hn (by cases x5 <;> first | rfl | exact hc) kk
theorem jj_qstore6 (F : jj_F X own cc rm) {r : Option Nat} {x0 x1 x2 x3 x4 x5 x6 : Option Value} (d : jj_D cc pc (.astore 6) 2 nx) (hn : 6 < jj_nL X) (hc : jj_ncv x5 = true) (kk : jj_J X G kc kn nx (x0 :: x1 :: x2 :: x3 :: x4 :: x5 :: some (va_rf r) :: lr) st) : jj_J X G kc kn pc (x0 :: x1 :: x2 :: x3 :: x4 :: x5 :: x6 :: lr) (va_rf r :: st) := by
  cases r with
  | none => exact jj_nstore6 F d hn hc kk
  | some a => exact jj_astore6 F d hn hc kk
theorem jj_iinc6 (F : jj_F X own cc rm) {n a : Int} {x0 x1 x2 x3 x4 x5 : Option Value} (d : jj_D cc pc (.iinc 6 n) 3 nx) (hn : 6 < jj_nL X) (hc : jj_ncv x5 = true) (kk : jj_J X G kc kn nx (x0 :: x1 :: x2 :: x3 :: x4 :: x5 :: some (.int (jI (a + n))) :: lr) st) : jj_J X G kc kn pc (x0 :: x1 :: x2 :: x3 :: x4 :: x5 :: some (.int (jI a)) :: lr) st := jj_iinc F d rfl hn (by cases x5 <;> first | rfl | exact hc) kk
theorem jj_iload7 (F : jj_F X own cc rm) {x : Int32} {x0 x1 x2 x3 x4 x5 x6 : Option Value} (d : jj_D cc pc (.iload 7) 2 nx) (kk : jj_J X G kc kn nx (x0 :: x1 :: x2 :: x3 :: x4 :: x5 :: x6 :: some (.int x) :: lr) (.int x :: st)) : jj_J X G kc kn pc (x0 :: x1 :: x2 :: x3 :: x4 :: x5 :: x6 :: some (.int x) :: lr) st := jj_iloadB F d rfl kk
theorem jj_aload7 (F : jj_F X own cc rm) {x : Nat} {x0 x1 x2 x3 x4 x5 x6 : Option Value} (d : jj_D cc pc (.aload 7) 2 nx) (kk : jj_J X G kc kn nx (x0 :: x1 :: x2 :: x3 :: x4 :: x5 :: x6 :: some (.ref x) :: lr) (.ref x :: st)) : jj_J X G kc kn pc (x0 :: x1 :: x2 :: x3 :: x4 :: x5 :: x6 :: some (.ref x) :: lr) st := jj_aloadB F d rfl kk
theorem jj_nload7 (F : jj_F X own cc rm)  {x0 x1 x2 x3 x4 x5 x6 : Option Value} (d : jj_D cc pc (.aload 7) 2 nx) (kk : jj_J X G kc kn nx (x0 :: x1 :: x2 :: x3 :: x4 :: x5 :: x6 :: some (.null) :: lr) (.null :: st)) : jj_J X G kc kn pc (x0 :: x1 :: x2 :: x3 :: x4 :: x5 :: x6 :: some (.null) :: lr) st := jj_nloadB F d rfl kk
theorem jj_qload7 (F : jj_F X own cc rm) {r : Option Nat} {x0 x1 x2 x3 x4 x5 x6 : Option Value} (d : jj_D cc pc (.aload 7) 2 nx) (kk : jj_J X G kc kn nx (x0 :: x1 :: x2 :: x3 :: x4 :: x5 :: x6 :: some (va_rf r) :: lr) (va_rf r :: st)) : jj_J X G kc kn pc (x0 :: x1 :: x2 :: x3 :: x4 :: x5 :: x6 :: some (va_rf r) :: lr) st := jj_qloadB F d rfl kk
theorem jj_lload7 (F : jj_F X own cc rm) {x : Int64} {x0 x1 x2 x3 x4 x5 x6 : Option Value} (d : jj_D cc pc (.lload 7) 2 nx) (kk : jj_J X G kc kn nx (x0 :: x1 :: x2 :: x3 :: x4 :: x5 :: x6 :: some (.long x) :: lr) (.long x :: st)) : jj_J X G kc kn pc (x0 :: x1 :: x2 :: x3 :: x4 :: x5 :: x6 :: some (.long x) :: lr) st := jj_lloadB F d rfl kk
theorem jj_istore7 (F : jj_F X own cc rm) {x : Int32} {x0 x1 x2 x3 x4 x5 x6 x7 : Option Value} (d : jj_D cc pc (.istore 7) 2 nx) (hn : 7 < jj_nL X) (hc : jj_ncv x6 = true) (kk : jj_J X G kc kn nx (x0 :: x1 :: x2 :: x3 :: x4 :: x5 :: x6 :: some (.int x) :: lr) st) : jj_J X G kc kn pc (x0 :: x1 :: x2 :: x3 :: x4 :: x5 :: x6 :: x7 :: lr) (.int x :: st) := jj_istoreB F d hn (by cases x6 <;> first | rfl | exact hc) kk
theorem jj_astore7 (F : jj_F X own cc rm) {x : Nat} {x0 x1 x2 x3 x4 x5 x6 x7 : Option Value} (d : jj_D cc pc (.astore 7) 2 nx) (hn : 7 < jj_nL X) (hc : jj_ncv x6 = true) (kk : jj_J X G kc kn nx (x0 :: x1 :: x2 :: x3 :: x4 :: x5 :: x6 :: some (.ref x) :: lr) st) : jj_J X G kc kn pc (x0 :: x1 :: x2 :: x3 :: x4 :: x5 :: x6 :: x7 :: lr) (.ref x :: st) := jj_astoreB F d hn (by cases x6 <;> first | rfl | exact hc) kk
theorem jj_nstore7 (F : jj_F X own cc rm)  {x0 x1 x2 x3 x4 x5 x6 x7 : Option Value} (d : jj_D cc pc (.astore 7) 2 nx) (hn : 7 < jj_nL X) (hc : jj_ncv x6 = true) (kk : jj_J X G kc kn nx (x0 :: x1 :: x2 :: x3 :: x4 :: x5 :: x6 :: some (.null) :: lr) st) : jj_J X G kc kn pc (x0 :: x1 :: x2 :: x3 :: x4 :: x5 :: x6 :: x7 :: lr) (.null :: st) := jj_nstoreB F d hn (by cases x6 <;> first | rfl | exact hc) kk
theorem jj_qstore7 (F : jj_F X own cc rm) {r : Option Nat} {x0 x1 x2 x3 x4 x5 x6 x7 : Option Value} (d : jj_D cc pc (.astore 7) 2 nx) (hn : 7 < jj_nL X) (hc : jj_ncv x6 = true) (kk : jj_J X G kc kn nx (x0 :: x1 :: x2 :: x3 :: x4 :: x5 :: x6 :: some (va_rf r) :: lr) st) : jj_J X G kc kn pc (x0 :: x1 :: x2 :: x3 :: x4 :: x5 :: x6 :: x7 :: lr) (va_rf r :: st) := by
  cases r with
  | none => exact jj_nstore7 F d hn hc kk
  | some a => exact jj_astore7 F d hn hc kk
theorem jj_iinc7 (F : jj_F X own cc rm) {n a : Int} {x0 x1 x2 x3 x4 x5 x6 : Option Value} (d : jj_D cc pc (.iinc 7 n) 3 nx) (hn : 7 < jj_nL X) (hc : jj_ncv x6 = true) (kk : jj_J X G kc kn nx (x0 :: x1 :: x2 :: x3 :: x4 :: x5 :: x6 :: some (.int (jI (a + n))) :: lr) st) : jj_J X G kc kn pc (x0 :: x1 :: x2 :: x3 :: x4 :: x5 :: x6 :: some (.int (jI a)) :: lr) st := jj_iinc F d rfl hn (by cases x6 <;> first | rfl | exact hc) kk
theorem jj_iload8 (F : jj_F X own cc rm) {x : Int32} {x0 x1 x2 x3 x4 x5 x6 x7 : Option Value} (d : jj_D cc pc (.iload 8) 2 nx) (kk : jj_J X G kc kn nx (x0 :: x1 :: x2 :: x3 :: x4 :: x5 :: x6 :: x7 :: some (.int x) :: lr) (.int x :: st)) : jj_J X G kc kn pc (x0 :: x1 :: x2 :: x3 :: x4 :: x5 :: x6 :: x7 :: some (.int x) :: lr) st := jj_iloadB F d rfl kk
theorem jj_aload8 (F : jj_F X own cc rm) {x : Nat} {x0 x1 x2 x3 x4 x5 x6 x7 : Option Value} (d : jj_D cc pc (.aload 8) 2 nx) (kk : jj_J X G kc kn nx (x0 :: x1 :: x2 :: x3 :: x4 :: x5 :: x6 :: x7 :: some (.ref x) :: lr) (.ref x :: st)) : jj_J X G kc kn pc (x0 :: x1 :: x2 :: x3 :: x4 :: x5 :: x6 :: x7 :: some (.ref x) :: lr) st := jj_aloadB F d rfl kk
theorem jj_nload8 (F : jj_F X own cc rm)  {x0 x1 x2 x3 x4 x5 x6 x7 : Option Value} (d : jj_D cc pc (.aload 8) 2 nx) (kk : jj_J X G kc kn nx (x0 :: x1 :: x2 :: x3 :: x4 :: x5 :: x6 :: x7 :: some (.null) :: lr) (.null :: st)) : jj_J X G kc kn pc (x0 :: x1 :: x2 :: x3 :: x4 :: x5 :: x6 :: x7 :: some (.null) :: lr) st := jj_nloadB F d rfl kk
theorem jj_qload8 (F : jj_F X own cc rm) {r : Option Nat} {x0 x1 x2 x3 x4 x5 x6 x7 : Option Value} (d : jj_D cc pc (.aload 8) 2 nx) (kk : jj_J X G kc kn nx (x0 :: x1 :: x2 :: x3 :: x4 :: x5 :: x6 :: x7 :: some (va_rf r) :: lr) (va_rf r :: st)) : jj_J X G kc kn pc (x0 :: x1 :: x2 :: x3 :: x4 :: x5 :: x6 :: x7 :: some (va_rf r) :: lr) st := jj_qloadB F d rfl kk
theorem jj_lload8 (F : jj_F X own cc rm) {x : Int64} {x0 x1 x2 x3 x4 x5 x6 x7 : Option Value} (d : jj_D cc pc (.lload 8) 2 nx) (kk : jj_J X G kc kn nx (x0 :: x1 :: x2 :: x3 :: x4 :: x5 :: x6 :: x7 :: some (.long x) :: lr) (.long x :: st)) : jj_J X G kc kn pc (x0 :: x1 :: x2 :: x3 :: x4 :: x5 :: x6 :: x7 :: some (.long x) :: lr) st := jj_lloadB F d rfl kk
theorem jj_istore8 (F : jj_F X own cc rm) {x : Int32} {x0 x1 x2 x3 x4 x5 x6 x7 x8 : Option Value} (d : jj_D cc pc (.istore 8) 2 nx) (hn : 8 < jj_nL X) (hc : jj_ncv x7 = true) (kk : jj_J X G kc kn nx (x0 :: x1 :: x2 :: x3 :: x4 :: x5 :: x6 :: x7 :: some (.int x) :: lr) st) : jj_J X G kc kn pc (x0 :: x1 :: x2 :: x3 :: x4 :: x5 :: x6 :: x7 :: x8 :: lr) (.int x :: st) := jj_istoreB F d hn (by cases x7 <;> first | rfl | exact hc) kk
theorem jj_astore8 (F : jj_F X own cc rm) {x : Nat} {x0 x1 x2 x3 x4 x5 x6 x7 x8 : Option Value} (d : jj_D cc pc (.astore 8) 2 nx) (hn : 8 < jj_nL X) (hc : jj_ncv x7 = true) (kk : jj_J X G kc kn nx (x0 :: x1 :: x2 :: x3 :: x4 :: x5 :: x6 :: x7 :: some (.ref x) :: lr) st) : jj_J X G kc kn pc (x0 :: x1 :: x2 :: x3 :: x4 :: x5 :: x6 :: x7 :: x8 :: lr) (.ref x :: st) := jj_astoreB F d hn (by cases x7 <;> first | rfl | exact hc) kk
theorem jj_nstore8 (F : jj_F X own cc rm)  {x0 x1 x2 x3 x4 x5 x6 x7 x8 : Option Value} (d : jj_D cc pc (.astore 8) 2 nx) (hn : 8 < jj_nL X) (hc : jj_ncv x7 = true) (kk : jj_J X G kc kn nx (x0 :: x1 :: x2 :: x3 :: x4 :: x5 :: x6 :: x7 :: some (.null) :: lr) st) : jj_J X G kc kn pc (x0 :: x1 :: x2 :: x3 :: x4 :: x5 :: x6 :: x7 :: x8 :: lr) (.null :: st) := jj_nstoreB F d hn (by cases x7 <;> first | rfl | exact hc) kk
theorem jj_qstore8 (F : jj_F X own cc rm) {r : Option Nat} {x0 x1 x2 x3 x4 x5 x6 x7 x8 : Option Value} (d : jj_D cc pc (.astore 8) 2 nx) (hn : 8 < jj_nL X) (hc : jj_ncv x7 = true) (kk : jj_J X G kc kn nx (x0 :: x1 :: x2 :: x3 :: x4 :: x5 :: x6 :: x7 :: some (va_rf r) :: lr) st) : jj_J X G kc kn pc (x0 :: x1 :: x2 :: x3 :: x4 :: x5 :: x6 :: x7 :: x8 :: lr) (va_rf r :: st) := by
  cases r with
  | none => exact jj_nstore8 F d hn hc kk
  | some a => exact jj_astore8 F d hn hc kk
theorem jj_iinc8 (F : jj_F X own cc rm) {n a : Int} {x0 x1 x2 x3 x4 x5 x6 x7 : Option Value} (d : jj_D cc pc (.iinc 8 n) 3 nx) (hn : 8 < jj_nL X) (hc : jj_ncv x7 = true) (kk : jj_J X G kc kn nx (x0 :: x1 :: x2 :: x3 :: x4 :: x5 :: x6 :: x7 :: some (.int (jI (a + n))) :: lr) st) : jj_J X G kc kn pc (x0 :: x1 :: x2 :: x3 :: x4 :: x5 :: x6 :: x7 :: some (.int (jI a)) :: lr) st := jj_iinc F d rfl hn (by cases x7 <;> first | rfl | exact hc) kk
theorem jj_iload9 (F : jj_F X own cc rm) {x : Int32} {x0 x1 x2 x3 x4 x5 x6 x7 x8 : Option Value} (d : jj_D cc pc (.iload 9) 2 nx) (kk : jj_J X G kc kn nx (x0 :: x1 :: x2 :: x3 :: x4 :: x5 :: x6 :: x7 :: x8 :: some (.int x) :: lr) (.int x :: st)) : jj_J X G kc kn pc (x0 :: x1 :: x2 :: x3 :: x4 :: x5 :: x6 :: x7 :: x8 :: some (.int x) :: lr) st := jj_iloadB F d rfl kk
theorem jj_aload9 (F : jj_F X own cc rm) {x : Nat} {x0 x1 x2 x3 x4 x5 x6 x7 x8 : Option Value} (d : jj_D cc pc (.aload 9) 2 nx) (kk : jj_J X G kc kn nx (x0 :: x1 :: x2 :: x3 :: x4 :: x5 :: x6 :: x7 :: x8 :: some (.ref x) :: lr) (.ref x :: st)) : jj_J X G kc kn pc (x0 :: x1 :: x2 :: x3 :: x4 :: x5 :: x6 :: x7 :: x8 :: some (.ref x) :: lr) st := jj_aloadB F d rfl kk
theorem jj_nload9 (F : jj_F X own cc rm)  {x0 x1 x2 x3 x4 x5 x6 x7 x8 : Option Value} (d : jj_D cc pc (.aload 9) 2 nx) (kk : jj_J X G kc kn nx (x0 :: x1 :: x2 :: x3 :: x4 :: x5 :: x6 :: x7 :: x8 :: some (.null) :: lr) (.null :: st)) : jj_J X G kc kn pc (x0 :: x1 :: x2 :: x3 :: x4 :: x5 :: x6 :: x7 :: x8 :: some (.null) :: lr) st := jj_nloadB F d rfl kk
theorem jj_qload9 (F : jj_F X own cc rm) {r : Option Nat} {x0 x1 x2 x3 x4 x5 x6 x7 x8 : Option Value} (d : jj_D cc pc (.aload 9) 2 nx) (kk : jj_J X G kc kn nx (x0 :: x1 :: x2 :: x3 :: x4 :: x5 :: x6 :: x7 :: x8 :: some (va_rf r) :: lr) (va_rf r :: st)) : jj_J X G kc kn pc (x0 :: x1 :: x2 :: x3 :: x4 :: x5 :: x6 :: x7 :: x8 :: some (va_rf r) :: lr) st := jj_qloadB F d rfl kk
theorem jj_lload9 (F : jj_F X own cc rm) {x : Int64} {x0 x1 x2 x3 x4 x5 x6 x7 x8 : Option Value} (d : jj_D cc pc (.lload 9) 2 nx) (kk : jj_J X G kc kn nx (x0 :: x1 :: x2 :: x3 :: x4 :: x5 :: x6 :: x7 :: x8 :: some (.long x) :: lr) (.long x :: st)) : jj_J X G kc kn pc (x0 :: x1 :: x2 :: x3 :: x4 :: x5 :: x6 :: x7 :: x8 :: some (.long x) :: lr) st := jj_lloadB F d rfl kk
theorem jj_istore9 (F : jj_F X own cc rm) {x : Int32} {x0 x1 x2 x3 x4 x5 x6 x7 x8 x9 : Option Value} (d : jj_D cc pc (.istore 9) 2 nx) (hn : 9 < jj_nL X) (hc : jj_ncv x8 = true) (kk : jj_J X G kc kn nx (x0 :: x1 :: x2 :: x3 :: x4 :: x5 :: x6 :: x7 :: x8 :: some (.int x) :: lr) st) : jj_J X G kc kn pc (x0 :: x1 :: x2 :: x3 :: x4 :: x5 :: x6 :: x7 :: x8 :: x9 :: lr) (.int x :: st) := jj_istoreB F d hn (by cases x8 <;> first | rfl | exact hc) kk
theorem jj_astore9 (F : jj_F X own cc rm) {x : Nat} {x0 x1 x2 x3 x4 x5 x6 x7 x8 x9 : Option Value} (d : jj_D cc pc (.astore 9) 2 nx) (hn : 9 < jj_nL X) (hc : jj_ncv x8 = true) (kk : jj_J X G kc kn nx (x0 :: x1 :: x2 :: x3 :: x4 :: x5 :: x6 :: x7 :: x8 :: some (.ref x) :: lr) st) : jj_J X G kc kn pc (x0 :: x1 :: x2 :: x3 :: x4 :: x5 :: x6 :: x7 :: x8 :: x9 :: lr) (.ref x :: st) := jj_astoreB F d hn (by cases x8 <;> first | rfl | exact hc) kk
theorem jj_nstore9 (F : jj_F X own cc rm)  {x0 x1 x2 x3 x4 x5 x6 x7 x8 x9 : Option Value} (d : jj_D cc pc (.astore 9) 2 nx) (hn : 9 < jj_nL X) (hc : jj_ncv x8 = true) (kk : jj_J X G kc kn nx (x0 :: x1 :: x2 :: x3 :: x4 :: x5 :: x6 :: x7 :: x8 :: some (.null) :: lr) st) : jj_J X G kc kn pc (x0 :: x1 :: x2 :: x3 :: x4 :: x5 :: x6 :: x7 :: x8 :: x9 :: lr) (.null :: st) := jj_nstoreB F d hn (by cases x8 <;> first | rfl | exact hc) kk
theorem jj_qstore9 (F : jj_F X own cc rm) {r : Option Nat} {x0 x1 x2 x3 x4 x5 x6 x7 x8 x9 : Option Value} (d : jj_D cc pc (.astore 9) 2 nx) (hn : 9 < jj_nL X) (hc : jj_ncv x8 = true) (kk : jj_J X G kc kn nx (x0 :: x1 :: x2 :: x3 :: x4 :: x5 :: x6 :: x7 :: x8 :: some (va_rf r) :: lr) st) : jj_J X G kc kn pc (x0 :: x1 :: x2 :: x3 :: x4 :: x5 :: x6 :: x7 :: x8 :: x9 :: lr) (va_rf r :: st) := by
  cases r with
  | none => exact jj_nstore9 F d hn hc kk
  | some a => exact jj_astore9 F d hn hc kk
theorem jj_iinc9 (F : jj_F X own cc rm) {n a : Int} {x0 x1 x2 x3 x4 x5 x6 x7 x8 : Option Value} (d : jj_D cc pc (.iinc 9 n) 3 nx) (hn : 9 < jj_nL X) (hc : jj_ncv x8 = true) (kk : jj_J X G kc kn nx (x0 :: x1 :: x2 :: x3 :: x4 :: x5 :: x6 :: x7 :: x8 :: some (.int (jI (a + n))) :: lr) st) : jj_J X G kc kn pc (x0 :: x1 :: x2 :: x3 :: x4 :: x5 :: x6 :: x7 :: x8 :: some (.int (jI a)) :: lr) st := jj_iinc F d rfl hn (by cases x8 <;> first | rfl | exact hc) kk
theorem jj_iload10 (F : jj_F X own cc rm) {x : Int32} {x0 x1 x2 x3 x4 x5 x6 x7 x8 x9 : Option Value} (d : jj_D cc pc (.iload 10) 2 nx) (kk : jj_J X G kc kn nx (x0 :: x1 :: x2 :: x3 :: x4 :: x5 :: x6 :: x7 :: x8 :: x9 :: some (.int x) :: lr) (.int x :: st)) : jj_J X G kc kn pc (x0 :: x1 :: x2 :: x3 :: x4 :: x5 :: x6 :: x7 :: x8 :: x9 :: some (.int x) :: lr) st := jj_iloadB F d rfl kk
theorem jj_aload10 (F : jj_F X own cc rm) {x : Nat} {x0 x1 x2 x3 x4 x5 x6 x7 x8 x9 : Option Value} (d : jj_D cc pc (.aload 10) 2 nx) (kk : jj_J X G kc kn nx (x0 :: x1 :: x2 :: x3 :: x4 :: x5 :: x6 :: x7 :: x8 :: x9 :: some (.ref x) :: lr) (.ref x :: st)) : jj_J X G kc kn pc (x0 :: x1 :: x2 :: x3 :: x4 :: x5 :: x6 :: x7 :: x8 :: x9 :: some (.ref x) :: lr) st := jj_aloadB F d rfl kk
theorem jj_nload10 (F : jj_F X own cc rm)  {x0 x1 x2 x3 x4 x5 x6 x7 x8 x9 : Option Value} (d : jj_D cc pc (.aload 10) 2 nx) (kk : jj_J X G kc kn nx (x0 :: x1 :: x2 :: x3 :: x4 :: x5 :: x6 :: x7 :: x8 :: x9 :: some (.null) :: lr) (.null :: st)) : jj_J X G kc kn pc (x0 :: x1 :: x2 :: x3 :: x4 :: x5 :: x6 :: x7 :: x8 :: x9 :: some (.null) :: lr) st := jj_nloadB F d rfl kk
theorem jj_qload10 (F : jj_F X own cc rm) {r : Option Nat} {x0 x1 x2 x3 x4 x5 x6 x7 x8 x9 : Option Value} (d : jj_D cc pc (.aload 10) 2 nx) (kk : jj_J X G kc kn nx (x0 :: x1 :: x2 :: x3 :: x4 :: x5 :: x6 :: x7 :: x8 :: x9 :: some (va_rf r) :: lr) (va_rf r :: st)) : jj_J X G kc kn pc (x0 :: x1 :: x2 :: x3 :: x4 :: x5 :: x6 :: x7 :: x8 :: x9 :: some (va_rf r) :: lr) st := jj_qloadB F d rfl kk
theorem jj_lload10 (F : jj_F X own cc rm) {x : Int64} {x0 x1 x2 x3 x4 x5 x6 x7 x8 x9 : Option Value} (d : jj_D cc pc (.lload 10) 2 nx) (kk : jj_J X G kc kn nx (x0 :: x1 :: x2 :: x3 :: x4 :: x5 :: x6 :: x7 :: x8 :: x9 :: some (.long x) :: lr) (.long x :: st)) : jj_J X G kc kn pc (x0 :: x1 :: x2 :: x3 :: x4 :: x5 :: x6 :: x7 :: x8 :: x9 :: some (.long x) :: lr) st := jj_lloadB F d rfl kk
theorem jj_istore10 (F : jj_F X own cc rm) {x : Int32} {x0 x1 x2 x3 x4 x5 x6 x7 x8 x9 x10 : Option Value} (d : jj_D cc pc (.istore 10) 2 nx) (hn : 10 < jj_nL X) (hc : jj_ncv x9 = true) (kk : jj_J X G kc kn nx (x0 :: x1 :: x2 :: x3 :: x4 :: x5 :: x6 :: x7 :: x8 :: x9 :: some (.int x) :: lr) st) : jj_J X G kc kn pc (x0 :: x1 :: x2 :: x3 :: x4 :: x5 :: x6 :: x7 :: x8 :: x9 :: x10 :: lr) (.int x :: st) := jj_istoreB F d hn (by cases x9 <;> first | rfl | exact hc) kk
theorem jj_astore10 (F : jj_F X own cc rm) {x : Nat} {x0 x1 x2 x3 x4 x5 x6 x7 x8 x9 x10 : Option Value} (d : jj_D cc pc (.astore 10) 2 nx) (hn : 10 < jj_nL X) (hc : jj_ncv x9 = true) (kk : jj_J X G kc kn nx (x0 :: x1 :: x2 :: x3 :: x4 :: x5 :: x6 :: x7 :: x8 :: x9 :: some (.ref x) :: lr) st) : jj_J X G kc kn pc (x0 :: x1 :: x2 :: x3 :: x4 :: x5 :: x6 :: x7 :: x8 :: x9 :: x10 :: lr) (.ref x :: st) := jj_astoreB F d hn (by cases x9 <;> first | rfl | exact hc) kk
theorem jj_nstore10 (F : jj_F X own cc rm)  {x0 x1 x2 x3 x4 x5 x6 x7 x8 x9 x10 : Option Value} (d : jj_D cc pc (.astore 10) 2 nx) (hn : 10 < jj_nL X) (hc : jj_ncv x9 = true) (kk : jj_J X G kc kn nx (x0 :: x1 :: x2 :: x3 :: x4 :: x5 :: x6 :: x7 :: x8 :: x9 :: some (.null) :: lr) st) : jj_J X G kc kn pc (x0 :: x1 :: x2 :: x3 :: x4 :: x5 :: x6 :: x7 :: x8 :: x9 :: x10 :: lr) (.null :: st) := jj_nstoreB F d hn (by cases x9 <;> first | rfl | exact hc) kk
theorem jj_qstore10 (F : jj_F X own cc rm) {r : Option Nat} {x0 x1 x2 x3 x4 x5 x6 x7 x8 x9 x10 : Option Value} (d : jj_D cc pc (.astore 10) 2 nx) (hn : 10 < jj_nL X) (hc : jj_ncv x9 = true) (kk : jj_J X G kc kn nx (x0 :: x1 :: x2 :: x3 :: x4 :: x5 :: x6 :: x7 :: x8 :: x9 :: some (va_rf r) :: lr) st) : jj_J X G kc kn pc (x0 :: x1 :: x2 :: x3 :: x4 :: x5 :: x6 :: x7 :: x8 :: x9 :: x10 :: lr) (va_rf r :: st) := by
  cases r with
  | none => exact jj_nstore10 F d hn hc kk
  | some a => exact jj_astore10 F d hn hc kk
theorem jj_iinc10 (F : jj_F X own cc rm) {n a : Int} {x0 x1 x2 x3 x4 x5 x6 x7 x8 x9 : Option Value} (d : jj_D cc pc (.iinc 10 n) 3 nx) (hn : 10 < jj_nL X) (hc : jj_ncv x9 = true) (kk : jj_J X G kc kn nx (x0 :: x1 :: x2 :: x3 :: x4 :: x5 :: x6 :: x7 :: x8 :: x9 :: some (.int (jI (a + n))) :: lr) st) : jj_J X G kc kn pc (x0 :: x1 :: x2 :: x3 :: x4 :: x5 :: x6 :: x7 :: x8 :: x9 :: some (.int (jI a)) :: lr) st := jj_iinc F d rfl hn (by cases x9 <;> first | rfl | exact hc) kk
end JR
end
section
def jj_ac : jj_X → Nat → ClassId
  | (_, _, _, _, _, _, _, _, _, _, _, _, _, ac, _) => ac
def jj_isInit : jj_X → Prop
  | (_, _, _, _, _, _, _, _, meth, _, _, _, _, _, _) => meth.name = "<init>"
section JH
variable {X : jj_X} {own : String} {cc : ByteArray} {rm : Room} {G : jj_G} {kc kn pc nx : Nat} {lv lr : List (Option Value)} {st : List Value}
/-- a class's words, by the number of the class in vwCl -/
def jj_cls (ci : Nat) (C : String) (T : u_T) (N : Nat) (ty : Nat → FieldType) : Prop := vwCl[ci]? = some (C, T, N) ∧ (∀ w ∈ u_ws C T N, w ∈ jj_GW) ∧ (∀ k, k < N → parseFieldDescriptor (T k).2.2.1 = some (ty k)) ∧ (∀ a, a < N → ∀ b, b < N → a ≠ b → (T a).2.1 ≠ (T b).2.1)
/-- a field, from a place in the pool of 'own' -/
def jj_fld (own : String) (index : Nat) (T : u_T) (k : Nat) : Prop := Cond.fieldLink own index (T k).1 (T k).2.1 (T k).2.2.1 ∈ jj_GW
theorem jj_get (F : jj_F X own cc rm) {a ci index k N : Nat} {C : String} {T : u_T} {ty : Nat → FieldType} {fs : List Value} {v : Value} (hG : G a = some (jj_o ci fs)) (hc : jj_cls ci C T N ty) (hk : k < N) (hw : jj_fld own index T k) (hv : fs[k]? = some v) (d : jj_D cc pc (.getfield index) 3 nx) (kk : jj_J X G kc kn nx lv (v :: st)) : jj_J X G kc kn pc lv (.ref a :: st) := by
  obtain ⟨p, l, e, R, s, m, args, below, meth, c, nL, A, D, ac, Q⟩ := X
  obtain ⟨hx, hb, hml, hown, hR, hA, hE, hs, hlk, hts, -⟩ := F
  obtain ⟨rfl, hd⟩ := d
  intro H locs ls hW hS hl
  exact va_get hx hb hts hc.2.1 hown hE.2.1 (hW.at hG).1 0 rfl hc.1 k hk (hts _ hw) (fun _ h9 => h9) hv hd (kk H locs ls hW hS hl)
theorem jj_put (F : jj_F X own cc rm) {a ci index k N : Nat} {C : String} {T : u_T} {ty : Nat → FieldType} {fs : List Value} {v : Value} (hG : G a = some (jj_o ci fs)) (hc : jj_cls ci C T N ty) (hk : k < N) (hw : jj_fld own index T k) (hfin : (T k).2.2.2 = false) (hn : narrow (ty k) v = v) (hf : fits (ty k) v = true) (hlen : k < fs.length) (d : jj_D cc pc (.putfield index) 3 nx) (kk : jj_J X (jj_u G a (jj_o ci (fs.set k v))) kc kn nx lv st) : jj_J X G kc kn pc lv (v :: .ref a :: st) := by
  obtain ⟨p, l, e, R, s, m, args, below, meth, c, nL, A, D, ac, Q⟩ := X
  obtain ⟨hx, hb, hml, hown, hR, hA, hE, hs, hlk, hts, -⟩ := F
  obtain ⟨rfl, hd⟩ := d
  intro H locs ls hW hS hl
  obtain ⟨ws, hP, hD, hL⟩ := hW
  obtain ⟨q0, hq⟩ := (hL a _).mp hG
  exact va_put hx hb hts hc.2.1 ty hc.2.2.1 hc.2.2.2 hown hE.2.1 hP hD hS q0 hq hc.1 k hk (hts _ hw) (fun _ h9 => h9) hfin (hc.2.2.1 k hk) hn hf hlen hd (fun H1 locs1 hP1 hD1 hS1 => kk H1 locs1 ls ⟨_, hP1, hD1, hL.set hD hq⟩ hS1 hl)
theorem jj_putF (F : jj_F X own cc rm) {a ci index k N : Nat} {C : String} {T : u_T} {ty : Nat → FieldType} {fs : List Value} {v : Value} (hG : G a = some (jj_o ci fs)) (hc : jj_cls ci C T N ty) (hk : k < N) (hw : jj_fld own index T k) (hin : jj_isInit X) (hdec : (T k).1 = own) (hfin : (T k).2.2.2 = true) (hn : narrow (ty k) v = v) (hf : fits (ty k) v = true) (hlen : k < fs.length) (d : jj_D cc pc (.putfield index) 3 nx) (kk : jj_J X (jj_u G a (jj_o ci (fs.set k v))) kc kn nx lv st) : jj_J X G kc kn pc lv (v :: .ref a :: st) := by
  obtain ⟨p, l, e, R, s, m, args, below, meth, c, nL, A, D, ac, Q⟩ := X
  obtain ⟨hx, hb, hml, hown, hR, hA, hE, hs, hlk, hts, -⟩ := F
  obtain ⟨rfl, hd⟩ := d
  intro H locs ls hW hS hl
  obtain ⟨ws, hP, hD, hL⟩ := hW
  obtain ⟨q0, hq⟩ := (hL a _).mp hG
  exact va_putF hx hb hts hc.2.1 ty hc.2.2.1 hc.2.2.2 hown hE.2.1 hP hD hS q0 hq hc.1 k hk (hts _ hw) (fun _ h9 => h9) hfin hin hdec (hc.2.2.1 k hk) hn hf hlen hd (fun H1 locs1 hP1 hD1 hS1 => kk H1 locs1 ls ⟨_, hP1, hD1, hL.set hD hq⟩ hS1 hl)
theorem jj_iald (F : jj_F X own cc rm) {a n : Nat} {g : Int → Int} {i : Int} (hG : G a = some (jj_ai (jj_ac X 0) n g)) (hi : 0 ≤ i ∧ i < n) (hn : n ≤ 100000) (d : jj_D cc pc .iaload 1 nx) (kk : jj_J X G kc kn nx lv (.int (jI (g i)) :: st)) : jj_J X G kc kn pc lv (.int (jI i) :: .ref a :: st) := by
  obtain ⟨p, l, e, R, s, m, args, below, meth, c, nL, A, D, ac, Q⟩ := X
  obtain ⟨hx, hb, hml, hown, hR, hA, hE, hs, hlk, hts, -⟩ := F
  obtain ⟨rfl, hd⟩ := d
  intro H locs ls hW hS hl
  obtain ⟨h1, h2⟩ := jI_in hi hn
  refine va_iald hx hb hE.2.1 (hW.at hG).1 0 0 rfl rfl h1 hd ?_
  rw [h2]
  exact kk H locs ls hW hS hl
theorem jj_iast (F : jj_F X own cc rm) {a n : Nat} {g : Int → Int} {i x : Int} (hG : G a = some (jj_ai (jj_ac X 0) n g)) (hi : 0 ≤ i ∧ i < n) (hn : n ≤ 100000) (d : jj_D cc pc .iastore 1 nx) (kk : jj_J X (jj_u G a (jj_ai (jj_ac X 0) n (ju g i x))) kc kn nx lv st) : jj_J X G kc kn pc lv (.int (jI x) :: .int (jI i) :: .ref a :: st) := by
  obtain ⟨p, l, e, R, s, m, args, below, meth, c, nL, A, D, ac, Q⟩ := X
  obtain ⟨hx, hb, hml, hown, hR, hA, hE, hs, hlk, hts, -⟩ := F
  obtain ⟨rfl, hd⟩ := d
  intro H locs ls hW hS hl
  obtain ⟨h1, h2⟩ := jI_in hi hn
  obtain ⟨ws, hP, hD, hL⟩ := hW
  obtain ⟨q0, hq⟩ := (hL a _).mp hG
  refine va_iast hx hb hE.2.1 hP hD hS q0 0 hq rfl h1 hd (fun H1 locs1 hP1 hD1 hS1 => kk H1 locs1 ls ⟨_, hP1, hD1, ?_⟩ hS1 hl)
  have e1 : jj_ai (ac 0) n (ju g i x) = .inl (ac 0, n, .inl (upd (fun i => jI (g (i : Int))) (jI i).toNatClampNeg (jI x))) := by
    unfold jj_ai
    congr 4
    funext j
    unfold upd ju
    by_cases hj : j = (jI i).toNatClampNeg
    · rw [if_pos hj, if_pos (by omega)]
    · rw [if_neg hj, if_neg (by omega)]
  show jj_L (jj_u G a (jj_ai (ac 0) n (ju g i x))) _
  rw [e1]
  exact hL.set hD hq
theorem jj_lald (F : jj_F X own cc rm) {a n : Nat} {g : Int → Int} {i : Int} (hG : G a = some (jj_al (jj_ac X 1) n g)) (hi : 0 ≤ i ∧ i < n) (hn : n ≤ 100000) (d : jj_D cc pc .laload 1 nx) (kk : jj_J X G kc kn nx lv (.long (jL (g i)) :: st)) : jj_J X G kc kn pc lv (.int (jI i) :: .ref a :: st) := by
  obtain ⟨p, l, e, R, s, m, args, below, meth, c, nL, A, D, ac, Q⟩ := X
  obtain ⟨hx, hb, hml, hown, hR, hA, hE, hs, hlk, hts, -⟩ := F
  obtain ⟨rfl, hd⟩ := d
  intro H locs ls hW hS hl
  obtain ⟨h1, h2⟩ := jI_in hi hn
  refine va_lald hx hb hE.2.1 (hW.at hG).1 0 1 rfl rfl h1 hd ?_
  rw [h2]
  exact kk H locs ls hW hS hl
theorem jj_last (F : jj_F X own cc rm) {a n : Nat} {g : Int → Int} {i x : Int} (hG : G a = some (jj_al (jj_ac X 1) n g)) (hi : 0 ≤ i ∧ i < n) (hn : n ≤ 100000) (d : jj_D cc pc .lastore 1 nx) (kk : jj_J X (jj_u G a (jj_al (jj_ac X 1) n (ju g i x))) kc kn nx lv st) : jj_J X G kc kn pc lv (.long (jL x) :: .int (jI i) :: .ref a :: st) := by
  obtain ⟨p, l, e, R, s, m, args, below, meth, c, nL, A, D, ac, Q⟩ := X
  obtain ⟨hx, hb, hml, hown, hR, hA, hE, hs, hlk, hts, -⟩ := F
  obtain ⟨rfl, hd⟩ := d
  intro H locs ls hW hS hl
  obtain ⟨h1, h2⟩ := jI_in hi hn
  obtain ⟨ws, hP, hD, hL⟩ := hW
  obtain ⟨q0, hq⟩ := (hL a _).mp hG
  refine va_last hx hb hE.2.1 hP hD hS q0 1 hq rfl h1 hd (fun H1 locs1 hP1 hD1 hS1 => kk H1 locs1 ls ⟨_, hP1, hD1, ?_⟩ hS1 hl)
  have e1 : jj_al (ac 1) n (ju g i x) = .inl (ac 1, n, .inr (.inl (vp_updL (fun i => jL (g (i : Int))) (jI i).toNatClampNeg (jL x)))) := by
    unfold jj_al
    congr 5
    funext j
    unfold vp_updL ju
    by_cases hj : j = (jI i).toNatClampNeg
    · rw [if_pos hj, if_pos (by omega)]
    · rw [if_neg hj, if_neg (by omega)]
  show jj_L (jj_u G a (jj_al (ac 1) n (ju g i x))) _
  rw [e1]
  exact hL.set hD hq
theorem jj_ald (F : jj_F X own cc rm) {a n t : Nat} {C : String} {g : Int → Option Nat} {i : Int} (ht : ∀ ac, (jj_ty ac)[t]? = some (ac t, .object C)) (hG : G a = some (jj_aq (jj_ac X t) n g)) (hi : 0 ≤ i ∧ i < n) (hn : n ≤ 100000) (d : jj_D cc pc .aaload 1 nx) (kk : jj_J X G kc kn nx lv (va_rf (g i) :: st)) : jj_J X G kc kn pc lv (.int (jI i) :: .ref a :: st) := by
  obtain ⟨p, l, e, R, s, m, args, below, meth, c, nL, A, D, ac, Q⟩ := X
  obtain ⟨hx, hb, hml, hown, hR, hA, hE, hs, hlk, hts, -⟩ := F
  obtain ⟨rfl, hd⟩ := d
  intro H locs ls hW hS hl
  obtain ⟨h1, h2⟩ := jI_in hi hn
  refine va_aldq hx hb hE.2.1 (hW.at hG).1 0 t rfl (ht ac) h1 hd ?_
  rw [h2]
  exact kk H locs ls hW hS hl
theorem jj_aq_set {cA : ClassId} {n : Nat} {g : Int → Option Nat} {i : Int} {x : Option Nat} (h2 : (((jI i).toNatClampNeg : Nat) : Int) = i) : jj_aq cA n (ju g i x) = .inl (cA, n, .inr (.inr (.inr (.inr (va_up (fun i => g (i : Int)) (jI i).toNatClampNeg x))))) := by
  unfold jj_aq
  congr 7
  funext j
  unfold va_up ju
  by_cases hj : j = (jI i).toNatClampNeg
  · rw [if_pos hj, if_pos (by omega)]
  · rw [if_neg hj, if_neg (by omega)]
theorem jj_ast (F : jj_F X own cc rm) {a v n t ci N : Nat} {C : String} {T : u_T} {ty : Nat → FieldType} {g : Int → Option Nat} {fs : List Value} {i : Int} (ht : ∀ ac, (jj_ty ac)[t]? = some (ac t, .object C)) (hG : G a = some (jj_aq (jj_ac X t) n g)) (hV : G v = some (jj_o ci fs)) (hc : jj_cls ci C T N ty) (hi : 0 ≤ i ∧ i < n) (hn : n ≤ 100000) (d : jj_D cc pc .aastore 1 nx) (kk : jj_J X (jj_u G a (jj_aq (jj_ac X t) n (ju g i (some v)))) kc kn nx lv st) : jj_J X G kc kn pc lv (.ref v :: .int (jI i) :: .ref a :: st) := by
  obtain ⟨p, l, e, R, s, m, args, below, meth, c, nL, A, D, ac, Q⟩ := X
  obtain ⟨hx, hb, hml, hown, hR, hA, hE, hs, hlk, hts, -⟩ := F
  obtain ⟨rfl, hd⟩ := d
  intro H locs ls hW hS hl
  obtain ⟨h1, h2⟩ := jI_in hi hn
  obtain ⟨ws, hP, hD, hL⟩ := hW
  obtain ⟨q0, hq⟩ := (hL a _).mp hG
  obtain ⟨qv, hqv⟩ := (hL v _).mp hV
  refine va_astq (r := (C, T, N)) hx hb hE.2.1 hP hD hS q0 t qv ci hq (ht ac) hqv hc.1 h1 hd (fun H1 locs1 hP1 hD1 hS1 => kk H1 locs1 ls ⟨_, hP1, hD1, ?_⟩ hS1 hl)
  show jj_L (jj_u G a (jj_aq (ac t) n (ju g i (some v)))) _
  rw [jj_aq_set h2]
  exact hL.set hD hq
theorem jj_astN (F : jj_F X own cc rm) {a n t : Nat} {C : String} {g : Int → Option Nat} {i : Int} (ht : ∀ ac, (jj_ty ac)[t]? = some (ac t, .object C)) (hG : G a = some (jj_aq (jj_ac X t) n g)) (hi : 0 ≤ i ∧ i < n) (hn : n ≤ 100000) (d : jj_D cc pc .aastore 1 nx) (kk : jj_J X (jj_u G a (jj_aq (jj_ac X t) n (ju g i none))) kc kn nx lv st) : jj_J X G kc kn pc lv (.null :: .int (jI i) :: .ref a :: st) := by
  obtain ⟨p, l, e, R, s, m, args, below, meth, c, nL, A, D, ac, Q⟩ := X
  obtain ⟨hx, hb, hml, hown, hR, hA, hE, hs, hlk, hts, -⟩ := F
  obtain ⟨rfl, hd⟩ := d
  intro H locs ls hW hS hl
  obtain ⟨h1, h2⟩ := jI_in hi hn
  obtain ⟨ws, hP, hD, hL⟩ := hW
  obtain ⟨q0, hq⟩ := (hL a _).mp hG
  refine va_astqN hx hb hE.2.1 hP hD hS q0 t hq (ht ac) h1 hd (fun H1 locs1 hP1 hD1 hS1 => kk H1 locs1 ls ⟨_, hP1, hD1, ?_⟩ hS1 hl)
  show jj_L (jj_u G a (jj_aq (ac t) n (ju g i none))) _
  rw [jj_aq_set h2]
  exact hL.set hD hq
theorem jj_alenI (F : jj_F X own cc rm) {a n : Nat} {g : Int → Int} (hG : G a = some (jj_ai (jj_ac X 0) n g)) (d : jj_D cc pc .arraylength 1 nx) (kk : jj_J X G kc kn nx lv (.int (jI (n : Int)) :: st)) : jj_J X G kc kn pc lv (.ref a :: st) := by
  obtain ⟨p, l, e, R, s, m, args, below, meth, c, nL, A, D, ac, Q⟩ := X
  obtain ⟨hx, hb, hml, hown, hR, hA, hE, hs, hlk, hts, -⟩ := F
  obtain ⟨rfl, hd⟩ := d
  intro H locs ls hW hS hl
  exact va_alen hx hb hE.2.1 (hW.at hG).1 0 0 rfl rfl (v := jI (n : Int)) (by unfold jI; first | rfl | simp) hd (kk H locs ls hW hS hl)
theorem jj_alenQ (F : jj_F X own cc rm) {a n t : Nat} {C : String} {g : Int → Option Nat} (ht : ∀ ac, (jj_ty ac)[t]? = some (ac t, .object C)) (hG : G a = some (jj_aq (jj_ac X t) n g)) (d : jj_D cc pc .arraylength 1 nx) (kk : jj_J X G kc kn nx lv (.int (jI (n : Int)) :: st)) : jj_J X G kc kn pc lv (.ref a :: st) := by
  obtain ⟨p, l, e, R, s, m, args, below, meth, c, nL, A, D, ac, Q⟩ := X
  obtain ⟨hx, hb, hml, hown, hR, hA, hE, hs, hlk, hts, -⟩ := F
  obtain ⟨rfl, hd⟩ := d
  intro H locs ls hW hS hl
  exact va_alen hx hb hE.2.1 (hW.at hG).1 0 t rfl (ht ac) (v := jI (n : Int)) (by unfold jI; first | rfl | simp) hd (kk H locs ls hW hS hl)
theorem jj_new (F : jj_F X own cc rm) {ci index N k n : Nat} {C : String} {T : u_T} {ty : Nat → FieldType} {fs : List Value} (hc : jj_cls ci C T N ty) (hcl : Cond.classLink own index C ∈ jj_GW) (hin : Cond.instantiable C N ∈ jj_GW) (hini : Cond.initialized C ∈ jj_GW) (hfs : ∀ j, j < N → defaultValue (ty j) = vp_V fs j) (hr : kc + 1 ≤ rm.cells ∧ kn + N ≤ rm.slots ∧ kc + 1 ≤ k ∧ kn + N ≤ n) (d : jj_D cc pc (.new index) 3 nx) (kk : ∀ q : Nat, G q = none → jj_J X (jj_u G q (jj_o ci fs)) k n nx lv (.ref q :: st)) : jj_J X G kc kn pc lv st := by
  obtain ⟨p, l, e, R, s, m, args, below, meth, c, nL, A, D, ac, Q⟩ := X
  obtain ⟨hx, hb, hml, hown, hR, hA, hE, hs, hlk, hts, -⟩ := F
  obtain ⟨rfl, hd⟩ := d
  subst hR
  intro H locs ls hW hS hl
  obtain ⟨ws, hP, hD, hL⟩ := hW
  exact va_new hx hb hts hc.2.1 ty hc.2.2.1 hown (hts _ hcl) (hts _ hin) (hts _ hini) hE.2.1 hP hD hS hA hc.1 hfs hr.1 hr.2.1 hd (fun q H1 hP1 hD1 hS1 => W.widen hr.2.2.1 hr.2.2.2 (kk q (hL.fresh hD1) H1 locs ls ⟨_, hP1, hD1, hL.push (hL.fresh hD1)⟩ hS1 hl))
theorem jj_newI (F : jj_F X own cc rm) {N k n : Nat} (hw : Cond.arrayClass .int ∈ jj_GW) (hN : N ≤ 100000) (hr : kc + 1 ≤ rm.cells ∧ kn + N ≤ rm.slots ∧ kc + 1 ≤ k ∧ kn + N ≤ n) (d : jj_D cc pc (.newarray .int) 2 nx) (kk : ∀ q : Nat, G q = none → jj_J X (jj_u G q (jj_ai (jj_ac X 0) N (fun _ => 0))) k n nx lv (.ref q :: st)) : jj_J X G kc kn pc lv (.int (jI (N : Int)) :: st) := by
  obtain ⟨p, l, e, R, s, m, args, below, meth, c, nL, A, D, ac, Q⟩ := X
  obtain ⟨hx, hb, hml, hown, hR, hA, hE, hs, hlk, hts, -⟩ := F
  obtain ⟨rfl, hd⟩ := d
  subst hR
  intro H locs ls hW hS hl
  obtain ⟨ws, hP, hD, hL⟩ := hW
  have h1 : (jI (N : Int)).toInt = N := jI_toInt (by omega) (by omega)
  refine va_newa (ty := .int) (N' := N) (a0 := (N, .inl (fun _ => jI 0))) (atype := .int) hx hb (hts _ hw) rfl hE.2.1 hP hD hS hA (fun cA => rfl) (by rw [Int32.lt_iff_toInt_lt, h1]; simp) (by rw [show (jI (N : Int)).toNatClampNeg = (jI (N : Int)).toInt.toNat from rfl, h1]; simp) (by show N * 4 ≤ _; omega) hr.1 hr.2.1 hd (fun q cA H1 hK1 hP1 hD1 hS1 => ?_)
  have e1 : cA = ac 0 := by
    have f1 := (hK1.2 (jj_ty ac).length (cA, .int) (by simp)).2
    have f2 := (hE.2.1.2 0 (ac 0, .int) rfl).2
    exact Option.some.inj (f1.symm.trans f2)
  subst e1
  exact W.widen hr.2.2.1 hr.2.2.2 (kk q (hL.fresh hD1) H1 locs ls ⟨_, hP1, hD1, hL.push (hL.fresh hD1)⟩ hS1 hl)
theorem jj_newL (F : jj_F X own cc rm) {N k n : Nat} (hw : Cond.arrayClass .long ∈ jj_GW) (hN : N ≤ 100000) (hr : kc + 1 ≤ rm.cells ∧ kn + N ≤ rm.slots ∧ kc + 1 ≤ k ∧ kn + N ≤ n) (d : jj_D cc pc (.newarray .long) 2 nx) (kk : ∀ q : Nat, G q = none → jj_J X (jj_u G q (jj_al (jj_ac X 1) N (fun _ => 0))) k n nx lv (.ref q :: st)) : jj_J X G kc kn pc lv (.int (jI (N : Int)) :: st) := by
  obtain ⟨p, l, e, R, s, m, args, below, meth, c, nL, A, D, ac, Q⟩ := X
  obtain ⟨hx, hb, hml, hown, hR, hA, hE, hs, hlk, hts, -⟩ := F
  obtain ⟨rfl, hd⟩ := d
  subst hR
  intro H locs ls hW hS hl
  obtain ⟨ws, hP, hD, hL⟩ := hW
  have h1 : (jI (N : Int)).toInt = N := jI_toInt (by omega) (by omega)
  refine va_newa (ty := .long) (N' := N) (a0 := (N, .inr (.inl (fun _ => jL 0)))) (atype := .long) hx hb (hts _ hw) rfl hE.2.1 hP hD hS hA (fun cA => rfl) (by rw [Int32.lt_iff_toInt_lt, h1]; simp) (by rw [show (jI (N : Int)).toNatClampNeg = (jI (N : Int)).toInt.toNat from rfl, h1]; simp) (by show N * 8 ≤ _; omega) hr.1 hr.2.1 hd (fun q cA H1 hK1 hP1 hD1 hS1 => ?_)
  have e1 : cA = ac 1 := by
    have f1 := (hK1.2 (jj_ty ac).length (cA, .long) (by simp)).2
    have f2 := (hE.2.1.2 1 (ac 1, .long) rfl).2
    exact Option.some.inj (f1.symm.trans f2)
  subst e1
  exact W.widen hr.2.2.1 hr.2.2.2 (kk q (hL.fresh hD1) H1 locs ls ⟨_, hP1, hD1, hL.push (hL.fresh hD1)⟩ hS1 hl)
theorem jj_newQ (F : jj_F X own cc rm) {N k n t index : Nat} {C : String} (ht : ∀ ac, (jj_ty ac)[t]? = some (ac t, .object C)) (hcl : Cond.classLink own index C ∈ jj_GW) (hO : C ∈ jj_O) (hN : N ≤ 100000) (hr : kc + 1 ≤ rm.cells ∧ kn + N ≤ rm.slots ∧ kc + 1 ≤ k ∧ kn + N ≤ n) (d : jj_D cc pc (.anewarray index) 3 nx) (kk : ∀ q : Nat, G q = none → jj_J X (jj_u G q (jj_aq (jj_ac X t) N (fun _ => none))) k n nx lv (.ref q :: st)) : jj_J X G kc kn pc lv (.int (jI (N : Int)) :: st) := by
  obtain ⟨p, l, e, R, s, m, args, below, meth, c, nL, A, D, ac, Q⟩ := X
  obtain ⟨hx, hb, hml, hown, hR, hA, hE, hs, hlk, hts, -⟩ := F
  obtain ⟨rfl, hd⟩ := d
  subst hR
  intro H locs ls hW hS hl
  obtain ⟨ws, hP, hD, hL⟩ := hW
  have h1 : (jI (N : Int)).toInt = N := jI_toInt (by omega) (by omega)
  refine va_newq (C := C) (N' := N) hx hb hown (hts _ hcl) (hE.2.2.2.2.1 C hO) hE.2.1 hP hD hS hA (by rw [Int32.lt_iff_toInt_lt, h1]; simp) (by rw [show (jI (N : Int)).toNatClampNeg = (jI (N : Int)).toInt.toNat from rfl, h1]; simp) (by omega) hr.1 hr.2.1 hd (fun q cA H1 hK1 hP1 hD1 hS1 => ?_)
  have e1 : cA = ac t := by
    obtain ⟨kA, comp, -, -, -, f1⟩ := (hK1.2 (jj_ty ac).length (cA, .object C) (by simp)).2
    obtain ⟨kB, comp', -, -, -, f2⟩ := (hE.2.1.2 t (ac t, .object C) (ht ac)).2
    exact Option.some.inj (f1.symm.trans f2)
  subst e1
  exact W.widen hr.2.2.1 hr.2.2.2 (kk q (hL.fresh hD1) H1 locs ls ⟨_, hP1, hD1, hL.push (hL.fresh hD1)⟩ hS1 hl)
theorem jj_objInit (F : jj_F X own cc rm) {a index : Nat} (hl : Cond.methodLink own index Lib.objectInit ∈ jj_GW) (hi : Cond.instanceMethod Lib.objectInit ∈ jj_GW) (hco : Cond.code Lib.objectInit ⟨#[0xb1]⟩ 1 none ∈ jj_GW) (hr : 1 ≤ rm.frames ∧ 12 ≤ rm.locals) (d : jj_D cc pc (.invokespecial index) 3 nx) (kk : jj_J X G kc kn nx lv []) : jj_J X G kc kn pc lv [.ref a] := by
  obtain ⟨p, l, e, R, s, m, args, below, meth, c, nL, A, D, ac, Q⟩ := X
  obtain ⟨hx, hb, hml, hown, hR, hA, hE, hs, hlk, hts, -⟩ := F
  obtain ⟨rfl, hd⟩ := d
  subst hR
  intro H locs ls hW hS hll
  exact W.objInit hx hb hown (hts _ hl) (hts _ hi) (hts _ hco) rfl (by rw [hml]; exact hll.1) rfl hd hr.1 (by show 2 * 0 + 0 + 12 ≤ _; omega) (kk H locs ls hW hS hll)
theorem jj_mmax (F : jj_F X own cc rm) {index : Nat} {x y : Int} (hl : Cond.methodLink own index Lib.Math.max.name ∈ jj_GW) (h1 : Cond.static Lib.Math.max.name ∈ jj_GW) (h2 : Cond.initialized "java/lang/Math" ∈ jj_GW) (h3 : Cond.code Lib.Math.max.name Lib.Math.max.code 2 (some .int) ∈ jj_GW) (hr : 1 ≤ rm.frames ∧ (st.map fun v => v.category).sum + 13 ≤ rm.locals ∧ kc ≤ rm.cells ∧ kn ≤ rm.slots) (h : -2147483648 ≤ x ∧ x ≤ 2147483647 ∧ -2147483648 ≤ y ∧ y ≤ 2147483647) (d : jj_D cc pc (.invokestatic index) 3 nx) (kk : jj_J X G kc kn nx lv (.int (jI (if x < y then y else x)) :: st)) : jj_J X G kc kn pc lv (.int (jI y) :: .int (jI x) :: st) := by
  obtain ⟨p, l, e, R, s, m, args, below, meth, c, nL, A, D, ac, Q⟩ := X
  obtain ⟨hx, hb, hml, hown, hR, hA, hE, hs, hlk, hts, -⟩ := F
  obtain ⟨rfl, hd⟩ := d
  subst hR
  intro H locs ls hW hS hll
  refine va_mmax hx hb (by rw [hml, hll.1]) hown (hts _ hl) (hts _ h1) (hts _ h2) (hts _ h3) hr.1 hr.2.1 hr.2.2.1 hr.2.2.2 hd ?_
  have q := jI_lt h
  have e1 : (if jI x < jI y then jI y else jI x) = jI (if x < y then y else x) := by
    by_cases hxy : x < y
    · rw [if_pos (q.mpr hxy), if_pos hxy]
    · rw [if_neg (fun z => hxy (q.mp z)), if_neg hxy]
  rw [e1]
  exact kk H locs ls hW hS hll
theorem jj_mmaxx (F : jj_F X own cc rm) {index : Nat} {x y : Int32} (hl : Cond.methodLink own index Lib.Math.max.name ∈ jj_GW) (h1 : Cond.static Lib.Math.max.name ∈ jj_GW) (h2 : Cond.initialized "java/lang/Math" ∈ jj_GW) (h3 : Cond.code Lib.Math.max.name Lib.Math.max.code 2 (some .int) ∈ jj_GW) (hr : 1 ≤ rm.frames ∧ (st.map fun v => v.category).sum + 13 ≤ rm.locals ∧ kc ≤ rm.cells ∧ kn ≤ rm.slots) (d : jj_D cc pc (.invokestatic index) 3 nx) (kk : jj_J X G kc kn nx lv (.int (if x < y then y else x) :: st)) : jj_J X G kc kn pc lv (.int y :: .int x :: st) := by
  obtain ⟨p, l, e, R, s, m, args, below, meth, c, nL, A, D, ac, Q⟩ := X
  obtain ⟨hx, hb, hml, hown, hR, hA, hE, hs, hlk, hts, -⟩ := F
  obtain ⟨rfl, hd⟩ := d
  subst hR
  intro H locs ls hW hS hll
  exact va_mmax hx hb (by rw [hml, hll.1]) hown (hts _ hl) (hts _ h1) (hts _ h2) (hts _ h3) hr.1 hr.2.1 hr.2.2.1 hr.2.2.2 hd (kk H locs ls hW hS hll)
theorem jj_mmin (F : jj_F X own cc rm) {index : Nat} {x y : Int} (hl : Cond.methodLink own index Lib.Math.min.name ∈ jj_GW) (h1 : Cond.static Lib.Math.min.name ∈ jj_GW) (h2 : Cond.initialized "java/lang/Math" ∈ jj_GW) (h3 : Cond.code Lib.Math.min.name Lib.Math.min.code 2 (some .int) ∈ jj_GW) (hr : 1 ≤ rm.frames ∧ (st.map fun v => v.category).sum + 13 ≤ rm.locals ∧ kc ≤ rm.cells ∧ kn ≤ rm.slots) (h : -2147483648 ≤ x ∧ x ≤ 2147483647 ∧ -2147483648 ≤ y ∧ y ≤ 2147483647) (d : jj_D cc pc (.invokestatic index) 3 nx) (kk : jj_J X G kc kn nx lv (.int (jI (if y < x then y else x)) :: st)) : jj_J X G kc kn pc lv (.int (jI y) :: .int (jI x) :: st) := by
  obtain ⟨p, l, e, R, s, m, args, below, meth, c, nL, A, D, ac, Q⟩ := X
  obtain ⟨hx, hb, hml, hown, hR, hA, hE, hs, hlk, hts, -⟩ := F
  obtain ⟨rfl, hd⟩ := d
  subst hR
  intro H locs ls hW hS hll
  refine va_mmin hx hb (by rw [hml, hll.1]) hown (hts _ hl) (hts _ h1) (hts _ h2) (hts _ h3) hr.1 hr.2.1 hr.2.2.1 hr.2.2.2 hd ?_
  have q := jI_lt (a := y) (b := x) (by omega)
  have e1 : (if jI y < jI x then jI y else jI x) = jI (if y < x then y else x) := by
    by_cases hxy : y < x
    · rw [if_pos (q.mpr hxy), if_pos hxy]
    · rw [if_neg (fun z => hxy (q.mp z)), if_neg hxy]
  rw [e1]
  exact kk H locs ls hW hS hll
end JH
end
section
/-! ends of a body -/
def jj_pi (P : Int → jj_G → Prop) : Option Value → jj_G → Prop := fun v G' => ∃ r : Int, v = some (.int (jI r)) ∧ P r G'
def jj_px (P : Int32 → jj_G → Prop) : Option Value → jj_G → Prop := fun v G' => ∃ r : Int32, v = some (.int r) ∧ P r G'
def jj_pq (P : Option Nat → jj_G → Prop) : Option Value → jj_G → Prop := fun v G' => ∃ r : Option Nat, v = some (va_rf r) ∧ P r G'
def jj_pv (P : jj_G → Prop) : Option Value → jj_G → Prop := fun v G' => v = none ∧ P G'
/-- nothing is thrown -/
def jj_nx : String → Prop := fun _ => False
section JE
variable {X : jj_X} {own : String} {cc : ByteArray} {rm : Room} {G G0 : jj_G} {kc kn pc nx : Nat} {lv lr : List (Option Value)} {st rest : List Value} {ret : Option FieldType} {post : Option Value → jj_G → Prop} {px : String → Prop}
theorem jj_B.F (B : jj_B X own cc rm ret G0 post px) : jj_F X own cc rm := by
  obtain ⟨p, l, e, R, s, m, args, below, meth, c, nL, A, D, ac, Q⟩ := X
  exact B.1
theorem jj_iret (B : jj_B X own cc rm (some .int) G0 post px) {x : Int32} (d : jj_D cc pc .ireturn 1 nx) (hr : kc ≤ rm.cells ∧ kn ≤ rm.slots) (hp : post (some (.int x)) G) : jj_J X G kc kn pc lv [.int x] := by
  obtain ⟨p, l, e, R, s, m, args, below, meth, c, nL, A, D, ac, Q⟩ := X
  obtain ⟨⟨hx, hb, hml, hown, hR, hA, hE, hs, hlk, hts, -⟩, hret, rfl, rfl, hno⟩ := B
  obtain ⟨rfl, hd⟩ := d
  intro H locs ls hW hS hl
  refine W.widen hr.1 hr.2 (vx_ret ?_)
  exact W.iret hx hb hret (fun t ht hWt => ⟨⟨_, G, rfl, hp, by rw [ht]; exact hW⟩, hS.F ht⟩) hS.2.2 hd hlk
theorem jj_zret (B : jj_B X own cc rm (some .boolean) G0 post px) {x : Int} (d : jj_D cc pc .ireturn 1 nx) (hr : kc ≤ rm.cells ∧ kn ≤ rm.slots) (h : x = 0 ∨ x = 1) (hp : post (some (.int (jI x))) G) : jj_J X G kc kn pc lv [.int (jI x)] := by
  obtain ⟨p, l, e, R, s, m, args, below, meth, c, nL, A, D, ac, Q⟩ := X
  obtain ⟨⟨hx, hb, hml, hown, hR, hA, hE, hs, hlk, hts, -⟩, hret, rfl, rfl, hno⟩ := B
  obtain ⟨rfl, hd⟩ := d
  intro H locs ls hW hS hl
  refine W.widen hr.1 hr.2 (vx_ret ?_)
  exact W.zret hx hb hret (by rcases h with rfl | rfl <;> rfl) (fun t ht hWt => ⟨⟨_, G, rfl, hp, by rw [ht]; exact hW⟩, hS.F ht⟩) hS.2.2 hd hlk
theorem jj_vret (B : jj_B X own cc rm none G0 post px) (d : jj_D cc pc .return_ 1 nx) (hr : kc ≤ rm.cells ∧ kn ≤ rm.slots) (hp : post none G) : jj_J X G kc kn pc lv [] := by
  obtain ⟨p, l, e, R, s, m, args, below, meth, c, nL, A, D, ac, Q⟩ := X
  obtain ⟨⟨hx, hb, hml, hown, hR, hA, hE, hs, hlk, hts, -⟩, hret, rfl, rfl, hno⟩ := B
  obtain ⟨rfl, hd⟩ := d
  intro H locs ls hW hS hl
  refine W.widen hr.1 hr.2 (vx_ret ?_)
  exact W.vret hx hb hret (fun t ht hWt => ⟨⟨_, G, rfl, hp, by rw [ht]; exact hW⟩, hS.F ht⟩) hS.2.2 hd hlk
theorem jj_aret (B : jj_B X own cc rm ret G0 post px) {r : Option Nat} {C : String} (hret : ret = some (.object C)) (d : jj_D cc pc .areturn 1 nx) (hr : kc ≤ rm.cells ∧ kn ≤ rm.slots) (hp : post (some (va_rf r)) G) : jj_J X G kc kn pc lv [va_rf r] := by
  obtain ⟨p, l, e, R, s, m, args, below, meth, c, nL, A, D, ac, Q⟩ := X
  obtain ⟨⟨hx, hb, hml, hown, hR, hA, hE, hs, hlk, hts, -⟩, hret', rfl, rfl, hno⟩ := B
  obtain ⟨rfl, hd⟩ := d
  intro H locs ls hW hS hl
  refine W.widen hr.1 hr.2 (vx_ret ?_)
  exact W.aret hx hb (hret'.trans hret) (Or.inl ⟨C, rfl⟩) (by cases r; exact Or.inl rfl; exact Or.inr ⟨_, rfl⟩) (fun t ht hWt => ⟨⟨_, G, rfl, hp, by rw [ht]; exact hW⟩, hS.F ht⟩) hS.2.2 hd hlk
/-- an exception on its way through the method's frame -/
def jj_JX : jj_X → jj_G → Nat → Nat → Nat → List (Option Value) → List Value → String → Prop
  | (p, l, e, R, s, m, args, below, meth, c, nL, A, D, _, Q), G, kc, kn, pc, lv, st, E =>
    ∀ (H : Heap) (locs : List Loc) (ls : Array Slot) (q : Addr) (ce : Cell), jj_W D A G H → va_S A s.heap H locs → jj_l ls nL lv → H[q]? = some ce → ce.vm = .none → s.vm.findClass E = some ce.cls → vx_W p l e R s m args below meth c H locs kc kn Q (F0 m pc ls st) q
theorem jj_out (B : jj_B X own cc rm ret G0 post px) {E : String} (hG : G = G0) (hp : px E) (hr : kc ≤ rm.cells ∧ kn ≤ rm.slots) : jj_JX X G kc kn pc lv st E := by
  obtain ⟨p, l, e, R, s, m, args, below, meth, c, nL, A, D, ac, Q⟩ := X
  obtain ⟨⟨hx, hb, hml, hown, hR, hA, hE, hs, hlk, hts, -⟩, hret', rfl, rfl, hno⟩ := B
  subst hG
  intro H locs ls q ce hW hS hl hq hv hc
  exact vx_out (fun x hx => (hno x hx).elim) hlk hq hv hc (fun t ht _ => ⟨hp, by rw [ht]; exact hW, hS.F ht⟩) hS.2.2 hr.1 hr.2
/-- a call's run, in general -/
def jj_Run : jj_X → jj_G → Nat → Nat → Nat → List (Option Value) → List Value → List Value → Nat → Nat → Array Value → (Option Value → jj_G → Prop) → (String → Prop) → Prop
  | (p, l, e, R, s, m, args, below, meth, c, nL, A, D, _, _), G, kc, kn, pc, lv, st, rest, mc, ms, a, post', px' =>
    ∀ (H : Heap) (locs : List Loc) (ls : Array Slot), jj_W D A G H → va_S A s.heap H locs → jj_l ls nL lv → vx_Run p l e R s m args below meth c H locs kc kn mc ms (F0 m pc ls st) rest (jj_Qc D G H.size post' a) (jj_XC D G H.size px') (jj_A G H.size)
theorem jj_run (F : jj_F X own cc rm) {mc ms k n : Nat} {a : Array Value} {post' : Option Value → jj_G → Prop} {px' : String → Prop} (hrun : jj_Run X G kc kn pc lv st rest mc ms a post' px') (hk : kc + mc ≤ k ∧ kn + ms ≤ n) (hnx : nx = pc + 3) (kx : ∀ E, px' E → jj_JX X G k n pc lv rest E) (kk : ∀ v G1, post' v G1 → jj_J X G1 k n nx lv (v.toList ++ rest)) : jj_J X G kc kn pc lv st := by
  obtain ⟨p, l, e, R, s, m, args, below, meth, c, nL, A, D, ac, Q⟩ := X
  obtain ⟨hx, hb, hml, hown, hR, hA, hE, hs, hlk, hts, -⟩ := F
  subst hnx
  intro H locs ls hW hS hl T hT XX
  have hfree : ∀ q, jj_A G H.size q → A q := fun q hq => hq.elim (fun h => (hW.dom h).1) (fun h => hA q (Nat.le_trans hS.1 h))
  rcases hrun H locs ls hW hS hl T hT XX with ⟨v, st₀, t, T', L, h0, X', hL, e1, e2, ⟨⟨v', G1, hv, hp, hW1⟩, hF⟩, st⟩ | ⟨q, st₀, t, T', L, E, ce, h0, X', hL, e1, e2, ⟨hp, hW1, hF⟩, hce, hcv, hcl, st⟩
  · obtain ⟨-, -, hS1⟩ := vx_keep h0 e1 hS (fun q _ h => hfree q h) hfree hL hF
    cases hv
    obtain ⟨t2, a1, b1⟩ := kk v G1 hp T'.heap (locs ++ L) ls (by rw [e1]; exact hW1.back hfree) hS1 hl T' rfl (stand_widen X' hk.1 hk.2)
    exact ⟨t2, st t2 a1, b1⟩
  · obtain ⟨-, -, hS1⟩ := vx_keep h0 e1 hS (fun q _ h => hfree q h) hfree hL hF
    obtain ⟨t2, a1, b1⟩ := kx E hp T'.heap (locs ++ L) ls q ce (by rw [e1]; exact hW1.back hfree) hS1 hl (by rw [e1]; exact hce) hcv hcl T' rfl (stand_widen X' hk.1 hk.2)
    exact ⟨t2, st.trans a1, b1⟩
/-- links -/
def jj_nm (y : MethodName) (n : Nat) : Prop := y.cls ≠ "java/lang/invoke/MethodHandle" ∧ y.cls ≠ "java/lang/invoke/VarHandle" ∧ (parseMethodDescriptor y.desc).map (fun d => d.parameters.length) = some n
def jj_lkV (own : String) (index : Nat) (y : MethodName) (bytes : ByteArray) (maxL : Nat) (ret : Option FieldType) (n : Nat) : Prop :=
  jj_nm y n ∧ Cond.methodLink own index y ∈ jj_GW ∧ Cond.instanceMethod y ∈ jj_GW ∧ Cond.selects y.cls y y ∈ jj_GW ∧ Cond.initialized y.cls ∈ jj_GW ∧ Cond.code y bytes maxL ret ∈ jj_GW
def jj_lkS (own : String) (index : Nat) (y : MethodName) (bytes : ByteArray) (maxL : Nat) (ret : Option FieldType) (n : Nat) : Prop :=
  jj_nm y n ∧ Cond.methodLink own index y ∈ jj_GW ∧ Cond.static y ∈ jj_GW ∧ Cond.initialized y.cls ∈ jj_GW ∧ Cond.code y bytes maxL ret ∈ jj_GW
def jj_lkI (own : String) (index : Nat) (y : MethodName) (bytes : ByteArray) (maxL : Nat) (n : Nat) : Prop :=
  jj_nm y n ∧ y.name = "<init>" ∧ Cond.methodLink own index y ∈ jj_GW ∧ Cond.instanceMethod y ∈ jj_GW ∧ Cond.initialized y.cls ∈ jj_GW ∧ Cond.code y bytes maxL none ∈ jj_GW
def jj_lkN (own : String) (index : Nat) (y : MethodName) (host : String) (bytes : ByteArray) (maxL : Nat) (n : Nat) : Prop :=
  jj_nm y n ∧ y.name = "<init>" ∧ Cond.methodLinkNest own index y host ∈ jj_T ∧ Cond.instanceMethod y ∈ jj_GW ∧ Cond.initialized y.cls ∈ jj_GW ∧ Cond.code y bytes maxL none ∈ jj_GW
theorem jj_good {w : Cond} (h : w ∈ jj_GW) : w ∈ jj_GW ∧ ((w.onTables && w.keeps) = true ∨ ∃ ty, w = .arrayClass ty) := ⟨h, good_of_word (jj_gw_good h)⟩
theorem jj_one {w : Cond} (h : w ∈ jj_GW) : GoodIn jj_GW [w] := fun x hx => by rw [List.mem_singleton.mp hx]; exact jj_good h
/-- the contract's world at a call -/
theorem jj_pre {D : va_G} {ac : Nat → ClassId} {A : Nat → Prop} {s : State} {H : Heap} {locs : List Loc} {av : List Value} (hA : ∀ q, s.heap.size ≤ q → A q) (hE : jj_E D ac A s s.heap) (hW : jj_W D A G H) (hS : va_S A s.heap H locs) : ∀ U : State, U.heap = H → s.WarmedH U.vm → jj_Pc D ac av G H.size av.toArray U := by
  intro U hU hWm
  have hfree : ∀ q, jj_A G H.size q → A q := fun q hq => hq.elim (fun h => (hW.dom h).1) (fun h => hA q (Nat.le_trans hS.1 h))
  exact ⟨rfl, by rw [hU], by rw [hU]; exact hW.into, by rw [hU]; exact hE.warm hWm (fun a h1 h2 => hS.2.1 a h1 h2) hfree⟩
def jj_l0 : jj_X → Launch
  | (_, l, _, _, _, _, _, _, _, _, _, _, _, _, _) => l
def jj_dg : jj_X → va_G
  | (_, _, _, _, _, _, _, _, _, _, _, _, D, _, _) => D
theorem jj_runV (F : jj_F X own cc rm) {index b ci N maxL : Nat} {y : MethodName} {bytes : ByteArray} {rt : Option FieldType} {rmy : Room} {As : List Value} {fs : List Value} {C : String} {T : u_T} {ty : Nat → FieldType} {post' : Option Value → jj_G → Prop} {px' : String → Prop} (hC : jj_C (jj_l0 X) (jj_dg X) (jj_ac X) y (.code y bytes maxL rt) rmy (.ref b :: As) G post' px') (hk : jj_lkV own index y bytes maxL rt As.length) (hb : G b = some (jj_o ci fs)) (hc : jj_cls ci C T N ty) (hyc : y.cls = C) (hst : st = As.reverse ++ .ref b :: rest) (hr : rmy.frames + 1 ≤ rm.frames ∧ 8 + (maxL + 11) + rmy.locals ≤ rm.locals ∧ kc + rmy.cells ≤ rm.cells ∧ kn + rmy.slots ≤ rm.slots ∧ (rest.map fun v => v.category).sum ≤ 8) (d : jj_D cc pc (.invokevirtual index) 3 nx) : jj_Run X G kc kn pc lv st rest rmy.cells rmy.slots (Value.ref b :: As).toArray post' px' := by
  obtain ⟨p, l, e, R, s, m, args, below, meth, c, nL, A, D, ac, Q⟩ := X
  obtain ⟨hx, hb0, hml, hown, hR, hA, hE, hs, hlk, hts, -⟩ := F
  obtain ⟨rfl, hd⟩ := d
  obtain ⟨hn, k1, k2, k3, k4, k5⟩ := hk
  subst hR; subst hyc
  intro H locs ls hW hS hl
  refine vx_runV (As := As) (rest := rest) ⟨hx, hb0, hml, hown, hts⟩ (hC H.size) (cwV As.length hts (fun w hw => ?_) rfl rfl rfl ⟨rfl, hn⟩ ⟨hr.1, hr.2.1⟩) ⟨jj_blind, va_recv hE.2.1 (hW.at hb).1 (ci := ci) (q0 := 0) hc.1 rfl, jj_pre hA hE hW hS⟩ rfl rfl hl.1 hst (lv_room hr.2.2.2.2) hd ⟨hr.2.2.1, hr.2.2.2.1⟩
  simp only [wsV, List.mem_append, List.mem_cons, List.not_mem_nil, or_false] at hw
  rcases hw with (rfl | rfl | rfl | rfl) | rfl <;> apply jj_good <;> assumption
theorem jj_runS (F : jj_F X own cc rm) {index maxL : Nat} {y : MethodName} {bytes : ByteArray} {rt : Option FieldType} {rmy : Room} {As : List Value} {post' : Option Value → jj_G → Prop} {px' : String → Prop} (hC : jj_C (jj_l0 X) (jj_dg X) (jj_ac X) y (.code y bytes maxL rt) rmy As G post' px') (hk : jj_lkS own index y bytes maxL rt As.length) (hst : st = As.reverse ++ rest) (hr : rmy.frames + 1 ≤ rm.frames ∧ 8 + (maxL + 11) + rmy.locals ≤ rm.locals ∧ kc + rmy.cells ≤ rm.cells ∧ kn + rmy.slots ≤ rm.slots ∧ (rest.map fun v => v.category).sum ≤ 8) (d : jj_D cc pc (.invokestatic index) 3 nx) : jj_Run X G kc kn pc lv st rest rmy.cells rmy.slots As.toArray post' px' := by
  obtain ⟨p, l, e, R, s, m, args, below, meth, c, nL, A, D, ac, Q⟩ := X
  obtain ⟨hx, hb0, hml, hown, hR, hA, hE, hs, hlk, hts, -⟩ := F
  obtain ⟨rfl, hd⟩ := d
  obtain ⟨hn, k1, k2, k4, k5⟩ := hk
  subst hR
  intro H locs ls hW hS hl
  exact vx_runS (As := As) (rest := rest) ⟨hx, hb0, hml, hown, hts⟩ (hC H.size) ⟨callB_of As.length hts (jj_one k5) rfl rfl rfl (hts _ k4) (hts _ k1) hn ⟨hr.1, hr.2.1⟩, hts _ k2⟩ ⟨jj_blind, jj_pre hA hE hW hS⟩ rfl rfl hl.1 hst (lv_room hr.2.2.2.2) hd ⟨hr.2.2.1, hr.2.2.2.1⟩
theorem jj_runI (F : jj_F X own cc rm) {index b maxL : Nat} {y : MethodName} {bytes : ByteArray} {rmy : Room} {As : List Value} {post' : Option Value → jj_G → Prop} {px' : String → Prop} (hC : jj_C (jj_l0 X) (jj_dg X) (jj_ac X) y (.code y bytes maxL none) rmy (.ref b :: As) G post' px') (hk : jj_lkI own index y bytes maxL As.length) (hst : st = As.reverse ++ .ref b :: rest) (hr : rmy.frames + 1 ≤ rm.frames ∧ 8 + (maxL + 11) + rmy.locals ≤ rm.locals ∧ kc + rmy.cells ≤ rm.cells ∧ kn + rmy.slots ≤ rm.slots ∧ (rest.map fun v => v.category).sum ≤ 8) (d : jj_D cc pc (.invokespecial index) 3 nx) : jj_Run X G kc kn pc lv st rest rmy.cells rmy.slots (Value.ref b :: As).toArray post' px' := by
  obtain ⟨p, l, e, R, s, m, args, below, meth, c, nL, A, D, ac, Q⟩ := X
  obtain ⟨hx, hb0, hml, hown, hR, hA, hE, hs, hlk, hts, -⟩ := F
  obtain ⟨rfl, hd⟩ := d
  obtain ⟨hn, k0, k1, k2, k4, k5⟩ := hk
  subst hR
  intro H locs ls hW hS hl
  exact vx_runI (As := As) (rest := rest) ⟨hx, hb0, hml, hown, hts⟩ (hC H.size) (cwI As.length hts (jj_one k5) rfl rfl rfl (hts _ k4) (hts _ k1) (hts _ k2) k0 hn ⟨hr.1, hr.2.1⟩) ⟨jj_blind, jj_pre hA hE hW hS⟩ rfl rfl hl.1 hst (lv_room hr.2.2.2.2) hd ⟨hr.2.2.1, hr.2.2.2.1⟩

theorem jj_runIN (F : jj_F X own cc rm) {index b maxL : Nat} {y : MethodName} {host : String} {bytes : ByteArray} {rmy : Room} {As : List Value} {post' : Option Value → jj_G → Prop} {px' : String → Prop} (hC : jj_C (jj_l0 X) (jj_dg X) (jj_ac X) y (.code y bytes maxL none) rmy (.ref b :: As) G post' px') (hk : jj_lkN own index y host bytes maxL As.length) (hst : st = As.reverse ++ .ref b :: rest) (hr : rmy.frames + 1 ≤ rm.frames ∧ 8 + (maxL + 11) + rmy.locals ≤ rm.locals ∧ kc + rmy.cells ≤ rm.cells ∧ kn + rmy.slots ≤ rm.slots ∧ (rest.map fun v => v.category).sum ≤ 8) (d : jj_D cc pc (.invokespecial index) 3 nx) : jj_Run X G kc kn pc lv st rest rmy.cells rmy.slots (Value.ref b :: As).toArray post' px' := by
  obtain ⟨p, l, e, R, s, m, args, below, meth, c, nL, A, D, ac, Q⟩ := X
  obtain ⟨hx, hb0, hml, hown, hR, hA, hE, hs, hlk, hts, -⟩ := F
  obtain ⟨rfl, hd⟩ := d
  obtain ⟨hn, k0, k1, k2, k4, k5⟩ := hk
  subst hR
  intro H locs ls hW hS hl
  exact vx_runIN (As := As) (rest := rest) ⟨hx, hb0, hml, hown, hts⟩ (hC H.size) ⟨va_cnB As.length hts (jj_one k5) rfl rfl rfl (hE.2.2.2.1 _ k1) (hts _ k4) hn ⟨hr.1, hr.2.1⟩, k0, hts _ k2⟩ ⟨jj_blind, jj_pre hA hE hW hS⟩ rfl rfl hl.1 hst (lv_room hr.2.2.2.2) hd ⟨hr.2.2.1, hr.2.2.2.1⟩
/-! .. and the rows of calls, by what comes back -/
/-- where an exception of a callee goes: out, in a body without handlers -/
def jj_tx (px' : String → Prop) (G G0 : jj_G) (px : String → Prop) : Prop := ∀ E, px' E → G = G0 ∧ px E
theorem jj_tx0 : jj_tx jj_nx G G0 px := fun _ h => h.elim
theorem jj_callVi (B : jj_B X own cc rm ret G0 post px) {index b ci N maxL k n : Nat} {y : MethodName} {bytes : ByteArray} {rt : Option FieldType} {rmy : Room} {As : List Value} {fs : List Value} {C : String} {T : u_T} {ty : Nat → FieldType} {P : Int → jj_G → Prop} {px' : String → Prop} (hC : jj_C (jj_l0 X) (jj_dg X) (jj_ac X) y (.code y bytes maxL rt) rmy (.ref b :: As) G (jj_pi P) px') (hk : jj_lkV own index y bytes maxL rt As.length) (hb : G b = some (jj_o ci fs)) (hc : jj_cls ci C T N ty) (hyc : y.cls = C) (hst : st = As.reverse ++ .ref b :: rest) (hr : rmy.frames + 1 ≤ rm.frames ∧ 8 + (maxL + 11) + rmy.locals ≤ rm.locals ∧ kc + rmy.cells ≤ rm.cells ∧ kn + rmy.slots ≤ rm.slots ∧ (rest.map fun v => v.category).sum ≤ 8) (hkn : kc + rmy.cells ≤ k ∧ kn + rmy.slots ≤ n ∧ k ≤ rm.cells ∧ n ≤ rm.slots) (hx : jj_tx px' G G0 px) (d : jj_D cc pc (.invokevirtual index) 3 nx) (kk : ∀ (r : Int) (G1 : jj_G), P r G1 → jj_J X G1 k n nx lv (.int (jI r) :: rest)) : jj_J X G kc kn pc lv st := by
  have F := B.F
  refine jj_run F (jj_runV F hC hk hb hc hyc hst hr d) ⟨hkn.1, hkn.2.1⟩ d.1 (fun E hE => jj_out B (hx E hE).1 (hx E hE).2 hkn.2.2) ?_
  rintro v G1 ⟨r, rfl, hP⟩
  exact kk r G1 hP
theorem jj_callVx (B : jj_B X own cc rm ret G0 post px) {index b ci N maxL k n : Nat} {y : MethodName} {bytes : ByteArray} {rt : Option FieldType} {rmy : Room} {As : List Value} {fs : List Value} {C : String} {T : u_T} {ty : Nat → FieldType} {P : Int32 → jj_G → Prop} {px' : String → Prop} (hC : jj_C (jj_l0 X) (jj_dg X) (jj_ac X) y (.code y bytes maxL rt) rmy (.ref b :: As) G (jj_px P) px') (hk : jj_lkV own index y bytes maxL rt As.length) (hb : G b = some (jj_o ci fs)) (hc : jj_cls ci C T N ty) (hyc : y.cls = C) (hst : st = As.reverse ++ .ref b :: rest) (hr : rmy.frames + 1 ≤ rm.frames ∧ 8 + (maxL + 11) + rmy.locals ≤ rm.locals ∧ kc + rmy.cells ≤ rm.cells ∧ kn + rmy.slots ≤ rm.slots ∧ (rest.map fun v => v.category).sum ≤ 8) (hkn : kc + rmy.cells ≤ k ∧ kn + rmy.slots ≤ n ∧ k ≤ rm.cells ∧ n ≤ rm.slots) (hx : jj_tx px' G G0 px) (d : jj_D cc pc (.invokevirtual index) 3 nx) (kk : ∀ (r : Int32) (G1 : jj_G), P r G1 → jj_J X G1 k n nx lv (.int r :: rest)) : jj_J X G kc kn pc lv st := by
  have F := B.F
  refine jj_run F (jj_runV F hC hk hb hc hyc hst hr d) ⟨hkn.1, hkn.2.1⟩ d.1 (fun E hE => jj_out B (hx E hE).1 (hx E hE).2 hkn.2.2) ?_
  rintro v G1 ⟨r, rfl, hP⟩
  exact kk r G1 hP
theorem jj_callVq (B : jj_B X own cc rm ret G0 post px) {index b ci N maxL k n : Nat} {y : MethodName} {bytes : ByteArray} {rt : Option FieldType} {rmy : Room} {As : List Value} {fs : List Value} {C : String} {T : u_T} {ty : Nat → FieldType} {P : Option Nat → jj_G → Prop} {px' : String → Prop} (hC : jj_C (jj_l0 X) (jj_dg X) (jj_ac X) y (.code y bytes maxL rt) rmy (.ref b :: As) G (jj_pq P) px') (hk : jj_lkV own index y bytes maxL rt As.length) (hb : G b = some (jj_o ci fs)) (hc : jj_cls ci C T N ty) (hyc : y.cls = C) (hst : st = As.reverse ++ .ref b :: rest) (hr : rmy.frames + 1 ≤ rm.frames ∧ 8 + (maxL + 11) + rmy.locals ≤ rm.locals ∧ kc + rmy.cells ≤ rm.cells ∧ kn + rmy.slots ≤ rm.slots ∧ (rest.map fun v => v.category).sum ≤ 8) (hkn : kc + rmy.cells ≤ k ∧ kn + rmy.slots ≤ n ∧ k ≤ rm.cells ∧ n ≤ rm.slots) (hx : jj_tx px' G G0 px) (d : jj_D cc pc (.invokevirtual index) 3 nx) (kk : ∀ (r : Option Nat) (G1 : jj_G), P r G1 → jj_J X G1 k n nx lv (va_rf r :: rest)) : jj_J X G kc kn pc lv st := by
  have F := B.F
  refine jj_run F (jj_runV F hC hk hb hc hyc hst hr d) ⟨hkn.1, hkn.2.1⟩ d.1 (fun E hE => jj_out B (hx E hE).1 (hx E hE).2 hkn.2.2) ?_
  rintro v G1 ⟨r, rfl, hP⟩
  exact kk r G1 hP
theorem jj_callVv (B : jj_B X own cc rm ret G0 post px) {index b ci N maxL k n : Nat} {y : MethodName} {bytes : ByteArray} {rt : Option FieldType} {rmy : Room} {As : List Value} {fs : List Value} {C : String} {T : u_T} {ty : Nat → FieldType} {P : jj_G → Prop} {px' : String → Prop} (hC : jj_C (jj_l0 X) (jj_dg X) (jj_ac X) y (.code y bytes maxL rt) rmy (.ref b :: As) G (jj_pv P) px') (hk : jj_lkV own index y bytes maxL rt As.length) (hb : G b = some (jj_o ci fs)) (hc : jj_cls ci C T N ty) (hyc : y.cls = C) (hst : st = As.reverse ++ .ref b :: rest) (hr : rmy.frames + 1 ≤ rm.frames ∧ 8 + (maxL + 11) + rmy.locals ≤ rm.locals ∧ kc + rmy.cells ≤ rm.cells ∧ kn + rmy.slots ≤ rm.slots ∧ (rest.map fun v => v.category).sum ≤ 8) (hkn : kc + rmy.cells ≤ k ∧ kn + rmy.slots ≤ n ∧ k ≤ rm.cells ∧ n ≤ rm.slots) (hx : jj_tx px' G G0 px) (d : jj_D cc pc (.invokevirtual index) 3 nx) (kk : ∀ (G1 : jj_G), P G1 → jj_J X G1 k n nx lv rest) : jj_J X G kc kn pc lv st := by
  have F := B.F
  refine jj_run F (jj_runV F hC hk hb hc hyc hst hr d) ⟨hkn.1, hkn.2.1⟩ d.1 (fun E hE => jj_out B (hx E hE).1 (hx E hE).2 hkn.2.2) ?_
  rintro v G1 ⟨rfl, hP⟩
  exact kk G1 hP
theorem jj_callSi (B : jj_B X own cc rm ret G0 post px) {index maxL k n : Nat} {y : MethodName} {bytes : ByteArray} {rt : Option FieldType} {rmy : Room} {As : List Value} {P : Int → jj_G → Prop} {px' : String → Prop} (hC : jj_C (jj_l0 X) (jj_dg X) (jj_ac X) y (.code y bytes maxL rt) rmy As G (jj_pi P) px') (hk : jj_lkS own index y bytes maxL rt As.length) (hst : st = As.reverse ++ rest) (hr : rmy.frames + 1 ≤ rm.frames ∧ 8 + (maxL + 11) + rmy.locals ≤ rm.locals ∧ kc + rmy.cells ≤ rm.cells ∧ kn + rmy.slots ≤ rm.slots ∧ (rest.map fun v => v.category).sum ≤ 8) (hkn : kc + rmy.cells ≤ k ∧ kn + rmy.slots ≤ n ∧ k ≤ rm.cells ∧ n ≤ rm.slots) (hx : jj_tx px' G G0 px) (d : jj_D cc pc (.invokestatic index) 3 nx) (kk : ∀ (r : Int) (G1 : jj_G), P r G1 → jj_J X G1 k n nx lv (.int (jI r) :: rest)) : jj_J X G kc kn pc lv st := by
  have F := B.F
  refine jj_run F (jj_runS F hC hk hst hr d) ⟨hkn.1, hkn.2.1⟩ d.1 (fun E hE => jj_out B (hx E hE).1 (hx E hE).2 hkn.2.2) ?_
  rintro v G1 ⟨r, rfl, hP⟩
  exact kk r G1 hP
theorem jj_callSx (B : jj_B X own cc rm ret G0 post px) {index maxL k n : Nat} {y : MethodName} {bytes : ByteArray} {rt : Option FieldType} {rmy : Room} {As : List Value} {P : Int32 → jj_G → Prop} {px' : String → Prop} (hC : jj_C (jj_l0 X) (jj_dg X) (jj_ac X) y (.code y bytes maxL rt) rmy As G (jj_px P) px') (hk : jj_lkS own index y bytes maxL rt As.length) (hst : st = As.reverse ++ rest) (hr : rmy.frames + 1 ≤ rm.frames ∧ 8 + (maxL + 11) + rmy.locals ≤ rm.locals ∧ kc + rmy.cells ≤ rm.cells ∧ kn + rmy.slots ≤ rm.slots ∧ (rest.map fun v => v.category).sum ≤ 8) (hkn : kc + rmy.cells ≤ k ∧ kn + rmy.slots ≤ n ∧ k ≤ rm.cells ∧ n ≤ rm.slots) (hx : jj_tx px' G G0 px) (d : jj_D cc pc (.invokestatic index) 3 nx) (kk : ∀ (r : Int32) (G1 : jj_G), P r G1 → jj_J X G1 k n nx lv (.int r :: rest)) : jj_J X G kc kn pc lv st := by
  have F := B.F
  refine jj_run F (jj_runS F hC hk hst hr d) ⟨hkn.1, hkn.2.1⟩ d.1 (fun E hE => jj_out B (hx E hE).1 (hx E hE).2 hkn.2.2) ?_
  rintro v G1 ⟨r, rfl, hP⟩
  exact kk r G1 hP
theorem jj_callSq (B : jj_B X own cc rm ret G0 post px) {index maxL k n : Nat} {y : MethodName} {bytes : ByteArray} {rt : Option FieldType} {rmy : Room} {As : List Value} {P : Option Nat → jj_G → Prop} {px' : String → Prop} (hC : jj_C (jj_l0 X) (jj_dg X) (jj_ac X) y (.code y bytes maxL rt) rmy As G (jj_pq P) px') (hk : jj_lkS own index y bytes maxL rt As.length) (hst : st = As.reverse ++ rest) (hr : rmy.frames + 1 ≤ rm.frames ∧ 8 + (maxL + 11) + rmy.locals ≤ rm.locals ∧ kc + rmy.cells ≤ rm.cells ∧ kn + rmy.slots ≤ rm.slots ∧ (rest.map fun v => v.category).sum ≤ 8) (hkn : kc + rmy.cells ≤ k ∧ kn + rmy.slots ≤ n ∧ k ≤ rm.cells ∧ n ≤ rm.slots) (hx : jj_tx px' G G0 px) (d : jj_D cc pc (.invokestatic index) 3 nx) (kk : ∀ (r : Option Nat) (G1 : jj_G), P r G1 → jj_J X G1 k n nx lv (va_rf r :: rest)) : jj_J X G kc kn pc lv st := by
  have F := B.F
  refine jj_run F (jj_runS F hC hk hst hr d) ⟨hkn.1, hkn.2.1⟩ d.1 (fun E hE => jj_out B (hx E hE).1 (hx E hE).2 hkn.2.2) ?_
  rintro v G1 ⟨r, rfl, hP⟩
  exact kk r G1 hP
theorem jj_callSv (B : jj_B X own cc rm ret G0 post px) {index maxL k n : Nat} {y : MethodName} {bytes : ByteArray} {rt : Option FieldType} {rmy : Room} {As : List Value} {P : jj_G → Prop} {px' : String → Prop} (hC : jj_C (jj_l0 X) (jj_dg X) (jj_ac X) y (.code y bytes maxL rt) rmy As G (jj_pv P) px') (hk : jj_lkS own index y bytes maxL rt As.length) (hst : st = As.reverse ++ rest) (hr : rmy.frames + 1 ≤ rm.frames ∧ 8 + (maxL + 11) + rmy.locals ≤ rm.locals ∧ kc + rmy.cells ≤ rm.cells ∧ kn + rmy.slots ≤ rm.slots ∧ (rest.map fun v => v.category).sum ≤ 8) (hkn : kc + rmy.cells ≤ k ∧ kn + rmy.slots ≤ n ∧ k ≤ rm.cells ∧ n ≤ rm.slots) (hx : jj_tx px' G G0 px) (d : jj_D cc pc (.invokestatic index) 3 nx) (kk : ∀ (G1 : jj_G), P G1 → jj_J X G1 k n nx lv rest) : jj_J X G kc kn pc lv st := by
  have F := B.F
  refine jj_run F (jj_runS F hC hk hst hr d) ⟨hkn.1, hkn.2.1⟩ d.1 (fun E hE => jj_out B (hx E hE).1 (hx E hE).2 hkn.2.2) ?_
  rintro v G1 ⟨rfl, hP⟩
  exact kk G1 hP
theorem jj_callIv (B : jj_B X own cc rm ret G0 post px) {index b maxL k n : Nat} {y : MethodName} {bytes : ByteArray} {rmy : Room} {As : List Value} {P : jj_G → Prop} {px' : String → Prop} (hC : jj_C (jj_l0 X) (jj_dg X) (jj_ac X) y (.code y bytes maxL none) rmy (.ref b :: As) G (jj_pv P) px') (hk : jj_lkI own index y bytes maxL As.length) (hst : st = As.reverse ++ .ref b :: rest) (hr : rmy.frames + 1 ≤ rm.frames ∧ 8 + (maxL + 11) + rmy.locals ≤ rm.locals ∧ kc + rmy.cells ≤ rm.cells ∧ kn + rmy.slots ≤ rm.slots ∧ (rest.map fun v => v.category).sum ≤ 8) (hkn : kc + rmy.cells ≤ k ∧ kn + rmy.slots ≤ n ∧ k ≤ rm.cells ∧ n ≤ rm.slots) (hx : jj_tx px' G G0 px) (d : jj_D cc pc (.invokespecial index) 3 nx) (kk : ∀ (G1 : jj_G), P G1 → jj_J X G1 k n nx lv rest) : jj_J X G kc kn pc lv st := by
  have F := B.F
  refine jj_run F (jj_runI F hC hk hst hr d) ⟨hkn.1, hkn.2.1⟩ d.1 (fun E hE => jj_out B (hx E hE).1 (hx E hE).2 hkn.2.2) ?_
  rintro v G1 ⟨rfl, hP⟩
  exact kk G1 hP
theorem jj_callNv (B : jj_B X own cc rm ret G0 post px) {index b maxL k n : Nat} {y : MethodName} {host : String} {bytes : ByteArray} {rmy : Room} {As : List Value} {P : jj_G → Prop} {px' : String → Prop} (hC : jj_C (jj_l0 X) (jj_dg X) (jj_ac X) y (.code y bytes maxL none) rmy (.ref b :: As) G (jj_pv P) px') (hk : jj_lkN own index y host bytes maxL As.length) (hst : st = As.reverse ++ .ref b :: rest) (hr : rmy.frames + 1 ≤ rm.frames ∧ 8 + (maxL + 11) + rmy.locals ≤ rm.locals ∧ kc + rmy.cells ≤ rm.cells ∧ kn + rmy.slots ≤ rm.slots ∧ (rest.map fun v => v.category).sum ≤ 8) (hkn : kc + rmy.cells ≤ k ∧ kn + rmy.slots ≤ n ∧ k ≤ rm.cells ∧ n ≤ rm.slots) (hx : jj_tx px' G G0 px) (d : jj_D cc pc (.invokespecial index) 3 nx) (kk : ∀ (G1 : jj_G), P G1 → jj_J X G1 k n nx lv rest) : jj_J X G kc kn pc lv st := by
  have F := B.F
  refine jj_run F (jj_runIN F hC hk hst hr d) ⟨hkn.1, hkn.2.1⟩ d.1 (fun E hE => jj_out B (hx E hE).1 (hx E hE).2 hkn.2.2) ?_
  rintro v G1 ⟨rfl, hP⟩
  exact kk G1 hP

end JE
end
section
section JT
variable {X : jj_X} {own : String} {cc : ByteArray} {rm : Room} {G G0 : jj_G} {kc kn pc nx p1 p2 p3 p4 p5 : Nat} {lv lr : List (Option Value)} {st rest : List Value} {ret : Option FieldType} {post : Option Value → jj_G → Prop} {px : String → Prop}
def jj_N2 : List String := ["java/lang/RuntimeException", "java/lang/Exception"]
def jj_thr (own : String) (ik ic : Nat) (cls : String) : Prop := Bundle.fit cls = true ∧ Cond.classLink own ik cls ∈ jj_GW ∧ Cond.initialized cls ∈ jj_GW ∧ (∀ w ∈ vx_atS own ic cls jj_N2, w ∈ jj_GW ∨ w ∈ jj_T) ∧ (∀ w ∈ Cond.classLink own ik cls :: Cond.initialized cls :: vx_atS own ic cls jj_N2, vx_ot w = true)
theorem jj_T_on {w : Cond} (h : w ∈ jj_T) : w.onTables = true := by
  have h2 := (List.mem_filter.mp h).2
  cases w <;> first | rfl | (simp [jj_tw] at h2; done)
theorem jj_N2_fit : ∀ n ∈ jj_N2, Bundle.fit n = true := by decide +kernel
theorem jj_throwS (B : jj_B X own cc rm ret G0 post px) {cls text : String} {ik is ic : Nat} (h : jj_thr own ik ic cls) (hs : (own, is, text) ∈ jj_S) (hG : G = G0) (hp : px cls) (hr : 6 ≤ rm.frames ∧ (st.map fun v => v.category).sum + 82 ≤ rm.locals ∧ kc + 1 ≤ rm.cells ∧ kn + 6 ≤ rm.slots) (d0 : jj_D cc pc (.new ik) 3 p1) (d1 : jj_D cc p1 .dup 1 p2) (d2 : jj_D cc p2 (.ldc is) 2 p3) (d3 : jj_D cc p3 (.invokespecial ic) 3 p4) (d4 : jj_D cc p4 .athrow 1 p5) : jj_J X G kc kn pc lv st := by
  obtain ⟨p, l, e, R, s, m, args, below, meth, c, nL, A, D, ac, Q⟩ := X
  obtain ⟨⟨hx, hb, hml, hown, hR, hA, hE, hst, hlk, hts, -⟩, hret', rfl, rfl, hno⟩ := B
  obtain ⟨rfl, e0⟩ := d0
  obtain ⟨rfl, e1⟩ := d1
  obtain ⟨rfl, e2⟩ := d2
  obtain ⟨rfl, e3⟩ := d3
  obtain ⟨-, e4⟩ := d4
  subst hG; subst hR
  obtain ⟨t1, t2, t3, t4, t5⟩ := h
  obtain ⟨sa, hsa⟩ := hE.2.2.1 _ hs
  intro H locs ls hW hS hl
  refine vx_throwS hx hb hst hown t1 jj_N2_fit (hts _ t2) (hts _ t3) hsa (fun w hw => (t4 w hw).elim (fun h => hts w h) (fun h => va_Nw.use (jj_T_on h) (hE.2.2.2.1 w h))) t5 hE.2.2.2.2.2.2.1 hE.2.2.2.2.2.2.2 hS (hl.1.trans hml.symm) e0 e1 e2 e3 e4 (fun x hx => (hno x hx).elim) (by show 2 + 3 < _; omega) (by show _ + (13 * (2 + 1) + 43) ≤ _; omega) hr.2.2.1 hr.2.2.2 hlk (fun t _ hz hq => ⟨hp, hW.kept (fun q h _ => hq q h), Nat.le_trans hS.1 hz, fun q h1 h2 => (hq q (Nat.lt_of_lt_of_le h1 hS.1)).trans (hS.2.1 q h1 h2)⟩) hS.2.2 hr.2.2.1 hr.2.2.2
theorem jj_throwSW (B : jj_B X own cc rm ret G0 post px) {cls text : String} {ik is ic : Nat} (h : jj_thr own ik ic cls) (hs : (own, is, text) ∈ jj_S) (hG : G = G0) (hp : px cls) (hr : 6 ≤ rm.frames ∧ (st.map fun v => v.category).sum + 82 ≤ rm.locals ∧ kc + 1 ≤ rm.cells ∧ kn + 6 ≤ rm.slots) (d0 : jj_D cc pc (.new ik) 3 p1) (d1 : jj_D cc p1 .dup 1 p2) (d2 : jj_D cc p2 (.ldc_w is) 3 p3) (d3 : jj_D cc p3 (.invokespecial ic) 3 p4) (d4 : jj_D cc p4 .athrow 1 p5) : jj_J X G kc kn pc lv st := by
  obtain ⟨p, l, e, R, s, m, args, below, meth, c, nL, A, D, ac, Q⟩ := X
  obtain ⟨⟨hx, hb, hml, hown, hR, hA, hE, hst, hlk, hts, -⟩, hret', rfl, rfl, hno⟩ := B
  obtain ⟨rfl, e0⟩ := d0
  obtain ⟨rfl, e1⟩ := d1
  obtain ⟨rfl, e2⟩ := d2
  obtain ⟨rfl, e3⟩ := d3
  obtain ⟨-, e4⟩ := d4
  subst hG; subst hR
  obtain ⟨t1, t2, t3, t4, t5⟩ := h
  obtain ⟨sa, hsa⟩ := hE.2.2.1 _ hs
  intro H locs ls hW hS hl
  refine vx_throwSW hx hb hst hown t1 jj_N2_fit (hts _ t2) (hts _ t3) hsa (fun w hw => (t4 w hw).elim (fun h => hts w h) (fun h => va_Nw.use (jj_T_on h) (hE.2.2.2.1 w h))) t5 hE.2.2.2.2.2.2.1 hE.2.2.2.2.2.2.2 hS (hl.1.trans hml.symm) e0 e1 e2 e3 e4 (fun x hx => (hno x hx).elim) (by show 2 + 3 < _; omega) (by show _ + (13 * (2 + 1) + 43) ≤ _; omega) hr.2.2.1 hr.2.2.2 hlk (fun t _ hz hq => ⟨hp, hW.kept (fun q h _ => hq q h), Nat.le_trans hS.1 hz, fun q h1 h2 => (hq q (Nat.lt_of_lt_of_le h1 hS.1)).trans (hS.2.1 q h1 h2)⟩) hS.2.2 hr.2.2.1 hr.2.2.2
end JT
end
section
theorem dX0_init_0 : jj_D cX0_init 0 (.aload_n 0) 1 1 := ⟨rfl, by decide +kernel⟩
theorem dX0_init_1 : jj_D cX0_init 1 (.invokespecial 3) 3 4 := ⟨rfl, by decide +kernel⟩
theorem dX0_init_4 : jj_D cX0_init 4 (.aload_n 0) 1 5 := ⟨rfl, by decide +kernel⟩
theorem dX0_init_5 : jj_D cX0_init 5 (.bipush 8) 2 7 := ⟨rfl, by decide +kernel⟩
theorem dX0_init_7 : jj_D cX0_init 7 (.newarray .int) 2 9 := ⟨rfl, by decide +kernel⟩
theorem dX0_init_9 : jj_D cX0_init 9 (.putfield 9) 3 12 := ⟨rfl, by decide +kernel⟩
theorem dX0_init_12 : jj_D cX0_init 12 (.aload_n 0) 1 13 := ⟨rfl, by decide +kernel⟩
theorem dX0_init_13 : jj_D cX0_init 13 (.aload_n 1) 1 14 := ⟨rfl, by decide +kernel⟩
theorem dX0_init_14 : jj_D cX0_init 14 (.putfield 15) 3 17 := ⟨rfl, by decide +kernel⟩
theorem dX0_init_17 : jj_D cX0_init 17 (.return_) 1 18 := ⟨rfl, by decide +kernel⟩
theorem dX0_addScratch_0 : jj_D cX0_addScratch 0 (.iload_n 1) 1 1 := ⟨rfl, by decide +kernel⟩
theorem dX0_addScratch_1 : jj_D cX0_addScratch 1 (.ifCond .lt 22) 3 4 := ⟨rfl, by decide +kernel⟩
theorem dX0_addScratch_4 : jj_D cX0_addScratch 4 (.iload_n 1) 1 5 := ⟨rfl, by decide +kernel⟩
theorem dX0_addScratch_5 : jj_D cX0_addScratch 5 (.aload_n 0) 1 6 := ⟨rfl, by decide +kernel⟩
theorem dX0_addScratch_6 : jj_D cX0_addScratch 6 (.getfield 9) 3 9 := ⟨rfl, by decide +kernel⟩
theorem dX0_addScratch_9 : jj_D cX0_addScratch 9 (.arraylength) 1 10 := ⟨rfl, by decide +kernel⟩
theorem dX0_addScratch_10 : jj_D cX0_addScratch 10 (.if_icmp .ge 13) 3 13 := ⟨rfl, by decide +kernel⟩
theorem dX0_addScratch_13 : jj_D cX0_addScratch 13 (.aload_n 0) 1 14 := ⟨rfl, by decide +kernel⟩
theorem dX0_addScratch_14 : jj_D cX0_addScratch 14 (.getfield 9) 3 17 := ⟨rfl, by decide +kernel⟩
theorem dX0_addScratch_17 : jj_D cX0_addScratch 17 (.iload_n 1) 1 18 := ⟨rfl, by decide +kernel⟩
theorem dX0_addScratch_18 : jj_D cX0_addScratch 18 (.dup2) 1 19 := ⟨rfl, by decide +kernel⟩
theorem dX0_addScratch_19 : jj_D cX0_addScratch 19 (.iaload) 1 20 := ⟨rfl, by decide +kernel⟩
theorem dX0_addScratch_20 : jj_D cX0_addScratch 20 (.iconst 1) 1 21 := ⟨rfl, by decide +kernel⟩
theorem dX0_addScratch_21 : jj_D cX0_addScratch 21 (.iadd) 1 22 := ⟨rfl, by decide +kernel⟩
theorem dX0_addScratch_22 : jj_D cX0_addScratch 22 (.iastore) 1 23 := ⟨rfl, by decide +kernel⟩
theorem dX0_addScratch_23 : jj_D cX0_addScratch 23 (.return_) 1 24 := ⟨rfl, by decide +kernel⟩
theorem dX0_noiseOf_0 : jj_D cX0_noiseOf 0 (.iload_n 1) 1 1 := ⟨rfl, by decide +kernel⟩
theorem dX0_noiseOf_1 : jj_D cX0_noiseOf 1 (.ifCond .lt 12) 3 4 := ⟨rfl, by decide +kernel⟩
theorem dX0_noiseOf_4 : jj_D cX0_noiseOf 4 (.iload_n 1) 1 5 := ⟨rfl, by decide +kernel⟩
theorem dX0_noiseOf_5 : jj_D cX0_noiseOf 5 (.aload_n 0) 1 6 := ⟨rfl, by decide +kernel⟩
theorem dX0_noiseOf_6 : jj_D cX0_noiseOf 6 (.getfield 9) 3 9 := ⟨rfl, by decide +kernel⟩
theorem dX0_noiseOf_9 : jj_D cX0_noiseOf 9 (.arraylength) 1 10 := ⟨rfl, by decide +kernel⟩
theorem dX0_noiseOf_10 : jj_D cX0_noiseOf 10 (.if_icmp .lt 7) 3 13 := ⟨rfl, by decide +kernel⟩
theorem dX0_noiseOf_13 : jj_D cX0_noiseOf 13 (.iconst 0) 1 14 := ⟨rfl, by decide +kernel⟩
theorem dX0_noiseOf_14 : jj_D cX0_noiseOf 14 (.goto 9) 3 17 := ⟨rfl, by decide +kernel⟩
theorem dX0_noiseOf_17 : jj_D cX0_noiseOf 17 (.aload_n 0) 1 18 := ⟨rfl, by decide +kernel⟩
theorem dX0_noiseOf_18 : jj_D cX0_noiseOf 18 (.getfield 9) 3 21 := ⟨rfl, by decide +kernel⟩
theorem dX0_noiseOf_21 : jj_D cX0_noiseOf 21 (.iload_n 1) 1 22 := ⟨rfl, by decide +kernel⟩
theorem dX0_noiseOf_22 : jj_D cX0_noiseOf 22 (.iaload) 1 23 := ⟨rfl, by decide +kernel⟩
theorem dX0_noiseOf_23 : jj_D cX0_noiseOf 23 (.istore_n 2) 1 24 := ⟨rfl, by decide +kernel⟩
theorem dX0_noiseOf_24 : jj_D cX0_noiseOf 24 (.iconst 5) 1 25 := ⟨rfl, by decide +kernel⟩
theorem dX0_noiseOf_25 : jj_D cX0_noiseOf 25 (.iload_n 2) 1 26 := ⟨rfl, by decide +kernel⟩
theorem dX0_noiseOf_26 : jj_D cX0_noiseOf 26 (.imul) 1 27 := ⟨rfl, by decide +kernel⟩
theorem dX0_noiseOf_27 : jj_D cX0_noiseOf 27 (.aload_n 0) 1 28 := ⟨rfl, by decide +kernel⟩
theorem dX0_noiseOf_28 : jj_D cX0_noiseOf 28 (.getfield 19) 3 31 := ⟨rfl, by decide +kernel⟩
theorem dX0_noiseOf_31 : jj_D cX0_noiseOf 31 (.iload_n 1) 1 32 := ⟨rfl, by decide +kernel⟩
theorem dX0_noiseOf_32 : jj_D cX0_noiseOf 32 (.iconst 1) 1 33 := ⟨rfl, by decide +kernel⟩
theorem dX0_noiseOf_33 : jj_D cX0_noiseOf 33 (.iadd) 1 34 := ⟨rfl, by decide +kernel⟩
theorem dX0_noiseOf_34 : jj_D cX0_noiseOf 34 (.imul) 1 35 := ⟨rfl, by decide +kernel⟩
theorem dX0_noiseOf_35 : jj_D cX0_noiseOf 35 (.bipush 16) 2 37 := ⟨rfl, by decide +kernel⟩
theorem dX0_noiseOf_37 : jj_D cX0_noiseOf 37 (.idiv) 1 38 := ⟨rfl, by decide +kernel⟩
theorem dX0_noiseOf_38 : jj_D cX0_noiseOf 38 (.iadd) 1 39 := ⟨rfl, by decide +kernel⟩
theorem dX0_noiseOf_39 : jj_D cX0_noiseOf 39 (.ireturn) 1 40 := ⟨rfl, by decide +kernel⟩
theorem dX0_noiseOfAll_0 : jj_D cX0_noiseOfAll 0 (.iconst 0) 1 1 := ⟨rfl, by decide +kernel⟩
theorem dX0_noiseOfAll_1 : jj_D cX0_noiseOfAll 1 (.istore_n 1) 1 2 := ⟨rfl, by decide +kernel⟩
theorem dX0_noiseOfAll_2 : jj_D cX0_noiseOfAll 2 (.iconst 0) 1 3 := ⟨rfl, by decide +kernel⟩
theorem dX0_noiseOfAll_3 : jj_D cX0_noiseOfAll 3 (.istore_n 2) 1 4 := ⟨rfl, by decide +kernel⟩
theorem dX0_noiseOfAll_4 : jj_D cX0_noiseOfAll 4 (.iload_n 2) 1 5 := ⟨rfl, by decide +kernel⟩
theorem dX0_noiseOfAll_5 : jj_D cX0_noiseOfAll 5 (.bipush 8) 2 7 := ⟨rfl, by decide +kernel⟩
theorem dX0_noiseOfAll_7 : jj_D cX0_noiseOfAll 7 (.if_icmp .ge 17) 3 10 := ⟨rfl, by decide +kernel⟩
theorem dX0_noiseOfAll_10 : jj_D cX0_noiseOfAll 10 (.iload_n 1) 1 11 := ⟨rfl, by decide +kernel⟩
theorem dX0_noiseOfAll_11 : jj_D cX0_noiseOfAll 11 (.aload_n 0) 1 12 := ⟨rfl, by decide +kernel⟩
theorem dX0_noiseOfAll_12 : jj_D cX0_noiseOfAll 12 (.iload_n 2) 1 13 := ⟨rfl, by decide +kernel⟩
theorem dX0_noiseOfAll_13 : jj_D cX0_noiseOfAll 13 (.invokevirtual 23) 3 16 := ⟨rfl, by decide +kernel⟩
theorem dX0_noiseOfAll_16 : jj_D cX0_noiseOfAll 16 (.iadd) 1 17 := ⟨rfl, by decide +kernel⟩
theorem dX0_noiseOfAll_17 : jj_D cX0_noiseOfAll 17 (.istore_n 1) 1 18 := ⟨rfl, by decide +kernel⟩
theorem dX0_noiseOfAll_18 : jj_D cX0_noiseOfAll 18 (.iinc 2 1) 3 21 := ⟨rfl, by decide +kernel⟩
theorem dX0_noiseOfAll_21 : jj_D cX0_noiseOfAll 21 (.goto (-17)) 3 24 := ⟨rfl, by decide +kernel⟩
theorem dX0_noiseOfAll_24 : jj_D cX0_noiseOfAll 24 (.iload_n 1) 1 25 := ⟨rfl, by decide +kernel⟩
theorem dX0_noiseOfAll_25 : jj_D cX0_noiseOfAll 25 (.ireturn) 1 26 := ⟨rfl, by decide +kernel⟩
theorem dX1_init_0 : jj_D cX1_init 0 (.aload_n 0) 1 1 := ⟨rfl, by decide +kernel⟩
theorem dX1_init_1 : jj_D cX1_init 1 (.invokespecial 3) 3 4 := ⟨rfl, by decide +kernel⟩
theorem dX1_init_4 : jj_D cX1_init 4 (.aload_n 0) 1 5 := ⟨rfl, by decide +kernel⟩
theorem dX1_init_5 : jj_D cX1_init 5 (.bipush 6) 2 7 := ⟨rfl, by decide +kernel⟩
theorem dX1_init_7 : jj_D cX1_init 7 (.anewarray 9) 3 10 := ⟨rfl, by decide +kernel⟩
theorem dX1_init_10 : jj_D cX1_init 10 (.putfield 11) 3 13 := ⟨rfl, by decide +kernel⟩
theorem dX1_init_13 : jj_D cX1_init 13 (.return_) 1 14 := ⟨rfl, by decide +kernel⟩
theorem dX1_append_0 : jj_D cX1_append 0 (.aload_n 0) 1 1 := ⟨rfl, by decide +kernel⟩
theorem dX1_append_1 : jj_D cX1_append 1 (.getfield 17) 3 4 := ⟨rfl, by decide +kernel⟩
theorem dX1_append_4 : jj_D cX1_append 4 (.aload_n 0) 1 5 := ⟨rfl, by decide +kernel⟩
theorem dX1_append_5 : jj_D cX1_append 5 (.getfield 11) 3 8 := ⟨rfl, by decide +kernel⟩
theorem dX1_append_8 : jj_D cX1_append 8 (.arraylength) 1 9 := ⟨rfl, by decide +kernel⟩
theorem dX1_append_9 : jj_D cX1_append 9 (.if_icmp .ge 23) 3 12 := ⟨rfl, by decide +kernel⟩
theorem dX1_append_12 : jj_D cX1_append 12 (.aload_n 0) 1 13 := ⟨rfl, by decide +kernel⟩
theorem dX1_append_13 : jj_D cX1_append 13 (.getfield 11) 3 16 := ⟨rfl, by decide +kernel⟩
theorem dX1_append_16 : jj_D cX1_append 16 (.aload_n 0) 1 17 := ⟨rfl, by decide +kernel⟩
theorem dX1_append_17 : jj_D cX1_append 17 (.getfield 17) 3 20 := ⟨rfl, by decide +kernel⟩
theorem dX1_append_20 : jj_D cX1_append 20 (.aload_n 1) 1 21 := ⟨rfl, by decide +kernel⟩
theorem dX1_append_21 : jj_D cX1_append 21 (.aastore) 1 22 := ⟨rfl, by decide +kernel⟩
theorem dX1_append_22 : jj_D cX1_append 22 (.aload_n 0) 1 23 := ⟨rfl, by decide +kernel⟩
theorem dX1_append_23 : jj_D cX1_append 23 (.dup) 1 24 := ⟨rfl, by decide +kernel⟩
theorem dX1_append_24 : jj_D cX1_append 24 (.getfield 17) 3 27 := ⟨rfl, by decide +kernel⟩
theorem dX1_append_27 : jj_D cX1_append 27 (.iconst 1) 1 28 := ⟨rfl, by decide +kernel⟩
theorem dX1_append_28 : jj_D cX1_append 28 (.iadd) 1 29 := ⟨rfl, by decide +kernel⟩
theorem dX1_append_29 : jj_D cX1_append 29 (.putfield 17) 3 32 := ⟨rfl, by decide +kernel⟩
theorem dX1_append_32 : jj_D cX1_append 32 (.return_) 1 33 := ⟨rfl, by decide +kernel⟩
theorem dX1_empty_0 : jj_D cX1_empty 0 (.iconst 0) 1 1 := ⟨rfl, by decide +kernel⟩
theorem dX1_empty_1 : jj_D cX1_empty 1 (.istore_n 1) 1 2 := ⟨rfl, by decide +kernel⟩
theorem dX1_empty_2 : jj_D cX1_empty 2 (.iload_n 1) 1 3 := ⟨rfl, by decide +kernel⟩
theorem dX1_empty_3 : jj_D cX1_empty 3 (.aload_n 0) 1 4 := ⟨rfl, by decide +kernel⟩
theorem dX1_empty_4 : jj_D cX1_empty 4 (.getfield 11) 3 7 := ⟨rfl, by decide +kernel⟩
theorem dX1_empty_7 : jj_D cX1_empty 7 (.arraylength) 1 8 := ⟨rfl, by decide +kernel⟩
theorem dX1_empty_8 : jj_D cX1_empty 8 (.if_icmp .ge 16) 3 11 := ⟨rfl, by decide +kernel⟩
theorem dX1_empty_11 : jj_D cX1_empty 11 (.aload_n 0) 1 12 := ⟨rfl, by decide +kernel⟩
theorem dX1_empty_12 : jj_D cX1_empty 12 (.getfield 11) 3 15 := ⟨rfl, by decide +kernel⟩
theorem dX1_empty_15 : jj_D cX1_empty 15 (.iload_n 1) 1 16 := ⟨rfl, by decide +kernel⟩
theorem dX1_empty_16 : jj_D cX1_empty 16 (.aconst_null) 1 17 := ⟨rfl, by decide +kernel⟩
theorem dX1_empty_17 : jj_D cX1_empty 17 (.aastore) 1 18 := ⟨rfl, by decide +kernel⟩
theorem dX1_empty_18 : jj_D cX1_empty 18 (.iinc 1 1) 3 21 := ⟨rfl, by decide +kernel⟩
theorem dX1_empty_21 : jj_D cX1_empty 21 (.goto (-19)) 3 24 := ⟨rfl, by decide +kernel⟩
theorem dX1_empty_24 : jj_D cX1_empty 24 (.aload_n 0) 1 25 := ⟨rfl, by decide +kernel⟩
theorem dX1_empty_25 : jj_D cX1_empty 25 (.iconst 0) 1 26 := ⟨rfl, by decide +kernel⟩
theorem dX1_empty_26 : jj_D cX1_empty 26 (.putfield 17) 3 29 := ⟨rfl, by decide +kernel⟩
theorem dX1_empty_29 : jj_D cX1_empty 29 (.return_) 1 30 := ⟨rfl, by decide +kernel⟩
theorem dX1_isPlayable_0 : jj_D cX1_isPlayable 0 (.aload_n 0) 1 1 := ⟨rfl, by decide +kernel⟩
theorem dX1_isPlayable_1 : jj_D cX1_isPlayable 1 (.getfield 11) 3 4 := ⟨rfl, by decide +kernel⟩
theorem dX1_isPlayable_4 : jj_D cX1_isPlayable 4 (.astore_n 2) 1 5 := ⟨rfl, by decide +kernel⟩
theorem dX1_isPlayable_5 : jj_D cX1_isPlayable 5 (.aload_n 2) 1 6 := ⟨rfl, by decide +kernel⟩
theorem dX1_isPlayable_6 : jj_D cX1_isPlayable 6 (.arraylength) 1 7 := ⟨rfl, by decide +kernel⟩
theorem dX1_isPlayable_7 : jj_D cX1_isPlayable 7 (.istore_n 3) 1 8 := ⟨rfl, by decide +kernel⟩
theorem dX1_isPlayable_8 : jj_D cX1_isPlayable 8 (.iconst 0) 1 9 := ⟨rfl, by decide +kernel⟩
theorem dX1_isPlayable_9 : jj_D cX1_isPlayable 9 (.istore 4) 2 11 := ⟨rfl, by decide +kernel⟩
theorem dX1_isPlayable_11 : jj_D cX1_isPlayable 11 (.iload 4) 2 13 := ⟨rfl, by decide +kernel⟩
theorem dX1_isPlayable_13 : jj_D cX1_isPlayable 13 (.iload_n 3) 1 14 := ⟨rfl, by decide +kernel⟩
theorem dX1_isPlayable_14 : jj_D cX1_isPlayable 14 (.if_icmp .ge 31) 3 17 := ⟨rfl, by decide +kernel⟩
theorem dX1_isPlayable_17 : jj_D cX1_isPlayable 17 (.aload_n 2) 1 18 := ⟨rfl, by decide +kernel⟩
theorem dX1_isPlayable_18 : jj_D cX1_isPlayable 18 (.iload 4) 2 20 := ⟨rfl, by decide +kernel⟩
theorem dX1_isPlayable_20 : jj_D cX1_isPlayable 20 (.aaload) 1 21 := ⟨rfl, by decide +kernel⟩
theorem dX1_isPlayable_21 : jj_D cX1_isPlayable 21 (.astore 5) 2 23 := ⟨rfl, by decide +kernel⟩
theorem dX1_isPlayable_23 : jj_D cX1_isPlayable 23 (.aload 5) 2 25 := ⟨rfl, by decide +kernel⟩
theorem dX1_isPlayable_25 : jj_D cX1_isPlayable 25 (.ifnull 14) 3 28 := ⟨rfl, by decide +kernel⟩
theorem dX1_isPlayable_28 : jj_D cX1_isPlayable 28 (.aload 5) 2 30 := ⟨rfl, by decide +kernel⟩
theorem dX1_isPlayable_30 : jj_D cX1_isPlayable 30 (.iload_n 1) 1 31 := ⟨rfl, by decide +kernel⟩
theorem dX1_isPlayable_31 : jj_D cX1_isPlayable 31 (.invokevirtual 21) 3 34 := ⟨rfl, by decide +kernel⟩
theorem dX1_isPlayable_34 : jj_D cX1_isPlayable 34 (.ifCond .ne 5) 3 37 := ⟨rfl, by decide +kernel⟩
theorem dX1_isPlayable_37 : jj_D cX1_isPlayable 37 (.iconst 0) 1 38 := ⟨rfl, by decide +kernel⟩
theorem dX1_isPlayable_38 : jj_D cX1_isPlayable 38 (.ireturn) 1 39 := ⟨rfl, by decide +kernel⟩
theorem dX1_isPlayable_39 : jj_D cX1_isPlayable 39 (.iinc 4 1) 3 42 := ⟨rfl, by decide +kernel⟩
theorem dX1_isPlayable_42 : jj_D cX1_isPlayable 42 (.goto (-31)) 3 45 := ⟨rfl, by decide +kernel⟩
theorem dX1_isPlayable_45 : jj_D cX1_isPlayable 45 (.iconst 1) 1 46 := ⟨rfl, by decide +kernel⟩
theorem dX1_isPlayable_46 : jj_D cX1_isPlayable 46 (.ireturn) 1 47 := ⟨rfl, by decide +kernel⟩
theorem dX1_length_0 : jj_D cX1_length 0 (.iconst 0) 1 1 := ⟨rfl, by decide +kernel⟩
theorem dX1_length_1 : jj_D cX1_length 1 (.istore_n 1) 1 2 := ⟨rfl, by decide +kernel⟩
theorem dX1_length_2 : jj_D cX1_length 2 (.aload_n 0) 1 3 := ⟨rfl, by decide +kernel⟩
theorem dX1_length_3 : jj_D cX1_length 3 (.getfield 11) 3 6 := ⟨rfl, by decide +kernel⟩
theorem dX1_length_6 : jj_D cX1_length 6 (.astore_n 2) 1 7 := ⟨rfl, by decide +kernel⟩
theorem dX1_length_7 : jj_D cX1_length 7 (.aload_n 2) 1 8 := ⟨rfl, by decide +kernel⟩
theorem dX1_length_8 : jj_D cX1_length 8 (.arraylength) 1 9 := ⟨rfl, by decide +kernel⟩
theorem dX1_length_9 : jj_D cX1_length 9 (.istore_n 3) 1 10 := ⟨rfl, by decide +kernel⟩
theorem dX1_length_10 : jj_D cX1_length 10 (.iconst 0) 1 11 := ⟨rfl, by decide +kernel⟩
theorem dX1_length_11 : jj_D cX1_length 11 (.istore 4) 2 13 := ⟨rfl, by decide +kernel⟩
theorem dX1_length_13 : jj_D cX1_length 13 (.iload 4) 2 15 := ⟨rfl, by decide +kernel⟩
theorem dX1_length_15 : jj_D cX1_length 15 (.iload_n 3) 1 16 := ⟨rfl, by decide +kernel⟩
theorem dX1_length_16 : jj_D cX1_length 16 (.if_icmp .ge 28) 3 19 := ⟨rfl, by decide +kernel⟩
theorem dX1_length_19 : jj_D cX1_length 19 (.aload_n 2) 1 20 := ⟨rfl, by decide +kernel⟩
theorem dX1_length_20 : jj_D cX1_length 20 (.iload 4) 2 22 := ⟨rfl, by decide +kernel⟩
theorem dX1_length_22 : jj_D cX1_length 22 (.aaload) 1 23 := ⟨rfl, by decide +kernel⟩
theorem dX1_length_23 : jj_D cX1_length 23 (.astore 5) 2 25 := ⟨rfl, by decide +kernel⟩
theorem dX1_length_25 : jj_D cX1_length 25 (.aload 5) 2 27 := ⟨rfl, by decide +kernel⟩
theorem dX1_length_27 : jj_D cX1_length 27 (.ifnull 11) 3 30 := ⟨rfl, by decide +kernel⟩
theorem dX1_length_30 : jj_D cX1_length 30 (.iload_n 1) 1 31 := ⟨rfl, by decide +kernel⟩
theorem dX1_length_31 : jj_D cX1_length 31 (.aload 5) 2 33 := ⟨rfl, by decide +kernel⟩
theorem dX1_length_33 : jj_D cX1_length 33 (.getfield 25) 3 36 := ⟨rfl, by decide +kernel⟩
theorem dX1_length_36 : jj_D cX1_length 36 (.iadd) 1 37 := ⟨rfl, by decide +kernel⟩
theorem dX1_length_37 : jj_D cX1_length 37 (.istore_n 1) 1 38 := ⟨rfl, by decide +kernel⟩
theorem dX1_length_38 : jj_D cX1_length 38 (.iinc 4 1) 3 41 := ⟨rfl, by decide +kernel⟩
theorem dX1_length_41 : jj_D cX1_length 41 (.goto (-28)) 3 44 := ⟨rfl, by decide +kernel⟩
theorem dX1_length_44 : jj_D cX1_length 44 (.iload_n 1) 1 45 := ⟨rfl, by decide +kernel⟩
theorem dX1_length_45 : jj_D cX1_length 45 (.iconst 3) 1 46 := ⟨rfl, by decide +kernel⟩
theorem dX1_length_46 : jj_D cX1_length 46 (.aload_n 0) 1 47 := ⟨rfl, by decide +kernel⟩
theorem dX1_length_47 : jj_D cX1_length 47 (.getfield 17) 3 50 := ⟨rfl, by decide +kernel⟩
theorem dX1_length_50 : jj_D cX1_length 50 (.iconst 1) 1 51 := ⟨rfl, by decide +kernel⟩
theorem dX1_length_51 : jj_D cX1_length 51 (.isub) 1 52 := ⟨rfl, by decide +kernel⟩
theorem dX1_length_52 : jj_D cX1_length 52 (.iconst 0) 1 53 := ⟨rfl, by decide +kernel⟩
theorem dX1_length_53 : jj_D cX1_length 53 (.invokestatic 28) 3 56 := ⟨rfl, by decide +kernel⟩
theorem dX1_length_56 : jj_D cX1_length 56 (.imul) 1 57 := ⟨rfl, by decide +kernel⟩
theorem dX1_length_57 : jj_D cX1_length 57 (.iadd) 1 58 := ⟨rfl, by decide +kernel⟩
theorem dX1_length_58 : jj_D cX1_length 58 (.ireturn) 1 59 := ⟨rfl, by decide +kernel⟩
theorem dX2_init_0 : jj_D cX2_init 0 (.aload_n 0) 1 1 := ⟨rfl, by decide +kernel⟩
theorem dX2_init_1 : jj_D cX2_init 1 (.invokespecial 3) 3 4 := ⟨rfl, by decide +kernel⟩
theorem dX2_init_4 : jj_D cX2_init 4 (.aload_n 0) 1 5 := ⟨rfl, by decide +kernel⟩
theorem dX2_init_5 : jj_D cX2_init 5 (.bipush 6) 2 7 := ⟨rfl, by decide +kernel⟩
theorem dX2_init_7 : jj_D cX2_init 7 (.newarray .int) 2 9 := ⟨rfl, by decide +kernel⟩
theorem dX2_init_9 : jj_D cX2_init 9 (.putfield 9) 3 12 := ⟨rfl, by decide +kernel⟩
theorem dX2_init_12 : jj_D cX2_init 12 (.aload_n 0) 1 13 := ⟨rfl, by decide +kernel⟩
theorem dX2_init_13 : jj_D cX2_init 13 (.bipush 6) 2 15 := ⟨rfl, by decide +kernel⟩
theorem dX2_init_15 : jj_D cX2_init 15 (.newarray .int) 2 17 := ⟨rfl, by decide +kernel⟩
theorem dX2_init_17 : jj_D cX2_init 17 (.putfield 15) 3 20 := ⟨rfl, by decide +kernel⟩
theorem dX2_init_20 : jj_D cX2_init 20 (.aload_n 0) 1 21 := ⟨rfl, by decide +kernel⟩
theorem dX2_init_21 : jj_D cX2_init 21 (.bipush 6) 2 23 := ⟨rfl, by decide +kernel⟩
theorem dX2_init_23 : jj_D cX2_init 23 (.newarray .int) 2 25 := ⟨rfl, by decide +kernel⟩
theorem dX2_init_25 : jj_D cX2_init 25 (.putfield 18) 3 28 := ⟨rfl, by decide +kernel⟩
theorem dX2_init_28 : jj_D cX2_init 28 (.aload_n 0) 1 29 := ⟨rfl, by decide +kernel⟩
theorem dX2_init_29 : jj_D cX2_init 29 (.bipush 6) 2 31 := ⟨rfl, by decide +kernel⟩
theorem dX2_init_31 : jj_D cX2_init 31 (.newarray .int) 2 33 := ⟨rfl, by decide +kernel⟩
theorem dX2_init_33 : jj_D cX2_init 33 (.putfield 21) 3 36 := ⟨rfl, by decide +kernel⟩
theorem dX2_init_36 : jj_D cX2_init 36 (.aload_n 0) 1 37 := ⟨rfl, by decide +kernel⟩
theorem dX2_init_37 : jj_D cX2_init 37 (.bipush 100) 2 39 := ⟨rfl, by decide +kernel⟩
theorem dX2_init_39 : jj_D cX2_init 39 (.anewarray 24) 3 42 := ⟨rfl, by decide +kernel⟩
theorem dX2_init_42 : jj_D cX2_init 42 (.putfield 26) 3 45 := ⟨rfl, by decide +kernel⟩
theorem dX2_init_45 : jj_D cX2_init 45 (.return_) 1 46 := ⟨rfl, by decide +kernel⟩
theorem dX2_isFull_0 : jj_D cX2_isFull 0 (.aload_n 0) 1 1 := ⟨rfl, by decide +kernel⟩
theorem dX2_isFull_1 : jj_D cX2_isFull 1 (.getfield 30) 3 4 := ⟨rfl, by decide +kernel⟩
theorem dX2_isFull_4 : jj_D cX2_isFull 4 (.aload_n 0) 1 5 := ⟨rfl, by decide +kernel⟩
theorem dX2_isFull_5 : jj_D cX2_isFull 5 (.getfield 26) 3 8 := ⟨rfl, by decide +kernel⟩
theorem dX2_isFull_8 : jj_D cX2_isFull 8 (.arraylength) 1 9 := ⟨rfl, by decide +kernel⟩
theorem dX2_isFull_9 : jj_D cX2_isFull 9 (.if_icmp .lt 7) 3 12 := ⟨rfl, by decide +kernel⟩
theorem dX2_isFull_12 : jj_D cX2_isFull 12 (.iconst 1) 1 13 := ⟨rfl, by decide +kernel⟩
theorem dX2_isFull_13 : jj_D cX2_isFull 13 (.goto 4) 3 16 := ⟨rfl, by decide +kernel⟩
theorem dX2_isFull_16 : jj_D cX2_isFull 16 (.iconst 0) 1 17 := ⟨rfl, by decide +kernel⟩
theorem dX2_isFull_17 : jj_D cX2_isFull 17 (.ireturn) 1 18 := ⟨rfl, by decide +kernel⟩
theorem dX2_book_0 : jj_D cX2_book 0 (.aload_n 0) 1 1 := ⟨rfl, by decide +kernel⟩
theorem dX2_book_1 : jj_D cX2_book 1 (.getfield 30) 3 4 := ⟨rfl, by decide +kernel⟩
theorem dX2_book_4 : jj_D cX2_book 4 (.ifCond .lt 63) 3 7 := ⟨rfl, by decide +kernel⟩
theorem dX2_book_7 : jj_D cX2_book 7 (.aload_n 0) 1 8 := ⟨rfl, by decide +kernel⟩
theorem dX2_book_8 : jj_D cX2_book 8 (.getfield 30) 3 11 := ⟨rfl, by decide +kernel⟩
theorem dX2_book_11 : jj_D cX2_book 11 (.aload_n 0) 1 12 := ⟨rfl, by decide +kernel⟩
theorem dX2_book_12 : jj_D cX2_book 12 (.getfield 26) 3 15 := ⟨rfl, by decide +kernel⟩
theorem dX2_book_15 : jj_D cX2_book 15 (.arraylength) 1 16 := ⟨rfl, by decide +kernel⟩
theorem dX2_book_16 : jj_D cX2_book 16 (.if_icmp .ge 51) 3 19 := ⟨rfl, by decide +kernel⟩
theorem dX2_book_19 : jj_D cX2_book 19 (.aload_n 0) 1 20 := ⟨rfl, by decide +kernel⟩
theorem dX2_book_20 : jj_D cX2_book 20 (.getfield 26) 3 23 := ⟨rfl, by decide +kernel⟩
theorem dX2_book_23 : jj_D cX2_book 23 (.aload_n 0) 1 24 := ⟨rfl, by decide +kernel⟩
theorem dX2_book_24 : jj_D cX2_book 24 (.getfield 30) 3 27 := ⟨rfl, by decide +kernel⟩
theorem dX2_book_27 : jj_D cX2_book 27 (.aload_n 1) 1 28 := ⟨rfl, by decide +kernel⟩
theorem dX2_book_28 : jj_D cX2_book 28 (.aastore) 1 29 := ⟨rfl, by decide +kernel⟩
theorem dX2_book_29 : jj_D cX2_book 29 (.aload_n 0) 1 30 := ⟨rfl, by decide +kernel⟩
theorem dX2_book_30 : jj_D cX2_book 30 (.dup) 1 31 := ⟨rfl, by decide +kernel⟩
theorem dX2_book_31 : jj_D cX2_book 31 (.getfield 30) 3 34 := ⟨rfl, by decide +kernel⟩
theorem dX2_book_34 : jj_D cX2_book 34 (.iconst 1) 1 35 := ⟨rfl, by decide +kernel⟩
theorem dX2_book_35 : jj_D cX2_book 35 (.iadd) 1 36 := ⟨rfl, by decide +kernel⟩
theorem dX2_book_36 : jj_D cX2_book 36 (.putfield 30) 3 39 := ⟨rfl, by decide +kernel⟩
theorem dX2_book_39 : jj_D cX2_book 39 (.iconst 0) 1 40 := ⟨rfl, by decide +kernel⟩
theorem dX2_book_40 : jj_D cX2_book 40 (.istore_n 2) 1 41 := ⟨rfl, by decide +kernel⟩
theorem dX2_book_41 : jj_D cX2_book 41 (.iload_n 2) 1 42 := ⟨rfl, by decide +kernel⟩
theorem dX2_book_42 : jj_D cX2_book 42 (.bipush 6) 2 44 := ⟨rfl, by decide +kernel⟩
theorem dX2_book_44 : jj_D cX2_book 44 (.if_icmp .ge 23) 3 47 := ⟨rfl, by decide +kernel⟩
theorem dX2_book_47 : jj_D cX2_book 47 (.aload_n 0) 1 48 := ⟨rfl, by decide +kernel⟩
theorem dX2_book_48 : jj_D cX2_book 48 (.getfield 21) 3 51 := ⟨rfl, by decide +kernel⟩
theorem dX2_book_51 : jj_D cX2_book 51 (.iload_n 2) 1 52 := ⟨rfl, by decide +kernel⟩
theorem dX2_book_52 : jj_D cX2_book 52 (.dup2) 1 53 := ⟨rfl, by decide +kernel⟩
theorem dX2_book_53 : jj_D cX2_book 53 (.iaload) 1 54 := ⟨rfl, by decide +kernel⟩
theorem dX2_book_54 : jj_D cX2_book 54 (.aload_n 1) 1 55 := ⟨rfl, by decide +kernel⟩
theorem dX2_book_55 : jj_D cX2_book 55 (.iload_n 2) 1 56 := ⟨rfl, by decide +kernel⟩
theorem dX2_book_56 : jj_D cX2_book 56 (.invokevirtual 34) 3 59 := ⟨rfl, by decide +kernel⟩
theorem dX2_book_59 : jj_D cX2_book 59 (.iadd) 1 60 := ⟨rfl, by decide +kernel⟩
theorem dX2_book_60 : jj_D cX2_book 60 (.iastore) 1 61 := ⟨rfl, by decide +kernel⟩
theorem dX2_book_61 : jj_D cX2_book 61 (.iinc 2 1) 3 64 := ⟨rfl, by decide +kernel⟩
theorem dX2_book_64 : jj_D cX2_book 64 (.goto (-23)) 3 67 := ⟨rfl, by decide +kernel⟩
theorem dX2_book_67 : jj_D cX2_book 67 (.return_) 1 68 := ⟨rfl, by decide +kernel⟩
theorem dX2_takeBack_0 : jj_D cX2_takeBack 0 (.iload_n 2) 1 1 := ⟨rfl, by decide +kernel⟩
theorem dX2_takeBack_1 : jj_D cX2_takeBack 1 (.istore_n 3) 1 2 := ⟨rfl, by decide +kernel⟩
theorem dX2_takeBack_2 : jj_D cX2_takeBack 2 (.aload_n 0) 1 3 := ⟨rfl, by decide +kernel⟩
theorem dX2_takeBack_3 : jj_D cX2_takeBack 3 (.getfield 26) 3 6 := ⟨rfl, by decide +kernel⟩
theorem dX2_takeBack_6 : jj_D cX2_takeBack 6 (.arraylength) 1 7 := ⟨rfl, by decide +kernel⟩
theorem dX2_takeBack_7 : jj_D cX2_takeBack 7 (.iconst 1) 1 8 := ⟨rfl, by decide +kernel⟩
theorem dX2_takeBack_8 : jj_D cX2_takeBack 8 (.isub) 1 9 := ⟨rfl, by decide +kernel⟩
theorem dX2_takeBack_9 : jj_D cX2_takeBack 9 (.istore 4) 2 11 := ⟨rfl, by decide +kernel⟩
theorem dX2_takeBack_11 : jj_D cX2_takeBack 11 (.iload 4) 2 13 := ⟨rfl, by decide +kernel⟩
theorem dX2_takeBack_13 : jj_D cX2_takeBack 13 (.ifCond .lt 60) 3 16 := ⟨rfl, by decide +kernel⟩
theorem dX2_takeBack_16 : jj_D cX2_takeBack 16 (.iload_n 3) 1 17 := ⟨rfl, by decide +kernel⟩
theorem dX2_takeBack_17 : jj_D cX2_takeBack 17 (.ifCond .le 56) 3 20 := ⟨rfl, by decide +kernel⟩
theorem dX2_takeBack_20 : jj_D cX2_takeBack 20 (.aload_n 0) 1 21 := ⟨rfl, by decide +kernel⟩
theorem dX2_takeBack_21 : jj_D cX2_takeBack 21 (.getfield 26) 3 24 := ⟨rfl, by decide +kernel⟩
theorem dX2_takeBack_24 : jj_D cX2_takeBack 24 (.iload 4) 2 26 := ⟨rfl, by decide +kernel⟩
theorem dX2_takeBack_26 : jj_D cX2_takeBack 26 (.aaload) 1 27 := ⟨rfl, by decide +kernel⟩
theorem dX2_takeBack_27 : jj_D cX2_takeBack 27 (.astore 5) 2 29 := ⟨rfl, by decide +kernel⟩
theorem dX2_takeBack_29 : jj_D cX2_takeBack 29 (.aload 5) 2 31 := ⟨rfl, by decide +kernel⟩
theorem dX2_takeBack_31 : jj_D cX2_takeBack 31 (.ifnull 36) 3 34 := ⟨rfl, by decide +kernel⟩
theorem dX2_takeBack_34 : jj_D cX2_takeBack 34 (.aload 5) 2 36 := ⟨rfl, by decide +kernel⟩
theorem dX2_takeBack_36 : jj_D cX2_takeBack 36 (.getfield 38) 3 39 := ⟨rfl, by decide +kernel⟩
theorem dX2_takeBack_39 : jj_D cX2_takeBack 39 (.aload_n 1) 1 40 := ⟨rfl, by decide +kernel⟩
theorem dX2_takeBack_40 : jj_D cX2_takeBack 40 (.if_acmp .ne 27) 3 43 := ⟨rfl, by decide +kernel⟩
theorem dX2_takeBack_43 : jj_D cX2_takeBack 43 (.iload_n 3) 1 44 := ⟨rfl, by decide +kernel⟩
theorem dX2_takeBack_44 : jj_D cX2_takeBack 44 (.aload 5) 2 46 := ⟨rfl, by decide +kernel⟩
theorem dX2_takeBack_46 : jj_D cX2_takeBack 46 (.getfield 42) 3 49 := ⟨rfl, by decide +kernel⟩
theorem dX2_takeBack_49 : jj_D cX2_takeBack 49 (.invokestatic 45) 3 52 := ⟨rfl, by decide +kernel⟩
theorem dX2_takeBack_52 : jj_D cX2_takeBack 52 (.istore 6) 2 54 := ⟨rfl, by decide +kernel⟩
theorem dX2_takeBack_54 : jj_D cX2_takeBack 54 (.aload_n 0) 1 55 := ⟨rfl, by decide +kernel⟩
theorem dX2_takeBack_55 : jj_D cX2_takeBack 55 (.aload 5) 2 57 := ⟨rfl, by decide +kernel⟩
theorem dX2_takeBack_57 : jj_D cX2_takeBack 57 (.iload 6) 2 59 := ⟨rfl, by decide +kernel⟩
theorem dX2_takeBack_59 : jj_D cX2_takeBack 59 (.invokevirtual 51) 3 62 := ⟨rfl, by decide +kernel⟩
theorem dX2_takeBack_62 : jj_D cX2_takeBack 62 (.iload_n 3) 1 63 := ⟨rfl, by decide +kernel⟩
theorem dX2_takeBack_63 : jj_D cX2_takeBack 63 (.iload 6) 2 65 := ⟨rfl, by decide +kernel⟩
theorem dX2_takeBack_65 : jj_D cX2_takeBack 65 (.isub) 1 66 := ⟨rfl, by decide +kernel⟩
theorem dX2_takeBack_66 : jj_D cX2_takeBack 66 (.istore_n 3) 1 67 := ⟨rfl, by decide +kernel⟩
theorem dX2_takeBack_67 : jj_D cX2_takeBack 67 (.iinc 4 (-1)) 3 70 := ⟨rfl, by decide +kernel⟩
theorem dX2_takeBack_70 : jj_D cX2_takeBack 70 (.goto (-59)) 3 73 := ⟨rfl, by decide +kernel⟩
theorem dX2_takeBack_73 : jj_D cX2_takeBack 73 (.return_) 1 74 := ⟨rfl, by decide +kernel⟩
theorem dX2_lessen_0 : jj_D cX2_lessen 0 (.iconst 0) 1 1 := ⟨rfl, by decide +kernel⟩
theorem dX2_lessen_1 : jj_D cX2_lessen 1 (.istore_n 3) 1 2 := ⟨rfl, by decide +kernel⟩
theorem dX2_lessen_2 : jj_D cX2_lessen 2 (.iload_n 3) 1 3 := ⟨rfl, by decide +kernel⟩
theorem dX2_lessen_3 : jj_D cX2_lessen 3 (.bipush 6) 2 5 := ⟨rfl, by decide +kernel⟩
theorem dX2_lessen_5 : jj_D cX2_lessen 5 (.if_icmp .ge 23) 3 8 := ⟨rfl, by decide +kernel⟩
theorem dX2_lessen_8 : jj_D cX2_lessen 8 (.aload_n 0) 1 9 := ⟨rfl, by decide +kernel⟩
theorem dX2_lessen_9 : jj_D cX2_lessen 9 (.getfield 21) 3 12 := ⟨rfl, by decide +kernel⟩
theorem dX2_lessen_12 : jj_D cX2_lessen 12 (.iload_n 3) 1 13 := ⟨rfl, by decide +kernel⟩
theorem dX2_lessen_13 : jj_D cX2_lessen 13 (.dup2) 1 14 := ⟨rfl, by decide +kernel⟩
theorem dX2_lessen_14 : jj_D cX2_lessen 14 (.iaload) 1 15 := ⟨rfl, by decide +kernel⟩
theorem dX2_lessen_15 : jj_D cX2_lessen 15 (.aload_n 1) 1 16 := ⟨rfl, by decide +kernel⟩
theorem dX2_lessen_16 : jj_D cX2_lessen 16 (.iload_n 3) 1 17 := ⟨rfl, by decide +kernel⟩
theorem dX2_lessen_17 : jj_D cX2_lessen 17 (.invokevirtual 34) 3 20 := ⟨rfl, by decide +kernel⟩
theorem dX2_lessen_20 : jj_D cX2_lessen 20 (.isub) 1 21 := ⟨rfl, by decide +kernel⟩
theorem dX2_lessen_21 : jj_D cX2_lessen 21 (.iastore) 1 22 := ⟨rfl, by decide +kernel⟩
theorem dX2_lessen_22 : jj_D cX2_lessen 22 (.iinc 3 1) 3 25 := ⟨rfl, by decide +kernel⟩
theorem dX2_lessen_25 : jj_D cX2_lessen 25 (.goto (-23)) 3 28 := ⟨rfl, by decide +kernel⟩
theorem dX2_lessen_28 : jj_D cX2_lessen 28 (.aload_n 1) 1 29 := ⟨rfl, by decide +kernel⟩
theorem dX2_lessen_29 : jj_D cX2_lessen 29 (.dup) 1 30 := ⟨rfl, by decide +kernel⟩
theorem dX2_lessen_30 : jj_D cX2_lessen 30 (.getfield 42) 3 33 := ⟨rfl, by decide +kernel⟩
theorem dX2_lessen_33 : jj_D cX2_lessen 33 (.iload_n 2) 1 34 := ⟨rfl, by decide +kernel⟩
theorem dX2_lessen_34 : jj_D cX2_lessen 34 (.isub) 1 35 := ⟨rfl, by decide +kernel⟩
theorem dX2_lessen_35 : jj_D cX2_lessen 35 (.putfield 42) 3 38 := ⟨rfl, by decide +kernel⟩
theorem dX2_lessen_38 : jj_D cX2_lessen 38 (.iconst 0) 1 39 := ⟨rfl, by decide +kernel⟩
theorem dX2_lessen_39 : jj_D cX2_lessen 39 (.istore_n 3) 1 40 := ⟨rfl, by decide +kernel⟩
theorem dX2_lessen_40 : jj_D cX2_lessen 40 (.iload_n 3) 1 41 := ⟨rfl, by decide +kernel⟩
theorem dX2_lessen_41 : jj_D cX2_lessen 41 (.bipush 6) 2 43 := ⟨rfl, by decide +kernel⟩
theorem dX2_lessen_43 : jj_D cX2_lessen 43 (.if_icmp .ge 23) 3 46 := ⟨rfl, by decide +kernel⟩
theorem dX2_lessen_46 : jj_D cX2_lessen 46 (.aload_n 0) 1 47 := ⟨rfl, by decide +kernel⟩
theorem dX2_lessen_47 : jj_D cX2_lessen 47 (.getfield 21) 3 50 := ⟨rfl, by decide +kernel⟩
theorem dX2_lessen_50 : jj_D cX2_lessen 50 (.iload_n 3) 1 51 := ⟨rfl, by decide +kernel⟩
theorem dX2_lessen_51 : jj_D cX2_lessen 51 (.dup2) 1 52 := ⟨rfl, by decide +kernel⟩
theorem dX2_lessen_52 : jj_D cX2_lessen 52 (.iaload) 1 53 := ⟨rfl, by decide +kernel⟩
theorem dX2_lessen_53 : jj_D cX2_lessen 53 (.aload_n 1) 1 54 := ⟨rfl, by decide +kernel⟩
theorem dX2_lessen_54 : jj_D cX2_lessen 54 (.iload_n 3) 1 55 := ⟨rfl, by decide +kernel⟩
theorem dX2_lessen_55 : jj_D cX2_lessen 55 (.invokevirtual 34) 3 58 := ⟨rfl, by decide +kernel⟩
theorem dX2_lessen_58 : jj_D cX2_lessen 58 (.iadd) 1 59 := ⟨rfl, by decide +kernel⟩
theorem dX2_lessen_59 : jj_D cX2_lessen 59 (.iastore) 1 60 := ⟨rfl, by decide +kernel⟩
theorem dX2_lessen_60 : jj_D cX2_lessen 60 (.iinc 3 1) 3 63 := ⟨rfl, by decide +kernel⟩
theorem dX2_lessen_63 : jj_D cX2_lessen 63 (.goto (-23)) 3 66 := ⟨rfl, by decide +kernel⟩
theorem dX2_lessen_66 : jj_D cX2_lessen 66 (.return_) 1 67 := ⟨rfl, by decide +kernel⟩
theorem dX2_dueOfAllSales_0 : jj_D cX2_dueOfAllSales 0 (.iconst 0) 1 1 := ⟨rfl, by decide +kernel⟩
theorem dX2_dueOfAllSales_1 : jj_D cX2_dueOfAllSales 1 (.istore_n 2) 1 2 := ⟨rfl, by decide +kernel⟩
theorem dX2_dueOfAllSales_2 : jj_D cX2_dueOfAllSales 2 (.aload_n 0) 1 3 := ⟨rfl, by decide +kernel⟩
theorem dX2_dueOfAllSales_3 : jj_D cX2_dueOfAllSales 3 (.getfield 26) 3 6 := ⟨rfl, by decide +kernel⟩
theorem dX2_dueOfAllSales_6 : jj_D cX2_dueOfAllSales 6 (.astore_n 3) 1 7 := ⟨rfl, by decide +kernel⟩
theorem dX2_dueOfAllSales_7 : jj_D cX2_dueOfAllSales 7 (.aload_n 3) 1 8 := ⟨rfl, by decide +kernel⟩
theorem dX2_dueOfAllSales_8 : jj_D cX2_dueOfAllSales 8 (.arraylength) 1 9 := ⟨rfl, by decide +kernel⟩
theorem dX2_dueOfAllSales_9 : jj_D cX2_dueOfAllSales 9 (.istore 4) 2 11 := ⟨rfl, by decide +kernel⟩
theorem dX2_dueOfAllSales_11 : jj_D cX2_dueOfAllSales 11 (.iconst 0) 1 12 := ⟨rfl, by decide +kernel⟩
theorem dX2_dueOfAllSales_12 : jj_D cX2_dueOfAllSales 12 (.istore 5) 2 14 := ⟨rfl, by decide +kernel⟩
theorem dX2_dueOfAllSales_14 : jj_D cX2_dueOfAllSales 14 (.iload 5) 2 16 := ⟨rfl, by decide +kernel⟩
theorem dX2_dueOfAllSales_16 : jj_D cX2_dueOfAllSales 16 (.iload 4) 2 18 := ⟨rfl, by decide +kernel⟩
theorem dX2_dueOfAllSales_18 : jj_D cX2_dueOfAllSales 18 (.if_icmp .ge 29) 3 21 := ⟨rfl, by decide +kernel⟩
theorem dX2_dueOfAllSales_21 : jj_D cX2_dueOfAllSales 21 (.aload_n 3) 1 22 := ⟨rfl, by decide +kernel⟩
theorem dX2_dueOfAllSales_22 : jj_D cX2_dueOfAllSales 22 (.iload 5) 2 24 := ⟨rfl, by decide +kernel⟩
theorem dX2_dueOfAllSales_24 : jj_D cX2_dueOfAllSales 24 (.aaload) 1 25 := ⟨rfl, by decide +kernel⟩
theorem dX2_dueOfAllSales_25 : jj_D cX2_dueOfAllSales 25 (.astore 6) 2 27 := ⟨rfl, by decide +kernel⟩
theorem dX2_dueOfAllSales_27 : jj_D cX2_dueOfAllSales 27 (.aload 6) 2 29 := ⟨rfl, by decide +kernel⟩
theorem dX2_dueOfAllSales_29 : jj_D cX2_dueOfAllSales 29 (.ifnull 12) 3 32 := ⟨rfl, by decide +kernel⟩
theorem dX2_dueOfAllSales_32 : jj_D cX2_dueOfAllSales 32 (.iload_n 2) 1 33 := ⟨rfl, by decide +kernel⟩
theorem dX2_dueOfAllSales_33 : jj_D cX2_dueOfAllSales 33 (.aload 6) 2 35 := ⟨rfl, by decide +kernel⟩
theorem dX2_dueOfAllSales_35 : jj_D cX2_dueOfAllSales 35 (.iload_n 1) 1 36 := ⟨rfl, by decide +kernel⟩
theorem dX2_dueOfAllSales_36 : jj_D cX2_dueOfAllSales 36 (.invokevirtual 34) 3 39 := ⟨rfl, by decide +kernel⟩
theorem dX2_dueOfAllSales_39 : jj_D cX2_dueOfAllSales 39 (.iadd) 1 40 := ⟨rfl, by decide +kernel⟩
theorem dX2_dueOfAllSales_40 : jj_D cX2_dueOfAllSales 40 (.istore_n 2) 1 41 := ⟨rfl, by decide +kernel⟩
theorem dX2_dueOfAllSales_41 : jj_D cX2_dueOfAllSales 41 (.iinc 5 1) 3 44 := ⟨rfl, by decide +kernel⟩
theorem dX2_dueOfAllSales_44 : jj_D cX2_dueOfAllSales 44 (.goto (-30)) 3 47 := ⟨rfl, by decide +kernel⟩
theorem dX2_dueOfAllSales_47 : jj_D cX2_dueOfAllSales 47 (.iload_n 2) 1 48 := ⟨rfl, by decide +kernel⟩
theorem dX2_dueOfAllSales_48 : jj_D cX2_dueOfAllSales 48 (.ireturn) 1 49 := ⟨rfl, by decide +kernel⟩
theorem dX3_init_0 : jj_D cX3_init 0 (.aload_n 0) 1 1 := ⟨rfl, by decide +kernel⟩
theorem dX3_init_1 : jj_D cX3_init 1 (.invokespecial 3) 3 4 := ⟨rfl, by decide +kernel⟩
theorem dX3_init_4 : jj_D cX3_init 4 (.aload_n 0) 1 5 := ⟨rfl, by decide +kernel⟩
theorem dX3_init_5 : jj_D cX3_init 5 (.aload_n 1) 1 6 := ⟨rfl, by decide +kernel⟩
theorem dX3_init_6 : jj_D cX3_init 6 (.putfield 9) 3 9 := ⟨rfl, by decide +kernel⟩
theorem dX3_init_9 : jj_D cX3_init 9 (.aload_n 0) 1 10 := ⟨rfl, by decide +kernel⟩
theorem dX3_init_10 : jj_D cX3_init 10 (.aload_n 2) 1 11 := ⟨rfl, by decide +kernel⟩
theorem dX3_init_11 : jj_D cX3_init 11 (.putfield 15) 3 14 := ⟨rfl, by decide +kernel⟩
theorem dX3_init_14 : jj_D cX3_init 14 (.aload_n 0) 1 15 := ⟨rfl, by decide +kernel⟩
theorem dX3_init_15 : jj_D cX3_init 15 (.aload_n 3) 1 16 := ⟨rfl, by decide +kernel⟩
theorem dX3_init_16 : jj_D cX3_init 16 (.putfield 19) 3 19 := ⟨rfl, by decide +kernel⟩
theorem dX3_init_19 : jj_D cX3_init 19 (.aload_n 0) 1 20 := ⟨rfl, by decide +kernel⟩
theorem dX3_init_20 : jj_D cX3_init 20 (.iload 4) 2 22 := ⟨rfl, by decide +kernel⟩
theorem dX3_init_22 : jj_D cX3_init 22 (.putfield 23) 3 25 := ⟨rfl, by decide +kernel⟩
theorem dX3_init_25 : jj_D cX3_init 25 (.return_) 1 26 := ⟨rfl, by decide +kernel⟩
theorem dX3_dueTo_0 : jj_D cX3_dueTo 0 (.ldc2_w 27) 3 3 := ⟨rfl, by decide +kernel⟩
theorem dX3_dueTo_3 : jj_D cX3_dueTo 3 (.aload_n 0) 1 4 := ⟨rfl, by decide +kernel⟩
theorem dX3_dueTo_4 : jj_D cX3_dueTo 4 (.getfield 9) 3 7 := ⟨rfl, by decide +kernel⟩
theorem dX3_dueTo_7 : jj_D cX3_dueTo 7 (.getfield 29) 3 10 := ⟨rfl, by decide +kernel⟩
theorem dX3_dueTo_10 : jj_D cX3_dueTo 10 (.i2l) 1 11 := ⟨rfl, by decide +kernel⟩
theorem dX3_dueTo_11 : jj_D cX3_dueTo 11 (.lmul) 1 12 := ⟨rfl, by decide +kernel⟩
theorem dX3_dueTo_12 : jj_D cX3_dueTo 12 (.lstore_n 2) 1 13 := ⟨rfl, by decide +kernel⟩
theorem dX3_dueTo_13 : jj_D cX3_dueTo 13 (.lload_n 2) 1 14 := ⟨rfl, by decide +kernel⟩
theorem dX3_dueTo_14 : jj_D cX3_dueTo 14 (.lconst 1) 1 15 := ⟨rfl, by decide +kernel⟩
theorem dX3_dueTo_15 : jj_D cX3_dueTo 15 (.lcmp) 1 16 := ⟨rfl, by decide +kernel⟩
theorem dX3_dueTo_16 : jj_D cX3_dueTo 16 (.ifCond .lt 16) 3 19 := ⟨rfl, by decide +kernel⟩
theorem dX3_dueTo_19 : jj_D cX3_dueTo 19 (.iload_n 1) 1 20 := ⟨rfl, by decide +kernel⟩
theorem dX3_dueTo_20 : jj_D cX3_dueTo 20 (.ifCond .lt 12) 3 23 := ⟨rfl, by decide +kernel⟩
theorem dX3_dueTo_23 : jj_D cX3_dueTo 23 (.iload_n 1) 1 24 := ⟨rfl, by decide +kernel⟩
theorem dX3_dueTo_24 : jj_D cX3_dueTo 24 (.aload_n 0) 1 25 := ⟨rfl, by decide +kernel⟩
theorem dX3_dueTo_25 : jj_D cX3_dueTo 25 (.getfield 19) 3 28 := ⟨rfl, by decide +kernel⟩
theorem dX3_dueTo_28 : jj_D cX3_dueTo 28 (.arraylength) 1 29 := ⟨rfl, by decide +kernel⟩
theorem dX3_dueTo_29 : jj_D cX3_dueTo 29 (.if_icmp .lt 5) 3 32 := ⟨rfl, by decide +kernel⟩
theorem dX3_dueTo_32 : jj_D cX3_dueTo 32 (.iconst 0) 1 33 := ⟨rfl, by decide +kernel⟩
theorem dX3_dueTo_33 : jj_D cX3_dueTo 33 (.ireturn) 1 34 := ⟨rfl, by decide +kernel⟩
theorem dX3_dueTo_34 : jj_D cX3_dueTo 34 (.aload_n 0) 1 35 := ⟨rfl, by decide +kernel⟩
theorem dX3_dueTo_35 : jj_D cX3_dueTo 35 (.getfield 23) 3 38 := ⟨rfl, by decide +kernel⟩
theorem dX3_dueTo_38 : jj_D cX3_dueTo 38 (.i2l) 1 39 := ⟨rfl, by decide +kernel⟩
theorem dX3_dueTo_39 : jj_D cX3_dueTo 39 (.aload_n 0) 1 40 := ⟨rfl, by decide +kernel⟩
theorem dX3_dueTo_40 : jj_D cX3_dueTo 40 (.getfield 19) 3 43 := ⟨rfl, by decide +kernel⟩
theorem dX3_dueTo_43 : jj_D cX3_dueTo 43 (.iload_n 1) 1 44 := ⟨rfl, by decide +kernel⟩
theorem dX3_dueTo_44 : jj_D cX3_dueTo 44 (.iaload) 1 45 := ⟨rfl, by decide +kernel⟩
theorem dX3_dueTo_45 : jj_D cX3_dueTo 45 (.i2l) 1 46 := ⟨rfl, by decide +kernel⟩
theorem dX3_dueTo_46 : jj_D cX3_dueTo 46 (.lmul) 1 47 := ⟨rfl, by decide +kernel⟩
theorem dX3_dueTo_47 : jj_D cX3_dueTo 47 (.aload_n 0) 1 48 := ⟨rfl, by decide +kernel⟩
theorem dX3_dueTo_48 : jj_D cX3_dueTo 48 (.getfield 9) 3 51 := ⟨rfl, by decide +kernel⟩
theorem dX3_dueTo_51 : jj_D cX3_dueTo 51 (.iload_n 1) 1 52 := ⟨rfl, by decide +kernel⟩
theorem dX3_dueTo_52 : jj_D cX3_dueTo 52 (.invokevirtual 34) 3 55 := ⟨rfl, by decide +kernel⟩
theorem dX3_dueTo_55 : jj_D cX3_dueTo 55 (.i2l) 1 56 := ⟨rfl, by decide +kernel⟩
theorem dX3_dueTo_56 : jj_D cX3_dueTo 56 (.lmul) 1 57 := ⟨rfl, by decide +kernel⟩
theorem dX3_dueTo_57 : jj_D cX3_dueTo 57 (.lload_n 2) 1 58 := ⟨rfl, by decide +kernel⟩
theorem dX3_dueTo_58 : jj_D cX3_dueTo 58 (.ldiv) 1 59 := ⟨rfl, by decide +kernel⟩
theorem dX3_dueTo_59 : jj_D cX3_dueTo 59 (.l2i) 1 60 := ⟨rfl, by decide +kernel⟩
theorem dX3_dueTo_60 : jj_D cX3_dueTo 60 (.ireturn) 1 61 := ⟨rfl, by decide +kernel⟩
theorem dX4_init_0 : jj_D cX4_init 0 (.aload_n 0) 1 1 := ⟨rfl, by decide +kernel⟩
theorem dX4_init_1 : jj_D cX4_init 1 (.invokespecial 3) 3 4 := ⟨rfl, by decide +kernel⟩
theorem dX4_init_4 : jj_D cX4_init 4 (.aload_n 0) 1 5 := ⟨rfl, by decide +kernel⟩
theorem dX4_init_5 : jj_D cX4_init 5 (.bipush 6) 2 7 := ⟨rfl, by decide +kernel⟩
theorem dX4_init_7 : jj_D cX4_init 7 (.newarray .int) 2 9 := ⟨rfl, by decide +kernel⟩
theorem dX4_init_9 : jj_D cX4_init 9 (.putfield 9) 3 12 := ⟨rfl, by decide +kernel⟩
theorem dX4_init_12 : jj_D cX4_init 12 (.aload_n 0) 1 13 := ⟨rfl, by decide +kernel⟩
theorem dX4_init_13 : jj_D cX4_init 13 (.bipush 12) 2 15 := ⟨rfl, by decide +kernel⟩
theorem dX4_init_15 : jj_D cX4_init 15 (.anewarray 15) 3 18 := ⟨rfl, by decide +kernel⟩
theorem dX4_init_18 : jj_D cX4_init 18 (.putfield 17) 3 21 := ⟨rfl, by decide +kernel⟩
theorem dX4_init_21 : jj_D cX4_init 21 (.return_) 1 22 := ⟨rfl, by decide +kernel⟩
theorem dX4_addSpan_0 : jj_D cX4_addSpan 0 (.iload_n 2) 1 1 := ⟨rfl, by decide +kernel⟩
theorem dX4_addSpan_1 : jj_D cX4_addSpan 1 (.ifCond .lt 44) 3 4 := ⟨rfl, by decide +kernel⟩
theorem dX4_addSpan_4 : jj_D cX4_addSpan 4 (.iload_n 2) 1 5 := ⟨rfl, by decide +kernel⟩
theorem dX4_addSpan_5 : jj_D cX4_addSpan 5 (.aload_n 0) 1 6 := ⟨rfl, by decide +kernel⟩
theorem dX4_addSpan_6 : jj_D cX4_addSpan 6 (.getfield 9) 3 9 := ⟨rfl, by decide +kernel⟩
theorem dX4_addSpan_9 : jj_D cX4_addSpan 9 (.arraylength) 1 10 := ⟨rfl, by decide +kernel⟩
theorem dX4_addSpan_10 : jj_D cX4_addSpan 10 (.if_icmp .ge 35) 3 13 := ⟨rfl, by decide +kernel⟩
theorem dX4_addSpan_13 : jj_D cX4_addSpan 13 (.aload_n 0) 1 14 := ⟨rfl, by decide +kernel⟩
theorem dX4_addSpan_14 : jj_D cX4_addSpan 14 (.getfield 9) 3 17 := ⟨rfl, by decide +kernel⟩
theorem dX4_addSpan_17 : jj_D cX4_addSpan 17 (.iload_n 2) 1 18 := ⟨rfl, by decide +kernel⟩
theorem dX4_addSpan_18 : jj_D cX4_addSpan 18 (.dup2) 1 19 := ⟨rfl, by decide +kernel⟩
theorem dX4_addSpan_19 : jj_D cX4_addSpan 19 (.iaload) 1 20 := ⟨rfl, by decide +kernel⟩
theorem dX4_addSpan_20 : jj_D cX4_addSpan 20 (.iload_n 3) 1 21 := ⟨rfl, by decide +kernel⟩
theorem dX4_addSpan_21 : jj_D cX4_addSpan 21 (.iadd) 1 22 := ⟨rfl, by decide +kernel⟩
theorem dX4_addSpan_22 : jj_D cX4_addSpan 22 (.iastore) 1 23 := ⟨rfl, by decide +kernel⟩
theorem dX4_addSpan_23 : jj_D cX4_addSpan 23 (.aload_n 0) 1 24 := ⟨rfl, by decide +kernel⟩
theorem dX4_addSpan_24 : jj_D cX4_addSpan 24 (.dup) 1 25 := ⟨rfl, by decide +kernel⟩
theorem dX4_addSpan_25 : jj_D cX4_addSpan 25 (.getfield 21) 3 28 := ⟨rfl, by decide +kernel⟩
theorem dX4_addSpan_28 : jj_D cX4_addSpan 28 (.iload_n 3) 1 29 := ⟨rfl, by decide +kernel⟩
theorem dX4_addSpan_29 : jj_D cX4_addSpan 29 (.iadd) 1 30 := ⟨rfl, by decide +kernel⟩
theorem dX4_addSpan_30 : jj_D cX4_addSpan 30 (.putfield 21) 3 33 := ⟨rfl, by decide +kernel⟩
theorem dX4_addSpan_33 : jj_D cX4_addSpan 33 (.aload_n 0) 1 34 := ⟨rfl, by decide +kernel⟩
theorem dX4_addSpan_34 : jj_D cX4_addSpan 34 (.dup) 1 35 := ⟨rfl, by decide +kernel⟩
theorem dX4_addSpan_35 : jj_D cX4_addSpan 35 (.getfield 25) 3 38 := ⟨rfl, by decide +kernel⟩
theorem dX4_addSpan_38 : jj_D cX4_addSpan 38 (.iconst 1) 1 39 := ⟨rfl, by decide +kernel⟩
theorem dX4_addSpan_39 : jj_D cX4_addSpan 39 (.iload_n 1) 1 40 := ⟨rfl, by decide +kernel⟩
theorem dX4_addSpan_40 : jj_D cX4_addSpan 40 (.ishl) 1 41 := ⟨rfl, by decide +kernel⟩
theorem dX4_addSpan_41 : jj_D cX4_addSpan 41 (.ior) 1 42 := ⟨rfl, by decide +kernel⟩
theorem dX4_addSpan_42 : jj_D cX4_addSpan 42 (.putfield 25) 3 45 := ⟨rfl, by decide +kernel⟩
theorem dX4_addSpan_45 : jj_D cX4_addSpan 45 (.return_) 1 46 := ⟨rfl, by decide +kernel⟩
theorem dX4_secondsOf_0 : jj_D cX4_secondsOf 0 (.iload_n 1) 1 1 := ⟨rfl, by decide +kernel⟩
theorem dX4_secondsOf_1 : jj_D cX4_secondsOf 1 (.ifCond .lt 12) 3 4 := ⟨rfl, by decide +kernel⟩
theorem dX4_secondsOf_4 : jj_D cX4_secondsOf 4 (.iload_n 1) 1 5 := ⟨rfl, by decide +kernel⟩
theorem dX4_secondsOf_5 : jj_D cX4_secondsOf 5 (.aload_n 0) 1 6 := ⟨rfl, by decide +kernel⟩
theorem dX4_secondsOf_6 : jj_D cX4_secondsOf 6 (.getfield 9) 3 9 := ⟨rfl, by decide +kernel⟩
theorem dX4_secondsOf_9 : jj_D cX4_secondsOf 9 (.arraylength) 1 10 := ⟨rfl, by decide +kernel⟩
theorem dX4_secondsOf_10 : jj_D cX4_secondsOf 10 (.if_icmp .lt 7) 3 13 := ⟨rfl, by decide +kernel⟩
theorem dX4_secondsOf_13 : jj_D cX4_secondsOf 13 (.iconst 0) 1 14 := ⟨rfl, by decide +kernel⟩
theorem dX4_secondsOf_14 : jj_D cX4_secondsOf 14 (.goto 9) 3 17 := ⟨rfl, by decide +kernel⟩
theorem dX4_secondsOf_17 : jj_D cX4_secondsOf 17 (.aload_n 0) 1 18 := ⟨rfl, by decide +kernel⟩
theorem dX4_secondsOf_18 : jj_D cX4_secondsOf 18 (.getfield 9) 3 21 := ⟨rfl, by decide +kernel⟩
theorem dX4_secondsOf_21 : jj_D cX4_secondsOf 21 (.iload_n 1) 1 22 := ⟨rfl, by decide +kernel⟩
theorem dX4_secondsOf_22 : jj_D cX4_secondsOf 22 (.iaload) 1 23 := ⟨rfl, by decide +kernel⟩
theorem dX4_secondsOf_23 : jj_D cX4_secondsOf 23 (.ireturn) 1 24 := ⟨rfl, by decide +kernel⟩
theorem dX4_stamperAt_0 : jj_D cX4_stamperAt 0 (.iload_n 1) 1 1 := ⟨rfl, by decide +kernel⟩
theorem dX4_stamperAt_1 : jj_D cX4_stamperAt 1 (.ifCond .lt 12) 3 4 := ⟨rfl, by decide +kernel⟩
theorem dX4_stamperAt_4 : jj_D cX4_stamperAt 4 (.iload_n 1) 1 5 := ⟨rfl, by decide +kernel⟩
theorem dX4_stamperAt_5 : jj_D cX4_stamperAt 5 (.aload_n 0) 1 6 := ⟨rfl, by decide +kernel⟩
theorem dX4_stamperAt_6 : jj_D cX4_stamperAt 6 (.getfield 17) 3 9 := ⟨rfl, by decide +kernel⟩
theorem dX4_stamperAt_9 : jj_D cX4_stamperAt 9 (.arraylength) 1 10 := ⟨rfl, by decide +kernel⟩
theorem dX4_stamperAt_10 : jj_D cX4_stamperAt 10 (.if_icmp .lt 7) 3 13 := ⟨rfl, by decide +kernel⟩
theorem dX4_stamperAt_13 : jj_D cX4_stamperAt 13 (.aconst_null) 1 14 := ⟨rfl, by decide +kernel⟩
theorem dX4_stamperAt_14 : jj_D cX4_stamperAt 14 (.goto 9) 3 17 := ⟨rfl, by decide +kernel⟩
theorem dX4_stamperAt_17 : jj_D cX4_stamperAt 17 (.aload_n 0) 1 18 := ⟨rfl, by decide +kernel⟩
theorem dX4_stamperAt_18 : jj_D cX4_stamperAt 18 (.getfield 17) 3 21 := ⟨rfl, by decide +kernel⟩
theorem dX4_stamperAt_21 : jj_D cX4_stamperAt 21 (.iload_n 1) 1 22 := ⟨rfl, by decide +kernel⟩
theorem dX4_stamperAt_22 : jj_D cX4_stamperAt 22 (.aaload) 1 23 := ⟨rfl, by decide +kernel⟩
theorem dX4_stamperAt_23 : jj_D cX4_stamperAt 23 (.areturn) 1 24 := ⟨rfl, by decide +kernel⟩
theorem dX4_make_0 : jj_D cX4_make 0 (.iload_n 1) 1 1 := ⟨rfl, by decide +kernel⟩
theorem dX4_make_1 : jj_D cX4_make 1 (.ifCond .lt 36) 3 4 := ⟨rfl, by decide +kernel⟩
theorem dX4_make_4 : jj_D cX4_make 4 (.iload_n 1) 1 5 := ⟨rfl, by decide +kernel⟩
theorem dX4_make_5 : jj_D cX4_make 5 (.aload_n 0) 1 6 := ⟨rfl, by decide +kernel⟩
theorem dX4_make_6 : jj_D cX4_make 6 (.getfield 17) 3 9 := ⟨rfl, by decide +kernel⟩
theorem dX4_make_9 : jj_D cX4_make 9 (.arraylength) 1 10 := ⟨rfl, by decide +kernel⟩
theorem dX4_make_10 : jj_D cX4_make 10 (.if_icmp .ge 27) 3 13 := ⟨rfl, by decide +kernel⟩
theorem dX4_make_13 : jj_D cX4_make 13 (.aload_n 0) 1 14 := ⟨rfl, by decide +kernel⟩
theorem dX4_make_14 : jj_D cX4_make 14 (.getfield 17) 3 17 := ⟨rfl, by decide +kernel⟩
theorem dX4_make_17 : jj_D cX4_make 17 (.iload_n 1) 1 18 := ⟨rfl, by decide +kernel⟩
theorem dX4_make_18 : jj_D cX4_make 18 (.new 15) 3 21 := ⟨rfl, by decide +kernel⟩
theorem dX4_make_21 : jj_D cX4_make 21 (.dup) 1 22 := ⟨rfl, by decide +kernel⟩
theorem dX4_make_22 : jj_D cX4_make 22 (.iload_n 2) 1 23 := ⟨rfl, by decide +kernel⟩
theorem dX4_make_23 : jj_D cX4_make 23 (.invokespecial 28) 3 26 := ⟨rfl, by decide +kernel⟩
theorem dX4_make_26 : jj_D cX4_make 26 (.aastore) 1 27 := ⟨rfl, by decide +kernel⟩
theorem dX4_make_27 : jj_D cX4_make 27 (.aload_n 0) 1 28 := ⟨rfl, by decide +kernel⟩
theorem dX4_make_28 : jj_D cX4_make 28 (.dup) 1 29 := ⟨rfl, by decide +kernel⟩
theorem dX4_make_29 : jj_D cX4_make 29 (.getfield 31) 3 32 := ⟨rfl, by decide +kernel⟩
theorem dX4_make_32 : jj_D cX4_make 32 (.iconst 1) 1 33 := ⟨rfl, by decide +kernel⟩
theorem dX4_make_33 : jj_D cX4_make 33 (.iadd) 1 34 := ⟨rfl, by decide +kernel⟩
theorem dX4_make_34 : jj_D cX4_make 34 (.putfield 31) 3 37 := ⟨rfl, by decide +kernel⟩
theorem dX4_make_37 : jj_D cX4_make 37 (.return_) 1 38 := ⟨rfl, by decide +kernel⟩
theorem dX4_isAnySold_0 : jj_D cX4_isAnySold 0 (.aload_n 0) 1 1 := ⟨rfl, by decide +kernel⟩
theorem dX4_isAnySold_1 : jj_D cX4_isAnySold 1 (.getfield 17) 3 4 := ⟨rfl, by decide +kernel⟩
theorem dX4_isAnySold_4 : jj_D cX4_isAnySold 4 (.astore_n 1) 1 5 := ⟨rfl, by decide +kernel⟩
theorem dX4_isAnySold_5 : jj_D cX4_isAnySold 5 (.aload_n 1) 1 6 := ⟨rfl, by decide +kernel⟩
theorem dX4_isAnySold_6 : jj_D cX4_isAnySold 6 (.arraylength) 1 7 := ⟨rfl, by decide +kernel⟩
theorem dX4_isAnySold_7 : jj_D cX4_isAnySold 7 (.istore_n 2) 1 8 := ⟨rfl, by decide +kernel⟩
theorem dX4_isAnySold_8 : jj_D cX4_isAnySold 8 (.iconst 0) 1 9 := ⟨rfl, by decide +kernel⟩
theorem dX4_isAnySold_9 : jj_D cX4_isAnySold 9 (.istore_n 3) 1 10 := ⟨rfl, by decide +kernel⟩
theorem dX4_isAnySold_10 : jj_D cX4_isAnySold 10 (.iload_n 3) 1 11 := ⟨rfl, by decide +kernel⟩
theorem dX4_isAnySold_11 : jj_D cX4_isAnySold 11 (.iload_n 2) 1 12 := ⟨rfl, by decide +kernel⟩
theorem dX4_isAnySold_12 : jj_D cX4_isAnySold 12 (.if_icmp .ge 29) 3 15 := ⟨rfl, by decide +kernel⟩
theorem dX4_isAnySold_15 : jj_D cX4_isAnySold 15 (.aload_n 1) 1 16 := ⟨rfl, by decide +kernel⟩
theorem dX4_isAnySold_16 : jj_D cX4_isAnySold 16 (.iload_n 3) 1 17 := ⟨rfl, by decide +kernel⟩
theorem dX4_isAnySold_17 : jj_D cX4_isAnySold 17 (.aaload) 1 18 := ⟨rfl, by decide +kernel⟩
theorem dX4_isAnySold_18 : jj_D cX4_isAnySold 18 (.astore 4) 2 20 := ⟨rfl, by decide +kernel⟩
theorem dX4_isAnySold_20 : jj_D cX4_isAnySold 20 (.aload 4) 2 22 := ⟨rfl, by decide +kernel⟩
theorem dX4_isAnySold_22 : jj_D cX4_isAnySold 22 (.ifnull 13) 3 25 := ⟨rfl, by decide +kernel⟩
theorem dX4_isAnySold_25 : jj_D cX4_isAnySold 25 (.aload 4) 2 27 := ⟨rfl, by decide +kernel⟩
theorem dX4_isAnySold_27 : jj_D cX4_isAnySold 27 (.invokevirtual 34) 3 30 := ⟨rfl, by decide +kernel⟩
theorem dX4_isAnySold_30 : jj_D cX4_isAnySold 30 (.ifCond .le 5) 3 33 := ⟨rfl, by decide +kernel⟩
theorem dX4_isAnySold_33 : jj_D cX4_isAnySold 33 (.iconst 1) 1 34 := ⟨rfl, by decide +kernel⟩
theorem dX4_isAnySold_34 : jj_D cX4_isAnySold 34 (.ireturn) 1 35 := ⟨rfl, by decide +kernel⟩
theorem dX4_isAnySold_35 : jj_D cX4_isAnySold 35 (.iinc 3 1) 3 38 := ⟨rfl, by decide +kernel⟩
theorem dX4_isAnySold_38 : jj_D cX4_isAnySold 38 (.goto (-28)) 3 41 := ⟨rfl, by decide +kernel⟩
theorem dX4_isAnySold_41 : jj_D cX4_isAnySold 41 (.iconst 0) 1 42 := ⟨rfl, by decide +kernel⟩
theorem dX4_isAnySold_42 : jj_D cX4_isAnySold 42 (.ireturn) 1 43 := ⟨rfl, by decide +kernel⟩
theorem dX5_init_0 : jj_D cX5_init 0 (.aload_n 0) 1 1 := ⟨rfl, by decide +kernel⟩
theorem dX5_init_1 : jj_D cX5_init 1 (.invokespecial 3) 3 4 := ⟨rfl, by decide +kernel⟩
theorem dX5_init_4 : jj_D cX5_init 4 (.aload_n 0) 1 5 := ⟨rfl, by decide +kernel⟩
theorem dX5_init_5 : jj_D cX5_init 5 (.bipush 8) 2 7 := ⟨rfl, by decide +kernel⟩
theorem dX5_init_7 : jj_D cX5_init 7 (.newarray .int) 2 9 := ⟨rfl, by decide +kernel⟩
theorem dX5_init_9 : jj_D cX5_init 9 (.putfield 9) 3 12 := ⟨rfl, by decide +kernel⟩
theorem dX5_init_12 : jj_D cX5_init 12 (.aload_n 0) 1 13 := ⟨rfl, by decide +kernel⟩
theorem dX5_init_13 : jj_D cX5_init 13 (.bipush 20) 2 15 := ⟨rfl, by decide +kernel⟩
theorem dX5_init_15 : jj_D cX5_init 15 (.newarray .int) 2 17 := ⟨rfl, by decide +kernel⟩
theorem dX5_init_17 : jj_D cX5_init 17 (.putfield 15) 3 20 := ⟨rfl, by decide +kernel⟩
theorem dX5_init_20 : jj_D cX5_init 20 (.aload_n 0) 1 21 := ⟨rfl, by decide +kernel⟩
theorem dX5_init_21 : jj_D cX5_init 21 (.bipush 20) 2 23 := ⟨rfl, by decide +kernel⟩
theorem dX5_init_23 : jj_D cX5_init 23 (.newarray .int) 2 25 := ⟨rfl, by decide +kernel⟩
theorem dX5_init_25 : jj_D cX5_init 25 (.putfield 18) 3 28 := ⟨rfl, by decide +kernel⟩
theorem dX5_init_28 : jj_D cX5_init 28 (.return_) 1 29 := ⟨rfl, by decide +kernel⟩
theorem dX5_begin_0 : jj_D cX5_begin 0 (.aload_n 0) 1 1 := ⟨rfl, by decide +kernel⟩
theorem dX5_begin_1 : jj_D cX5_begin 1 (.iconst 1) 1 2 := ⟨rfl, by decide +kernel⟩
theorem dX5_begin_2 : jj_D cX5_begin 2 (.putfield 21) 3 5 := ⟨rfl, by decide +kernel⟩
theorem dX5_begin_5 : jj_D cX5_begin 5 (.aload_n 0) 1 6 := ⟨rfl, by decide +kernel⟩
theorem dX5_begin_6 : jj_D cX5_begin 6 (.iconst 0) 1 7 := ⟨rfl, by decide +kernel⟩
theorem dX5_begin_7 : jj_D cX5_begin 7 (.putfield 25) 3 10 := ⟨rfl, by decide +kernel⟩
theorem dX5_begin_10 : jj_D cX5_begin 10 (.return_) 1 11 := ⟨rfl, by decide +kernel⟩
theorem dX5_write_0 : jj_D cX5_write 0 (.iload_n 1) 1 1 := ⟨rfl, by decide +kernel⟩
theorem dX5_write_1 : jj_D cX5_write 1 (.ifCond .lt 19) 3 4 := ⟨rfl, by decide +kernel⟩
theorem dX5_write_4 : jj_D cX5_write 4 (.iload_n 1) 1 5 := ⟨rfl, by decide +kernel⟩
theorem dX5_write_5 : jj_D cX5_write 5 (.aload_n 0) 1 6 := ⟨rfl, by decide +kernel⟩
theorem dX5_write_6 : jj_D cX5_write 6 (.getfield 9) 3 9 := ⟨rfl, by decide +kernel⟩
theorem dX5_write_9 : jj_D cX5_write 9 (.arraylength) 1 10 := ⟨rfl, by decide +kernel⟩
theorem dX5_write_10 : jj_D cX5_write 10 (.if_icmp .ge 10) 3 13 := ⟨rfl, by decide +kernel⟩
theorem dX5_write_13 : jj_D cX5_write 13 (.aload_n 0) 1 14 := ⟨rfl, by decide +kernel⟩
theorem dX5_write_14 : jj_D cX5_write 14 (.getfield 9) 3 17 := ⟨rfl, by decide +kernel⟩
theorem dX5_write_17 : jj_D cX5_write 17 (.iload_n 1) 1 18 := ⟨rfl, by decide +kernel⟩
theorem dX5_write_18 : jj_D cX5_write 18 (.iload_n 2) 1 19 := ⟨rfl, by decide +kernel⟩
theorem dX5_write_19 : jj_D cX5_write 19 (.iastore) 1 20 := ⟨rfl, by decide +kernel⟩
theorem dX5_write_20 : jj_D cX5_write 20 (.return_) 1 21 := ⟨rfl, by decide +kernel⟩
theorem dX5_noiseOf_0 : jj_D cX5_noiseOf 0 (.iload_n 1) 1 1 := ⟨rfl, by decide +kernel⟩
theorem dX5_noiseOf_1 : jj_D cX5_noiseOf 1 (.ifCond .lt 12) 3 4 := ⟨rfl, by decide +kernel⟩
theorem dX5_noiseOf_4 : jj_D cX5_noiseOf 4 (.iload_n 1) 1 5 := ⟨rfl, by decide +kernel⟩
theorem dX5_noiseOf_5 : jj_D cX5_noiseOf 5 (.aload_n 0) 1 6 := ⟨rfl, by decide +kernel⟩
theorem dX5_noiseOf_6 : jj_D cX5_noiseOf 6 (.getfield 9) 3 9 := ⟨rfl, by decide +kernel⟩
theorem dX5_noiseOf_9 : jj_D cX5_noiseOf 9 (.arraylength) 1 10 := ⟨rfl, by decide +kernel⟩
theorem dX5_noiseOf_10 : jj_D cX5_noiseOf 10 (.if_icmp .lt 7) 3 13 := ⟨rfl, by decide +kernel⟩
theorem dX5_noiseOf_13 : jj_D cX5_noiseOf 13 (.iconst (-1)) 1 14 := ⟨rfl, by decide +kernel⟩
theorem dX5_noiseOf_14 : jj_D cX5_noiseOf 14 (.goto 9) 3 17 := ⟨rfl, by decide +kernel⟩
theorem dX5_noiseOf_17 : jj_D cX5_noiseOf 17 (.aload_n 0) 1 18 := ⟨rfl, by decide +kernel⟩
theorem dX5_noiseOf_18 : jj_D cX5_noiseOf 18 (.getfield 9) 3 21 := ⟨rfl, by decide +kernel⟩
theorem dX5_noiseOf_21 : jj_D cX5_noiseOf 21 (.iload_n 1) 1 22 := ⟨rfl, by decide +kernel⟩
theorem dX5_noiseOf_22 : jj_D cX5_noiseOf 22 (.iaload) 1 23 := ⟨rfl, by decide +kernel⟩
theorem dX5_noiseOf_23 : jj_D cX5_noiseOf 23 (.ireturn) 1 24 := ⟨rfl, by decide +kernel⟩
theorem dX5_halve_0 : jj_D cX5_halve 0 (.aload_n 0) 1 1 := ⟨rfl, by decide +kernel⟩
theorem dX5_halve_1 : jj_D cX5_halve 1 (.iload_n 1) 1 2 := ⟨rfl, by decide +kernel⟩
theorem dX5_halve_2 : jj_D cX5_halve 2 (.invokevirtual 29) 3 5 := ⟨rfl, by decide +kernel⟩
theorem dX5_halve_5 : jj_D cX5_halve 5 (.istore_n 2) 1 6 := ⟨rfl, by decide +kernel⟩
theorem dX5_halve_6 : jj_D cX5_halve 6 (.aload_n 0) 1 7 := ⟨rfl, by decide +kernel⟩
theorem dX5_halve_7 : jj_D cX5_halve 7 (.getfield 25) 3 10 := ⟨rfl, by decide +kernel⟩
theorem dX5_halve_10 : jj_D cX5_halve 10 (.ifCond .lt 50) 3 13 := ⟨rfl, by decide +kernel⟩
theorem dX5_halve_13 : jj_D cX5_halve 13 (.aload_n 0) 1 14 := ⟨rfl, by decide +kernel⟩
theorem dX5_halve_14 : jj_D cX5_halve 14 (.getfield 25) 3 17 := ⟨rfl, by decide +kernel⟩
theorem dX5_halve_17 : jj_D cX5_halve 17 (.bipush 20) 2 19 := ⟨rfl, by decide +kernel⟩
theorem dX5_halve_19 : jj_D cX5_halve 19 (.if_icmp .ge 41) 3 22 := ⟨rfl, by decide +kernel⟩
theorem dX5_halve_22 : jj_D cX5_halve 22 (.aload_n 0) 1 23 := ⟨rfl, by decide +kernel⟩
theorem dX5_halve_23 : jj_D cX5_halve 23 (.getfield 15) 3 26 := ⟨rfl, by decide +kernel⟩
theorem dX5_halve_26 : jj_D cX5_halve 26 (.aload_n 0) 1 27 := ⟨rfl, by decide +kernel⟩
theorem dX5_halve_27 : jj_D cX5_halve 27 (.getfield 25) 3 30 := ⟨rfl, by decide +kernel⟩
theorem dX5_halve_30 : jj_D cX5_halve 30 (.iload_n 1) 1 31 := ⟨rfl, by decide +kernel⟩
theorem dX5_halve_31 : jj_D cX5_halve 31 (.iastore) 1 32 := ⟨rfl, by decide +kernel⟩
theorem dX5_halve_32 : jj_D cX5_halve 32 (.aload_n 0) 1 33 := ⟨rfl, by decide +kernel⟩
theorem dX5_halve_33 : jj_D cX5_halve 33 (.getfield 18) 3 36 := ⟨rfl, by decide +kernel⟩
theorem dX5_halve_36 : jj_D cX5_halve 36 (.aload_n 0) 1 37 := ⟨rfl, by decide +kernel⟩
theorem dX5_halve_37 : jj_D cX5_halve 37 (.getfield 25) 3 40 := ⟨rfl, by decide +kernel⟩
theorem dX5_halve_40 : jj_D cX5_halve 40 (.iload_n 2) 1 41 := ⟨rfl, by decide +kernel⟩
theorem dX5_halve_41 : jj_D cX5_halve 41 (.iastore) 1 42 := ⟨rfl, by decide +kernel⟩
theorem dX5_halve_42 : jj_D cX5_halve 42 (.aload_n 0) 1 43 := ⟨rfl, by decide +kernel⟩
theorem dX5_halve_43 : jj_D cX5_halve 43 (.dup) 1 44 := ⟨rfl, by decide +kernel⟩
theorem dX5_halve_44 : jj_D cX5_halve 44 (.getfield 25) 3 47 := ⟨rfl, by decide +kernel⟩
theorem dX5_halve_47 : jj_D cX5_halve 47 (.iconst 1) 1 48 := ⟨rfl, by decide +kernel⟩
theorem dX5_halve_48 : jj_D cX5_halve 48 (.iadd) 1 49 := ⟨rfl, by decide +kernel⟩
theorem dX5_halve_49 : jj_D cX5_halve 49 (.putfield 25) 3 52 := ⟨rfl, by decide +kernel⟩
theorem dX5_halve_52 : jj_D cX5_halve 52 (.aload_n 0) 1 53 := ⟨rfl, by decide +kernel⟩
theorem dX5_halve_53 : jj_D cX5_halve 53 (.iload_n 1) 1 54 := ⟨rfl, by decide +kernel⟩
theorem dX5_halve_54 : jj_D cX5_halve 54 (.iload_n 2) 1 55 := ⟨rfl, by decide +kernel⟩
theorem dX5_halve_55 : jj_D cX5_halve 55 (.iconst 2) 1 56 := ⟨rfl, by decide +kernel⟩
theorem dX5_halve_56 : jj_D cX5_halve 56 (.idiv) 1 57 := ⟨rfl, by decide +kernel⟩
theorem dX5_halve_57 : jj_D cX5_halve 57 (.invokevirtual 33) 3 60 := ⟨rfl, by decide +kernel⟩
theorem dX5_halve_60 : jj_D cX5_halve 60 (.aload_n 0) 1 61 := ⟨rfl, by decide +kernel⟩
theorem dX5_halve_61 : jj_D cX5_halve 61 (.iload_n 1) 1 62 := ⟨rfl, by decide +kernel⟩
theorem dX5_halve_62 : jj_D cX5_halve 62 (.invokevirtual 29) 3 65 := ⟨rfl, by decide +kernel⟩
theorem dX5_halve_65 : jj_D cX5_halve 65 (.ireturn) 1 66 := ⟨rfl, by decide +kernel⟩
theorem dX5_takeBackLatest_0 : jj_D cX5_takeBackLatest 0 (.aload_n 0) 1 1 := ⟨rfl, by decide +kernel⟩
theorem dX5_takeBackLatest_1 : jj_D cX5_takeBackLatest 1 (.getfield 25) 3 4 := ⟨rfl, by decide +kernel⟩
theorem dX5_takeBackLatest_4 : jj_D cX5_takeBackLatest 4 (.iconst 1) 1 5 := ⟨rfl, by decide +kernel⟩
theorem dX5_takeBackLatest_5 : jj_D cX5_takeBackLatest 5 (.isub) 1 6 := ⟨rfl, by decide +kernel⟩
theorem dX5_takeBackLatest_6 : jj_D cX5_takeBackLatest 6 (.istore_n 1) 1 7 := ⟨rfl, by decide +kernel⟩
theorem dX5_takeBackLatest_7 : jj_D cX5_takeBackLatest 7 (.iload_n 1) 1 8 := ⟨rfl, by decide +kernel⟩
theorem dX5_takeBackLatest_8 : jj_D cX5_takeBackLatest 8 (.ifCond .lt 9) 3 11 := ⟨rfl, by decide +kernel⟩
theorem dX5_takeBackLatest_11 : jj_D cX5_takeBackLatest 11 (.iload_n 1) 1 12 := ⟨rfl, by decide +kernel⟩
theorem dX5_takeBackLatest_12 : jj_D cX5_takeBackLatest 12 (.bipush 20) 2 14 := ⟨rfl, by decide +kernel⟩
theorem dX5_takeBackLatest_14 : jj_D cX5_takeBackLatest 14 (.if_icmp .lt 5) 3 17 := ⟨rfl, by decide +kernel⟩
theorem dX5_takeBackLatest_17 : jj_D cX5_takeBackLatest 17 (.iconst (-1)) 1 18 := ⟨rfl, by decide +kernel⟩
theorem dX5_takeBackLatest_18 : jj_D cX5_takeBackLatest 18 (.ireturn) 1 19 := ⟨rfl, by decide +kernel⟩
theorem dX5_takeBackLatest_19 : jj_D cX5_takeBackLatest 19 (.aload_n 0) 1 20 := ⟨rfl, by decide +kernel⟩
theorem dX5_takeBackLatest_20 : jj_D cX5_takeBackLatest 20 (.iload_n 1) 1 21 := ⟨rfl, by decide +kernel⟩
theorem dX5_takeBackLatest_21 : jj_D cX5_takeBackLatest 21 (.putfield 25) 3 24 := ⟨rfl, by decide +kernel⟩
theorem dX5_takeBackLatest_24 : jj_D cX5_takeBackLatest 24 (.aload_n 0) 1 25 := ⟨rfl, by decide +kernel⟩
theorem dX5_takeBackLatest_25 : jj_D cX5_takeBackLatest 25 (.aload_n 0) 1 26 := ⟨rfl, by decide +kernel⟩
theorem dX5_takeBackLatest_26 : jj_D cX5_takeBackLatest 26 (.getfield 15) 3 29 := ⟨rfl, by decide +kernel⟩
theorem dX5_takeBackLatest_29 : jj_D cX5_takeBackLatest 29 (.iload_n 1) 1 30 := ⟨rfl, by decide +kernel⟩
theorem dX5_takeBackLatest_30 : jj_D cX5_takeBackLatest 30 (.iaload) 1 31 := ⟨rfl, by decide +kernel⟩
theorem dX5_takeBackLatest_31 : jj_D cX5_takeBackLatest 31 (.aload_n 0) 1 32 := ⟨rfl, by decide +kernel⟩
theorem dX5_takeBackLatest_32 : jj_D cX5_takeBackLatest 32 (.getfield 18) 3 35 := ⟨rfl, by decide +kernel⟩
theorem dX5_takeBackLatest_35 : jj_D cX5_takeBackLatest 35 (.iload_n 1) 1 36 := ⟨rfl, by decide +kernel⟩
theorem dX5_takeBackLatest_36 : jj_D cX5_takeBackLatest 36 (.iaload) 1 37 := ⟨rfl, by decide +kernel⟩
theorem dX5_takeBackLatest_37 : jj_D cX5_takeBackLatest 37 (.invokevirtual 33) 3 40 := ⟨rfl, by decide +kernel⟩
theorem dX5_takeBackLatest_40 : jj_D cX5_takeBackLatest 40 (.aload_n 0) 1 41 := ⟨rfl, by decide +kernel⟩
theorem dX5_takeBackLatest_41 : jj_D cX5_takeBackLatest 41 (.getfield 15) 3 44 := ⟨rfl, by decide +kernel⟩
theorem dX5_takeBackLatest_44 : jj_D cX5_takeBackLatest 44 (.iload_n 1) 1 45 := ⟨rfl, by decide +kernel⟩
theorem dX5_takeBackLatest_45 : jj_D cX5_takeBackLatest 45 (.iaload) 1 46 := ⟨rfl, by decide +kernel⟩
theorem dX5_takeBackLatest_46 : jj_D cX5_takeBackLatest 46 (.ireturn) 1 47 := ⟨rfl, by decide +kernel⟩
theorem dX6_init_0 : jj_D cX6_init 0 (.aload_n 0) 1 1 := ⟨rfl, by decide +kernel⟩
theorem dX6_init_1 : jj_D cX6_init 1 (.invokespecial 3) 3 4 := ⟨rfl, by decide +kernel⟩
theorem dX6_init_4 : jj_D cX6_init 4 (.aload_n 0) 1 5 := ⟨rfl, by decide +kernel⟩
theorem dX6_init_5 : jj_D cX6_init 5 (.iconst (-1)) 1 6 := ⟨rfl, by decide +kernel⟩
theorem dX6_init_6 : jj_D cX6_init 6 (.putfield 9) 3 9 := ⟨rfl, by decide +kernel⟩
theorem dX6_init_9 : jj_D cX6_init 9 (.aload_n 0) 1 10 := ⟨rfl, by decide +kernel⟩
theorem dX6_init_10 : jj_D cX6_init 10 (.iconst (-1)) 1 11 := ⟨rfl, by decide +kernel⟩
theorem dX6_init_11 : jj_D cX6_init 11 (.putfield 15) 3 14 := ⟨rfl, by decide +kernel⟩
theorem dX6_init_14 : jj_D cX6_init 14 (.aload_n 0) 1 15 := ⟨rfl, by decide +kernel⟩
theorem dX6_init_15 : jj_D cX6_init 15 (.iload_n 1) 1 16 := ⟨rfl, by decide +kernel⟩
theorem dX6_init_16 : jj_D cX6_init 16 (.putfield 18) 3 19 := ⟨rfl, by decide +kernel⟩
theorem dX6_init_19 : jj_D cX6_init 19 (.return_) 1 20 := ⟨rfl, by decide +kernel⟩
theorem dX6_neverSold_0 : jj_D cX6_neverSold 0 (.aload_n 0) 1 1 := ⟨rfl, by decide +kernel⟩
theorem dX6_neverSold_1 : jj_D cX6_neverSold 1 (.getfield 21) 3 4 := ⟨rfl, by decide +kernel⟩
theorem dX6_neverSold_4 : jj_D cX6_neverSold 4 (.aload_n 0) 1 5 := ⟨rfl, by decide +kernel⟩
theorem dX6_neverSold_5 : jj_D cX6_neverSold 5 (.getfield 24) 3 8 := ⟨rfl, by decide +kernel⟩
theorem dX6_neverSold_8 : jj_D cX6_neverSold 8 (.isub) 1 9 := ⟨rfl, by decide +kernel⟩
theorem dX6_neverSold_9 : jj_D cX6_neverSold 9 (.ireturn) 1 10 := ⟨rfl, by decide +kernel⟩
theorem dX6_stillSold_0 : jj_D cX6_stillSold 0 (.aload_n 0) 1 1 := ⟨rfl, by decide +kernel⟩
theorem dX6_stillSold_1 : jj_D cX6_stillSold 1 (.getfield 24) 3 4 := ⟨rfl, by decide +kernel⟩
theorem dX6_stillSold_4 : jj_D cX6_stillSold 4 (.aload_n 0) 1 5 := ⟨rfl, by decide +kernel⟩
theorem dX6_stillSold_5 : jj_D cX6_stillSold 5 (.getfield 27) 3 8 := ⟨rfl, by decide +kernel⟩
theorem dX6_stillSold_8 : jj_D cX6_stillSold 8 (.isub) 1 9 := ⟨rfl, by decide +kernel⟩
theorem dX6_stillSold_9 : jj_D cX6_stillSold 9 (.ireturn) 1 10 := ⟨rfl, by decide +kernel⟩
theorem dX6_unnamed_0 : jj_D cX6_unnamed 0 (.aload_n 0) 1 1 := ⟨rfl, by decide +kernel⟩
theorem dX6_unnamed_1 : jj_D cX6_unnamed 1 (.invokevirtual 30) 3 4 := ⟨rfl, by decide +kernel⟩
theorem dX6_unnamed_4 : jj_D cX6_unnamed 4 (.aload_n 0) 1 5 := ⟨rfl, by decide +kernel⟩
theorem dX6_unnamed_5 : jj_D cX6_unnamed 5 (.getfield 34) 3 8 := ⟨rfl, by decide +kernel⟩
theorem dX6_unnamed_8 : jj_D cX6_unnamed 8 (.isub) 1 9 := ⟨rfl, by decide +kernel⟩
theorem dX6_unnamed_9 : jj_D cX6_unnamed 9 (.ireturn) 1 10 := ⟨rfl, by decide +kernel⟩
theorem dX7_init_0 : jj_D cX7_init 0 (.aload_n 0) 1 1 := ⟨rfl, by decide +kernel⟩
theorem dX7_init_1 : jj_D cX7_init 1 (.invokespecial 3) 3 4 := ⟨rfl, by decide +kernel⟩
theorem dX7_init_4 : jj_D cX7_init 4 (.aload_n 0) 1 5 := ⟨rfl, by decide +kernel⟩
theorem dX7_init_5 : jj_D cX7_init 5 (.bipush 20) 2 7 := ⟨rfl, by decide +kernel⟩
theorem dX7_init_7 : jj_D cX7_init 7 (.newarray .int) 2 9 := ⟨rfl, by decide +kernel⟩
theorem dX7_init_9 : jj_D cX7_init 9 (.putfield 9) 3 12 := ⟨rfl, by decide +kernel⟩
theorem dX7_init_12 : jj_D cX7_init 12 (.aload_n 0) 1 13 := ⟨rfl, by decide +kernel⟩
theorem dX7_init_13 : jj_D cX7_init 13 (.bipush 20) 2 15 := ⟨rfl, by decide +kernel⟩
theorem dX7_init_15 : jj_D cX7_init 15 (.newarray .int) 2 17 := ⟨rfl, by decide +kernel⟩
theorem dX7_init_17 : jj_D cX7_init 17 (.putfield 15) 3 20 := ⟨rfl, by decide +kernel⟩
theorem dX7_init_20 : jj_D cX7_init 20 (.aload_n 0) 1 21 := ⟨rfl, by decide +kernel⟩
theorem dX7_init_21 : jj_D cX7_init 21 (.bipush 20) 2 23 := ⟨rfl, by decide +kernel⟩
theorem dX7_init_23 : jj_D cX7_init 23 (.newarray .int) 2 25 := ⟨rfl, by decide +kernel⟩
theorem dX7_init_25 : jj_D cX7_init 25 (.putfield 18) 3 28 := ⟨rfl, by decide +kernel⟩
theorem dX7_init_28 : jj_D cX7_init 28 (.aload_n 0) 1 29 := ⟨rfl, by decide +kernel⟩
theorem dX7_init_29 : jj_D cX7_init 29 (.iconst 0) 1 30 := ⟨rfl, by decide +kernel⟩
theorem dX7_init_30 : jj_D cX7_init 30 (.putfield 21) 3 33 := ⟨rfl, by decide +kernel⟩
theorem dX7_init_33 : jj_D cX7_init 33 (.aload_n 0) 1 34 := ⟨rfl, by decide +kernel⟩
theorem dX7_init_34 : jj_D cX7_init 34 (.iload_n 1) 1 35 := ⟨rfl, by decide +kernel⟩
theorem dX7_init_35 : jj_D cX7_init 35 (.putfield 25) 3 38 := ⟨rfl, by decide +kernel⟩
theorem dX7_init_38 : jj_D cX7_init 38 (.aload_n 0) 1 39 := ⟨rfl, by decide +kernel⟩
theorem dX7_init_39 : jj_D cX7_init 39 (.iload_n 2) 1 40 := ⟨rfl, by decide +kernel⟩
theorem dX7_init_40 : jj_D cX7_init 40 (.putfield 28) 3 43 := ⟨rfl, by decide +kernel⟩
theorem dX7_init_43 : jj_D cX7_init 43 (.aload_n 0) 1 44 := ⟨rfl, by decide +kernel⟩
theorem dX7_init_44 : jj_D cX7_init 44 (.iload_n 3) 1 45 := ⟨rfl, by decide +kernel⟩
theorem dX7_init_45 : jj_D cX7_init 45 (.putfield 31) 3 48 := ⟨rfl, by decide +kernel⟩
theorem dX7_init_48 : jj_D cX7_init 48 (.aload_n 0) 1 49 := ⟨rfl, by decide +kernel⟩
theorem dX7_init_49 : jj_D cX7_init 49 (.iconst 0) 1 50 := ⟨rfl, by decide +kernel⟩
theorem dX7_init_50 : jj_D cX7_init 50 (.putfield 34) 3 53 := ⟨rfl, by decide +kernel⟩
theorem dX7_init_53 : jj_D cX7_init 53 (.aload_n 0) 1 54 := ⟨rfl, by decide +kernel⟩
theorem dX7_init_54 : jj_D cX7_init 54 (.aconst_null) 1 55 := ⟨rfl, by decide +kernel⟩
theorem dX7_init_55 : jj_D cX7_init 55 (.putfield 37) 3 58 := ⟨rfl, by decide +kernel⟩
theorem dX7_init_58 : jj_D cX7_init 58 (.aload_n 0) 1 59 := ⟨rfl, by decide +kernel⟩
theorem dX7_init_59 : jj_D cX7_init 59 (.iconst 0) 1 60 := ⟨rfl, by decide +kernel⟩
theorem dX7_init_60 : jj_D cX7_init 60 (.putfield 41) 3 63 := ⟨rfl, by decide +kernel⟩
theorem dX7_init_63 : jj_D cX7_init 63 (.aload_n 0) 1 64 := ⟨rfl, by decide +kernel⟩
theorem dX7_init_64 : jj_D cX7_init 64 (.iconst 0) 1 65 := ⟨rfl, by decide +kernel⟩
theorem dX7_init_65 : jj_D cX7_init 65 (.putfield 44) 3 68 := ⟨rfl, by decide +kernel⟩
theorem dX7_init_68 : jj_D cX7_init 68 (.aload_n 0) 1 69 := ⟨rfl, by decide +kernel⟩
theorem dX7_init_69 : jj_D cX7_init 69 (.aconst_null) 1 70 := ⟨rfl, by decide +kernel⟩
theorem dX7_init_70 : jj_D cX7_init 70 (.putfield 47) 3 73 := ⟨rfl, by decide +kernel⟩
theorem dX7_init_73 : jj_D cX7_init 73 (.aload_n 0) 1 74 := ⟨rfl, by decide +kernel⟩
theorem dX7_init_74 : jj_D cX7_init 74 (.iload_n 1) 1 75 := ⟨rfl, by decide +kernel⟩
theorem dX7_init_75 : jj_D cX7_init 75 (.iconst 0) 1 76 := ⟨rfl, by decide +kernel⟩
theorem dX7_init_76 : jj_D cX7_init 76 (.iload 4) 2 78 := ⟨rfl, by decide +kernel⟩
theorem dX7_init_78 : jj_D cX7_init 78 (.invokevirtual 50) 3 81 := ⟨rfl, by decide +kernel⟩
theorem dX7_init_81 : jj_D cX7_init 81 (.return_) 1 82 := ⟨rfl, by decide +kernel⟩
theorem dX7_init__0 : jj_D cX7_init_ 0 (.aload_n 0) 1 1 := ⟨rfl, by decide +kernel⟩
theorem dX7_init__1 : jj_D cX7_init_ 1 (.invokespecial 3) 3 4 := ⟨rfl, by decide +kernel⟩
theorem dX7_init__4 : jj_D cX7_init_ 4 (.aload_n 0) 1 5 := ⟨rfl, by decide +kernel⟩
theorem dX7_init__5 : jj_D cX7_init_ 5 (.bipush 20) 2 7 := ⟨rfl, by decide +kernel⟩
theorem dX7_init__7 : jj_D cX7_init_ 7 (.newarray .int) 2 9 := ⟨rfl, by decide +kernel⟩
theorem dX7_init__9 : jj_D cX7_init_ 9 (.putfield 9) 3 12 := ⟨rfl, by decide +kernel⟩
theorem dX7_init__12 : jj_D cX7_init_ 12 (.aload_n 0) 1 13 := ⟨rfl, by decide +kernel⟩
theorem dX7_init__13 : jj_D cX7_init_ 13 (.bipush 20) 2 15 := ⟨rfl, by decide +kernel⟩
theorem dX7_init__15 : jj_D cX7_init_ 15 (.newarray .int) 2 17 := ⟨rfl, by decide +kernel⟩
theorem dX7_init__17 : jj_D cX7_init_ 17 (.putfield 15) 3 20 := ⟨rfl, by decide +kernel⟩
theorem dX7_init__20 : jj_D cX7_init_ 20 (.aload_n 0) 1 21 := ⟨rfl, by decide +kernel⟩
theorem dX7_init__21 : jj_D cX7_init_ 21 (.bipush 20) 2 23 := ⟨rfl, by decide +kernel⟩
theorem dX7_init__23 : jj_D cX7_init_ 23 (.newarray .int) 2 25 := ⟨rfl, by decide +kernel⟩
theorem dX7_init__25 : jj_D cX7_init_ 25 (.putfield 18) 3 28 := ⟨rfl, by decide +kernel⟩
theorem dX7_init__28 : jj_D cX7_init_ 28 (.aload_n 0) 1 29 := ⟨rfl, by decide +kernel⟩
theorem dX7_init__29 : jj_D cX7_init_ 29 (.iconst 0) 1 30 := ⟨rfl, by decide +kernel⟩
theorem dX7_init__30 : jj_D cX7_init_ 30 (.putfield 21) 3 33 := ⟨rfl, by decide +kernel⟩
theorem dX7_init__33 : jj_D cX7_init_ 33 (.aload_n 0) 1 34 := ⟨rfl, by decide +kernel⟩
theorem dX7_init__34 : jj_D cX7_init_ 34 (.iload_n 1) 1 35 := ⟨rfl, by decide +kernel⟩
theorem dX7_init__35 : jj_D cX7_init_ 35 (.putfield 25) 3 38 := ⟨rfl, by decide +kernel⟩
theorem dX7_init__38 : jj_D cX7_init_ 38 (.aload_n 0) 1 39 := ⟨rfl, by decide +kernel⟩
theorem dX7_init__39 : jj_D cX7_init_ 39 (.iload_n 2) 1 40 := ⟨rfl, by decide +kernel⟩
theorem dX7_init__40 : jj_D cX7_init_ 40 (.putfield 28) 3 43 := ⟨rfl, by decide +kernel⟩
theorem dX7_init__43 : jj_D cX7_init_ 43 (.aload_n 0) 1 44 := ⟨rfl, by decide +kernel⟩
theorem dX7_init__44 : jj_D cX7_init_ 44 (.iconst (-1)) 1 45 := ⟨rfl, by decide +kernel⟩
theorem dX7_init__45 : jj_D cX7_init_ 45 (.putfield 31) 3 48 := ⟨rfl, by decide +kernel⟩
theorem dX7_init__48 : jj_D cX7_init_ 48 (.aload 6) 2 50 := ⟨rfl, by decide +kernel⟩
theorem dX7_init__50 : jj_D cX7_init_ 50 (.ifnonnull 7) 3 53 := ⟨rfl, by decide +kernel⟩
theorem dX7_init__53 : jj_D cX7_init_ 53 (.iconst 0) 1 54 := ⟨rfl, by decide +kernel⟩
theorem dX7_init__54 : jj_D cX7_init_ 54 (.goto 8) 3 57 := ⟨rfl, by decide +kernel⟩
theorem dX7_init__57 : jj_D cX7_init_ 57 (.aload 6) 2 59 := ⟨rfl, by decide +kernel⟩
theorem dX7_init__59 : jj_D cX7_init_ 59 (.getfield 34) 3 62 := ⟨rfl, by decide +kernel⟩
theorem dX7_init__62 : jj_D cX7_init_ 62 (.istore 7) 2 64 := ⟨rfl, by decide +kernel⟩
theorem dX7_init__64 : jj_D cX7_init_ 64 (.aload_n 0) 1 65 := ⟨rfl, by decide +kernel⟩
theorem dX7_init__65 : jj_D cX7_init_ 65 (.aload_n 3) 1 66 := ⟨rfl, by decide +kernel⟩
theorem dX7_init__66 : jj_D cX7_init_ 66 (.getfield 34) 3 69 := ⟨rfl, by decide +kernel⟩
theorem dX7_init__69 : jj_D cX7_init_ 69 (.iload 7) 2 71 := ⟨rfl, by decide +kernel⟩
theorem dX7_init__71 : jj_D cX7_init_ 71 (.invokestatic 54) 3 74 := ⟨rfl, by decide +kernel⟩
theorem dX7_init__74 : jj_D cX7_init_ 74 (.iconst 1) 1 75 := ⟨rfl, by decide +kernel⟩
theorem dX7_init__75 : jj_D cX7_init_ 75 (.iadd) 1 76 := ⟨rfl, by decide +kernel⟩
theorem dX7_init__76 : jj_D cX7_init_ 76 (.putfield 34) 3 79 := ⟨rfl, by decide +kernel⟩
theorem dX7_init__79 : jj_D cX7_init_ 79 (.aload_n 0) 1 80 := ⟨rfl, by decide +kernel⟩
theorem dX7_init__80 : jj_D cX7_init_ 80 (.aload_n 3) 1 81 := ⟨rfl, by decide +kernel⟩
theorem dX7_init__81 : jj_D cX7_init_ 81 (.putfield 37) 3 84 := ⟨rfl, by decide +kernel⟩
theorem dX7_init__84 : jj_D cX7_init_ 84 (.aload_n 0) 1 85 := ⟨rfl, by decide +kernel⟩
theorem dX7_init__85 : jj_D cX7_init_ 85 (.iload 4) 2 87 := ⟨rfl, by decide +kernel⟩
theorem dX7_init__87 : jj_D cX7_init_ 87 (.putfield 41) 3 90 := ⟨rfl, by decide +kernel⟩
theorem dX7_init__90 : jj_D cX7_init_ 90 (.aload_n 0) 1 91 := ⟨rfl, by decide +kernel⟩
theorem dX7_init__91 : jj_D cX7_init_ 91 (.iload 5) 2 93 := ⟨rfl, by decide +kernel⟩
theorem dX7_init__93 : jj_D cX7_init_ 93 (.putfield 44) 3 96 := ⟨rfl, by decide +kernel⟩
theorem dX7_init__96 : jj_D cX7_init_ 96 (.aload_n 0) 1 97 := ⟨rfl, by decide +kernel⟩
theorem dX7_init__97 : jj_D cX7_init_ 97 (.aload 6) 2 99 := ⟨rfl, by decide +kernel⟩
theorem dX7_init__99 : jj_D cX7_init_ 99 (.putfield 47) 3 102 := ⟨rfl, by decide +kernel⟩
theorem dX7_init__102 : jj_D cX7_init_ 102 (.aload_n 0) 1 103 := ⟨rfl, by decide +kernel⟩
theorem dX7_init__103 : jj_D cX7_init_ 103 (.aload_n 3) 1 104 := ⟨rfl, by decide +kernel⟩
theorem dX7_init__104 : jj_D cX7_init_ 104 (.iload 4) 2 106 := ⟨rfl, by decide +kernel⟩
theorem dX7_init__106 : jj_D cX7_init_ 106 (.iload 5) 2 108 := ⟨rfl, by decide +kernel⟩
theorem dX7_init__108 : jj_D cX7_init_ 108 (.invokevirtual 60) 3 111 := ⟨rfl, by decide +kernel⟩
theorem dX7_init__111 : jj_D cX7_init_ 111 (.aload 6) 2 113 := ⟨rfl, by decide +kernel⟩
theorem dX7_init__113 : jj_D cX7_init_ 113 (.ifnull 15) 3 116 := ⟨rfl, by decide +kernel⟩
theorem dX7_init__116 : jj_D cX7_init_ 116 (.aload_n 0) 1 117 := ⟨rfl, by decide +kernel⟩
theorem dX7_init__117 : jj_D cX7_init_ 117 (.aload 6) 2 119 := ⟨rfl, by decide +kernel⟩
theorem dX7_init__119 : jj_D cX7_init_ 119 (.iconst 0) 1 120 := ⟨rfl, by decide +kernel⟩
theorem dX7_init__120 : jj_D cX7_init_ 120 (.aload 6) 2 122 := ⟨rfl, by decide +kernel⟩
theorem dX7_init__122 : jj_D cX7_init_ 122 (.getfield 64) 3 125 := ⟨rfl, by decide +kernel⟩
theorem dX7_init__125 : jj_D cX7_init_ 125 (.invokevirtual 60) 3 128 := ⟨rfl, by decide +kernel⟩
theorem dX7_init__128 : jj_D cX7_init_ 128 (.return_) 1 129 := ⟨rfl, by decide +kernel⟩
theorem dX7_isPlayable_0 : jj_D cX7_isPlayable 0 (.aload_n 0) 1 1 := ⟨rfl, by decide +kernel⟩
theorem dX7_isPlayable_1 : jj_D cX7_isPlayable 1 (.getfield 21) 3 4 := ⟨rfl, by decide +kernel⟩
theorem dX7_isPlayable_4 : jj_D cX7_isPlayable 4 (.ifCond .eq 22) 3 7 := ⟨rfl, by decide +kernel⟩
theorem dX7_isPlayable_7 : jj_D cX7_isPlayable 7 (.aload_n 0) 1 8 := ⟨rfl, by decide +kernel⟩
theorem dX7_isPlayable_8 : jj_D cX7_isPlayable 8 (.getfield 21) 3 11 := ⟨rfl, by decide +kernel⟩
theorem dX7_isPlayable_11 : jj_D cX7_isPlayable 11 (.iconst 2) 1 12 := ⟨rfl, by decide +kernel⟩
theorem dX7_isPlayable_12 : jj_D cX7_isPlayable 12 (.if_icmp .ne 18) 3 15 := ⟨rfl, by decide +kernel⟩
theorem dX7_isPlayable_15 : jj_D cX7_isPlayable 15 (.iload_n 1) 1 16 := ⟨rfl, by decide +kernel⟩
theorem dX7_isPlayable_16 : jj_D cX7_isPlayable 16 (.aload_n 0) 1 17 := ⟨rfl, by decide +kernel⟩
theorem dX7_isPlayable_17 : jj_D cX7_isPlayable 17 (.getfield 67) 3 20 := ⟨rfl, by decide +kernel⟩
theorem dX7_isPlayable_20 : jj_D cX7_isPlayable 20 (.isub) 1 21 := ⟨rfl, by decide +kernel⟩
theorem dX7_isPlayable_21 : jj_D cX7_isPlayable 21 (.bipush 30) 2 23 := ⟨rfl, by decide +kernel⟩
theorem dX7_isPlayable_23 : jj_D cX7_isPlayable 23 (.if_icmp .ge 7) 3 26 := ⟨rfl, by decide +kernel⟩
theorem dX7_isPlayable_26 : jj_D cX7_isPlayable 26 (.iconst 1) 1 27 := ⟨rfl, by decide +kernel⟩
theorem dX7_isPlayable_27 : jj_D cX7_isPlayable 27 (.goto 4) 3 30 := ⟨rfl, by decide +kernel⟩
theorem dX7_isPlayable_30 : jj_D cX7_isPlayable 30 (.iconst 0) 1 31 := ⟨rfl, by decide +kernel⟩
theorem dX7_isPlayable_31 : jj_D cX7_isPlayable 31 (.ireturn) 1 32 := ⟨rfl, by decide +kernel⟩
theorem dX7_spanLength_0 : jj_D cX7_spanLength 0 (.aload_n 0) 1 1 := ⟨rfl, by decide +kernel⟩
theorem dX7_spanLength_1 : jj_D cX7_spanLength 1 (.getfield 18) 3 4 := ⟨rfl, by decide +kernel⟩
theorem dX7_spanLength_4 : jj_D cX7_spanLength 4 (.iload_n 1) 1 5 := ⟨rfl, by decide +kernel⟩
theorem dX7_spanLength_5 : jj_D cX7_spanLength 5 (.iaload) 1 6 := ⟨rfl, by decide +kernel⟩
theorem dX7_spanLength_6 : jj_D cX7_spanLength 6 (.aload_n 0) 1 7 := ⟨rfl, by decide +kernel⟩
theorem dX7_spanLength_7 : jj_D cX7_spanLength 7 (.getfield 15) 3 10 := ⟨rfl, by decide +kernel⟩
theorem dX7_spanLength_10 : jj_D cX7_spanLength 10 (.iload_n 1) 1 11 := ⟨rfl, by decide +kernel⟩
theorem dX7_spanLength_11 : jj_D cX7_spanLength 11 (.iaload) 1 12 := ⟨rfl, by decide +kernel⟩
theorem dX7_spanLength_12 : jj_D cX7_spanLength 12 (.isub) 1 13 := ⟨rfl, by decide +kernel⟩
theorem dX7_spanLength_13 : jj_D cX7_spanLength 13 (.ireturn) 1 14 := ⟨rfl, by decide +kernel⟩
theorem dX7_spansBetween_0 : jj_D cX7_spansBetween 0 (.iconst 0) 1 1 := ⟨rfl, by decide +kernel⟩
theorem dX7_spansBetween_1 : jj_D cX7_spansBetween 1 (.istore_n 3) 1 2 := ⟨rfl, by decide +kernel⟩
theorem dX7_spansBetween_2 : jj_D cX7_spansBetween 2 (.iconst 0) 1 3 := ⟨rfl, by decide +kernel⟩
theorem dX7_spansBetween_3 : jj_D cX7_spansBetween 3 (.istore 4) 2 5 := ⟨rfl, by decide +kernel⟩
theorem dX7_spansBetween_5 : jj_D cX7_spansBetween 5 (.iconst 0) 1 6 := ⟨rfl, by decide +kernel⟩
theorem dX7_spansBetween_6 : jj_D cX7_spansBetween 6 (.istore 5) 2 8 := ⟨rfl, by decide +kernel⟩
theorem dX7_spansBetween_8 : jj_D cX7_spansBetween 8 (.iload 5) 2 10 := ⟨rfl, by decide +kernel⟩
theorem dX7_spansBetween_10 : jj_D cX7_spansBetween 10 (.aload_n 0) 1 11 := ⟨rfl, by decide +kernel⟩
theorem dX7_spansBetween_11 : jj_D cX7_spansBetween 11 (.getfield 70) 3 14 := ⟨rfl, by decide +kernel⟩
theorem dX7_spansBetween_14 : jj_D cX7_spansBetween 14 (.if_icmp .ge 36) 3 17 := ⟨rfl, by decide +kernel⟩
theorem dX7_spansBetween_17 : jj_D cX7_spansBetween 17 (.iload_n 3) 1 18 := ⟨rfl, by decide +kernel⟩
theorem dX7_spansBetween_18 : jj_D cX7_spansBetween 18 (.aload_n 0) 1 19 := ⟨rfl, by decide +kernel⟩
theorem dX7_spansBetween_19 : jj_D cX7_spansBetween 19 (.iload 5) 2 21 := ⟨rfl, by decide +kernel⟩
theorem dX7_spansBetween_21 : jj_D cX7_spansBetween 21 (.invokevirtual 73) 3 24 := ⟨rfl, by decide +kernel⟩
theorem dX7_spansBetween_24 : jj_D cX7_spansBetween 24 (.iadd) 1 25 := ⟨rfl, by decide +kernel⟩
theorem dX7_spansBetween_25 : jj_D cX7_spansBetween 25 (.istore 6) 2 27 := ⟨rfl, by decide +kernel⟩
theorem dX7_spansBetween_27 : jj_D cX7_spansBetween 27 (.iload_n 3) 1 28 := ⟨rfl, by decide +kernel⟩
theorem dX7_spansBetween_28 : jj_D cX7_spansBetween 28 (.iload_n 2) 1 29 := ⟨rfl, by decide +kernel⟩
theorem dX7_spansBetween_29 : jj_D cX7_spansBetween 29 (.if_icmp .ge 12) 3 32 := ⟨rfl, by decide +kernel⟩
theorem dX7_spansBetween_32 : jj_D cX7_spansBetween 32 (.iload 6) 2 34 := ⟨rfl, by decide +kernel⟩
theorem dX7_spansBetween_34 : jj_D cX7_spansBetween 34 (.iload_n 1) 1 35 := ⟨rfl, by decide +kernel⟩
theorem dX7_spansBetween_35 : jj_D cX7_spansBetween 35 (.if_icmp .le 6) 3 38 := ⟨rfl, by decide +kernel⟩
theorem dX7_spansBetween_38 : jj_D cX7_spansBetween 38 (.iinc 4 1) 3 41 := ⟨rfl, by decide +kernel⟩
theorem dX7_spansBetween_41 : jj_D cX7_spansBetween 41 (.iload 6) 2 43 := ⟨rfl, by decide +kernel⟩
theorem dX7_spansBetween_43 : jj_D cX7_spansBetween 43 (.istore_n 3) 1 44 := ⟨rfl, by decide +kernel⟩
theorem dX7_spansBetween_44 : jj_D cX7_spansBetween 44 (.iinc 5 1) 3 47 := ⟨rfl, by decide +kernel⟩
theorem dX7_spansBetween_47 : jj_D cX7_spansBetween 47 (.goto (-39)) 3 50 := ⟨rfl, by decide +kernel⟩
theorem dX7_spansBetween_50 : jj_D cX7_spansBetween 50 (.iload 4) 2 52 := ⟨rfl, by decide +kernel⟩
theorem dX7_spansBetween_52 : jj_D cX7_spansBetween 52 (.ireturn) 1 53 := ⟨rfl, by decide +kernel⟩
theorem dX7_heardAt_0 : jj_D cX7_heardAt 0 (.iconst 0) 1 1 := ⟨rfl, by decide +kernel⟩
theorem dX7_heardAt_1 : jj_D cX7_heardAt 1 (.istore_n 2) 1 2 := ⟨rfl, by decide +kernel⟩
theorem dX7_heardAt_2 : jj_D cX7_heardAt 2 (.iconst 0) 1 3 := ⟨rfl, by decide +kernel⟩
theorem dX7_heardAt_3 : jj_D cX7_heardAt 3 (.istore_n 3) 1 4 := ⟨rfl, by decide +kernel⟩
theorem dX7_heardAt_4 : jj_D cX7_heardAt 4 (.iload_n 3) 1 5 := ⟨rfl, by decide +kernel⟩
theorem dX7_heardAt_5 : jj_D cX7_heardAt 5 (.aload_n 0) 1 6 := ⟨rfl, by decide +kernel⟩
theorem dX7_heardAt_6 : jj_D cX7_heardAt 6 (.getfield 70) 3 9 := ⟨rfl, by decide +kernel⟩
theorem dX7_heardAt_9 : jj_D cX7_heardAt 9 (.if_icmp .ge 49) 3 12 := ⟨rfl, by decide +kernel⟩
theorem dX7_heardAt_12 : jj_D cX7_heardAt 12 (.iload_n 2) 1 13 := ⟨rfl, by decide +kernel⟩
theorem dX7_heardAt_13 : jj_D cX7_heardAt 13 (.aload_n 0) 1 14 := ⟨rfl, by decide +kernel⟩
theorem dX7_heardAt_14 : jj_D cX7_heardAt 14 (.iload_n 3) 1 15 := ⟨rfl, by decide +kernel⟩
theorem dX7_heardAt_15 : jj_D cX7_heardAt 15 (.invokevirtual 73) 3 18 := ⟨rfl, by decide +kernel⟩
theorem dX7_heardAt_18 : jj_D cX7_heardAt 18 (.iadd) 1 19 := ⟨rfl, by decide +kernel⟩
theorem dX7_heardAt_19 : jj_D cX7_heardAt 19 (.istore 4) 2 21 := ⟨rfl, by decide +kernel⟩
theorem dX7_heardAt_21 : jj_D cX7_heardAt 21 (.iload_n 1) 1 22 := ⟨rfl, by decide +kernel⟩
theorem dX7_heardAt_22 : jj_D cX7_heardAt 22 (.iload 4) 2 24 := ⟨rfl, by decide +kernel⟩
theorem dX7_heardAt_24 : jj_D cX7_heardAt 24 (.if_icmp .ge 25) 3 27 := ⟨rfl, by decide +kernel⟩
theorem dX7_heardAt_27 : jj_D cX7_heardAt 27 (.sipush 1000) 3 30 := ⟨rfl, by decide +kernel⟩
theorem dX7_heardAt_30 : jj_D cX7_heardAt 30 (.aload_n 0) 1 31 := ⟨rfl, by decide +kernel⟩
theorem dX7_heardAt_31 : jj_D cX7_heardAt 31 (.getfield 9) 3 34 := ⟨rfl, by decide +kernel⟩
theorem dX7_heardAt_34 : jj_D cX7_heardAt 34 (.iload_n 3) 1 35 := ⟨rfl, by decide +kernel⟩
theorem dX7_heardAt_35 : jj_D cX7_heardAt 35 (.iaload) 1 36 := ⟨rfl, by decide +kernel⟩
theorem dX7_heardAt_36 : jj_D cX7_heardAt 36 (.imul) 1 37 := ⟨rfl, by decide +kernel⟩
theorem dX7_heardAt_37 : jj_D cX7_heardAt 37 (.aload_n 0) 1 38 := ⟨rfl, by decide +kernel⟩
theorem dX7_heardAt_38 : jj_D cX7_heardAt 38 (.getfield 15) 3 41 := ⟨rfl, by decide +kernel⟩
theorem dX7_heardAt_41 : jj_D cX7_heardAt 41 (.iload_n 3) 1 42 := ⟨rfl, by decide +kernel⟩
theorem dX7_heardAt_42 : jj_D cX7_heardAt 42 (.iaload) 1 43 := ⟨rfl, by decide +kernel⟩
theorem dX7_heardAt_43 : jj_D cX7_heardAt 43 (.iadd) 1 44 := ⟨rfl, by decide +kernel⟩
theorem dX7_heardAt_44 : jj_D cX7_heardAt 44 (.iload_n 1) 1 45 := ⟨rfl, by decide +kernel⟩
theorem dX7_heardAt_45 : jj_D cX7_heardAt 45 (.iadd) 1 46 := ⟨rfl, by decide +kernel⟩
theorem dX7_heardAt_46 : jj_D cX7_heardAt 46 (.iload_n 2) 1 47 := ⟨rfl, by decide +kernel⟩
theorem dX7_heardAt_47 : jj_D cX7_heardAt 47 (.isub) 1 48 := ⟨rfl, by decide +kernel⟩
theorem dX7_heardAt_48 : jj_D cX7_heardAt 48 (.ireturn) 1 49 := ⟨rfl, by decide +kernel⟩
theorem dX7_heardAt_49 : jj_D cX7_heardAt 49 (.iload 4) 2 51 := ⟨rfl, by decide +kernel⟩
theorem dX7_heardAt_51 : jj_D cX7_heardAt 51 (.istore_n 2) 1 52 := ⟨rfl, by decide +kernel⟩
theorem dX7_heardAt_52 : jj_D cX7_heardAt 52 (.iinc 3 1) 3 55 := ⟨rfl, by decide +kernel⟩
theorem dX7_heardAt_55 : jj_D cX7_heardAt 55 (.goto (-51)) 3 58 := ⟨rfl, by decide +kernel⟩
theorem dX7_heardAt_58 : jj_D cX7_heardAt 58 (.iconst (-1)) 1 59 := ⟨rfl, by decide +kernel⟩
theorem dX7_heardAt_59 : jj_D cX7_heardAt 59 (.ireturn) 1 60 := ⟨rfl, by decide +kernel⟩
theorem dX7_takeSet_0 : jj_D cX7_takeSet 0 (.iconst 0) 1 1 := ⟨rfl, by decide +kernel⟩
theorem dX7_takeSet_1 : jj_D cX7_takeSet 1 (.istore_n 1) 1 2 := ⟨rfl, by decide +kernel⟩
theorem dX7_takeSet_2 : jj_D cX7_takeSet 2 (.iconst 0) 1 3 := ⟨rfl, by decide +kernel⟩
theorem dX7_takeSet_3 : jj_D cX7_takeSet 3 (.istore_n 2) 1 4 := ⟨rfl, by decide +kernel⟩
theorem dX7_takeSet_4 : jj_D cX7_takeSet 4 (.iload_n 2) 1 5 := ⟨rfl, by decide +kernel⟩
theorem dX7_takeSet_5 : jj_D cX7_takeSet 5 (.aload_n 0) 1 6 := ⟨rfl, by decide +kernel⟩
theorem dX7_takeSet_6 : jj_D cX7_takeSet 6 (.getfield 70) 3 9 := ⟨rfl, by decide +kernel⟩
theorem dX7_takeSet_9 : jj_D cX7_takeSet 9 (.if_icmp .ge 20) 3 12 := ⟨rfl, by decide +kernel⟩
theorem dX7_takeSet_12 : jj_D cX7_takeSet 12 (.iload_n 1) 1 13 := ⟨rfl, by decide +kernel⟩
theorem dX7_takeSet_13 : jj_D cX7_takeSet 13 (.iconst 1) 1 14 := ⟨rfl, by decide +kernel⟩
theorem dX7_takeSet_14 : jj_D cX7_takeSet 14 (.aload_n 0) 1 15 := ⟨rfl, by decide +kernel⟩
theorem dX7_takeSet_15 : jj_D cX7_takeSet 15 (.getfield 9) 3 18 := ⟨rfl, by decide +kernel⟩
theorem dX7_takeSet_18 : jj_D cX7_takeSet 18 (.iload_n 2) 1 19 := ⟨rfl, by decide +kernel⟩
theorem dX7_takeSet_19 : jj_D cX7_takeSet 19 (.iaload) 1 20 := ⟨rfl, by decide +kernel⟩
theorem dX7_takeSet_20 : jj_D cX7_takeSet 20 (.ishl) 1 21 := ⟨rfl, by decide +kernel⟩
theorem dX7_takeSet_21 : jj_D cX7_takeSet 21 (.ior) 1 22 := ⟨rfl, by decide +kernel⟩
theorem dX7_takeSet_22 : jj_D cX7_takeSet 22 (.istore_n 1) 1 23 := ⟨rfl, by decide +kernel⟩
theorem dX7_takeSet_23 : jj_D cX7_takeSet 23 (.iinc 2 1) 3 26 := ⟨rfl, by decide +kernel⟩
theorem dX7_takeSet_26 : jj_D cX7_takeSet 26 (.goto (-22)) 3 29 := ⟨rfl, by decide +kernel⟩
theorem dX7_takeSet_29 : jj_D cX7_takeSet 29 (.iload_n 1) 1 30 := ⟨rfl, by decide +kernel⟩
theorem dX7_takeSet_30 : jj_D cX7_takeSet 30 (.ireturn) 1 31 := ⟨rfl, by decide +kernel⟩
theorem dX7_copy_0 : jj_D cX7_copy 0 (.iconst 0) 1 1 := ⟨rfl, by decide +kernel⟩
theorem dX7_copy_1 : jj_D cX7_copy 1 (.istore 4) 2 3 := ⟨rfl, by decide +kernel⟩
theorem dX7_copy_3 : jj_D cX7_copy 3 (.iconst 0) 1 4 := ⟨rfl, by decide +kernel⟩
theorem dX7_copy_4 : jj_D cX7_copy 4 (.istore 5) 2 6 := ⟨rfl, by decide +kernel⟩
theorem dX7_copy_6 : jj_D cX7_copy 6 (.iload 5) 2 8 := ⟨rfl, by decide +kernel⟩
theorem dX7_copy_8 : jj_D cX7_copy 8 (.aload_n 1) 1 9 := ⟨rfl, by decide +kernel⟩
theorem dX7_copy_9 : jj_D cX7_copy 9 (.getfield 70) 3 12 := ⟨rfl, by decide +kernel⟩
theorem dX7_copy_12 : jj_D cX7_copy 12 (.if_icmp .ge 83) 3 15 := ⟨rfl, by decide +kernel⟩
theorem dX7_copy_15 : jj_D cX7_copy 15 (.iload_n 2) 1 16 := ⟨rfl, by decide +kernel⟩
theorem dX7_copy_16 : jj_D cX7_copy 16 (.iload 4) 2 18 := ⟨rfl, by decide +kernel⟩
theorem dX7_copy_18 : jj_D cX7_copy 18 (.isub) 1 19 := ⟨rfl, by decide +kernel⟩
theorem dX7_copy_19 : jj_D cX7_copy 19 (.iconst 0) 1 20 := ⟨rfl, by decide +kernel⟩
theorem dX7_copy_20 : jj_D cX7_copy 20 (.invokestatic 54) 3 23 := ⟨rfl, by decide +kernel⟩
theorem dX7_copy_23 : jj_D cX7_copy 23 (.istore 6) 2 25 := ⟨rfl, by decide +kernel⟩
theorem dX7_copy_25 : jj_D cX7_copy 25 (.iload_n 3) 1 26 := ⟨rfl, by decide +kernel⟩
theorem dX7_copy_26 : jj_D cX7_copy 26 (.iload 4) 2 28 := ⟨rfl, by decide +kernel⟩
theorem dX7_copy_28 : jj_D cX7_copy 28 (.isub) 1 29 := ⟨rfl, by decide +kernel⟩
theorem dX7_copy_29 : jj_D cX7_copy 29 (.aload_n 1) 1 30 := ⟨rfl, by decide +kernel⟩
theorem dX7_copy_30 : jj_D cX7_copy 30 (.iload 5) 2 32 := ⟨rfl, by decide +kernel⟩
theorem dX7_copy_32 : jj_D cX7_copy 32 (.invokevirtual 73) 3 35 := ⟨rfl, by decide +kernel⟩
theorem dX7_copy_35 : jj_D cX7_copy 35 (.invokestatic 77) 3 38 := ⟨rfl, by decide +kernel⟩
theorem dX7_copy_38 : jj_D cX7_copy 38 (.istore 7) 2 40 := ⟨rfl, by decide +kernel⟩
theorem dX7_copy_40 : jj_D cX7_copy 40 (.iload 6) 2 42 := ⟨rfl, by decide +kernel⟩
theorem dX7_copy_42 : jj_D cX7_copy 42 (.iload 7) 2 44 := ⟨rfl, by decide +kernel⟩
theorem dX7_copy_44 : jj_D cX7_copy 44 (.if_icmp .ge 34) 3 47 := ⟨rfl, by decide +kernel⟩
theorem dX7_copy_47 : jj_D cX7_copy 47 (.aload_n 0) 1 48 := ⟨rfl, by decide +kernel⟩
theorem dX7_copy_48 : jj_D cX7_copy 48 (.aload_n 1) 1 49 := ⟨rfl, by decide +kernel⟩
theorem dX7_copy_49 : jj_D cX7_copy 49 (.getfield 9) 3 52 := ⟨rfl, by decide +kernel⟩
theorem dX7_copy_52 : jj_D cX7_copy 52 (.iload 5) 2 54 := ⟨rfl, by decide +kernel⟩
theorem dX7_copy_54 : jj_D cX7_copy 54 (.iaload) 1 55 := ⟨rfl, by decide +kernel⟩
theorem dX7_copy_55 : jj_D cX7_copy 55 (.aload_n 1) 1 56 := ⟨rfl, by decide +kernel⟩
theorem dX7_copy_56 : jj_D cX7_copy 56 (.getfield 15) 3 59 := ⟨rfl, by decide +kernel⟩
theorem dX7_copy_59 : jj_D cX7_copy 59 (.iload 5) 2 61 := ⟨rfl, by decide +kernel⟩
theorem dX7_copy_61 : jj_D cX7_copy 61 (.iaload) 1 62 := ⟨rfl, by decide +kernel⟩
theorem dX7_copy_62 : jj_D cX7_copy 62 (.iload 6) 2 64 := ⟨rfl, by decide +kernel⟩
theorem dX7_copy_64 : jj_D cX7_copy 64 (.iadd) 1 65 := ⟨rfl, by decide +kernel⟩
theorem dX7_copy_65 : jj_D cX7_copy 65 (.aload_n 1) 1 66 := ⟨rfl, by decide +kernel⟩
theorem dX7_copy_66 : jj_D cX7_copy 66 (.getfield 15) 3 69 := ⟨rfl, by decide +kernel⟩
theorem dX7_copy_69 : jj_D cX7_copy 69 (.iload 5) 2 71 := ⟨rfl, by decide +kernel⟩
theorem dX7_copy_71 : jj_D cX7_copy 71 (.iaload) 1 72 := ⟨rfl, by decide +kernel⟩
theorem dX7_copy_72 : jj_D cX7_copy 72 (.iload 7) 2 74 := ⟨rfl, by decide +kernel⟩
theorem dX7_copy_74 : jj_D cX7_copy 74 (.iadd) 1 75 := ⟨rfl, by decide +kernel⟩
theorem dX7_copy_75 : jj_D cX7_copy 75 (.invokevirtual 50) 3 78 := ⟨rfl, by decide +kernel⟩
theorem dX7_copy_78 : jj_D cX7_copy 78 (.iload 4) 2 80 := ⟨rfl, by decide +kernel⟩
theorem dX7_copy_80 : jj_D cX7_copy 80 (.aload_n 1) 1 81 := ⟨rfl, by decide +kernel⟩
theorem dX7_copy_81 : jj_D cX7_copy 81 (.iload 5) 2 83 := ⟨rfl, by decide +kernel⟩
theorem dX7_copy_83 : jj_D cX7_copy 83 (.invokevirtual 73) 3 86 := ⟨rfl, by decide +kernel⟩
theorem dX7_copy_86 : jj_D cX7_copy 86 (.iadd) 1 87 := ⟨rfl, by decide +kernel⟩
theorem dX7_copy_87 : jj_D cX7_copy 87 (.istore 4) 2 89 := ⟨rfl, by decide +kernel⟩
theorem dX7_copy_89 : jj_D cX7_copy 89 (.iinc 5 1) 3 92 := ⟨rfl, by decide +kernel⟩
theorem dX7_copy_92 : jj_D cX7_copy 92 (.goto (-86)) 3 95 := ⟨rfl, by decide +kernel⟩
theorem dX7_copy_95 : jj_D cX7_copy 95 (.return_) 1 96 := ⟨rfl, by decide +kernel⟩
theorem dX7_append_0 : jj_D cX7_append 0 (.aload_n 0) 1 1 := ⟨rfl, by decide +kernel⟩
theorem dX7_append_1 : jj_D cX7_append 1 (.getfield 70) 3 4 := ⟨rfl, by decide +kernel⟩
theorem dX7_append_4 : jj_D cX7_append 4 (.bipush 20) 2 6 := ⟨rfl, by decide +kernel⟩
theorem dX7_append_6 : jj_D cX7_append 6 (.if_icmp .ge 55) 3 9 := ⟨rfl, by decide +kernel⟩
theorem dX7_append_9 : jj_D cX7_append 9 (.aload_n 0) 1 10 := ⟨rfl, by decide +kernel⟩
theorem dX7_append_10 : jj_D cX7_append 10 (.getfield 9) 3 13 := ⟨rfl, by decide +kernel⟩
theorem dX7_append_13 : jj_D cX7_append 13 (.aload_n 0) 1 14 := ⟨rfl, by decide +kernel⟩
theorem dX7_append_14 : jj_D cX7_append 14 (.getfield 70) 3 17 := ⟨rfl, by decide +kernel⟩
theorem dX7_append_17 : jj_D cX7_append 17 (.iload_n 1) 1 18 := ⟨rfl, by decide +kernel⟩
theorem dX7_append_18 : jj_D cX7_append 18 (.iastore) 1 19 := ⟨rfl, by decide +kernel⟩
theorem dX7_append_19 : jj_D cX7_append 19 (.aload_n 0) 1 20 := ⟨rfl, by decide +kernel⟩
theorem dX7_append_20 : jj_D cX7_append 20 (.getfield 15) 3 23 := ⟨rfl, by decide +kernel⟩
theorem dX7_append_23 : jj_D cX7_append 23 (.aload_n 0) 1 24 := ⟨rfl, by decide +kernel⟩
theorem dX7_append_24 : jj_D cX7_append 24 (.getfield 70) 3 27 := ⟨rfl, by decide +kernel⟩
theorem dX7_append_27 : jj_D cX7_append 27 (.iload_n 2) 1 28 := ⟨rfl, by decide +kernel⟩
theorem dX7_append_28 : jj_D cX7_append 28 (.iastore) 1 29 := ⟨rfl, by decide +kernel⟩
theorem dX7_append_29 : jj_D cX7_append 29 (.aload_n 0) 1 30 := ⟨rfl, by decide +kernel⟩
theorem dX7_append_30 : jj_D cX7_append 30 (.getfield 18) 3 33 := ⟨rfl, by decide +kernel⟩
theorem dX7_append_33 : jj_D cX7_append 33 (.aload_n 0) 1 34 := ⟨rfl, by decide +kernel⟩
theorem dX7_append_34 : jj_D cX7_append 34 (.getfield 70) 3 37 := ⟨rfl, by decide +kernel⟩
theorem dX7_append_37 : jj_D cX7_append 37 (.iload_n 3) 1 38 := ⟨rfl, by decide +kernel⟩
theorem dX7_append_38 : jj_D cX7_append 38 (.iastore) 1 39 := ⟨rfl, by decide +kernel⟩
theorem dX7_append_39 : jj_D cX7_append 39 (.aload_n 0) 1 40 := ⟨rfl, by decide +kernel⟩
theorem dX7_append_40 : jj_D cX7_append 40 (.dup) 1 41 := ⟨rfl, by decide +kernel⟩
theorem dX7_append_41 : jj_D cX7_append 41 (.getfield 70) 3 44 := ⟨rfl, by decide +kernel⟩
theorem dX7_append_44 : jj_D cX7_append 44 (.iconst 1) 1 45 := ⟨rfl, by decide +kernel⟩
theorem dX7_append_45 : jj_D cX7_append 45 (.iadd) 1 46 := ⟨rfl, by decide +kernel⟩
theorem dX7_append_46 : jj_D cX7_append 46 (.putfield 70) 3 49 := ⟨rfl, by decide +kernel⟩
theorem dX7_append_49 : jj_D cX7_append 49 (.aload_n 0) 1 50 := ⟨rfl, by decide +kernel⟩
theorem dX7_append_50 : jj_D cX7_append 50 (.dup) 1 51 := ⟨rfl, by decide +kernel⟩
theorem dX7_append_51 : jj_D cX7_append 51 (.getfield 64) 3 54 := ⟨rfl, by decide +kernel⟩
theorem dX7_append_54 : jj_D cX7_append 54 (.iload_n 3) 1 55 := ⟨rfl, by decide +kernel⟩
theorem dX7_append_55 : jj_D cX7_append 55 (.iload_n 2) 1 56 := ⟨rfl, by decide +kernel⟩
theorem dX7_append_56 : jj_D cX7_append 56 (.isub) 1 57 := ⟨rfl, by decide +kernel⟩
theorem dX7_append_57 : jj_D cX7_append 57 (.iadd) 1 58 := ⟨rfl, by decide +kernel⟩
theorem dX7_append_58 : jj_D cX7_append 58 (.putfield 64) 3 61 := ⟨rfl, by decide +kernel⟩
theorem dX7_append_61 : jj_D cX7_append 61 (.return_) 1 62 := ⟨rfl, by decide +kernel⟩
end
section
theorem dX8_init_0 : jj_D cX8_init 0 (.aload_n 0) 1 1 := ⟨rfl, by decide +kernel⟩
theorem dX8_init_1 : jj_D cX8_init 1 (.invokespecial 1) 3 4 := ⟨rfl, by decide +kernel⟩
theorem dX8_init_4 : jj_D cX8_init 4 (.aload_n 0) 1 5 := ⟨rfl, by decide +kernel⟩
theorem dX8_init_5 : jj_D cX8_init 5 (.bipush 30) 2 7 := ⟨rfl, by decide +kernel⟩
theorem dX8_init_7 : jj_D cX8_init 7 (.anewarray 9) 3 10 := ⟨rfl, by decide +kernel⟩
theorem dX8_init_10 : jj_D cX8_init 10 (.putfield 11) 3 13 := ⟨rfl, by decide +kernel⟩
theorem dX8_init_13 : jj_D cX8_init 13 (.aload_n 0) 1 14 := ⟨rfl, by decide +kernel⟩
theorem dX8_init_14 : jj_D cX8_init 14 (.new 15) 3 17 := ⟨rfl, by decide +kernel⟩
theorem dX8_init_17 : jj_D cX8_init 17 (.dup) 1 18 := ⟨rfl, by decide +kernel⟩
theorem dX8_init_18 : jj_D cX8_init 18 (.invokespecial 17) 3 21 := ⟨rfl, by decide +kernel⟩
theorem dX8_init_21 : jj_D cX8_init 21 (.putfield 18) 3 24 := ⟨rfl, by decide +kernel⟩
theorem dX8_init_24 : jj_D cX8_init 24 (.aload_n 0) 1 25 := ⟨rfl, by decide +kernel⟩
theorem dX8_init_25 : jj_D cX8_init 25 (.bipush 10) 2 27 := ⟨rfl, by decide +kernel⟩
theorem dX8_init_27 : jj_D cX8_init 27 (.anewarray 22) 3 30 := ⟨rfl, by decide +kernel⟩
theorem dX8_init_30 : jj_D cX8_init 30 (.putfield 24) 3 33 := ⟨rfl, by decide +kernel⟩
theorem dX8_init_33 : jj_D cX8_init 33 (.aload_n 0) 1 34 := ⟨rfl, by decide +kernel⟩
theorem dX8_init_34 : jj_D cX8_init 34 (.bipush 20) 2 36 := ⟨rfl, by decide +kernel⟩
theorem dX8_init_36 : jj_D cX8_init 36 (.anewarray 28) 3 39 := ⟨rfl, by decide +kernel⟩
theorem dX8_init_39 : jj_D cX8_init 39 (.putfield 30) 3 42 := ⟨rfl, by decide +kernel⟩
theorem dX8_init_42 : jj_D cX8_init 42 (.aload_n 0) 1 43 := ⟨rfl, by decide +kernel⟩
theorem dX8_init_43 : jj_D cX8_init 43 (.new 34) 3 46 := ⟨rfl, by decide +kernel⟩
theorem dX8_init_46 : jj_D cX8_init 46 (.dup) 1 47 := ⟨rfl, by decide +kernel⟩
theorem dX8_init_47 : jj_D cX8_init 47 (.invokespecial 36) 3 50 := ⟨rfl, by decide +kernel⟩
theorem dX8_init_50 : jj_D cX8_init 50 (.putfield 37) 3 53 := ⟨rfl, by decide +kernel⟩
theorem dX8_init_53 : jj_D cX8_init 53 (.aload_n 0) 1 54 := ⟨rfl, by decide +kernel⟩
theorem dX8_init_54 : jj_D cX8_init 54 (.new 41) 3 57 := ⟨rfl, by decide +kernel⟩
theorem dX8_init_57 : jj_D cX8_init 57 (.dup) 1 58 := ⟨rfl, by decide +kernel⟩
theorem dX8_init_58 : jj_D cX8_init 58 (.invokespecial 43) 3 61 := ⟨rfl, by decide +kernel⟩
theorem dX8_init_61 : jj_D cX8_init 61 (.putfield 44) 3 64 := ⟨rfl, by decide +kernel⟩
theorem dX8_init_64 : jj_D cX8_init 64 (.return_) 1 65 := ⟨rfl, by decide +kernel⟩
theorem dX8_session_0 : jj_D cX8_session 0 (.iload_n 1) 1 1 := ⟨rfl, by decide +kernel⟩
theorem dX8_session_1 : jj_D cX8_session 1 (.invokestatic 48) 3 4 := ⟨rfl, by decide +kernel⟩
theorem dX8_session_4 : jj_D cX8_session 4 (.iload_n 3) 1 5 := ⟨rfl, by decide +kernel⟩
theorem dX8_session_5 : jj_D cX8_session 5 (.invokestatic 52) 3 8 := ⟨rfl, by decide +kernel⟩
theorem dX8_session_8 : jj_D cX8_session 8 (.iload_n 2) 1 9 := ⟨rfl, by decide +kernel⟩
theorem dX8_session_9 : jj_D cX8_session 9 (.iconst 1) 1 10 := ⟨rfl, by decide +kernel⟩
theorem dX8_session_10 : jj_D cX8_session 10 (.if_icmp .lt 10) 3 13 := ⟨rfl, by decide +kernel⟩
theorem dX8_session_13 : jj_D cX8_session 13 (.iload_n 2) 1 14 := ⟨rfl, by decide +kernel⟩
theorem dX8_session_14 : jj_D cX8_session 14 (.sipush 900) 3 17 := ⟨rfl, by decide +kernel⟩
theorem dX8_session_17 : jj_D cX8_session 17 (.if_icmp .le 13) 3 20 := ⟨rfl, by decide +kernel⟩
theorem dX8_session_20 : jj_D cX8_session 20 (.new 55) 3 23 := ⟨rfl, by decide +kernel⟩
theorem dX8_session_23 : jj_D cX8_session 23 (.dup) 1 24 := ⟨rfl, by decide +kernel⟩
theorem dX8_session_24 : jj_D cX8_session 24 (.ldc 57) 2 26 := ⟨rfl, by decide +kernel⟩
theorem dX8_session_26 : jj_D cX8_session 26 (.invokespecial 59) 3 29 := ⟨rfl, by decide +kernel⟩
theorem dX8_session_29 : jj_D cX8_session 29 (.athrow) 1 30 := ⟨rfl, by decide +kernel⟩
theorem dX8_session_30 : jj_D cX8_session 30 (.aload_n 0) 1 31 := ⟨rfl, by decide +kernel⟩
theorem dX8_session_31 : jj_D cX8_session 31 (.invokevirtual 62) 3 34 := ⟨rfl, by decide +kernel⟩
theorem dX8_session_34 : jj_D cX8_session 34 (.istore 4) 2 36 := ⟨rfl, by decide +kernel⟩
theorem dX8_session_36 : jj_D cX8_session 36 (.aload_n 0) 1 37 := ⟨rfl, by decide +kernel⟩
theorem dX8_session_37 : jj_D cX8_session 37 (.getfield 11) 3 40 := ⟨rfl, by decide +kernel⟩
theorem dX8_session_40 : jj_D cX8_session 40 (.iload 4) 2 42 := ⟨rfl, by decide +kernel⟩
theorem dX8_session_42 : jj_D cX8_session 42 (.new 9) 3 45 := ⟨rfl, by decide +kernel⟩
theorem dX8_session_45 : jj_D cX8_session 45 (.dup) 1 46 := ⟨rfl, by decide +kernel⟩
theorem dX8_session_46 : jj_D cX8_session 46 (.iload 4) 2 48 := ⟨rfl, by decide +kernel⟩
theorem dX8_session_48 : jj_D cX8_session 48 (.iload_n 3) 1 49 := ⟨rfl, by decide +kernel⟩
theorem dX8_session_49 : jj_D cX8_session 49 (.iload_n 1) 1 50 := ⟨rfl, by decide +kernel⟩
theorem dX8_session_50 : jj_D cX8_session 50 (.iload_n 2) 1 51 := ⟨rfl, by decide +kernel⟩
theorem dX8_session_51 : jj_D cX8_session 51 (.invokespecial 66) 3 54 := ⟨rfl, by decide +kernel⟩
theorem dX8_session_54 : jj_D cX8_session 54 (.aastore) 1 55 := ⟨rfl, by decide +kernel⟩
theorem dX8_session_55 : jj_D cX8_session 55 (.aload_n 0) 1 56 := ⟨rfl, by decide +kernel⟩
theorem dX8_session_56 : jj_D cX8_session 56 (.dup) 1 57 := ⟨rfl, by decide +kernel⟩
theorem dX8_session_57 : jj_D cX8_session 57 (.getfield 69) 3 60 := ⟨rfl, by decide +kernel⟩
theorem dX8_session_60 : jj_D cX8_session 60 (.iconst 1) 1 61 := ⟨rfl, by decide +kernel⟩
theorem dX8_session_61 : jj_D cX8_session 61 (.iadd) 1 62 := ⟨rfl, by decide +kernel⟩
theorem dX8_session_62 : jj_D cX8_session 62 (.putfield 69) 3 65 := ⟨rfl, by decide +kernel⟩
theorem dX8_session_65 : jj_D cX8_session 65 (.iload 4) 2 67 := ⟨rfl, by decide +kernel⟩
theorem dX8_session_67 : jj_D cX8_session 67 (.ireturn) 1 68 := ⟨rfl, by decide +kernel⟩
theorem dX8_splice_0 : jj_D cX8_splice 0 (.aload_n 0) 1 1 := ⟨rfl, by decide +kernel⟩
theorem dX8_splice_1 : jj_D cX8_splice 1 (.iload_n 1) 1 2 := ⟨rfl, by decide +kernel⟩
theorem dX8_splice_2 : jj_D cX8_splice 2 (.invokevirtual 73) 3 5 := ⟨rfl, by decide +kernel⟩
theorem dX8_splice_5 : jj_D cX8_splice 5 (.astore 6) 2 7 := ⟨rfl, by decide +kernel⟩
theorem dX8_splice_7 : jj_D cX8_splice 7 (.iload 4) 2 9 := ⟨rfl, by decide +kernel⟩
theorem dX8_splice_9 : jj_D cX8_splice 9 (.iconst (-1)) 1 10 := ⟨rfl, by decide +kernel⟩
theorem dX8_splice_10 : jj_D cX8_splice 10 (.if_icmp .ne 7) 3 13 := ⟨rfl, by decide +kernel⟩
theorem dX8_splice_13 : jj_D cX8_splice 13 (.aconst_null) 1 14 := ⟨rfl, by decide +kernel⟩
theorem dX8_splice_14 : jj_D cX8_splice 14 (.goto 9) 3 17 := ⟨rfl, by decide +kernel⟩
theorem dX8_splice_17 : jj_D cX8_splice 17 (.aload_n 0) 1 18 := ⟨rfl, by decide +kernel⟩
theorem dX8_splice_18 : jj_D cX8_splice 18 (.iload 4) 2 20 := ⟨rfl, by decide +kernel⟩
theorem dX8_splice_20 : jj_D cX8_splice 20 (.invokevirtual 73) 3 23 := ⟨rfl, by decide +kernel⟩
theorem dX8_splice_23 : jj_D cX8_splice 23 (.astore 7) 2 25 := ⟨rfl, by decide +kernel⟩
theorem dX8_splice_25 : jj_D cX8_splice 25 (.iload 5) 2 27 := ⟨rfl, by decide +kernel⟩
theorem dX8_splice_27 : jj_D cX8_splice 27 (.invokestatic 52) 3 30 := ⟨rfl, by decide +kernel⟩
theorem dX8_splice_30 : jj_D cX8_splice 30 (.iload_n 2) 1 31 := ⟨rfl, by decide +kernel⟩
theorem dX8_splice_31 : jj_D cX8_splice 31 (.ifCond .lt 17) 3 34 := ⟨rfl, by decide +kernel⟩
theorem dX8_splice_34 : jj_D cX8_splice 34 (.iload_n 3) 1 35 := ⟨rfl, by decide +kernel⟩
theorem dX8_splice_35 : jj_D cX8_splice 35 (.iload_n 2) 1 36 := ⟨rfl, by decide +kernel⟩
theorem dX8_splice_36 : jj_D cX8_splice 36 (.if_icmp .le 12) 3 39 := ⟨rfl, by decide +kernel⟩
theorem dX8_splice_39 : jj_D cX8_splice 39 (.iload_n 3) 1 40 := ⟨rfl, by decide +kernel⟩
theorem dX8_splice_40 : jj_D cX8_splice 40 (.aload 6) 2 42 := ⟨rfl, by decide +kernel⟩
theorem dX8_splice_42 : jj_D cX8_splice 42 (.getfield 77) 3 45 := ⟨rfl, by decide +kernel⟩
theorem dX8_splice_45 : jj_D cX8_splice 45 (.if_icmp .le 13) 3 48 := ⟨rfl, by decide +kernel⟩
theorem dX8_splice_48 : jj_D cX8_splice 48 (.new 55) 3 51 := ⟨rfl, by decide +kernel⟩
theorem dX8_splice_51 : jj_D cX8_splice 51 (.dup) 1 52 := ⟨rfl, by decide +kernel⟩
theorem dX8_splice_52 : jj_D cX8_splice 52 (.ldc 80) 2 54 := ⟨rfl, by decide +kernel⟩
theorem dX8_splice_54 : jj_D cX8_splice 54 (.invokespecial 59) 3 57 := ⟨rfl, by decide +kernel⟩
theorem dX8_splice_57 : jj_D cX8_splice 57 (.athrow) 1 58 := ⟨rfl, by decide +kernel⟩
theorem dX8_splice_58 : jj_D cX8_splice 58 (.aload_n 0) 1 59 := ⟨rfl, by decide +kernel⟩
theorem dX8_splice_59 : jj_D cX8_splice 59 (.aload 6) 2 61 := ⟨rfl, by decide +kernel⟩
theorem dX8_splice_61 : jj_D cX8_splice 61 (.invokevirtual 82) 3 64 := ⟨rfl, by decide +kernel⟩
theorem dX8_splice_64 : jj_D cX8_splice 64 (.aload 6) 2 66 := ⟨rfl, by decide +kernel⟩
theorem dX8_splice_66 : jj_D cX8_splice 66 (.iload_n 2) 1 67 := ⟨rfl, by decide +kernel⟩
theorem dX8_splice_67 : jj_D cX8_splice 67 (.iload_n 3) 1 68 := ⟨rfl, by decide +kernel⟩
theorem dX8_splice_68 : jj_D cX8_splice 68 (.invokevirtual 86) 3 71 := ⟨rfl, by decide +kernel⟩
theorem dX8_splice_71 : jj_D cX8_splice 71 (.istore 8) 2 73 := ⟨rfl, by decide +kernel⟩
theorem dX8_splice_73 : jj_D cX8_splice 73 (.aload 7) 2 75 := ⟨rfl, by decide +kernel⟩
theorem dX8_splice_75 : jj_D cX8_splice 75 (.ifnull 19) 3 78 := ⟨rfl, by decide +kernel⟩
theorem dX8_splice_78 : jj_D cX8_splice 78 (.aload_n 0) 1 79 := ⟨rfl, by decide +kernel⟩
theorem dX8_splice_79 : jj_D cX8_splice 79 (.aload 7) 2 81 := ⟨rfl, by decide +kernel⟩
theorem dX8_splice_81 : jj_D cX8_splice 81 (.invokevirtual 82) 3 84 := ⟨rfl, by decide +kernel⟩
theorem dX8_splice_84 : jj_D cX8_splice 84 (.iload 8) 2 86 := ⟨rfl, by decide +kernel⟩
theorem dX8_splice_86 : jj_D cX8_splice 86 (.aload 7) 2 88 := ⟨rfl, by decide +kernel⟩
theorem dX8_splice_88 : jj_D cX8_splice 88 (.getfield 90) 3 91 := ⟨rfl, by decide +kernel⟩
theorem dX8_splice_91 : jj_D cX8_splice 91 (.iadd) 1 92 := ⟨rfl, by decide +kernel⟩
theorem dX8_splice_92 : jj_D cX8_splice 92 (.istore 8) 2 94 := ⟨rfl, by decide +kernel⟩
theorem dX8_splice_94 : jj_D cX8_splice 94 (.iload 8) 2 96 := ⟨rfl, by decide +kernel⟩
theorem dX8_splice_96 : jj_D cX8_splice 96 (.bipush 20) 2 98 := ⟨rfl, by decide +kernel⟩
theorem dX8_splice_98 : jj_D cX8_splice 98 (.if_icmp .le 13) 3 101 := ⟨rfl, by decide +kernel⟩
theorem dX8_splice_101 : jj_D cX8_splice 101 (.new 93) 3 104 := ⟨rfl, by decide +kernel⟩
theorem dX8_splice_104 : jj_D cX8_splice 104 (.dup) 1 105 := ⟨rfl, by decide +kernel⟩
theorem dX8_splice_105 : jj_D cX8_splice 105 (.ldc 95) 2 107 := ⟨rfl, by decide +kernel⟩
theorem dX8_splice_107 : jj_D cX8_splice 107 (.invokespecial 97) 3 110 := ⟨rfl, by decide +kernel⟩
theorem dX8_splice_110 : jj_D cX8_splice 110 (.athrow) 1 111 := ⟨rfl, by decide +kernel⟩
theorem dX8_splice_111 : jj_D cX8_splice 111 (.aload_n 0) 1 112 := ⟨rfl, by decide +kernel⟩
theorem dX8_splice_112 : jj_D cX8_splice 112 (.invokevirtual 62) 3 115 := ⟨rfl, by decide +kernel⟩
theorem dX8_splice_115 : jj_D cX8_splice 115 (.istore 9) 2 117 := ⟨rfl, by decide +kernel⟩
theorem dX8_splice_117 : jj_D cX8_splice 117 (.aload_n 0) 1 118 := ⟨rfl, by decide +kernel⟩
theorem dX8_splice_118 : jj_D cX8_splice 118 (.getfield 11) 3 121 := ⟨rfl, by decide +kernel⟩
theorem dX8_splice_121 : jj_D cX8_splice 121 (.iload 9) 2 123 := ⟨rfl, by decide +kernel⟩
theorem dX8_splice_123 : jj_D cX8_splice 123 (.new 9) 3 126 := ⟨rfl, by decide +kernel⟩
theorem dX8_splice_126 : jj_D cX8_splice 126 (.dup) 1 127 := ⟨rfl, by decide +kernel⟩
theorem dX8_splice_127 : jj_D cX8_splice 127 (.iload 9) 2 129 := ⟨rfl, by decide +kernel⟩
theorem dX8_splice_129 : jj_D cX8_splice 129 (.iload 5) 2 131 := ⟨rfl, by decide +kernel⟩
theorem dX8_splice_131 : jj_D cX8_splice 131 (.aload 6) 2 133 := ⟨rfl, by decide +kernel⟩
theorem dX8_splice_133 : jj_D cX8_splice 133 (.iload_n 2) 1 134 := ⟨rfl, by decide +kernel⟩
theorem dX8_splice_134 : jj_D cX8_splice 134 (.iload_n 3) 1 135 := ⟨rfl, by decide +kernel⟩
theorem dX8_splice_135 : jj_D cX8_splice 135 (.aload 7) 2 137 := ⟨rfl, by decide +kernel⟩
theorem dX8_splice_137 : jj_D cX8_splice 137 (.invokespecial 98) 3 140 := ⟨rfl, by decide +kernel⟩
theorem dX8_splice_140 : jj_D cX8_splice 140 (.aastore) 1 141 := ⟨rfl, by decide +kernel⟩
theorem dX8_splice_141 : jj_D cX8_splice 141 (.aload_n 0) 1 142 := ⟨rfl, by decide +kernel⟩
theorem dX8_splice_142 : jj_D cX8_splice 142 (.dup) 1 143 := ⟨rfl, by decide +kernel⟩
theorem dX8_splice_143 : jj_D cX8_splice 143 (.getfield 69) 3 146 := ⟨rfl, by decide +kernel⟩
theorem dX8_splice_146 : jj_D cX8_splice 146 (.iconst 1) 1 147 := ⟨rfl, by decide +kernel⟩
theorem dX8_splice_147 : jj_D cX8_splice 147 (.iadd) 1 148 := ⟨rfl, by decide +kernel⟩
theorem dX8_splice_148 : jj_D cX8_splice 148 (.putfield 69) 3 151 := ⟨rfl, by decide +kernel⟩
theorem dX8_splice_151 : jj_D cX8_splice 151 (.iload 9) 2 153 := ⟨rfl, by decide +kernel⟩
theorem dX8_splice_153 : jj_D cX8_splice 153 (.ireturn) 1 154 := ⟨rfl, by decide +kernel⟩
theorem dX8_shed_0 : jj_D cX8_shed 0 (.aload_n 0) 1 1 := ⟨rfl, by decide +kernel⟩
theorem dX8_shed_1 : jj_D cX8_shed 1 (.iload_n 1) 1 2 := ⟨rfl, by decide +kernel⟩
theorem dX8_shed_2 : jj_D cX8_shed 2 (.invokevirtual 73) 3 5 := ⟨rfl, by decide +kernel⟩
theorem dX8_shed_5 : jj_D cX8_shed 5 (.astore_n 2) 1 6 := ⟨rfl, by decide +kernel⟩
theorem dX8_shed_6 : jj_D cX8_shed 6 (.aload_n 2) 1 7 := ⟨rfl, by decide +kernel⟩
theorem dX8_shed_7 : jj_D cX8_shed 7 (.getfield 101) 3 10 := ⟨rfl, by decide +kernel⟩
theorem dX8_shed_10 : jj_D cX8_shed 10 (.ifCond .eq 13) 3 13 := ⟨rfl, by decide +kernel⟩
theorem dX8_shed_13 : jj_D cX8_shed 13 (.new 93) 3 16 := ⟨rfl, by decide +kernel⟩
theorem dX8_shed_16 : jj_D cX8_shed 16 (.dup) 1 17 := ⟨rfl, by decide +kernel⟩
theorem dX8_shed_17 : jj_D cX8_shed 17 (.ldc 104) 2 19 := ⟨rfl, by decide +kernel⟩
theorem dX8_shed_19 : jj_D cX8_shed 19 (.invokespecial 97) 3 22 := ⟨rfl, by decide +kernel⟩
theorem dX8_shed_22 : jj_D cX8_shed 22 (.athrow) 1 23 := ⟨rfl, by decide +kernel⟩
theorem dX8_shed_23 : jj_D cX8_shed 23 (.aload_n 2) 1 24 := ⟨rfl, by decide +kernel⟩
theorem dX8_shed_24 : jj_D cX8_shed 24 (.iconst 1) 1 25 := ⟨rfl, by decide +kernel⟩
theorem dX8_shed_25 : jj_D cX8_shed 25 (.putfield 101) 3 28 := ⟨rfl, by decide +kernel⟩
theorem dX8_shed_28 : jj_D cX8_shed 28 (.return_) 1 29 := ⟨rfl, by decide +kernel⟩
theorem dX8_bake_0 : jj_D cX8_bake 0 (.aload_n 0) 1 1 := ⟨rfl, by decide +kernel⟩
theorem dX8_bake_1 : jj_D cX8_bake 1 (.iload_n 1) 1 2 := ⟨rfl, by decide +kernel⟩
theorem dX8_bake_2 : jj_D cX8_bake 2 (.invokevirtual 73) 3 5 := ⟨rfl, by decide +kernel⟩
theorem dX8_bake_5 : jj_D cX8_bake 5 (.astore_n 2) 1 6 := ⟨rfl, by decide +kernel⟩
theorem dX8_bake_6 : jj_D cX8_bake 6 (.aload_n 2) 1 7 := ⟨rfl, by decide +kernel⟩
theorem dX8_bake_7 : jj_D cX8_bake 7 (.getfield 101) 3 10 := ⟨rfl, by decide +kernel⟩
theorem dX8_bake_10 : jj_D cX8_bake 10 (.iconst 1) 1 11 := ⟨rfl, by decide +kernel⟩
theorem dX8_bake_11 : jj_D cX8_bake 11 (.if_icmp .eq 13) 3 14 := ⟨rfl, by decide +kernel⟩
theorem dX8_bake_14 : jj_D cX8_bake 14 (.new 93) 3 17 := ⟨rfl, by decide +kernel⟩
theorem dX8_bake_17 : jj_D cX8_bake 17 (.dup) 1 18 := ⟨rfl, by decide +kernel⟩
theorem dX8_bake_18 : jj_D cX8_bake 18 (.ldc 106) 2 20 := ⟨rfl, by decide +kernel⟩
theorem dX8_bake_20 : jj_D cX8_bake 20 (.invokespecial 97) 3 23 := ⟨rfl, by decide +kernel⟩
theorem dX8_bake_23 : jj_D cX8_bake 23 (.athrow) 1 24 := ⟨rfl, by decide +kernel⟩
theorem dX8_bake_24 : jj_D cX8_bake 24 (.aload_n 2) 1 25 := ⟨rfl, by decide +kernel⟩
theorem dX8_bake_25 : jj_D cX8_bake 25 (.iconst 2) 1 26 := ⟨rfl, by decide +kernel⟩
theorem dX8_bake_26 : jj_D cX8_bake 26 (.putfield 101) 3 29 := ⟨rfl, by decide +kernel⟩
theorem dX8_bake_29 : jj_D cX8_bake 29 (.aload_n 2) 1 30 := ⟨rfl, by decide +kernel⟩
theorem dX8_bake_30 : jj_D cX8_bake 30 (.aload_n 0) 1 31 := ⟨rfl, by decide +kernel⟩
theorem dX8_bake_31 : jj_D cX8_bake 31 (.getfield 108) 3 34 := ⟨rfl, by decide +kernel⟩
theorem dX8_bake_34 : jj_D cX8_bake 34 (.putfield 111) 3 37 := ⟨rfl, by decide +kernel⟩
theorem dX8_bake_37 : jj_D cX8_bake 37 (.aload_n 0) 1 38 := ⟨rfl, by decide +kernel⟩
theorem dX8_bake_38 : jj_D cX8_bake 38 (.getfield 108) 3 41 := ⟨rfl, by decide +kernel⟩
theorem dX8_bake_41 : jj_D cX8_bake 41 (.bipush 30) 2 43 := ⟨rfl, by decide +kernel⟩
theorem dX8_bake_43 : jj_D cX8_bake 43 (.iadd) 1 44 := ⟨rfl, by decide +kernel⟩
theorem dX8_bake_44 : jj_D cX8_bake 44 (.ireturn) 1 45 := ⟨rfl, by decide +kernel⟩
theorem dX8_fire_0 : jj_D cX8_fire 0 (.iload_n 1) 1 1 := ⟨rfl, by decide +kernel⟩
theorem dX8_fire_1 : jj_D cX8_fire 1 (.invokestatic 52) 3 4 := ⟨rfl, by decide +kernel⟩
theorem dX8_fire_4 : jj_D cX8_fire 4 (.iconst 0) 1 5 := ⟨rfl, by decide +kernel⟩
theorem dX8_fire_5 : jj_D cX8_fire 5 (.istore_n 2) 1 6 := ⟨rfl, by decide +kernel⟩
theorem dX8_fire_6 : jj_D cX8_fire 6 (.aload_n 0) 1 7 := ⟨rfl, by decide +kernel⟩
theorem dX8_fire_7 : jj_D cX8_fire 7 (.getfield 11) 3 10 := ⟨rfl, by decide +kernel⟩
theorem dX8_fire_10 : jj_D cX8_fire 10 (.astore_n 3) 1 11 := ⟨rfl, by decide +kernel⟩
theorem dX8_fire_11 : jj_D cX8_fire 11 (.aload_n 3) 1 12 := ⟨rfl, by decide +kernel⟩
theorem dX8_fire_12 : jj_D cX8_fire 12 (.arraylength) 1 13 := ⟨rfl, by decide +kernel⟩
theorem dX8_fire_13 : jj_D cX8_fire 13 (.istore 4) 2 15 := ⟨rfl, by decide +kernel⟩
theorem dX8_fire_15 : jj_D cX8_fire 15 (.iconst 0) 1 16 := ⟨rfl, by decide +kernel⟩
theorem dX8_fire_16 : jj_D cX8_fire 16 (.istore 5) 2 18 := ⟨rfl, by decide +kernel⟩
theorem dX8_fire_18 : jj_D cX8_fire 18 (.iload 5) 2 20 := ⟨rfl, by decide +kernel⟩
theorem dX8_fire_20 : jj_D cX8_fire 20 (.iload 4) 2 22 := ⟨rfl, by decide +kernel⟩
theorem dX8_fire_22 : jj_D cX8_fire 22 (.if_icmp .ge 47) 3 25 := ⟨rfl, by decide +kernel⟩
theorem dX8_fire_25 : jj_D cX8_fire 25 (.aload_n 3) 1 26 := ⟨rfl, by decide +kernel⟩
theorem dX8_fire_26 : jj_D cX8_fire 26 (.iload 5) 2 28 := ⟨rfl, by decide +kernel⟩
theorem dX8_fire_28 : jj_D cX8_fire 28 (.aaload) 1 29 := ⟨rfl, by decide +kernel⟩
theorem dX8_fire_29 : jj_D cX8_fire 29 (.astore 6) 2 31 := ⟨rfl, by decide +kernel⟩
theorem dX8_fire_31 : jj_D cX8_fire 31 (.aload 6) 2 33 := ⟨rfl, by decide +kernel⟩
theorem dX8_fire_33 : jj_D cX8_fire 33 (.ifnull 30) 3 36 := ⟨rfl, by decide +kernel⟩
theorem dX8_fire_36 : jj_D cX8_fire 36 (.aload 6) 2 38 := ⟨rfl, by decide +kernel⟩
theorem dX8_fire_38 : jj_D cX8_fire 38 (.getfield 114) 3 41 := ⟨rfl, by decide +kernel⟩
theorem dX8_fire_41 : jj_D cX8_fire 41 (.iload_n 1) 1 42 := ⟨rfl, by decide +kernel⟩
theorem dX8_fire_42 : jj_D cX8_fire 42 (.if_icmp .ne 21) 3 45 := ⟨rfl, by decide +kernel⟩
theorem dX8_fire_45 : jj_D cX8_fire 45 (.aload 6) 2 47 := ⟨rfl, by decide +kernel⟩
theorem dX8_fire_47 : jj_D cX8_fire 47 (.getfield 101) 3 50 := ⟨rfl, by decide +kernel⟩
theorem dX8_fire_50 : jj_D cX8_fire 50 (.iconst 3) 1 51 := ⟨rfl, by decide +kernel⟩
theorem dX8_fire_51 : jj_D cX8_fire 51 (.if_icmp .eq 12) 3 54 := ⟨rfl, by decide +kernel⟩
theorem dX8_fire_54 : jj_D cX8_fire 54 (.aload 6) 2 56 := ⟨rfl, by decide +kernel⟩
theorem dX8_fire_56 : jj_D cX8_fire 56 (.iconst 3) 1 57 := ⟨rfl, by decide +kernel⟩
theorem dX8_fire_57 : jj_D cX8_fire 57 (.putfield 101) 3 60 := ⟨rfl, by decide +kernel⟩
theorem dX8_fire_60 : jj_D cX8_fire 60 (.iinc 2 1) 3 63 := ⟨rfl, by decide +kernel⟩
theorem dX8_fire_63 : jj_D cX8_fire 63 (.iinc 5 1) 3 66 := ⟨rfl, by decide +kernel⟩
theorem dX8_fire_66 : jj_D cX8_fire 66 (.goto (-48)) 3 69 := ⟨rfl, by decide +kernel⟩
theorem dX8_fire_69 : jj_D cX8_fire 69 (.iload_n 2) 1 70 := ⟨rfl, by decide +kernel⟩
theorem dX8_fire_70 : jj_D cX8_fire 70 (.ireturn) 1 71 := ⟨rfl, by decide +kernel⟩
theorem dX8_tapeIs_0 : jj_D cX8_tapeIs 0 (.aload_n 0) 1 1 := ⟨rfl, by decide +kernel⟩
theorem dX8_tapeIs_1 : jj_D cX8_tapeIs 1 (.iload_n 1) 1 2 := ⟨rfl, by decide +kernel⟩
theorem dX8_tapeIs_2 : jj_D cX8_tapeIs 2 (.invokevirtual 73) 3 5 := ⟨rfl, by decide +kernel⟩
theorem dX8_tapeIs_5 : jj_D cX8_tapeIs 5 (.astore_n 3) 1 6 := ⟨rfl, by decide +kernel⟩
theorem dX8_tapeIs_6 : jj_D cX8_tapeIs 6 (.iload_n 2) 1 7 := ⟨rfl, by decide +kernel⟩
theorem dX8_tapeIs_7 : jj_D cX8_tapeIs 7 (.tableswitch 79 0 5 #[37, 42, 59, 64, 69, 74]) 37 44 := ⟨rfl, by decide +kernel⟩
theorem dX8_tapeIs_44 : jj_D cX8_tapeIs 44 (.aload_n 3) 1 45 := ⟨rfl, by decide +kernel⟩
theorem dX8_tapeIs_45 : jj_D cX8_tapeIs 45 (.getfield 101) 3 48 := ⟨rfl, by decide +kernel⟩
theorem dX8_tapeIs_48 : jj_D cX8_tapeIs 48 (.ireturn) 1 49 := ⟨rfl, by decide +kernel⟩
theorem dX8_tapeIs_49 : jj_D cX8_tapeIs 49 (.aload_n 3) 1 50 := ⟨rfl, by decide +kernel⟩
theorem dX8_tapeIs_50 : jj_D cX8_tapeIs 50 (.aload_n 0) 1 51 := ⟨rfl, by decide +kernel⟩
theorem dX8_tapeIs_51 : jj_D cX8_tapeIs 51 (.getfield 108) 3 54 := ⟨rfl, by decide +kernel⟩
theorem dX8_tapeIs_54 : jj_D cX8_tapeIs 54 (.invokevirtual 117) 3 57 := ⟨rfl, by decide +kernel⟩
theorem dX8_tapeIs_57 : jj_D cX8_tapeIs 57 (.ifCond .eq 7) 3 60 := ⟨rfl, by decide +kernel⟩
theorem dX8_tapeIs_60 : jj_D cX8_tapeIs 60 (.iconst 1) 1 61 := ⟨rfl, by decide +kernel⟩
theorem dX8_tapeIs_61 : jj_D cX8_tapeIs 61 (.goto 4) 3 64 := ⟨rfl, by decide +kernel⟩
theorem dX8_tapeIs_64 : jj_D cX8_tapeIs 64 (.iconst 0) 1 65 := ⟨rfl, by decide +kernel⟩
theorem dX8_tapeIs_65 : jj_D cX8_tapeIs 65 (.ireturn) 1 66 := ⟨rfl, by decide +kernel⟩
theorem dX8_tapeIs_66 : jj_D cX8_tapeIs 66 (.aload_n 3) 1 67 := ⟨rfl, by decide +kernel⟩
theorem dX8_tapeIs_67 : jj_D cX8_tapeIs 67 (.getfield 77) 3 70 := ⟨rfl, by decide +kernel⟩
theorem dX8_tapeIs_70 : jj_D cX8_tapeIs 70 (.ireturn) 1 71 := ⟨rfl, by decide +kernel⟩
theorem dX8_tapeIs_71 : jj_D cX8_tapeIs 71 (.aload_n 3) 1 72 := ⟨rfl, by decide +kernel⟩
theorem dX8_tapeIs_72 : jj_D cX8_tapeIs 72 (.getfield 121) 3 75 := ⟨rfl, by decide +kernel⟩
theorem dX8_tapeIs_75 : jj_D cX8_tapeIs 75 (.ireturn) 1 76 := ⟨rfl, by decide +kernel⟩
theorem dX8_tapeIs_76 : jj_D cX8_tapeIs 76 (.aload_n 3) 1 77 := ⟨rfl, by decide +kernel⟩
theorem dX8_tapeIs_77 : jj_D cX8_tapeIs 77 (.getfield 114) 3 80 := ⟨rfl, by decide +kernel⟩
theorem dX8_tapeIs_80 : jj_D cX8_tapeIs 80 (.ireturn) 1 81 := ⟨rfl, by decide +kernel⟩
theorem dX8_tapeIs_81 : jj_D cX8_tapeIs 81 (.aload_n 3) 1 82 := ⟨rfl, by decide +kernel⟩
theorem dX8_tapeIs_82 : jj_D cX8_tapeIs 82 (.getfield 90) 3 85 := ⟨rfl, by decide +kernel⟩
theorem dX8_tapeIs_85 : jj_D cX8_tapeIs 85 (.ireturn) 1 86 := ⟨rfl, by decide +kernel⟩
theorem dX8_tapeIs_86 : jj_D cX8_tapeIs 86 (.new 55) 3 89 := ⟨rfl, by decide +kernel⟩
theorem dX8_tapeIs_89 : jj_D cX8_tapeIs 89 (.dup) 1 90 := ⟨rfl, by decide +kernel⟩
theorem dX8_tapeIs_90 : jj_D cX8_tapeIs 90 (.ldc 124) 2 92 := ⟨rfl, by decide +kernel⟩
theorem dX8_tapeIs_92 : jj_D cX8_tapeIs 92 (.invokespecial 59) 3 95 := ⟨rfl, by decide +kernel⟩
theorem dX8_tapeIs_95 : jj_D cX8_tapeIs 95 (.athrow) 1 96 := ⟨rfl, by decide +kernel⟩
theorem dX8_heard_0 : jj_D cX8_heard 0 (.aload_n 0) 1 1 := ⟨rfl, by decide +kernel⟩
theorem dX8_heard_1 : jj_D cX8_heard 1 (.iload_n 1) 1 2 := ⟨rfl, by decide +kernel⟩
theorem dX8_heard_2 : jj_D cX8_heard 2 (.invokevirtual 73) 3 5 := ⟨rfl, by decide +kernel⟩
theorem dX8_heard_5 : jj_D cX8_heard 5 (.astore_n 3) 1 6 := ⟨rfl, by decide +kernel⟩
theorem dX8_heard_6 : jj_D cX8_heard 6 (.iload_n 2) 1 7 := ⟨rfl, by decide +kernel⟩
theorem dX8_heard_7 : jj_D cX8_heard 7 (.ifCond .ge 13) 3 10 := ⟨rfl, by decide +kernel⟩
theorem dX8_heard_10 : jj_D cX8_heard 10 (.new 55) 3 13 := ⟨rfl, by decide +kernel⟩
theorem dX8_heard_13 : jj_D cX8_heard 13 (.dup) 1 14 := ⟨rfl, by decide +kernel⟩
theorem dX8_heard_14 : jj_D cX8_heard 14 (.ldc 126) 2 16 := ⟨rfl, by decide +kernel⟩
theorem dX8_heard_16 : jj_D cX8_heard 16 (.invokespecial 59) 3 19 := ⟨rfl, by decide +kernel⟩
theorem dX8_heard_19 : jj_D cX8_heard 19 (.athrow) 1 20 := ⟨rfl, by decide +kernel⟩
theorem dX8_heard_20 : jj_D cX8_heard 20 (.aload_n 3) 1 21 := ⟨rfl, by decide +kernel⟩
theorem dX8_heard_21 : jj_D cX8_heard 21 (.iload_n 2) 1 22 := ⟨rfl, by decide +kernel⟩
theorem dX8_heard_22 : jj_D cX8_heard 22 (.invokevirtual 128) 3 25 := ⟨rfl, by decide +kernel⟩
theorem dX8_heard_25 : jj_D cX8_heard 25 (.ireturn) 1 26 := ⟨rfl, by decide +kernel⟩
theorem dX8_takes_0 : jj_D cX8_takes 0 (.aload_n 0) 1 1 := ⟨rfl, by decide +kernel⟩
theorem dX8_takes_1 : jj_D cX8_takes 1 (.iload_n 1) 1 2 := ⟨rfl, by decide +kernel⟩
theorem dX8_takes_2 : jj_D cX8_takes 2 (.invokevirtual 73) 3 5 := ⟨rfl, by decide +kernel⟩
theorem dX8_takes_5 : jj_D cX8_takes 5 (.invokevirtual 132) 3 8 := ⟨rfl, by decide +kernel⟩
theorem dX8_takes_8 : jj_D cX8_takes 8 (.ireturn) 1 9 := ⟨rfl, by decide +kernel⟩
theorem dX8_takesAnew_0 : jj_D cX8_takesAnew 0 (.aload_n 0) 1 1 := ⟨rfl, by decide +kernel⟩
theorem dX8_takesAnew_1 : jj_D cX8_takesAnew 1 (.iload_n 1) 1 2 := ⟨rfl, by decide +kernel⟩
theorem dX8_takesAnew_2 : jj_D cX8_takesAnew 2 (.invokevirtual 73) 3 5 := ⟨rfl, by decide +kernel⟩
theorem dX8_takesAnew_5 : jj_D cX8_takesAnew 5 (.invokestatic 135) 3 8 := ⟨rfl, by decide +kernel⟩
theorem dX8_takesAnew_8 : jj_D cX8_takesAnew 8 (.ireturn) 1 9 := ⟨rfl, by decide +kernel⟩
theorem dX8_isLost_0 : jj_D cX8_isLost 0 (.aload_n 0) 1 1 := ⟨rfl, by decide +kernel⟩
theorem dX8_isLost_1 : jj_D cX8_isLost 1 (.iload_n 1) 1 2 := ⟨rfl, by decide +kernel⟩
theorem dX8_isLost_2 : jj_D cX8_isLost 2 (.invokevirtual 73) 3 5 := ⟨rfl, by decide +kernel⟩
theorem dX8_isLost_5 : jj_D cX8_isLost 5 (.getfield 139) 3 8 := ⟨rfl, by decide +kernel⟩
theorem dX8_isLost_8 : jj_D cX8_isLost 8 (.ifnull 13) 3 11 := ⟨rfl, by decide +kernel⟩
theorem dX8_isLost_11 : jj_D cX8_isLost 11 (.new 143) 3 14 := ⟨rfl, by decide +kernel⟩
theorem dX8_isLost_14 : jj_D cX8_isLost 14 (.dup) 1 15 := ⟨rfl, by decide +kernel⟩
theorem dX8_isLost_15 : jj_D cX8_isLost 15 (.ldc 145) 2 17 := ⟨rfl, by decide +kernel⟩
theorem dX8_isLost_17 : jj_D cX8_isLost 17 (.invokespecial 147) 3 20 := ⟨rfl, by decide +kernel⟩
theorem dX8_isLost_20 : jj_D cX8_isLost 20 (.athrow) 1 21 := ⟨rfl, by decide +kernel⟩
theorem dX8_isLost_21 : jj_D cX8_isLost 21 (.aload_n 0) 1 22 := ⟨rfl, by decide +kernel⟩
theorem dX8_isLost_22 : jj_D cX8_isLost 22 (.getfield 11) 3 25 := ⟨rfl, by decide +kernel⟩
theorem dX8_isLost_25 : jj_D cX8_isLost 25 (.astore_n 2) 1 26 := ⟨rfl, by decide +kernel⟩
theorem dX8_isLost_26 : jj_D cX8_isLost 26 (.aload_n 2) 1 27 := ⟨rfl, by decide +kernel⟩
theorem dX8_isLost_27 : jj_D cX8_isLost 27 (.arraylength) 1 28 := ⟨rfl, by decide +kernel⟩
theorem dX8_isLost_28 : jj_D cX8_isLost 28 (.istore_n 3) 1 29 := ⟨rfl, by decide +kernel⟩
theorem dX8_isLost_29 : jj_D cX8_isLost 29 (.iconst 0) 1 30 := ⟨rfl, by decide +kernel⟩
theorem dX8_isLost_30 : jj_D cX8_isLost 30 (.istore 4) 2 32 := ⟨rfl, by decide +kernel⟩
theorem dX8_isLost_32 : jj_D cX8_isLost 32 (.iload 4) 2 34 := ⟨rfl, by decide +kernel⟩
theorem dX8_isLost_34 : jj_D cX8_isLost 34 (.iload_n 3) 1 35 := ⟨rfl, by decide +kernel⟩
theorem dX8_isLost_35 : jj_D cX8_isLost 35 (.if_icmp .ge 43) 3 38 := ⟨rfl, by decide +kernel⟩
theorem dX8_isLost_38 : jj_D cX8_isLost 38 (.aload_n 2) 1 39 := ⟨rfl, by decide +kernel⟩
theorem dX8_isLost_39 : jj_D cX8_isLost 39 (.iload 4) 2 41 := ⟨rfl, by decide +kernel⟩
theorem dX8_isLost_41 : jj_D cX8_isLost 41 (.aaload) 1 42 := ⟨rfl, by decide +kernel⟩
theorem dX8_isLost_42 : jj_D cX8_isLost 42 (.astore 5) 2 44 := ⟨rfl, by decide +kernel⟩
theorem dX8_isLost_44 : jj_D cX8_isLost 44 (.aload 5) 2 46 := ⟨rfl, by decide +kernel⟩
theorem dX8_isLost_46 : jj_D cX8_isLost 46 (.ifnull 26) 3 49 := ⟨rfl, by decide +kernel⟩
theorem dX8_isLost_49 : jj_D cX8_isLost 49 (.aload 5) 2 51 := ⟨rfl, by decide +kernel⟩
theorem dX8_isLost_51 : jj_D cX8_isLost 51 (.getfield 101) 3 54 := ⟨rfl, by decide +kernel⟩
theorem dX8_isLost_54 : jj_D cX8_isLost 54 (.iconst 3) 1 55 := ⟨rfl, by decide +kernel⟩
theorem dX8_isLost_55 : jj_D cX8_isLost 55 (.if_icmp .eq 17) 3 58 := ⟨rfl, by decide +kernel⟩
theorem dX8_isLost_58 : jj_D cX8_isLost 58 (.aload 5) 2 60 := ⟨rfl, by decide +kernel⟩
theorem dX8_isLost_60 : jj_D cX8_isLost 60 (.invokevirtual 132) 3 63 := ⟨rfl, by decide +kernel⟩
theorem dX8_isLost_63 : jj_D cX8_isLost 63 (.iload_n 1) 1 64 := ⟨rfl, by decide +kernel⟩
theorem dX8_isLost_64 : jj_D cX8_isLost 64 (.invokestatic 148) 3 67 := ⟨rfl, by decide +kernel⟩
theorem dX8_isLost_67 : jj_D cX8_isLost 67 (.ifCond .eq 5) 3 70 := ⟨rfl, by decide +kernel⟩
theorem dX8_isLost_70 : jj_D cX8_isLost 70 (.iconst 0) 1 71 := ⟨rfl, by decide +kernel⟩
theorem dX8_isLost_71 : jj_D cX8_isLost 71 (.ireturn) 1 72 := ⟨rfl, by decide +kernel⟩
theorem dX8_isLost_72 : jj_D cX8_isLost 72 (.iinc 4 1) 3 75 := ⟨rfl, by decide +kernel⟩
theorem dX8_isLost_75 : jj_D cX8_isLost 75 (.goto (-43)) 3 78 := ⟨rfl, by decide +kernel⟩
theorem dX8_isLost_78 : jj_D cX8_isLost 78 (.aload_n 0) 1 79 := ⟨rfl, by decide +kernel⟩
theorem dX8_isLost_79 : jj_D cX8_isLost 79 (.getfield 24) 3 82 := ⟨rfl, by decide +kernel⟩
theorem dX8_isLost_82 : jj_D cX8_isLost 82 (.astore_n 2) 1 83 := ⟨rfl, by decide +kernel⟩
theorem dX8_isLost_83 : jj_D cX8_isLost 83 (.aload_n 2) 1 84 := ⟨rfl, by decide +kernel⟩
theorem dX8_isLost_84 : jj_D cX8_isLost 84 (.arraylength) 1 85 := ⟨rfl, by decide +kernel⟩
theorem dX8_isLost_85 : jj_D cX8_isLost 85 (.istore_n 3) 1 86 := ⟨rfl, by decide +kernel⟩
theorem dX8_isLost_86 : jj_D cX8_isLost 86 (.iconst 0) 1 87 := ⟨rfl, by decide +kernel⟩
theorem dX8_isLost_87 : jj_D cX8_isLost 87 (.istore 4) 2 89 := ⟨rfl, by decide +kernel⟩
theorem dX8_isLost_89 : jj_D cX8_isLost 89 (.iload 4) 2 91 := ⟨rfl, by decide +kernel⟩
theorem dX8_isLost_91 : jj_D cX8_isLost 91 (.iload_n 3) 1 92 := ⟨rfl, by decide +kernel⟩
theorem dX8_isLost_92 : jj_D cX8_isLost 92 (.if_icmp .ge 42) 3 95 := ⟨rfl, by decide +kernel⟩
theorem dX8_isLost_95 : jj_D cX8_isLost 95 (.aload_n 2) 1 96 := ⟨rfl, by decide +kernel⟩
theorem dX8_isLost_96 : jj_D cX8_isLost 96 (.iload 4) 2 98 := ⟨rfl, by decide +kernel⟩
theorem dX8_isLost_98 : jj_D cX8_isLost 98 (.aaload) 1 99 := ⟨rfl, by decide +kernel⟩
theorem dX8_isLost_99 : jj_D cX8_isLost 99 (.astore 5) 2 101 := ⟨rfl, by decide +kernel⟩
theorem dX8_isLost_101 : jj_D cX8_isLost 101 (.aload 5) 2 103 := ⟨rfl, by decide +kernel⟩
theorem dX8_isLost_103 : jj_D cX8_isLost 103 (.ifnull 25) 3 106 := ⟨rfl, by decide +kernel⟩
theorem dX8_isLost_106 : jj_D cX8_isLost 106 (.aload 5) 2 108 := ⟨rfl, by decide +kernel⟩
theorem dX8_isLost_108 : jj_D cX8_isLost 108 (.getfield 152) 3 111 := ⟨rfl, by decide +kernel⟩
theorem dX8_isLost_111 : jj_D cX8_isLost 111 (.iload_n 1) 1 112 := ⟨rfl, by decide +kernel⟩
theorem dX8_isLost_112 : jj_D cX8_isLost 112 (.invokestatic 148) 3 115 := ⟨rfl, by decide +kernel⟩
theorem dX8_isLost_115 : jj_D cX8_isLost 115 (.ifCond .eq 13) 3 118 := ⟨rfl, by decide +kernel⟩
theorem dX8_isLost_118 : jj_D cX8_isLost 118 (.aload 5) 2 120 := ⟨rfl, by decide +kernel⟩
theorem dX8_isLost_120 : jj_D cX8_isLost 120 (.invokevirtual 154) 3 123 := ⟨rfl, by decide +kernel⟩
theorem dX8_isLost_123 : jj_D cX8_isLost 123 (.ifCond .eq 5) 3 126 := ⟨rfl, by decide +kernel⟩
theorem dX8_isLost_126 : jj_D cX8_isLost 126 (.iconst 0) 1 127 := ⟨rfl, by decide +kernel⟩
theorem dX8_isLost_127 : jj_D cX8_isLost 127 (.ireturn) 1 128 := ⟨rfl, by decide +kernel⟩
theorem dX8_isLost_128 : jj_D cX8_isLost 128 (.iinc 4 1) 3 131 := ⟨rfl, by decide +kernel⟩
theorem dX8_isLost_131 : jj_D cX8_isLost 131 (.goto (-42)) 3 134 := ⟨rfl, by decide +kernel⟩
theorem dX8_isLost_134 : jj_D cX8_isLost 134 (.iconst 1) 1 135 := ⟨rfl, by decide +kernel⟩
theorem dX8_isLost_135 : jj_D cX8_isLost 135 (.ireturn) 1 136 := ⟨rfl, by decide +kernel⟩
theorem dX8_add_0 : jj_D cX8_add 0 (.aload_n 0) 1 1 := ⟨rfl, by decide +kernel⟩
theorem dX8_add_1 : jj_D cX8_add 1 (.iload_n 1) 1 2 := ⟨rfl, by decide +kernel⟩
theorem dX8_add_2 : jj_D cX8_add 2 (.invokevirtual 73) 3 5 := ⟨rfl, by decide +kernel⟩
theorem dX8_add_5 : jj_D cX8_add 5 (.astore_n 2) 1 6 := ⟨rfl, by decide +kernel⟩
theorem dX8_add_6 : jj_D cX8_add 6 (.aload_n 0) 1 7 := ⟨rfl, by decide +kernel⟩
theorem dX8_add_7 : jj_D cX8_add 7 (.aload_n 2) 1 8 := ⟨rfl, by decide +kernel⟩
theorem dX8_add_8 : jj_D cX8_add 8 (.invokevirtual 82) 3 11 := ⟨rfl, by decide +kernel⟩
theorem dX8_add_11 : jj_D cX8_add 11 (.aload_n 0) 1 12 := ⟨rfl, by decide +kernel⟩
theorem dX8_add_12 : jj_D cX8_add 12 (.getfield 18) 3 15 := ⟨rfl, by decide +kernel⟩
theorem dX8_add_15 : jj_D cX8_add 15 (.getfield 158) 3 18 := ⟨rfl, by decide +kernel⟩
theorem dX8_add_18 : jj_D cX8_add 18 (.bipush 6) 2 20 := ⟨rfl, by decide +kernel⟩
theorem dX8_add_20 : jj_D cX8_add 20 (.if_icmp .lt 13) 3 23 := ⟨rfl, by decide +kernel⟩
theorem dX8_add_23 : jj_D cX8_add 23 (.new 93) 3 26 := ⟨rfl, by decide +kernel⟩
theorem dX8_add_26 : jj_D cX8_add 26 (.dup) 1 27 := ⟨rfl, by decide +kernel⟩
theorem dX8_add_27 : jj_D cX8_add 27 (.ldc 161) 2 29 := ⟨rfl, by decide +kernel⟩
theorem dX8_add_29 : jj_D cX8_add 29 (.invokespecial 97) 3 32 := ⟨rfl, by decide +kernel⟩
theorem dX8_add_32 : jj_D cX8_add 32 (.athrow) 1 33 := ⟨rfl, by decide +kernel⟩
theorem dX8_add_33 : jj_D cX8_add 33 (.aload_n 0) 1 34 := ⟨rfl, by decide +kernel⟩
theorem dX8_add_34 : jj_D cX8_add 34 (.getfield 18) 3 37 := ⟨rfl, by decide +kernel⟩
theorem dX8_add_37 : jj_D cX8_add 37 (.aload_n 2) 1 38 := ⟨rfl, by decide +kernel⟩
theorem dX8_add_38 : jj_D cX8_add 38 (.invokevirtual 163) 3 41 := ⟨rfl, by decide +kernel⟩
theorem dX8_add_41 : jj_D cX8_add 41 (.aload_n 0) 1 42 := ⟨rfl, by decide +kernel⟩
theorem dX8_add_42 : jj_D cX8_add 42 (.getfield 18) 3 45 := ⟨rfl, by decide +kernel⟩
theorem dX8_add_45 : jj_D cX8_add 45 (.getfield 158) 3 48 := ⟨rfl, by decide +kernel⟩
theorem dX8_add_48 : jj_D cX8_add 48 (.ireturn) 1 49 := ⟨rfl, by decide +kernel⟩
theorem dX8_clear_0 : jj_D cX8_clear 0 (.aload_n 0) 1 1 := ⟨rfl, by decide +kernel⟩
theorem dX8_clear_1 : jj_D cX8_clear 1 (.getfield 18) 3 4 := ⟨rfl, by decide +kernel⟩
theorem dX8_clear_4 : jj_D cX8_clear 4 (.getfield 158) 3 7 := ⟨rfl, by decide +kernel⟩
theorem dX8_clear_7 : jj_D cX8_clear 7 (.istore_n 1) 1 8 := ⟨rfl, by decide +kernel⟩
theorem dX8_clear_8 : jj_D cX8_clear 8 (.aload_n 0) 1 9 := ⟨rfl, by decide +kernel⟩
theorem dX8_clear_9 : jj_D cX8_clear 9 (.getfield 18) 3 12 := ⟨rfl, by decide +kernel⟩
theorem dX8_clear_12 : jj_D cX8_clear 12 (.invokevirtual 166) 3 15 := ⟨rfl, by decide +kernel⟩
theorem dX8_clear_15 : jj_D cX8_clear 15 (.iload_n 1) 1 16 := ⟨rfl, by decide +kernel⟩
theorem dX8_clear_16 : jj_D cX8_clear 16 (.ireturn) 1 17 := ⟨rfl, by decide +kernel⟩
theorem dX8_cut_0 : jj_D cX8_cut 0 (.iload_n 1) 1 1 := ⟨rfl, by decide +kernel⟩
theorem dX8_cut_1 : jj_D cX8_cut 1 (.iconst 1) 1 2 := ⟨rfl, by decide +kernel⟩
theorem dX8_cut_2 : jj_D cX8_cut 2 (.if_icmp .lt 8) 3 5 := ⟨rfl, by decide +kernel⟩
theorem dX8_cut_5 : jj_D cX8_cut 5 (.iload_n 1) 1 6 := ⟨rfl, by decide +kernel⟩
theorem dX8_cut_6 : jj_D cX8_cut 6 (.iconst 5) 1 7 := ⟨rfl, by decide +kernel⟩
theorem dX8_cut_7 : jj_D cX8_cut 7 (.if_icmp .le 13) 3 10 := ⟨rfl, by decide +kernel⟩
theorem dX8_cut_10 : jj_D cX8_cut 10 (.new 55) 3 13 := ⟨rfl, by decide +kernel⟩
theorem dX8_cut_13 : jj_D cX8_cut 13 (.dup) 1 14 := ⟨rfl, by decide +kernel⟩
theorem dX8_cut_14 : jj_D cX8_cut 14 (.ldc 169) 2 16 := ⟨rfl, by decide +kernel⟩
theorem dX8_cut_16 : jj_D cX8_cut 16 (.invokespecial 59) 3 19 := ⟨rfl, by decide +kernel⟩
theorem dX8_cut_19 : jj_D cX8_cut 19 (.athrow) 1 20 := ⟨rfl, by decide +kernel⟩
theorem dX8_cut_20 : jj_D cX8_cut 20 (.aload_n 0) 1 21 := ⟨rfl, by decide +kernel⟩
theorem dX8_cut_21 : jj_D cX8_cut 21 (.getfield 18) 3 24 := ⟨rfl, by decide +kernel⟩
theorem dX8_cut_24 : jj_D cX8_cut 24 (.getfield 158) 3 27 := ⟨rfl, by decide +kernel⟩
theorem dX8_cut_27 : jj_D cX8_cut 27 (.ifCond .eq 17) 3 30 := ⟨rfl, by decide +kernel⟩
theorem dX8_cut_30 : jj_D cX8_cut 30 (.aload_n 0) 1 31 := ⟨rfl, by decide +kernel⟩
theorem dX8_cut_31 : jj_D cX8_cut 31 (.getfield 18) 3 34 := ⟨rfl, by decide +kernel⟩
theorem dX8_cut_34 : jj_D cX8_cut 34 (.aload_n 0) 1 35 := ⟨rfl, by decide +kernel⟩
theorem dX8_cut_35 : jj_D cX8_cut 35 (.getfield 108) 3 38 := ⟨rfl, by decide +kernel⟩
theorem dX8_cut_38 : jj_D cX8_cut 38 (.invokevirtual 171) 3 41 := ⟨rfl, by decide +kernel⟩
theorem dX8_cut_41 : jj_D cX8_cut 41 (.ifCond .ne 13) 3 44 := ⟨rfl, by decide +kernel⟩
theorem dX8_cut_44 : jj_D cX8_cut 44 (.new 93) 3 47 := ⟨rfl, by decide +kernel⟩
theorem dX8_cut_47 : jj_D cX8_cut 47 (.dup) 1 48 := ⟨rfl, by decide +kernel⟩
theorem dX8_cut_48 : jj_D cX8_cut 48 (.ldc 172) 2 50 := ⟨rfl, by decide +kernel⟩
theorem dX8_cut_50 : jj_D cX8_cut 50 (.invokespecial 97) 3 53 := ⟨rfl, by decide +kernel⟩
theorem dX8_cut_53 : jj_D cX8_cut 53 (.athrow) 1 54 := ⟨rfl, by decide +kernel⟩
theorem dX8_cut_54 : jj_D cX8_cut 54 (.aload_n 0) 1 55 := ⟨rfl, by decide +kernel⟩
theorem dX8_cut_55 : jj_D cX8_cut 55 (.getfield 18) 3 58 := ⟨rfl, by decide +kernel⟩
theorem dX8_cut_58 : jj_D cX8_cut 58 (.invokevirtual 174) 3 61 := ⟨rfl, by decide +kernel⟩
theorem dX8_cut_61 : jj_D cX8_cut 61 (.sipush 1500) 3 64 := ⟨rfl, by decide +kernel⟩
theorem dX8_cut_64 : jj_D cX8_cut 64 (.sipush 150) 3 67 := ⟨rfl, by decide +kernel⟩
theorem dX8_cut_67 : jj_D cX8_cut 67 (.iload_n 1) 1 68 := ⟨rfl, by decide +kernel⟩
theorem dX8_cut_68 : jj_D cX8_cut 68 (.imul) 1 69 := ⟨rfl, by decide +kernel⟩
theorem dX8_cut_69 : jj_D cX8_cut 69 (.isub) 1 70 := ⟨rfl, by decide +kernel⟩
theorem dX8_cut_70 : jj_D cX8_cut 70 (.if_icmp .le 13) 3 73 := ⟨rfl, by decide +kernel⟩
theorem dX8_cut_73 : jj_D cX8_cut 73 (.new 93) 3 76 := ⟨rfl, by decide +kernel⟩
theorem dX8_cut_76 : jj_D cX8_cut 76 (.dup) 1 77 := ⟨rfl, by decide +kernel⟩
theorem dX8_cut_77 : jj_D cX8_cut 77 (.ldc 176) 2 79 := ⟨rfl, by decide +kernel⟩
theorem dX8_cut_79 : jj_D cX8_cut 79 (.invokespecial 97) 3 82 := ⟨rfl, by decide +kernel⟩
theorem dX8_cut_82 : jj_D cX8_cut 82 (.athrow) 1 83 := ⟨rfl, by decide +kernel⟩
theorem dX8_cut_83 : jj_D cX8_cut 83 (.aload_n 0) 1 84 := ⟨rfl, by decide +kernel⟩
theorem dX8_cut_84 : jj_D cX8_cut 84 (.getfield 178) 3 87 := ⟨rfl, by decide +kernel⟩
theorem dX8_cut_87 : jj_D cX8_cut 87 (.istore_n 2) 1 88 := ⟨rfl, by decide +kernel⟩
theorem dX8_cut_88 : jj_D cX8_cut 88 (.iload_n 2) 1 89 := ⟨rfl, by decide +kernel⟩
theorem dX8_cut_89 : jj_D cX8_cut 89 (.ifCond .lt 12) 3 92 := ⟨rfl, by decide +kernel⟩
theorem dX8_cut_92 : jj_D cX8_cut 92 (.iload_n 2) 1 93 := ⟨rfl, by decide +kernel⟩
theorem dX8_cut_93 : jj_D cX8_cut 93 (.aload_n 0) 1 94 := ⟨rfl, by decide +kernel⟩
theorem dX8_cut_94 : jj_D cX8_cut 94 (.getfield 24) 3 97 := ⟨rfl, by decide +kernel⟩
theorem dX8_cut_97 : jj_D cX8_cut 97 (.arraylength) 1 98 := ⟨rfl, by decide +kernel⟩
theorem dX8_cut_98 : jj_D cX8_cut 98 (.if_icmp .lt 13) 3 101 := ⟨rfl, by decide +kernel⟩
theorem dX8_cut_101 : jj_D cX8_cut 101 (.new 93) 3 104 := ⟨rfl, by decide +kernel⟩
theorem dX8_cut_104 : jj_D cX8_cut 104 (.dup) 1 105 := ⟨rfl, by decide +kernel⟩
theorem dX8_cut_105 : jj_D cX8_cut 105 (.ldc 181) 2 107 := ⟨rfl, by decide +kernel⟩
theorem dX8_cut_107 : jj_D cX8_cut 107 (.invokespecial 97) 3 110 := ⟨rfl, by decide +kernel⟩
theorem dX8_cut_110 : jj_D cX8_cut 110 (.athrow) 1 111 := ⟨rfl, by decide +kernel⟩
theorem dX8_cut_111 : jj_D cX8_cut 111 (.aload_n 0) 1 112 := ⟨rfl, by decide +kernel⟩
theorem dX8_cut_112 : jj_D cX8_cut 112 (.getfield 24) 3 115 := ⟨rfl, by decide +kernel⟩
theorem dX8_cut_115 : jj_D cX8_cut 115 (.iload_n 2) 1 116 := ⟨rfl, by decide +kernel⟩
theorem dX8_cut_116 : jj_D cX8_cut 116 (.aload_n 0) 1 117 := ⟨rfl, by decide +kernel⟩
theorem dX8_cut_117 : jj_D cX8_cut 117 (.invokevirtual 183) 3 120 := ⟨rfl, by decide +kernel⟩
theorem dX8_cut_120 : jj_D cX8_cut 120 (.aastore) 1 121 := ⟨rfl, by decide +kernel⟩
theorem dX8_cut_121 : jj_D cX8_cut 121 (.aload_n 0) 1 122 := ⟨rfl, by decide +kernel⟩
theorem dX8_cut_122 : jj_D cX8_cut 122 (.dup) 1 123 := ⟨rfl, by decide +kernel⟩
theorem dX8_cut_123 : jj_D cX8_cut 123 (.getfield 178) 3 126 := ⟨rfl, by decide +kernel⟩
theorem dX8_cut_126 : jj_D cX8_cut 126 (.iconst 1) 1 127 := ⟨rfl, by decide +kernel⟩
theorem dX8_cut_127 : jj_D cX8_cut 127 (.iadd) 1 128 := ⟨rfl, by decide +kernel⟩
theorem dX8_cut_128 : jj_D cX8_cut 128 (.putfield 178) 3 131 := ⟨rfl, by decide +kernel⟩
theorem dX8_cut_131 : jj_D cX8_cut 131 (.aload_n 0) 1 132 := ⟨rfl, by decide +kernel⟩
theorem dX8_cut_132 : jj_D cX8_cut 132 (.getfield 18) 3 135 := ⟨rfl, by decide +kernel⟩
theorem dX8_cut_135 : jj_D cX8_cut 135 (.invokevirtual 166) 3 138 := ⟨rfl, by decide +kernel⟩
theorem dX8_cut_138 : jj_D cX8_cut 138 (.iload_n 2) 1 139 := ⟨rfl, by decide +kernel⟩
theorem dX8_cut_139 : jj_D cX8_cut 139 (.ireturn) 1 140 := ⟨rfl, by decide +kernel⟩
theorem dX8_seconds_0 : jj_D cX8_seconds 0 (.aload_n 0) 1 1 := ⟨rfl, by decide +kernel⟩
theorem dX8_seconds_1 : jj_D cX8_seconds 1 (.iload_n 1) 1 2 := ⟨rfl, by decide +kernel⟩
theorem dX8_seconds_2 : jj_D cX8_seconds 2 (.invokevirtual 187) 3 5 := ⟨rfl, by decide +kernel⟩
theorem dX8_seconds_5 : jj_D cX8_seconds 5 (.astore_n 3) 1 6 := ⟨rfl, by decide +kernel⟩
theorem dX8_seconds_6 : jj_D cX8_seconds 6 (.iload_n 2) 1 7 := ⟨rfl, by decide +kernel⟩
theorem dX8_seconds_7 : jj_D cX8_seconds 7 (.iconst (-1)) 1 8 := ⟨rfl, by decide +kernel⟩
theorem dX8_seconds_8 : jj_D cX8_seconds 8 (.if_icmp .ne 8) 3 11 := ⟨rfl, by decide +kernel⟩
theorem dX8_seconds_11 : jj_D cX8_seconds 11 (.aload_n 3) 1 12 := ⟨rfl, by decide +kernel⟩
theorem dX8_seconds_12 : jj_D cX8_seconds 12 (.getfield 191) 3 15 := ⟨rfl, by decide +kernel⟩
theorem dX8_seconds_15 : jj_D cX8_seconds 15 (.ireturn) 1 16 := ⟨rfl, by decide +kernel⟩
theorem dX8_seconds_16 : jj_D cX8_seconds 16 (.iload_n 2) 1 17 := ⟨rfl, by decide +kernel⟩
theorem dX8_seconds_17 : jj_D cX8_seconds 17 (.invokestatic 48) 3 20 := ⟨rfl, by decide +kernel⟩
theorem dX8_seconds_20 : jj_D cX8_seconds 20 (.aload_n 3) 1 21 := ⟨rfl, by decide +kernel⟩
theorem dX8_seconds_21 : jj_D cX8_seconds 21 (.iload_n 2) 1 22 := ⟨rfl, by decide +kernel⟩
theorem dX8_seconds_22 : jj_D cX8_seconds 22 (.invokevirtual 194) 3 25 := ⟨rfl, by decide +kernel⟩
theorem dX8_seconds_25 : jj_D cX8_seconds 25 (.ireturn) 1 26 := ⟨rfl, by decide +kernel⟩
theorem dX8_stamper_0 : jj_D cX8_stamper 0 (.aload_n 0) 1 1 := ⟨rfl, by decide +kernel⟩
theorem dX8_stamper_1 : jj_D cX8_stamper 1 (.iload_n 1) 1 2 := ⟨rfl, by decide +kernel⟩
theorem dX8_stamper_2 : jj_D cX8_stamper 2 (.invokevirtual 187) 3 5 := ⟨rfl, by decide +kernel⟩
theorem dX8_stamper_5 : jj_D cX8_stamper 5 (.astore 4) 2 7 := ⟨rfl, by decide +kernel⟩
theorem dX8_stamper_7 : jj_D cX8_stamper 7 (.iload_n 2) 1 8 := ⟨rfl, by decide +kernel⟩
theorem dX8_stamper_8 : jj_D cX8_stamper 8 (.iload_n 3) 1 9 := ⟨rfl, by decide +kernel⟩
theorem dX8_stamper_9 : jj_D cX8_stamper 9 (.invokestatic 197) 3 12 := ⟨rfl, by decide +kernel⟩
theorem dX8_stamper_12 : jj_D cX8_stamper 12 (.istore 5) 2 14 := ⟨rfl, by decide +kernel⟩
theorem dX8_stamper_14 : jj_D cX8_stamper 14 (.aload 4) 2 16 := ⟨rfl, by decide +kernel⟩
theorem dX8_stamper_16 : jj_D cX8_stamper 16 (.iload 5) 2 18 := ⟨rfl, by decide +kernel⟩
theorem dX8_stamper_18 : jj_D cX8_stamper 18 (.invokevirtual 200) 3 21 := ⟨rfl, by decide +kernel⟩
theorem dX8_stamper_21 : jj_D cX8_stamper 21 (.ifnull 13) 3 24 := ⟨rfl, by decide +kernel⟩
theorem dX8_stamper_24 : jj_D cX8_stamper 24 (.new 93) 3 27 := ⟨rfl, by decide +kernel⟩
theorem dX8_stamper_27 : jj_D cX8_stamper 27 (.dup) 1 28 := ⟨rfl, by decide +kernel⟩
theorem dX8_stamper_28 : jj_D cX8_stamper 28 (.ldc 204) 2 30 := ⟨rfl, by decide +kernel⟩
theorem dX8_stamper_30 : jj_D cX8_stamper 30 (.invokespecial 97) 3 33 := ⟨rfl, by decide +kernel⟩
theorem dX8_stamper_33 : jj_D cX8_stamper 33 (.athrow) 1 34 := ⟨rfl, by decide +kernel⟩
theorem dX8_stamper_34 : jj_D cX8_stamper 34 (.aload 4) 2 36 := ⟨rfl, by decide +kernel⟩
theorem dX8_stamper_36 : jj_D cX8_stamper 36 (.iload 5) 2 38 := ⟨rfl, by decide +kernel⟩
theorem dX8_stamper_38 : jj_D cX8_stamper 38 (.invokestatic 206) 3 41 := ⟨rfl, by decide +kernel⟩
theorem dX8_stamper_41 : jj_D cX8_stamper 41 (.ifCond .ne 13) 3 44 := ⟨rfl, by decide +kernel⟩
theorem dX8_stamper_44 : jj_D cX8_stamper 44 (.new 93) 3 47 := ⟨rfl, by decide +kernel⟩
theorem dX8_stamper_47 : jj_D cX8_stamper 47 (.dup) 1 48 := ⟨rfl, by decide +kernel⟩
theorem dX8_stamper_48 : jj_D cX8_stamper 48 (.ldc 210) 2 50 := ⟨rfl, by decide +kernel⟩
theorem dX8_stamper_50 : jj_D cX8_stamper 50 (.invokespecial 97) 3 53 := ⟨rfl, by decide +kernel⟩
theorem dX8_stamper_53 : jj_D cX8_stamper 53 (.athrow) 1 54 := ⟨rfl, by decide +kernel⟩
theorem dX8_stamper_54 : jj_D cX8_stamper 54 (.aload 4) 2 56 := ⟨rfl, by decide +kernel⟩
theorem dX8_stamper_56 : jj_D cX8_stamper 56 (.iload 5) 2 58 := ⟨rfl, by decide +kernel⟩
theorem dX8_stamper_58 : jj_D cX8_stamper 58 (.aload_n 0) 1 59 := ⟨rfl, by decide +kernel⟩
theorem dX8_stamper_59 : jj_D cX8_stamper 59 (.getfield 108) 3 62 := ⟨rfl, by decide +kernel⟩
theorem dX8_stamper_62 : jj_D cX8_stamper 62 (.invokevirtual 212) 3 65 := ⟨rfl, by decide +kernel⟩
theorem dX8_stamper_65 : jj_D cX8_stamper 65 (.aload 4) 2 67 := ⟨rfl, by decide +kernel⟩
theorem dX8_stamper_67 : jj_D cX8_stamper 67 (.getfield 216) 3 70 := ⟨rfl, by decide +kernel⟩
theorem dX8_stamper_70 : jj_D cX8_stamper 70 (.ireturn) 1 71 := ⟨rfl, by decide +kernel⟩
theorem dX8_press_0 : jj_D cX8_press 0 (.aload_n 0) 1 1 := ⟨rfl, by decide +kernel⟩
theorem dX8_press_1 : jj_D cX8_press 1 (.iload_n 1) 1 2 := ⟨rfl, by decide +kernel⟩
theorem dX8_press_2 : jj_D cX8_press 2 (.invokevirtual 187) 3 5 := ⟨rfl, by decide +kernel⟩
theorem dX8_press_5 : jj_D cX8_press 5 (.iload_n 2) 1 6 := ⟨rfl, by decide +kernel⟩
theorem dX8_press_6 : jj_D cX8_press 6 (.iload_n 3) 1 7 := ⟨rfl, by decide +kernel⟩
theorem dX8_press_7 : jj_D cX8_press 7 (.invokestatic 197) 3 10 := ⟨rfl, by decide +kernel⟩
theorem dX8_press_10 : jj_D cX8_press 10 (.invokevirtual 200) 3 13 := ⟨rfl, by decide +kernel⟩
theorem dX8_press_13 : jj_D cX8_press 13 (.astore 5) 2 15 := ⟨rfl, by decide +kernel⟩
theorem dX8_press_15 : jj_D cX8_press 15 (.iload 4) 2 17 := ⟨rfl, by decide +kernel⟩
theorem dX8_press_17 : jj_D cX8_press 17 (.invokestatic 219) 3 20 := ⟨rfl, by decide +kernel⟩
theorem dX8_press_20 : jj_D cX8_press 20 (.aload 5) 2 22 := ⟨rfl, by decide +kernel⟩
theorem dX8_press_22 : jj_D cX8_press 22 (.ifnull 17) 3 25 := ⟨rfl, by decide +kernel⟩
theorem dX8_press_25 : jj_D cX8_press 25 (.aload 5) 2 27 := ⟨rfl, by decide +kernel⟩
theorem dX8_press_27 : jj_D cX8_press 27 (.getfield 222) 3 30 := ⟨rfl, by decide +kernel⟩
theorem dX8_press_30 : jj_D cX8_press 30 (.iload 4) 2 32 := ⟨rfl, by decide +kernel⟩
theorem dX8_press_32 : jj_D cX8_press 32 (.iadd) 1 33 := ⟨rfl, by decide +kernel⟩
theorem dX8_press_33 : jj_D cX8_press 33 (.sipush 500) 3 36 := ⟨rfl, by decide +kernel⟩
theorem dX8_press_36 : jj_D cX8_press 36 (.if_icmp .le 13) 3 39 := ⟨rfl, by decide +kernel⟩
theorem dX8_press_39 : jj_D cX8_press 39 (.new 93) 3 42 := ⟨rfl, by decide +kernel⟩
theorem dX8_press_42 : jj_D cX8_press 42 (.dup) 1 43 := ⟨rfl, by decide +kernel⟩
theorem dX8_press_43 : jj_D cX8_press 43 (.ldc 227) 2 45 := ⟨rfl, by decide +kernel⟩
theorem dX8_press_45 : jj_D cX8_press 45 (.invokespecial 97) 3 48 := ⟨rfl, by decide +kernel⟩
theorem dX8_press_48 : jj_D cX8_press 48 (.athrow) 1 49 := ⟨rfl, by decide +kernel⟩
theorem dX8_press_49 : jj_D cX8_press 49 (.aload 5) 2 51 := ⟨rfl, by decide +kernel⟩
theorem dX8_press_51 : jj_D cX8_press 51 (.getfield 222) 3 54 := ⟨rfl, by decide +kernel⟩
theorem dX8_press_54 : jj_D cX8_press 54 (.ifCond .ne 12) 3 57 := ⟨rfl, by decide +kernel⟩
theorem dX8_press_57 : jj_D cX8_press 57 (.aload 5) 2 59 := ⟨rfl, by decide +kernel⟩
theorem dX8_press_59 : jj_D cX8_press 59 (.aload_n 0) 1 60 := ⟨rfl, by decide +kernel⟩
theorem dX8_press_60 : jj_D cX8_press 60 (.getfield 108) 3 63 := ⟨rfl, by decide +kernel⟩
theorem dX8_press_63 : jj_D cX8_press 63 (.putfield 229) 3 66 := ⟨rfl, by decide +kernel⟩
theorem dX8_press_66 : jj_D cX8_press 66 (.aload 5) 2 68 := ⟨rfl, by decide +kernel⟩
theorem dX8_press_68 : jj_D cX8_press 68 (.aload_n 0) 1 69 := ⟨rfl, by decide +kernel⟩
theorem dX8_press_69 : jj_D cX8_press 69 (.getfield 108) 3 72 := ⟨rfl, by decide +kernel⟩
theorem dX8_press_72 : jj_D cX8_press 72 (.putfield 232) 3 75 := ⟨rfl, by decide +kernel⟩
theorem dX8_press_75 : jj_D cX8_press 75 (.aload 5) 2 77 := ⟨rfl, by decide +kernel⟩
theorem dX8_press_77 : jj_D cX8_press 77 (.dup) 1 78 := ⟨rfl, by decide +kernel⟩
theorem dX8_press_78 : jj_D cX8_press 78 (.getfield 222) 3 81 := ⟨rfl, by decide +kernel⟩
theorem dX8_press_81 : jj_D cX8_press 81 (.iload 4) 2 83 := ⟨rfl, by decide +kernel⟩
theorem dX8_press_83 : jj_D cX8_press 83 (.iadd) 1 84 := ⟨rfl, by decide +kernel⟩
theorem dX8_press_84 : jj_D cX8_press 84 (.putfield 222) 3 87 := ⟨rfl, by decide +kernel⟩
theorem dX8_press_87 : jj_D cX8_press 87 (.aload 5) 2 89 := ⟨rfl, by decide +kernel⟩
theorem dX8_press_89 : jj_D cX8_press 89 (.getfield 222) 3 92 := ⟨rfl, by decide +kernel⟩
theorem dX8_press_92 : jj_D cX8_press 92 (.ireturn) 1 93 := ⟨rfl, by decide +kernel⟩
theorem dX8_stamperIs_0 : jj_D cX8_stamperIs 0 (.aload_n 0) 1 1 := ⟨rfl, by decide +kernel⟩
theorem dX8_stamperIs_1 : jj_D cX8_stamperIs 1 (.iload_n 1) 1 2 := ⟨rfl, by decide +kernel⟩
theorem dX8_stamperIs_2 : jj_D cX8_stamperIs 2 (.invokevirtual 187) 3 5 := ⟨rfl, by decide +kernel⟩
theorem dX8_stamperIs_5 : jj_D cX8_stamperIs 5 (.iload_n 2) 1 6 := ⟨rfl, by decide +kernel⟩
theorem dX8_stamperIs_6 : jj_D cX8_stamperIs 6 (.iload_n 3) 1 7 := ⟨rfl, by decide +kernel⟩
theorem dX8_stamperIs_7 : jj_D cX8_stamperIs 7 (.invokestatic 197) 3 10 := ⟨rfl, by decide +kernel⟩
theorem dX8_stamperIs_10 : jj_D cX8_stamperIs 10 (.invokevirtual 200) 3 13 := ⟨rfl, by decide +kernel⟩
theorem dX8_stamperIs_13 : jj_D cX8_stamperIs 13 (.astore 5) 2 15 := ⟨rfl, by decide +kernel⟩
theorem dX8_stamperIs_15 : jj_D cX8_stamperIs 15 (.iload 4) 2 17 := ⟨rfl, by decide +kernel⟩
theorem dX8_stamperIs_17 : jj_D cX8_stamperIs 17 (.tableswitch 110 0 4 #[35, 50, 65, 80, 95]) 35 52 := ⟨rfl, by decide +kernel⟩
theorem dX8_stamperIs_52 : jj_D cX8_stamperIs 52 (.aload 5) 2 54 := ⟨rfl, by decide +kernel⟩
theorem dX8_stamperIs_54 : jj_D cX8_stamperIs 54 (.ifnonnull 7) 3 57 := ⟨rfl, by decide +kernel⟩
theorem dX8_stamperIs_57 : jj_D cX8_stamperIs 57 (.iconst (-1)) 1 58 := ⟨rfl, by decide +kernel⟩
theorem dX8_stamperIs_58 : jj_D cX8_stamperIs 58 (.goto 8) 3 61 := ⟨rfl, by decide +kernel⟩
theorem dX8_stamperIs_61 : jj_D cX8_stamperIs 61 (.aload 5) 2 63 := ⟨rfl, by decide +kernel⟩
theorem dX8_stamperIs_63 : jj_D cX8_stamperIs 63 (.getfield 235) 3 66 := ⟨rfl, by decide +kernel⟩
theorem dX8_stamperIs_66 : jj_D cX8_stamperIs 66 (.ireturn) 1 67 := ⟨rfl, by decide +kernel⟩
theorem dX8_stamperIs_67 : jj_D cX8_stamperIs 67 (.aload 5) 2 69 := ⟨rfl, by decide +kernel⟩
theorem dX8_stamperIs_69 : jj_D cX8_stamperIs 69 (.ifnonnull 7) 3 72 := ⟨rfl, by decide +kernel⟩
theorem dX8_stamperIs_72 : jj_D cX8_stamperIs 72 (.iconst 0) 1 73 := ⟨rfl, by decide +kernel⟩
theorem dX8_stamperIs_73 : jj_D cX8_stamperIs 73 (.goto 8) 3 76 := ⟨rfl, by decide +kernel⟩
theorem dX8_stamperIs_76 : jj_D cX8_stamperIs 76 (.aload 5) 2 78 := ⟨rfl, by decide +kernel⟩
theorem dX8_stamperIs_78 : jj_D cX8_stamperIs 78 (.getfield 222) 3 81 := ⟨rfl, by decide +kernel⟩
theorem dX8_stamperIs_81 : jj_D cX8_stamperIs 81 (.ireturn) 1 82 := ⟨rfl, by decide +kernel⟩
theorem dX8_stamperIs_82 : jj_D cX8_stamperIs 82 (.aload 5) 2 84 := ⟨rfl, by decide +kernel⟩
theorem dX8_stamperIs_84 : jj_D cX8_stamperIs 84 (.ifnonnull 7) 3 87 := ⟨rfl, by decide +kernel⟩
theorem dX8_stamperIs_87 : jj_D cX8_stamperIs 87 (.iconst 0) 1 88 := ⟨rfl, by decide +kernel⟩
theorem dX8_stamperIs_88 : jj_D cX8_stamperIs 88 (.goto 8) 3 91 := ⟨rfl, by decide +kernel⟩
theorem dX8_stamperIs_91 : jj_D cX8_stamperIs 91 (.aload 5) 2 93 := ⟨rfl, by decide +kernel⟩
theorem dX8_stamperIs_93 : jj_D cX8_stamperIs 93 (.invokevirtual 238) 3 96 := ⟨rfl, by decide +kernel⟩
theorem dX8_stamperIs_96 : jj_D cX8_stamperIs 96 (.ireturn) 1 97 := ⟨rfl, by decide +kernel⟩
theorem dX8_stamperIs_97 : jj_D cX8_stamperIs 97 (.aload 5) 2 99 := ⟨rfl, by decide +kernel⟩
theorem dX8_stamperIs_99 : jj_D cX8_stamperIs 99 (.ifnonnull 7) 3 102 := ⟨rfl, by decide +kernel⟩
theorem dX8_stamperIs_102 : jj_D cX8_stamperIs 102 (.iconst (-1)) 1 103 := ⟨rfl, by decide +kernel⟩
theorem dX8_stamperIs_103 : jj_D cX8_stamperIs 103 (.goto 8) 3 106 := ⟨rfl, by decide +kernel⟩
theorem dX8_stamperIs_106 : jj_D cX8_stamperIs 106 (.aload 5) 2 108 := ⟨rfl, by decide +kernel⟩
theorem dX8_stamperIs_108 : jj_D cX8_stamperIs 108 (.getfield 229) 3 111 := ⟨rfl, by decide +kernel⟩
theorem dX8_stamperIs_111 : jj_D cX8_stamperIs 111 (.ireturn) 1 112 := ⟨rfl, by decide +kernel⟩
theorem dX8_stamperIs_112 : jj_D cX8_stamperIs 112 (.aload 5) 2 114 := ⟨rfl, by decide +kernel⟩
theorem dX8_stamperIs_114 : jj_D cX8_stamperIs 114 (.ifnonnull 7) 3 117 := ⟨rfl, by decide +kernel⟩
theorem dX8_stamperIs_117 : jj_D cX8_stamperIs 117 (.iconst (-1)) 1 118 := ⟨rfl, by decide +kernel⟩
theorem dX8_stamperIs_118 : jj_D cX8_stamperIs 118 (.goto 8) 3 121 := ⟨rfl, by decide +kernel⟩
theorem dX8_stamperIs_121 : jj_D cX8_stamperIs 121 (.aload 5) 2 123 := ⟨rfl, by decide +kernel⟩
theorem dX8_stamperIs_123 : jj_D cX8_stamperIs 123 (.getfield 232) 3 126 := ⟨rfl, by decide +kernel⟩
theorem dX8_stamperIs_126 : jj_D cX8_stamperIs 126 (.ireturn) 1 127 := ⟨rfl, by decide +kernel⟩
theorem dX8_stamperIs_127 : jj_D cX8_stamperIs 127 (.new 55) 3 130 := ⟨rfl, by decide +kernel⟩
theorem dX8_stamperIs_130 : jj_D cX8_stamperIs 130 (.dup) 1 131 := ⟨rfl, by decide +kernel⟩
theorem dX8_stamperIs_131 : jj_D cX8_stamperIs 131 (.ldc 124) 2 133 := ⟨rfl, by decide +kernel⟩
theorem dX8_stamperIs_133 : jj_D cX8_stamperIs 133 (.invokespecial 59) 3 136 := ⟨rfl, by decide +kernel⟩
theorem dX8_stamperIs_136 : jj_D cX8_stamperIs 136 (.athrow) 1 137 := ⟨rfl, by decide +kernel⟩
theorem dX8_sell_0 : jj_D cX8_sell 0 (.aload_n 0) 1 1 := ⟨rfl, by decide +kernel⟩
theorem dX8_sell_1 : jj_D cX8_sell 1 (.iload_n 1) 1 2 := ⟨rfl, by decide +kernel⟩
theorem dX8_sell_2 : jj_D cX8_sell 2 (.invokevirtual 187) 3 5 := ⟨rfl, by decide +kernel⟩
theorem dX8_sell_5 : jj_D cX8_sell 5 (.astore 5) 2 7 := ⟨rfl, by decide +kernel⟩
theorem dX8_sell_7 : jj_D cX8_sell 7 (.aload 5) 2 9 := ⟨rfl, by decide +kernel⟩
theorem dX8_sell_9 : jj_D cX8_sell 9 (.iload_n 2) 1 10 := ⟨rfl, by decide +kernel⟩
theorem dX8_sell_10 : jj_D cX8_sell 10 (.iload_n 3) 1 11 := ⟨rfl, by decide +kernel⟩
theorem dX8_sell_11 : jj_D cX8_sell 11 (.invokestatic 197) 3 14 := ⟨rfl, by decide +kernel⟩
theorem dX8_sell_14 : jj_D cX8_sell 14 (.invokevirtual 200) 3 17 := ⟨rfl, by decide +kernel⟩
theorem dX8_sell_17 : jj_D cX8_sell 17 (.astore 6) 2 19 := ⟨rfl, by decide +kernel⟩
theorem dX8_sell_19 : jj_D cX8_sell 19 (.iload 4) 2 21 := ⟨rfl, by decide +kernel⟩
theorem dX8_sell_21 : jj_D cX8_sell 21 (.invokestatic 219) 3 24 := ⟨rfl, by decide +kernel⟩
theorem dX8_sell_24 : jj_D cX8_sell 24 (.aload 6) 2 26 := ⟨rfl, by decide +kernel⟩
theorem dX8_sell_26 : jj_D cX8_sell 26 (.ifnull 13) 3 29 := ⟨rfl, by decide +kernel⟩
theorem dX8_sell_29 : jj_D cX8_sell 29 (.aload 6) 2 31 := ⟨rfl, by decide +kernel⟩
theorem dX8_sell_31 : jj_D cX8_sell 31 (.invokevirtual 241) 3 34 := ⟨rfl, by decide +kernel⟩
theorem dX8_sell_34 : jj_D cX8_sell 34 (.iload 4) 2 36 := ⟨rfl, by decide +kernel⟩
theorem dX8_sell_36 : jj_D cX8_sell 36 (.if_icmp .ge 13) 3 39 := ⟨rfl, by decide +kernel⟩
theorem dX8_sell_39 : jj_D cX8_sell 39 (.new 93) 3 42 := ⟨rfl, by decide +kernel⟩
theorem dX8_sell_42 : jj_D cX8_sell 42 (.dup) 1 43 := ⟨rfl, by decide +kernel⟩
theorem dX8_sell_43 : jj_D cX8_sell 43 (.ldc 244) 2 45 := ⟨rfl, by decide +kernel⟩
theorem dX8_sell_45 : jj_D cX8_sell 45 (.invokespecial 97) 3 48 := ⟨rfl, by decide +kernel⟩
theorem dX8_sell_48 : jj_D cX8_sell 48 (.athrow) 1 49 := ⟨rfl, by decide +kernel⟩
theorem dX8_sell_49 : jj_D cX8_sell 49 (.aload_n 0) 1 50 := ⟨rfl, by decide +kernel⟩
theorem dX8_sell_50 : jj_D cX8_sell 50 (.getfield 44) 3 53 := ⟨rfl, by decide +kernel⟩
theorem dX8_sell_53 : jj_D cX8_sell 53 (.invokevirtual 246) 3 56 := ⟨rfl, by decide +kernel⟩
theorem dX8_sell_56 : jj_D cX8_sell 56 (.ifCond .eq 13) 3 59 := ⟨rfl, by decide +kernel⟩
theorem dX8_sell_59 : jj_D cX8_sell 59 (.new 93) 3 62 := ⟨rfl, by decide +kernel⟩
theorem dX8_sell_62 : jj_D cX8_sell 62 (.dup) 1 63 := ⟨rfl, by decide +kernel⟩
theorem dX8_sell_63 : jj_D cX8_sell 63 (.ldc 249) 2 65 := ⟨rfl, by decide +kernel⟩
theorem dX8_sell_65 : jj_D cX8_sell 65 (.invokespecial 97) 3 68 := ⟨rfl, by decide +kernel⟩
theorem dX8_sell_68 : jj_D cX8_sell 68 (.athrow) 1 69 := ⟨rfl, by decide +kernel⟩
theorem dX8_sell_69 : jj_D cX8_sell 69 (.aload 6) 2 71 := ⟨rfl, by decide +kernel⟩
theorem dX8_sell_71 : jj_D cX8_sell 71 (.dup) 1 72 := ⟨rfl, by decide +kernel⟩
theorem dX8_sell_72 : jj_D cX8_sell 72 (.getfield 251) 3 75 := ⟨rfl, by decide +kernel⟩
theorem dX8_sell_75 : jj_D cX8_sell 75 (.iload 4) 2 77 := ⟨rfl, by decide +kernel⟩
theorem dX8_sell_77 : jj_D cX8_sell 77 (.iadd) 1 78 := ⟨rfl, by decide +kernel⟩
theorem dX8_sell_78 : jj_D cX8_sell 78 (.putfield 251) 3 81 := ⟨rfl, by decide +kernel⟩
theorem dX8_sell_81 : jj_D cX8_sell 81 (.aload_n 0) 1 82 := ⟨rfl, by decide +kernel⟩
theorem dX8_sell_82 : jj_D cX8_sell 82 (.getfield 44) 3 85 := ⟨rfl, by decide +kernel⟩
theorem dX8_sell_85 : jj_D cX8_sell 85 (.new 254) 3 88 := ⟨rfl, by decide +kernel⟩
theorem dX8_sell_88 : jj_D cX8_sell 88 (.dup) 1 89 := ⟨rfl, by decide +kernel⟩
theorem dX8_sell_89 : jj_D cX8_sell 89 (.aload 5) 2 91 := ⟨rfl, by decide +kernel⟩
theorem dX8_sell_91 : jj_D cX8_sell 91 (.aload 6) 2 93 := ⟨rfl, by decide +kernel⟩
theorem dX8_sell_93 : jj_D cX8_sell 93 (.aload_n 0) 1 94 := ⟨rfl, by decide +kernel⟩
theorem dX8_sell_94 : jj_D cX8_sell 94 (.getfield 44) 3 97 := ⟨rfl, by decide +kernel⟩
theorem dX8_sell_97 : jj_D cX8_sell 97 (.getfield 256) 3 100 := ⟨rfl, by decide +kernel⟩
theorem dX8_sell_100 : jj_D cX8_sell 100 (.invokevirtual 260) 3 103 := ⟨rfl, by decide +kernel⟩
theorem dX8_sell_103 : jj_D cX8_sell 103 (.checkcast 261) 3 106 := ⟨rfl, by decide +kernel⟩
theorem dX8_sell_106 : jj_D cX8_sell 106 (.iload 4) 2 108 := ⟨rfl, by decide +kernel⟩
theorem dX8_sell_108 : jj_D cX8_sell 108 (.invokespecial 265) 3 111 := ⟨rfl, by decide +kernel⟩
theorem dX8_sell_111 : jj_D cX8_sell 111 (.invokevirtual 268) 3 114 := ⟨rfl, by decide +kernel⟩
theorem dX8_sell_114 : jj_D cX8_sell 114 (.aload 6) 2 116 := ⟨rfl, by decide +kernel⟩
theorem dX8_sell_116 : jj_D cX8_sell 116 (.invokevirtual 238) 3 119 := ⟨rfl, by decide +kernel⟩
theorem dX8_sell_119 : jj_D cX8_sell 119 (.ireturn) 1 120 := ⟨rfl, by decide +kernel⟩
theorem dX8_back_0 : jj_D cX8_back 0 (.aload_n 0) 1 1 := ⟨rfl, by decide +kernel⟩
theorem dX8_back_1 : jj_D cX8_back 1 (.iload_n 1) 1 2 := ⟨rfl, by decide +kernel⟩
theorem dX8_back_2 : jj_D cX8_back 2 (.invokevirtual 187) 3 5 := ⟨rfl, by decide +kernel⟩
theorem dX8_back_5 : jj_D cX8_back 5 (.iload_n 2) 1 6 := ⟨rfl, by decide +kernel⟩
theorem dX8_back_6 : jj_D cX8_back 6 (.iload_n 3) 1 7 := ⟨rfl, by decide +kernel⟩
theorem dX8_back_7 : jj_D cX8_back 7 (.invokestatic 197) 3 10 := ⟨rfl, by decide +kernel⟩
theorem dX8_back_10 : jj_D cX8_back 10 (.invokevirtual 200) 3 13 := ⟨rfl, by decide +kernel⟩
theorem dX8_back_13 : jj_D cX8_back 13 (.astore 5) 2 15 := ⟨rfl, by decide +kernel⟩
theorem dX8_back_15 : jj_D cX8_back 15 (.iload 4) 2 17 := ⟨rfl, by decide +kernel⟩
theorem dX8_back_17 : jj_D cX8_back 17 (.invokestatic 219) 3 20 := ⟨rfl, by decide +kernel⟩
theorem dX8_back_20 : jj_D cX8_back 20 (.aload 5) 2 22 := ⟨rfl, by decide +kernel⟩
theorem dX8_back_22 : jj_D cX8_back 22 (.ifnull 13) 3 25 := ⟨rfl, by decide +kernel⟩
theorem dX8_back_25 : jj_D cX8_back 25 (.aload 5) 2 27 := ⟨rfl, by decide +kernel⟩
theorem dX8_back_27 : jj_D cX8_back 27 (.invokevirtual 272) 3 30 := ⟨rfl, by decide +kernel⟩
theorem dX8_back_30 : jj_D cX8_back 30 (.iload 4) 2 32 := ⟨rfl, by decide +kernel⟩
theorem dX8_back_32 : jj_D cX8_back 32 (.if_icmp .ge 14) 3 35 := ⟨rfl, by decide +kernel⟩
theorem dX8_back_35 : jj_D cX8_back 35 (.new 93) 3 38 := ⟨rfl, by decide +kernel⟩
theorem dX8_back_38 : jj_D cX8_back 38 (.dup) 1 39 := ⟨rfl, by decide +kernel⟩
theorem dX8_back_39 : jj_D cX8_back 39 (.ldc_w 275) 3 42 := ⟨rfl, by decide +kernel⟩
theorem dX8_back_42 : jj_D cX8_back 42 (.invokespecial 97) 3 45 := ⟨rfl, by decide +kernel⟩
theorem dX8_back_45 : jj_D cX8_back 45 (.athrow) 1 46 := ⟨rfl, by decide +kernel⟩
theorem dX8_back_46 : jj_D cX8_back 46 (.aload 5) 2 48 := ⟨rfl, by decide +kernel⟩
theorem dX8_back_48 : jj_D cX8_back 48 (.dup) 1 49 := ⟨rfl, by decide +kernel⟩
theorem dX8_back_49 : jj_D cX8_back 49 (.getfield 277) 3 52 := ⟨rfl, by decide +kernel⟩
theorem dX8_back_52 : jj_D cX8_back 52 (.iload 4) 2 54 := ⟨rfl, by decide +kernel⟩
theorem dX8_back_54 : jj_D cX8_back 54 (.iadd) 1 55 := ⟨rfl, by decide +kernel⟩
theorem dX8_back_55 : jj_D cX8_back 55 (.putfield 277) 3 58 := ⟨rfl, by decide +kernel⟩
theorem dX8_back_58 : jj_D cX8_back 58 (.aload_n 0) 1 59 := ⟨rfl, by decide +kernel⟩
theorem dX8_back_59 : jj_D cX8_back 59 (.getfield 44) 3 62 := ⟨rfl, by decide +kernel⟩
theorem dX8_back_62 : jj_D cX8_back 62 (.aload 5) 2 64 := ⟨rfl, by decide +kernel⟩
theorem dX8_back_64 : jj_D cX8_back 64 (.iload 4) 2 66 := ⟨rfl, by decide +kernel⟩
theorem dX8_back_66 : jj_D cX8_back 66 (.invokevirtual 280) 3 69 := ⟨rfl, by decide +kernel⟩
theorem dX8_back_69 : jj_D cX8_back 69 (.aload 5) 2 71 := ⟨rfl, by decide +kernel⟩
theorem dX8_back_71 : jj_D cX8_back 71 (.invokevirtual 238) 3 74 := ⟨rfl, by decide +kernel⟩
theorem dX8_back_74 : jj_D cX8_back 74 (.ireturn) 1 75 := ⟨rfl, by decide +kernel⟩
theorem dX8_disc_0 : jj_D cX8_disc 0 (.aload_n 0) 1 1 := ⟨rfl, by decide +kernel⟩
theorem dX8_disc_1 : jj_D cX8_disc 1 (.iload_n 1) 1 2 := ⟨rfl, by decide +kernel⟩
theorem dX8_disc_2 : jj_D cX8_disc 2 (.invokevirtual 187) 3 5 := ⟨rfl, by decide +kernel⟩
theorem dX8_disc_5 : jj_D cX8_disc 5 (.astore 4) 2 7 := ⟨rfl, by decide +kernel⟩
theorem dX8_disc_7 : jj_D cX8_disc 7 (.aload 4) 2 9 := ⟨rfl, by decide +kernel⟩
theorem dX8_disc_9 : jj_D cX8_disc 9 (.iload_n 2) 1 10 := ⟨rfl, by decide +kernel⟩
theorem dX8_disc_10 : jj_D cX8_disc 10 (.iload_n 3) 1 11 := ⟨rfl, by decide +kernel⟩
theorem dX8_disc_11 : jj_D cX8_disc 11 (.invokestatic 197) 3 14 := ⟨rfl, by decide +kernel⟩
theorem dX8_disc_14 : jj_D cX8_disc 14 (.invokevirtual 200) 3 17 := ⟨rfl, by decide +kernel⟩
theorem dX8_disc_17 : jj_D cX8_disc 17 (.astore 5) 2 19 := ⟨rfl, by decide +kernel⟩
theorem dX8_disc_19 : jj_D cX8_disc 19 (.aload 5) 2 21 := ⟨rfl, by decide +kernel⟩
theorem dX8_disc_21 : jj_D cX8_disc 21 (.ifnull 12) 3 24 := ⟨rfl, by decide +kernel⟩
theorem dX8_disc_24 : jj_D cX8_disc 24 (.aload 5) 2 26 := ⟨rfl, by decide +kernel⟩
theorem dX8_disc_26 : jj_D cX8_disc 26 (.invokevirtual 272) 3 29 := ⟨rfl, by decide +kernel⟩
theorem dX8_disc_29 : jj_D cX8_disc 29 (.iconst 1) 1 30 := ⟨rfl, by decide +kernel⟩
theorem dX8_disc_30 : jj_D cX8_disc 30 (.if_icmp .ge 14) 3 33 := ⟨rfl, by decide +kernel⟩
theorem dX8_disc_33 : jj_D cX8_disc 33 (.new 93) 3 36 := ⟨rfl, by decide +kernel⟩
theorem dX8_disc_36 : jj_D cX8_disc 36 (.dup) 1 37 := ⟨rfl, by decide +kernel⟩
theorem dX8_disc_37 : jj_D cX8_disc 37 (.ldc_w 284) 3 40 := ⟨rfl, by decide +kernel⟩
theorem dX8_disc_40 : jj_D cX8_disc 40 (.invokespecial 97) 3 43 := ⟨rfl, by decide +kernel⟩
theorem dX8_disc_43 : jj_D cX8_disc 43 (.athrow) 1 44 := ⟨rfl, by decide +kernel⟩
theorem dX8_disc_44 : jj_D cX8_disc 44 (.aload_n 0) 1 45 := ⟨rfl, by decide +kernel⟩
theorem dX8_disc_45 : jj_D cX8_disc 45 (.getfield 286) 3 48 := ⟨rfl, by decide +kernel⟩
theorem dX8_disc_48 : jj_D cX8_disc 48 (.istore 6) 2 50 := ⟨rfl, by decide +kernel⟩
theorem dX8_disc_50 : jj_D cX8_disc 50 (.iload 6) 2 52 := ⟨rfl, by decide +kernel⟩
theorem dX8_disc_52 : jj_D cX8_disc 52 (.ifCond .lt 13) 3 55 := ⟨rfl, by decide +kernel⟩
theorem dX8_disc_55 : jj_D cX8_disc 55 (.iload 6) 2 57 := ⟨rfl, by decide +kernel⟩
theorem dX8_disc_57 : jj_D cX8_disc 57 (.aload_n 0) 1 58 := ⟨rfl, by decide +kernel⟩
theorem dX8_disc_58 : jj_D cX8_disc 58 (.getfield 30) 3 61 := ⟨rfl, by decide +kernel⟩
theorem dX8_disc_61 : jj_D cX8_disc 61 (.arraylength) 1 62 := ⟨rfl, by decide +kernel⟩
theorem dX8_disc_62 : jj_D cX8_disc 62 (.if_icmp .lt 14) 3 65 := ⟨rfl, by decide +kernel⟩
theorem dX8_disc_65 : jj_D cX8_disc 65 (.new 93) 3 68 := ⟨rfl, by decide +kernel⟩
theorem dX8_disc_68 : jj_D cX8_disc 68 (.dup) 1 69 := ⟨rfl, by decide +kernel⟩
theorem dX8_disc_69 : jj_D cX8_disc 69 (.ldc_w 289) 3 72 := ⟨rfl, by decide +kernel⟩
theorem dX8_disc_72 : jj_D cX8_disc 72 (.invokespecial 97) 3 75 := ⟨rfl, by decide +kernel⟩
theorem dX8_disc_75 : jj_D cX8_disc 75 (.athrow) 1 76 := ⟨rfl, by decide +kernel⟩
theorem dX8_disc_76 : jj_D cX8_disc 76 (.aload_n 0) 1 77 := ⟨rfl, by decide +kernel⟩
theorem dX8_disc_77 : jj_D cX8_disc 77 (.getfield 30) 3 80 := ⟨rfl, by decide +kernel⟩
theorem dX8_disc_80 : jj_D cX8_disc 80 (.iload 6) 2 82 := ⟨rfl, by decide +kernel⟩
theorem dX8_disc_82 : jj_D cX8_disc 82 (.new 28) 3 85 := ⟨rfl, by decide +kernel⟩
theorem dX8_disc_85 : jj_D cX8_disc 85 (.dup) 1 86 := ⟨rfl, by decide +kernel⟩
theorem dX8_disc_86 : jj_D cX8_disc 86 (.aload 4) 2 88 := ⟨rfl, by decide +kernel⟩
theorem dX8_disc_88 : jj_D cX8_disc 88 (.invokespecial 291) 3 91 := ⟨rfl, by decide +kernel⟩
theorem dX8_disc_91 : jj_D cX8_disc 91 (.aastore) 1 92 := ⟨rfl, by decide +kernel⟩
theorem dX8_disc_92 : jj_D cX8_disc 92 (.aload_n 0) 1 93 := ⟨rfl, by decide +kernel⟩
theorem dX8_disc_93 : jj_D cX8_disc 93 (.dup) 1 94 := ⟨rfl, by decide +kernel⟩
theorem dX8_disc_94 : jj_D cX8_disc 94 (.getfield 286) 3 97 := ⟨rfl, by decide +kernel⟩
theorem dX8_disc_97 : jj_D cX8_disc 97 (.iconst 1) 1 98 := ⟨rfl, by decide +kernel⟩
theorem dX8_disc_98 : jj_D cX8_disc 98 (.iadd) 1 99 := ⟨rfl, by decide +kernel⟩
theorem dX8_disc_99 : jj_D cX8_disc 99 (.putfield 286) 3 102 := ⟨rfl, by decide +kernel⟩
theorem dX8_disc_102 : jj_D cX8_disc 102 (.aload 5) 2 104 := ⟨rfl, by decide +kernel⟩
theorem dX8_disc_104 : jj_D cX8_disc 104 (.dup) 1 105 := ⟨rfl, by decide +kernel⟩
theorem dX8_disc_105 : jj_D cX8_disc 105 (.getfield 294) 3 108 := ⟨rfl, by decide +kernel⟩
theorem dX8_disc_108 : jj_D cX8_disc 108 (.iconst 1) 1 109 := ⟨rfl, by decide +kernel⟩
theorem dX8_disc_109 : jj_D cX8_disc 109 (.iadd) 1 110 := ⟨rfl, by decide +kernel⟩
theorem dX8_disc_110 : jj_D cX8_disc 110 (.putfield 294) 3 113 := ⟨rfl, by decide +kernel⟩
theorem dX8_disc_113 : jj_D cX8_disc 113 (.iload 6) 2 115 := ⟨rfl, by decide +kernel⟩
theorem dX8_disc_115 : jj_D cX8_disc 115 (.ireturn) 1 116 := ⟨rfl, by decide +kernel⟩
theorem dX8_play_0 : jj_D cX8_play 0 (.aload_n 0) 1 1 := ⟨rfl, by decide +kernel⟩
theorem dX8_play_1 : jj_D cX8_play 1 (.iload_n 1) 1 2 := ⟨rfl, by decide +kernel⟩
theorem dX8_play_2 : jj_D cX8_play 2 (.invokevirtual 297) 3 5 := ⟨rfl, by decide +kernel⟩
theorem dX8_play_5 : jj_D cX8_play 5 (.astore 4) 2 7 := ⟨rfl, by decide +kernel⟩
theorem dX8_play_7 : jj_D cX8_play 7 (.iload_n 2) 1 8 := ⟨rfl, by decide +kernel⟩
theorem dX8_play_8 : jj_D cX8_play 8 (.iconst 1) 1 9 := ⟨rfl, by decide +kernel⟩
theorem dX8_play_9 : jj_D cX8_play 9 (.if_icmp .lt 19) 3 12 := ⟨rfl, by decide +kernel⟩
theorem dX8_play_12 : jj_D cX8_play 12 (.iload_n 2) 1 13 := ⟨rfl, by decide +kernel⟩
theorem dX8_play_13 : jj_D cX8_play 13 (.iconst 3) 1 14 := ⟨rfl, by decide +kernel⟩
theorem dX8_play_14 : jj_D cX8_play 14 (.if_icmp .gt 14) 3 17 := ⟨rfl, by decide +kernel⟩
theorem dX8_play_17 : jj_D cX8_play 17 (.iload_n 3) 1 18 := ⟨rfl, by decide +kernel⟩
theorem dX8_play_18 : jj_D cX8_play 18 (.iconst 1) 1 19 := ⟨rfl, by decide +kernel⟩
theorem dX8_play_19 : jj_D cX8_play 19 (.if_icmp .lt 9) 3 22 := ⟨rfl, by decide +kernel⟩
theorem dX8_play_22 : jj_D cX8_play 22 (.iload_n 3) 1 23 := ⟨rfl, by decide +kernel⟩
theorem dX8_play_23 : jj_D cX8_play 23 (.bipush 50) 2 25 := ⟨rfl, by decide +kernel⟩
theorem dX8_play_25 : jj_D cX8_play 25 (.if_icmp .le 14) 3 28 := ⟨rfl, by decide +kernel⟩
theorem dX8_play_28 : jj_D cX8_play 28 (.new 55) 3 31 := ⟨rfl, by decide +kernel⟩
theorem dX8_play_31 : jj_D cX8_play 31 (.dup) 1 32 := ⟨rfl, by decide +kernel⟩
theorem dX8_play_32 : jj_D cX8_play 32 (.ldc_w 301) 3 35 := ⟨rfl, by decide +kernel⟩
theorem dX8_play_35 : jj_D cX8_play 35 (.invokespecial 59) 3 38 := ⟨rfl, by decide +kernel⟩
theorem dX8_play_38 : jj_D cX8_play 38 (.athrow) 1 39 := ⟨rfl, by decide +kernel⟩
theorem dX8_play_39 : jj_D cX8_play 39 (.aload 4) 2 41 := ⟨rfl, by decide +kernel⟩
theorem dX8_play_41 : jj_D cX8_play 41 (.dup) 1 42 := ⟨rfl, by decide +kernel⟩
theorem dX8_play_42 : jj_D cX8_play 42 (.getfield 303) 3 45 := ⟨rfl, by decide +kernel⟩
theorem dX8_play_45 : jj_D cX8_play 45 (.iload_n 2) 1 46 := ⟨rfl, by decide +kernel⟩
theorem dX8_play_46 : jj_D cX8_play 46 (.iload_n 3) 1 47 := ⟨rfl, by decide +kernel⟩
theorem dX8_play_47 : jj_D cX8_play 47 (.imul) 1 48 := ⟨rfl, by decide +kernel⟩
theorem dX8_play_48 : jj_D cX8_play 48 (.iadd) 1 49 := ⟨rfl, by decide +kernel⟩
theorem dX8_play_49 : jj_D cX8_play 49 (.putfield 303) 3 52 := ⟨rfl, by decide +kernel⟩
theorem dX8_play_52 : jj_D cX8_play 52 (.aload 4) 2 54 := ⟨rfl, by decide +kernel⟩
theorem dX8_play_54 : jj_D cX8_play 54 (.getfield 303) 3 57 := ⟨rfl, by decide +kernel⟩
theorem dX8_play_57 : jj_D cX8_play 57 (.ireturn) 1 58 := ⟨rfl, by decide +kernel⟩
theorem dX8_scratch_0 : jj_D cX8_scratch 0 (.aload_n 0) 1 1 := ⟨rfl, by decide +kernel⟩
theorem dX8_scratch_1 : jj_D cX8_scratch 1 (.iload_n 1) 1 2 := ⟨rfl, by decide +kernel⟩
theorem dX8_scratch_2 : jj_D cX8_scratch 2 (.invokevirtual 297) 3 5 := ⟨rfl, by decide +kernel⟩
theorem dX8_scratch_5 : jj_D cX8_scratch 5 (.astore_n 3) 1 6 := ⟨rfl, by decide +kernel⟩
theorem dX8_scratch_6 : jj_D cX8_scratch 6 (.iload_n 2) 1 7 := ⟨rfl, by decide +kernel⟩
theorem dX8_scratch_7 : jj_D cX8_scratch 7 (.invokestatic 306) 3 10 := ⟨rfl, by decide +kernel⟩
theorem dX8_scratch_10 : jj_D cX8_scratch 10 (.aload_n 3) 1 11 := ⟨rfl, by decide +kernel⟩
theorem dX8_scratch_11 : jj_D cX8_scratch 11 (.iload_n 2) 1 12 := ⟨rfl, by decide +kernel⟩
theorem dX8_scratch_12 : jj_D cX8_scratch 12 (.invokevirtual 309) 3 15 := ⟨rfl, by decide +kernel⟩
theorem dX8_scratch_15 : jj_D cX8_scratch 15 (.aload_n 3) 1 16 := ⟨rfl, by decide +kernel⟩
theorem dX8_scratch_16 : jj_D cX8_scratch 16 (.iload_n 2) 1 17 := ⟨rfl, by decide +kernel⟩
theorem dX8_scratch_17 : jj_D cX8_scratch 17 (.invokevirtual 312) 3 20 := ⟨rfl, by decide +kernel⟩
theorem dX8_scratch_20 : jj_D cX8_scratch 20 (.ireturn) 1 21 := ⟨rfl, by decide +kernel⟩
theorem dX8_noise_0 : jj_D cX8_noise 0 (.aload_n 0) 1 1 := ⟨rfl, by decide +kernel⟩
theorem dX8_noise_1 : jj_D cX8_noise 1 (.iload_n 1) 1 2 := ⟨rfl, by decide +kernel⟩
theorem dX8_noise_2 : jj_D cX8_noise 2 (.invokevirtual 297) 3 5 := ⟨rfl, by decide +kernel⟩
theorem dX8_noise_5 : jj_D cX8_noise 5 (.astore_n 3) 1 6 := ⟨rfl, by decide +kernel⟩
theorem dX8_noise_6 : jj_D cX8_noise 6 (.iload_n 2) 1 7 := ⟨rfl, by decide +kernel⟩
theorem dX8_noise_7 : jj_D cX8_noise 7 (.invokestatic 306) 3 10 := ⟨rfl, by decide +kernel⟩
theorem dX8_noise_10 : jj_D cX8_noise 10 (.aload_n 3) 1 11 := ⟨rfl, by decide +kernel⟩
theorem dX8_noise_11 : jj_D cX8_noise 11 (.iload_n 2) 1 12 := ⟨rfl, by decide +kernel⟩
theorem dX8_noise_12 : jj_D cX8_noise 12 (.invokevirtual 312) 3 15 := ⟨rfl, by decide +kernel⟩
theorem dX8_noise_15 : jj_D cX8_noise 15 (.ireturn) 1 16 := ⟨rfl, by decide +kernel⟩
theorem dX8_grade_0 : jj_D cX8_grade 0 (.aload_n 0) 1 1 := ⟨rfl, by decide +kernel⟩
theorem dX8_grade_1 : jj_D cX8_grade 1 (.iload_n 1) 1 2 := ⟨rfl, by decide +kernel⟩
theorem dX8_grade_2 : jj_D cX8_grade 2 (.invokevirtual 297) 3 5 := ⟨rfl, by decide +kernel⟩
theorem dX8_grade_5 : jj_D cX8_grade 5 (.invokevirtual 315) 3 8 := ⟨rfl, by decide +kernel⟩
theorem dX8_grade_8 : jj_D cX8_grade 8 (.istore_n 2) 1 9 := ⟨rfl, by decide +kernel⟩
theorem dX8_grade_9 : jj_D cX8_grade 9 (.iload_n 2) 1 10 := ⟨rfl, by decide +kernel⟩
theorem dX8_grade_10 : jj_D cX8_grade 10 (.ifCond .ne 5) 3 13 := ⟨rfl, by decide +kernel⟩
theorem dX8_grade_13 : jj_D cX8_grade 13 (.iconst 0) 1 14 := ⟨rfl, by decide +kernel⟩
theorem dX8_grade_14 : jj_D cX8_grade 14 (.ireturn) 1 15 := ⟨rfl, by decide +kernel⟩
theorem dX8_grade_15 : jj_D cX8_grade 15 (.iload_n 2) 1 16 := ⟨rfl, by decide +kernel⟩
theorem dX8_grade_16 : jj_D cX8_grade 16 (.bipush 20) 2 18 := ⟨rfl, by decide +kernel⟩
theorem dX8_grade_18 : jj_D cX8_grade 18 (.if_icmp .ge 5) 3 21 := ⟨rfl, by decide +kernel⟩
theorem dX8_grade_21 : jj_D cX8_grade 21 (.iconst 1) 1 22 := ⟨rfl, by decide +kernel⟩
theorem dX8_grade_22 : jj_D cX8_grade 22 (.ireturn) 1 23 := ⟨rfl, by decide +kernel⟩
theorem dX8_grade_23 : jj_D cX8_grade 23 (.iload_n 2) 1 24 := ⟨rfl, by decide +kernel⟩
theorem dX8_grade_24 : jj_D cX8_grade 24 (.bipush 80) 2 26 := ⟨rfl, by decide +kernel⟩
theorem dX8_grade_26 : jj_D cX8_grade 26 (.if_icmp .ge 5) 3 29 := ⟨rfl, by decide +kernel⟩
theorem dX8_grade_29 : jj_D cX8_grade 29 (.iconst 2) 1 30 := ⟨rfl, by decide +kernel⟩
theorem dX8_grade_30 : jj_D cX8_grade 30 (.ireturn) 1 31 := ⟨rfl, by decide +kernel⟩
theorem dX8_grade_31 : jj_D cX8_grade 31 (.iload_n 2) 1 32 := ⟨rfl, by decide +kernel⟩
theorem dX8_grade_32 : jj_D cX8_grade 32 (.sipush 200) 3 35 := ⟨rfl, by decide +kernel⟩
theorem dX8_grade_35 : jj_D cX8_grade 35 (.if_icmp .ge 7) 3 38 := ⟨rfl, by decide +kernel⟩
theorem dX8_grade_38 : jj_D cX8_grade 38 (.iconst 3) 1 39 := ⟨rfl, by decide +kernel⟩
theorem dX8_grade_39 : jj_D cX8_grade 39 (.goto 4) 3 42 := ⟨rfl, by decide +kernel⟩
theorem dX8_grade_42 : jj_D cX8_grade 42 (.iconst 4) 1 43 := ⟨rfl, by decide +kernel⟩
theorem dX8_grade_43 : jj_D cX8_grade 43 (.ireturn) 1 44 := ⟨rfl, by decide +kernel⟩
theorem dX8_join_0 : jj_D cX8_join 0 (.iload_n 2) 1 1 := ⟨rfl, by decide +kernel⟩
theorem dX8_join_1 : jj_D cX8_join 1 (.invokestatic 306) 3 4 := ⟨rfl, by decide +kernel⟩
theorem dX8_join_4 : jj_D cX8_join 4 (.aload_n 0) 1 5 := ⟨rfl, by decide +kernel⟩
theorem dX8_join_5 : jj_D cX8_join 5 (.iload_n 1) 1 6 := ⟨rfl, by decide +kernel⟩
theorem dX8_join_6 : jj_D cX8_join 6 (.invokevirtual 318) 3 9 := ⟨rfl, by decide +kernel⟩
theorem dX8_join_9 : jj_D cX8_join 9 (.aload_n 0) 1 10 := ⟨rfl, by decide +kernel⟩
theorem dX8_join_10 : jj_D cX8_join 10 (.iload_n 1) 1 11 := ⟨rfl, by decide +kernel⟩
theorem dX8_join_11 : jj_D cX8_join 11 (.iload_n 2) 1 12 := ⟨rfl, by decide +kernel⟩
theorem dX8_join_12 : jj_D cX8_join 12 (.invokevirtual 321) 3 15 := ⟨rfl, by decide +kernel⟩
theorem dX8_join_15 : jj_D cX8_join 15 (.ireturn) 1 16 := ⟨rfl, by decide +kernel⟩
theorem dX8_file_0 : jj_D cX8_file 0 (.aload_n 0) 1 1 := ⟨rfl, by decide +kernel⟩
theorem dX8_file_1 : jj_D cX8_file 1 (.iload_n 1) 1 2 := ⟨rfl, by decide +kernel⟩
theorem dX8_file_2 : jj_D cX8_file 2 (.invokevirtual 318) 3 5 := ⟨rfl, by decide +kernel⟩
theorem dX8_file_5 : jj_D cX8_file 5 (.aload_n 0) 1 6 := ⟨rfl, by decide +kernel⟩
theorem dX8_file_6 : jj_D cX8_file 6 (.getfield 37) 3 9 := ⟨rfl, by decide +kernel⟩
theorem dX8_file_9 : jj_D cX8_file 9 (.invokevirtual 324) 3 12 := ⟨rfl, by decide +kernel⟩
theorem dX8_file_12 : jj_D cX8_file 12 (.iconst 0) 1 13 := ⟨rfl, by decide +kernel⟩
theorem dX8_file_13 : jj_D cX8_file 13 (.istore_n 2) 1 14 := ⟨rfl, by decide +kernel⟩
theorem dX8_file_14 : jj_D cX8_file 14 (.iconst 0) 1 15 := ⟨rfl, by decide +kernel⟩
theorem dX8_file_15 : jj_D cX8_file 15 (.istore_n 3) 1 16 := ⟨rfl, by decide +kernel⟩
theorem dX8_file_16 : jj_D cX8_file 16 (.iload_n 3) 1 17 := ⟨rfl, by decide +kernel⟩
theorem dX8_file_17 : jj_D cX8_file 17 (.bipush 8) 2 19 := ⟨rfl, by decide +kernel⟩
theorem dX8_file_19 : jj_D cX8_file 19 (.if_icmp .ge 40) 3 22 := ⟨rfl, by decide +kernel⟩
theorem dX8_file_22 : jj_D cX8_file 22 (.aload_n 0) 1 23 := ⟨rfl, by decide +kernel⟩
theorem dX8_file_23 : jj_D cX8_file 23 (.aload_n 0) 1 24 := ⟨rfl, by decide +kernel⟩
theorem dX8_file_24 : jj_D cX8_file 24 (.iload_n 1) 1 25 := ⟨rfl, by decide +kernel⟩
theorem dX8_file_25 : jj_D cX8_file 25 (.iload_n 3) 1 26 := ⟨rfl, by decide +kernel⟩
theorem dX8_file_26 : jj_D cX8_file 26 (.invokevirtual 321) 3 29 := ⟨rfl, by decide +kernel⟩
theorem dX8_file_29 : jj_D cX8_file 29 (.invokevirtual 297) 3 32 := ⟨rfl, by decide +kernel⟩
theorem dX8_file_32 : jj_D cX8_file 32 (.iload_n 3) 1 33 := ⟨rfl, by decide +kernel⟩
theorem dX8_file_33 : jj_D cX8_file 33 (.invokevirtual 312) 3 36 := ⟨rfl, by decide +kernel⟩
theorem dX8_file_36 : jj_D cX8_file 36 (.istore 4) 2 38 := ⟨rfl, by decide +kernel⟩
theorem dX8_file_38 : jj_D cX8_file 38 (.aload_n 0) 1 39 := ⟨rfl, by decide +kernel⟩
theorem dX8_file_39 : jj_D cX8_file 39 (.getfield 37) 3 42 := ⟨rfl, by decide +kernel⟩
theorem dX8_file_42 : jj_D cX8_file 42 (.iload_n 3) 1 43 := ⟨rfl, by decide +kernel⟩
theorem dX8_file_43 : jj_D cX8_file 43 (.iload 4) 2 45 := ⟨rfl, by decide +kernel⟩
theorem dX8_file_45 : jj_D cX8_file 45 (.invokevirtual 327) 3 48 := ⟨rfl, by decide +kernel⟩
theorem dX8_file_48 : jj_D cX8_file 48 (.iload_n 2) 1 49 := ⟨rfl, by decide +kernel⟩
theorem dX8_file_49 : jj_D cX8_file 49 (.iload 4) 2 51 := ⟨rfl, by decide +kernel⟩
theorem dX8_file_51 : jj_D cX8_file 51 (.iadd) 1 52 := ⟨rfl, by decide +kernel⟩
theorem dX8_file_52 : jj_D cX8_file 52 (.istore_n 2) 1 53 := ⟨rfl, by decide +kernel⟩
theorem dX8_file_53 : jj_D cX8_file 53 (.iinc 3 1) 3 56 := ⟨rfl, by decide +kernel⟩
theorem dX8_file_56 : jj_D cX8_file 56 (.goto (-40)) 3 59 := ⟨rfl, by decide +kernel⟩
theorem dX8_file_59 : jj_D cX8_file 59 (.iload_n 2) 1 60 := ⟨rfl, by decide +kernel⟩
theorem dX8_file_60 : jj_D cX8_file 60 (.ireturn) 1 61 := ⟨rfl, by decide +kernel⟩
theorem dX8_repair_0 : jj_D cX8_repair 0 (.iload_n 1) 1 1 := ⟨rfl, by decide +kernel⟩
theorem dX8_repair_1 : jj_D cX8_repair 1 (.invokestatic 306) 3 4 := ⟨rfl, by decide +kernel⟩
theorem dX8_repair_4 : jj_D cX8_repair 4 (.aload_n 0) 1 5 := ⟨rfl, by decide +kernel⟩
theorem dX8_repair_5 : jj_D cX8_repair 5 (.getfield 37) 3 8 := ⟨rfl, by decide +kernel⟩
theorem dX8_repair_8 : jj_D cX8_repair 8 (.getfield 330) 3 11 := ⟨rfl, by decide +kernel⟩
theorem dX8_repair_11 : jj_D cX8_repair 11 (.ifCond .eq 15) 3 14 := ⟨rfl, by decide +kernel⟩
theorem dX8_repair_14 : jj_D cX8_repair 14 (.aload_n 0) 1 15 := ⟨rfl, by decide +kernel⟩
theorem dX8_repair_15 : jj_D cX8_repair 15 (.getfield 37) 3 18 := ⟨rfl, by decide +kernel⟩
theorem dX8_repair_18 : jj_D cX8_repair 18 (.getfield 334) 3 21 := ⟨rfl, by decide +kernel⟩
theorem dX8_repair_21 : jj_D cX8_repair 21 (.bipush 20) 2 23 := ⟨rfl, by decide +kernel⟩
theorem dX8_repair_23 : jj_D cX8_repair 23 (.if_icmp .lt 14) 3 26 := ⟨rfl, by decide +kernel⟩
theorem dX8_repair_26 : jj_D cX8_repair 26 (.new 93) 3 29 := ⟨rfl, by decide +kernel⟩
theorem dX8_repair_29 : jj_D cX8_repair 29 (.dup) 1 30 := ⟨rfl, by decide +kernel⟩
theorem dX8_repair_30 : jj_D cX8_repair 30 (.ldc_w 337) 3 33 := ⟨rfl, by decide +kernel⟩
theorem dX8_repair_33 : jj_D cX8_repair 33 (.invokespecial 97) 3 36 := ⟨rfl, by decide +kernel⟩
theorem dX8_repair_36 : jj_D cX8_repair 36 (.athrow) 1 37 := ⟨rfl, by decide +kernel⟩
theorem dX8_repair_37 : jj_D cX8_repair 37 (.aload_n 0) 1 38 := ⟨rfl, by decide +kernel⟩
theorem dX8_repair_38 : jj_D cX8_repair 38 (.getfield 37) 3 41 := ⟨rfl, by decide +kernel⟩
theorem dX8_repair_41 : jj_D cX8_repair 41 (.iload_n 1) 1 42 := ⟨rfl, by decide +kernel⟩
theorem dX8_repair_42 : jj_D cX8_repair 42 (.invokevirtual 339) 3 45 := ⟨rfl, by decide +kernel⟩
theorem dX8_repair_45 : jj_D cX8_repair 45 (.ireturn) 1 46 := ⟨rfl, by decide +kernel⟩
theorem dX8_undo_0 : jj_D cX8_undo 0 (.aload_n 0) 1 1 := ⟨rfl, by decide +kernel⟩
theorem dX8_undo_1 : jj_D cX8_undo 1 (.getfield 37) 3 4 := ⟨rfl, by decide +kernel⟩
theorem dX8_undo_4 : jj_D cX8_undo 4 (.getfield 334) 3 7 := ⟨rfl, by decide +kernel⟩
theorem dX8_undo_7 : jj_D cX8_undo 7 (.iconst 1) 1 8 := ⟨rfl, by decide +kernel⟩
theorem dX8_undo_8 : jj_D cX8_undo 8 (.if_icmp .ge 14) 3 11 := ⟨rfl, by decide +kernel⟩
theorem dX8_undo_11 : jj_D cX8_undo 11 (.new 93) 3 14 := ⟨rfl, by decide +kernel⟩
theorem dX8_undo_14 : jj_D cX8_undo 14 (.dup) 1 15 := ⟨rfl, by decide +kernel⟩
theorem dX8_undo_15 : jj_D cX8_undo 15 (.ldc_w 342) 3 18 := ⟨rfl, by decide +kernel⟩
theorem dX8_undo_18 : jj_D cX8_undo 18 (.invokespecial 97) 3 21 := ⟨rfl, by decide +kernel⟩
theorem dX8_undo_21 : jj_D cX8_undo 21 (.athrow) 1 22 := ⟨rfl, by decide +kernel⟩
theorem dX8_undo_22 : jj_D cX8_undo 22 (.aload_n 0) 1 23 := ⟨rfl, by decide +kernel⟩
theorem dX8_undo_23 : jj_D cX8_undo 23 (.getfield 37) 3 26 := ⟨rfl, by decide +kernel⟩
theorem dX8_undo_26 : jj_D cX8_undo 26 (.invokevirtual 344) 3 29 := ⟨rfl, by decide +kernel⟩
theorem dX8_undo_29 : jj_D cX8_undo 29 (.ireturn) 1 30 := ⟨rfl, by decide +kernel⟩
theorem dX8_fileIs_0 : jj_D cX8_fileIs 0 (.iload_n 1) 1 1 := ⟨rfl, by decide +kernel⟩
theorem dX8_fileIs_1 : jj_D cX8_fileIs 1 (.invokestatic 306) 3 4 := ⟨rfl, by decide +kernel⟩
theorem dX8_fileIs_4 : jj_D cX8_fileIs 4 (.aload_n 0) 1 5 := ⟨rfl, by decide +kernel⟩
theorem dX8_fileIs_5 : jj_D cX8_fileIs 5 (.getfield 37) 3 8 := ⟨rfl, by decide +kernel⟩
theorem dX8_fileIs_8 : jj_D cX8_fileIs 8 (.getfield 330) 3 11 := ⟨rfl, by decide +kernel⟩
theorem dX8_fileIs_11 : jj_D cX8_fileIs 11 (.ifCond .eq 14) 3 14 := ⟨rfl, by decide +kernel⟩
theorem dX8_fileIs_14 : jj_D cX8_fileIs 14 (.aload_n 0) 1 15 := ⟨rfl, by decide +kernel⟩
theorem dX8_fileIs_15 : jj_D cX8_fileIs 15 (.getfield 37) 3 18 := ⟨rfl, by decide +kernel⟩
theorem dX8_fileIs_18 : jj_D cX8_fileIs 18 (.iload_n 1) 1 19 := ⟨rfl, by decide +kernel⟩
theorem dX8_fileIs_19 : jj_D cX8_fileIs 19 (.invokevirtual 347) 3 22 := ⟨rfl, by decide +kernel⟩
theorem dX8_fileIs_22 : jj_D cX8_fileIs 22 (.goto 4) 3 25 := ⟨rfl, by decide +kernel⟩
theorem dX8_fileIs_25 : jj_D cX8_fileIs 25 (.iconst (-1)) 1 26 := ⟨rfl, by decide +kernel⟩
theorem dX8_fileIs_26 : jj_D cX8_fileIs 26 (.ireturn) 1 27 := ⟨rfl, by decide +kernel⟩
theorem dX8_contract_0 : jj_D cX8_contract 0 (.iload_n 1) 1 1 := ⟨rfl, by decide +kernel⟩
theorem dX8_contract_1 : jj_D cX8_contract 1 (.invokestatic 48) 3 4 := ⟨rfl, by decide +kernel⟩
theorem dX8_contract_4 : jj_D cX8_contract 4 (.iload_n 2) 1 5 := ⟨rfl, by decide +kernel⟩
theorem dX8_contract_5 : jj_D cX8_contract 5 (.ifCond .lt 21) 3 8 := ⟨rfl, by decide +kernel⟩
theorem dX8_contract_8 : jj_D cX8_contract 8 (.iload_n 2) 1 9 := ⟨rfl, by decide +kernel⟩
theorem dX8_contract_9 : jj_D cX8_contract 9 (.sipush 9999) 3 12 := ⟨rfl, by decide +kernel⟩
theorem dX8_contract_12 : jj_D cX8_contract 12 (.if_icmp .gt 14) 3 15 := ⟨rfl, by decide +kernel⟩
theorem dX8_contract_15 : jj_D cX8_contract 15 (.iload_n 3) 1 16 := ⟨rfl, by decide +kernel⟩
theorem dX8_contract_16 : jj_D cX8_contract 16 (.ifCond .lt 10) 3 19 := ⟨rfl, by decide +kernel⟩
theorem dX8_contract_19 : jj_D cX8_contract 19 (.iload_n 3) 1 20 := ⟨rfl, by decide +kernel⟩
theorem dX8_contract_20 : jj_D cX8_contract 20 (.ldc_w 348) 3 23 := ⟨rfl, by decide +kernel⟩
theorem dX8_contract_23 : jj_D cX8_contract 23 (.if_icmp .le 14) 3 26 := ⟨rfl, by decide +kernel⟩
theorem dX8_contract_26 : jj_D cX8_contract 26 (.new 55) 3 29 := ⟨rfl, by decide +kernel⟩
theorem dX8_contract_29 : jj_D cX8_contract 29 (.dup) 1 30 := ⟨rfl, by decide +kernel⟩
theorem dX8_contract_30 : jj_D cX8_contract 30 (.ldc_w 349) 3 33 := ⟨rfl, by decide +kernel⟩
theorem dX8_contract_33 : jj_D cX8_contract 33 (.invokespecial 59) 3 36 := ⟨rfl, by decide +kernel⟩
theorem dX8_contract_36 : jj_D cX8_contract 36 (.athrow) 1 37 := ⟨rfl, by decide +kernel⟩
theorem dX8_contract_37 : jj_D cX8_contract 37 (.aload_n 0) 1 38 := ⟨rfl, by decide +kernel⟩
theorem dX8_contract_38 : jj_D cX8_contract 38 (.getfield 44) 3 41 := ⟨rfl, by decide +kernel⟩
theorem dX8_contract_41 : jj_D cX8_contract 41 (.getfield 256) 3 44 := ⟨rfl, by decide +kernel⟩
theorem dX8_contract_44 : jj_D cX8_contract 44 (.iload_n 1) 1 45 := ⟨rfl, by decide +kernel⟩
theorem dX8_contract_45 : jj_D cX8_contract 45 (.iload_n 2) 1 46 := ⟨rfl, by decide +kernel⟩
theorem dX8_contract_46 : jj_D cX8_contract 46 (.iastore) 1 47 := ⟨rfl, by decide +kernel⟩
theorem dX8_contract_47 : jj_D cX8_contract 47 (.aload_n 0) 1 48 := ⟨rfl, by decide +kernel⟩
theorem dX8_contract_48 : jj_D cX8_contract 48 (.getfield 44) 3 51 := ⟨rfl, by decide +kernel⟩
theorem dX8_contract_51 : jj_D cX8_contract 51 (.getfield 351) 3 54 := ⟨rfl, by decide +kernel⟩
theorem dX8_contract_54 : jj_D cX8_contract 54 (.iload_n 1) 1 55 := ⟨rfl, by decide +kernel⟩
theorem dX8_contract_55 : jj_D cX8_contract 55 (.dup2) 1 56 := ⟨rfl, by decide +kernel⟩
theorem dX8_contract_56 : jj_D cX8_contract 56 (.iaload) 1 57 := ⟨rfl, by decide +kernel⟩
theorem dX8_contract_57 : jj_D cX8_contract 57 (.iload_n 3) 1 58 := ⟨rfl, by decide +kernel⟩
theorem dX8_contract_58 : jj_D cX8_contract 58 (.iadd) 1 59 := ⟨rfl, by decide +kernel⟩
theorem dX8_contract_59 : jj_D cX8_contract 59 (.iastore) 1 60 := ⟨rfl, by decide +kernel⟩
theorem dX8_contract_60 : jj_D cX8_contract 60 (.aload_n 0) 1 61 := ⟨rfl, by decide +kernel⟩
theorem dX8_contract_61 : jj_D cX8_contract 61 (.getfield 44) 3 64 := ⟨rfl, by decide +kernel⟩
theorem dX8_contract_64 : jj_D cX8_contract 64 (.getfield 354) 3 67 := ⟨rfl, by decide +kernel⟩
theorem dX8_contract_67 : jj_D cX8_contract 67 (.iload_n 1) 1 68 := ⟨rfl, by decide +kernel⟩
theorem dX8_contract_68 : jj_D cX8_contract 68 (.dup2) 1 69 := ⟨rfl, by decide +kernel⟩
theorem dX8_contract_69 : jj_D cX8_contract 69 (.iaload) 1 70 := ⟨rfl, by decide +kernel⟩
theorem dX8_contract_70 : jj_D cX8_contract 70 (.iload_n 3) 1 71 := ⟨rfl, by decide +kernel⟩
theorem dX8_contract_71 : jj_D cX8_contract 71 (.isub) 1 72 := ⟨rfl, by decide +kernel⟩
theorem dX8_contract_72 : jj_D cX8_contract 72 (.iastore) 1 73 := ⟨rfl, by decide +kernel⟩
theorem dX8_contract_73 : jj_D cX8_contract 73 (.aload_n 0) 1 74 := ⟨rfl, by decide +kernel⟩
theorem dX8_contract_74 : jj_D cX8_contract 74 (.getfield 44) 3 77 := ⟨rfl, by decide +kernel⟩
theorem dX8_contract_77 : jj_D cX8_contract 77 (.getfield 354) 3 80 := ⟨rfl, by decide +kernel⟩
theorem dX8_contract_80 : jj_D cX8_contract 80 (.iload_n 1) 1 81 := ⟨rfl, by decide +kernel⟩
theorem dX8_contract_81 : jj_D cX8_contract 81 (.iaload) 1 82 := ⟨rfl, by decide +kernel⟩
theorem dX8_contract_82 : jj_D cX8_contract 82 (.ireturn) 1 83 := ⟨rfl, by decide +kernel⟩
theorem dX8_account_0 : jj_D cX8_account 0 (.iload_n 1) 1 1 := ⟨rfl, by decide +kernel⟩
theorem dX8_account_1 : jj_D cX8_account 1 (.invokestatic 48) 3 4 := ⟨rfl, by decide +kernel⟩
theorem dX8_account_4 : jj_D cX8_account 4 (.aload_n 0) 1 5 := ⟨rfl, by decide +kernel⟩
theorem dX8_account_5 : jj_D cX8_account 5 (.getfield 44) 3 8 := ⟨rfl, by decide +kernel⟩
theorem dX8_account_8 : jj_D cX8_account 8 (.getfield 354) 3 11 := ⟨rfl, by decide +kernel⟩
theorem dX8_account_11 : jj_D cX8_account 11 (.iload_n 1) 1 12 := ⟨rfl, by decide +kernel⟩
theorem dX8_account_12 : jj_D cX8_account 12 (.iaload) 1 13 := ⟨rfl, by decide +kernel⟩
theorem dX8_account_13 : jj_D cX8_account 13 (.ireturn) 1 14 := ⟨rfl, by decide +kernel⟩
theorem dX8_accountAnew_0 : jj_D cX8_accountAnew 0 (.iload_n 1) 1 1 := ⟨rfl, by decide +kernel⟩
theorem dX8_accountAnew_1 : jj_D cX8_accountAnew 1 (.invokestatic 48) 3 4 := ⟨rfl, by decide +kernel⟩
theorem dX8_accountAnew_4 : jj_D cX8_accountAnew 4 (.aload_n 0) 1 5 := ⟨rfl, by decide +kernel⟩
theorem dX8_accountAnew_5 : jj_D cX8_accountAnew 5 (.getfield 44) 3 8 := ⟨rfl, by decide +kernel⟩
theorem dX8_accountAnew_8 : jj_D cX8_accountAnew 8 (.iload_n 1) 1 9 := ⟨rfl, by decide +kernel⟩
theorem dX8_accountAnew_9 : jj_D cX8_accountAnew 9 (.invokevirtual 357) 3 12 := ⟨rfl, by decide +kernel⟩
theorem dX8_accountAnew_12 : jj_D cX8_accountAnew 12 (.aload_n 0) 1 13 := ⟨rfl, by decide +kernel⟩
theorem dX8_accountAnew_13 : jj_D cX8_accountAnew 13 (.getfield 44) 3 16 := ⟨rfl, by decide +kernel⟩
theorem dX8_accountAnew_16 : jj_D cX8_accountAnew 16 (.getfield 351) 3 19 := ⟨rfl, by decide +kernel⟩
theorem dX8_accountAnew_19 : jj_D cX8_accountAnew 19 (.iload_n 1) 1 20 := ⟨rfl, by decide +kernel⟩
theorem dX8_accountAnew_20 : jj_D cX8_accountAnew 20 (.iaload) 1 21 := ⟨rfl, by decide +kernel⟩
theorem dX8_accountAnew_21 : jj_D cX8_accountAnew 21 (.isub) 1 22 := ⟨rfl, by decide +kernel⟩
theorem dX8_accountAnew_22 : jj_D cX8_accountAnew 22 (.aload_n 0) 1 23 := ⟨rfl, by decide +kernel⟩
theorem dX8_accountAnew_23 : jj_D cX8_accountAnew 23 (.getfield 44) 3 26 := ⟨rfl, by decide +kernel⟩
theorem dX8_accountAnew_26 : jj_D cX8_accountAnew 26 (.getfield 360) 3 29 := ⟨rfl, by decide +kernel⟩
theorem dX8_accountAnew_29 : jj_D cX8_accountAnew 29 (.iload_n 1) 1 30 := ⟨rfl, by decide +kernel⟩
theorem dX8_accountAnew_30 : jj_D cX8_accountAnew 30 (.iaload) 1 31 := ⟨rfl, by decide +kernel⟩
theorem dX8_accountAnew_31 : jj_D cX8_accountAnew 31 (.isub) 1 32 := ⟨rfl, by decide +kernel⟩
theorem dX8_accountAnew_32 : jj_D cX8_accountAnew 32 (.ireturn) 1 33 := ⟨rfl, by decide +kernel⟩
theorem dX8_payOut_0 : jj_D cX8_payOut 0 (.iload_n 1) 1 1 := ⟨rfl, by decide +kernel⟩
theorem dX8_payOut_1 : jj_D cX8_payOut 1 (.invokestatic 48) 3 4 := ⟨rfl, by decide +kernel⟩
theorem dX8_payOut_4 : jj_D cX8_payOut 4 (.aload_n 0) 1 5 := ⟨rfl, by decide +kernel⟩
theorem dX8_payOut_5 : jj_D cX8_payOut 5 (.getfield 44) 3 8 := ⟨rfl, by decide +kernel⟩
theorem dX8_payOut_8 : jj_D cX8_payOut 8 (.getfield 354) 3 11 := ⟨rfl, by decide +kernel⟩
theorem dX8_payOut_11 : jj_D cX8_payOut 11 (.iload_n 1) 1 12 := ⟨rfl, by decide +kernel⟩
theorem dX8_payOut_12 : jj_D cX8_payOut 12 (.iaload) 1 13 := ⟨rfl, by decide +kernel⟩
theorem dX8_payOut_13 : jj_D cX8_payOut 13 (.iconst 0) 1 14 := ⟨rfl, by decide +kernel⟩
theorem dX8_payOut_14 : jj_D cX8_payOut 14 (.invokestatic 363) 3 17 := ⟨rfl, by decide +kernel⟩
theorem dX8_payOut_17 : jj_D cX8_payOut 17 (.istore_n 2) 1 18 := ⟨rfl, by decide +kernel⟩
theorem dX8_payOut_18 : jj_D cX8_payOut 18 (.aload_n 0) 1 19 := ⟨rfl, by decide +kernel⟩
theorem dX8_payOut_19 : jj_D cX8_payOut 19 (.getfield 44) 3 22 := ⟨rfl, by decide +kernel⟩
theorem dX8_payOut_22 : jj_D cX8_payOut 22 (.getfield 360) 3 25 := ⟨rfl, by decide +kernel⟩
theorem dX8_payOut_25 : jj_D cX8_payOut 25 (.iload_n 1) 1 26 := ⟨rfl, by decide +kernel⟩
theorem dX8_payOut_26 : jj_D cX8_payOut 26 (.dup2) 1 27 := ⟨rfl, by decide +kernel⟩
theorem dX8_payOut_27 : jj_D cX8_payOut 27 (.iaload) 1 28 := ⟨rfl, by decide +kernel⟩
theorem dX8_payOut_28 : jj_D cX8_payOut 28 (.iload_n 2) 1 29 := ⟨rfl, by decide +kernel⟩
theorem dX8_payOut_29 : jj_D cX8_payOut 29 (.iadd) 1 30 := ⟨rfl, by decide +kernel⟩
theorem dX8_payOut_30 : jj_D cX8_payOut 30 (.iastore) 1 31 := ⟨rfl, by decide +kernel⟩
theorem dX8_payOut_31 : jj_D cX8_payOut 31 (.aload_n 0) 1 32 := ⟨rfl, by decide +kernel⟩
theorem dX8_payOut_32 : jj_D cX8_payOut 32 (.getfield 44) 3 35 := ⟨rfl, by decide +kernel⟩
theorem dX8_payOut_35 : jj_D cX8_payOut 35 (.getfield 354) 3 38 := ⟨rfl, by decide +kernel⟩
theorem dX8_payOut_38 : jj_D cX8_payOut 38 (.iload_n 1) 1 39 := ⟨rfl, by decide +kernel⟩
theorem dX8_payOut_39 : jj_D cX8_payOut 39 (.dup2) 1 40 := ⟨rfl, by decide +kernel⟩
theorem dX8_payOut_40 : jj_D cX8_payOut 40 (.iaload) 1 41 := ⟨rfl, by decide +kernel⟩
theorem dX8_payOut_41 : jj_D cX8_payOut 41 (.iload_n 2) 1 42 := ⟨rfl, by decide +kernel⟩
theorem dX8_payOut_42 : jj_D cX8_payOut 42 (.isub) 1 43 := ⟨rfl, by decide +kernel⟩
theorem dX8_payOut_43 : jj_D cX8_payOut 43 (.iastore) 1 44 := ⟨rfl, by decide +kernel⟩
theorem dX8_payOut_44 : jj_D cX8_payOut 44 (.iload_n 2) 1 45 := ⟨rfl, by decide +kernel⟩
theorem dX8_payOut_45 : jj_D cX8_payOut 45 (.ireturn) 1 46 := ⟨rfl, by decide +kernel⟩
theorem dX8_pass_0 : jj_D cX8_pass 0 (.iload_n 1) 1 1 := ⟨rfl, by decide +kernel⟩
theorem dX8_pass_1 : jj_D cX8_pass 1 (.iconst 1) 1 2 := ⟨rfl, by decide +kernel⟩
theorem dX8_pass_2 : jj_D cX8_pass 2 (.if_icmp .lt 10) 3 5 := ⟨rfl, by decide +kernel⟩
theorem dX8_pass_5 : jj_D cX8_pass 5 (.iload_n 1) 1 6 := ⟨rfl, by decide +kernel⟩
theorem dX8_pass_6 : jj_D cX8_pass 6 (.sipush 999) 3 9 := ⟨rfl, by decide +kernel⟩
theorem dX8_pass_9 : jj_D cX8_pass 9 (.if_icmp .le 14) 3 12 := ⟨rfl, by decide +kernel⟩
theorem dX8_pass_12 : jj_D cX8_pass 12 (.new 55) 3 15 := ⟨rfl, by decide +kernel⟩
theorem dX8_pass_15 : jj_D cX8_pass 15 (.dup) 1 16 := ⟨rfl, by decide +kernel⟩
theorem dX8_pass_16 : jj_D cX8_pass 16 (.ldc_w 368) 3 19 := ⟨rfl, by decide +kernel⟩
theorem dX8_pass_19 : jj_D cX8_pass 19 (.invokespecial 59) 3 22 := ⟨rfl, by decide +kernel⟩
theorem dX8_pass_22 : jj_D cX8_pass 22 (.athrow) 1 23 := ⟨rfl, by decide +kernel⟩
theorem dX8_pass_23 : jj_D cX8_pass 23 (.aload_n 0) 1 24 := ⟨rfl, by decide +kernel⟩
theorem dX8_pass_24 : jj_D cX8_pass 24 (.getfield 108) 3 27 := ⟨rfl, by decide +kernel⟩
theorem dX8_pass_27 : jj_D cX8_pass 27 (.iload_n 1) 1 28 := ⟨rfl, by decide +kernel⟩
theorem dX8_pass_28 : jj_D cX8_pass 28 (.iadd) 1 29 := ⟨rfl, by decide +kernel⟩
theorem dX8_pass_29 : jj_D cX8_pass 29 (.sipush 9999) 3 32 := ⟨rfl, by decide +kernel⟩
theorem dX8_pass_32 : jj_D cX8_pass 32 (.if_icmp .le 14) 3 35 := ⟨rfl, by decide +kernel⟩
theorem dX8_pass_35 : jj_D cX8_pass 35 (.new 93) 3 38 := ⟨rfl, by decide +kernel⟩
theorem dX8_pass_38 : jj_D cX8_pass 38 (.dup) 1 39 := ⟨rfl, by decide +kernel⟩
theorem dX8_pass_39 : jj_D cX8_pass 39 (.ldc_w 370) 3 42 := ⟨rfl, by decide +kernel⟩
theorem dX8_pass_42 : jj_D cX8_pass 42 (.invokespecial 97) 3 45 := ⟨rfl, by decide +kernel⟩
theorem dX8_pass_45 : jj_D cX8_pass 45 (.athrow) 1 46 := ⟨rfl, by decide +kernel⟩
theorem dX8_pass_46 : jj_D cX8_pass 46 (.aload_n 0) 1 47 := ⟨rfl, by decide +kernel⟩
theorem dX8_pass_47 : jj_D cX8_pass 47 (.dup) 1 48 := ⟨rfl, by decide +kernel⟩
theorem dX8_pass_48 : jj_D cX8_pass 48 (.getfield 108) 3 51 := ⟨rfl, by decide +kernel⟩
theorem dX8_pass_51 : jj_D cX8_pass 51 (.iload_n 1) 1 52 := ⟨rfl, by decide +kernel⟩
theorem dX8_pass_52 : jj_D cX8_pass 52 (.iadd) 1 53 := ⟨rfl, by decide +kernel⟩
theorem dX8_pass_53 : jj_D cX8_pass 53 (.putfield 108) 3 56 := ⟨rfl, by decide +kernel⟩
theorem dX8_pass_56 : jj_D cX8_pass 56 (.aload_n 0) 1 57 := ⟨rfl, by decide +kernel⟩
theorem dX8_pass_57 : jj_D cX8_pass 57 (.getfield 108) 3 60 := ⟨rfl, by decide +kernel⟩
theorem dX8_pass_60 : jj_D cX8_pass 60 (.ireturn) 1 61 := ⟨rfl, by decide +kernel⟩
theorem dX8_requireArtist_0 : jj_D cX8_requireArtist 0 (.iload_n 0) 1 1 := ⟨rfl, by decide +kernel⟩
theorem dX8_requireArtist_1 : jj_D cX8_requireArtist 1 (.ifCond .lt 9) 3 4 := ⟨rfl, by decide +kernel⟩
theorem dX8_requireArtist_4 : jj_D cX8_requireArtist 4 (.iload_n 0) 1 5 := ⟨rfl, by decide +kernel⟩
theorem dX8_requireArtist_5 : jj_D cX8_requireArtist 5 (.bipush 6) 2 7 := ⟨rfl, by decide +kernel⟩
theorem dX8_requireArtist_7 : jj_D cX8_requireArtist 7 (.if_icmp .lt 14) 3 10 := ⟨rfl, by decide +kernel⟩
theorem dX8_requireArtist_10 : jj_D cX8_requireArtist 10 (.new 143) 3 13 := ⟨rfl, by decide +kernel⟩
theorem dX8_requireArtist_13 : jj_D cX8_requireArtist 13 (.dup) 1 14 := ⟨rfl, by decide +kernel⟩
theorem dX8_requireArtist_14 : jj_D cX8_requireArtist 14 (.ldc_w 372) 3 17 := ⟨rfl, by decide +kernel⟩
theorem dX8_requireArtist_17 : jj_D cX8_requireArtist 17 (.invokespecial 147) 3 20 := ⟨rfl, by decide +kernel⟩
theorem dX8_requireArtist_20 : jj_D cX8_requireArtist 20 (.athrow) 1 21 := ⟨rfl, by decide +kernel⟩
theorem dX8_requireArtist_21 : jj_D cX8_requireArtist 21 (.return_) 1 22 := ⟨rfl, by decide +kernel⟩
theorem dX8_requireVault_0 : jj_D cX8_requireVault 0 (.iload_n 0) 1 1 := ⟨rfl, by decide +kernel⟩
theorem dX8_requireVault_1 : jj_D cX8_requireVault 1 (.ifCond .lt 8) 3 4 := ⟨rfl, by decide +kernel⟩
theorem dX8_requireVault_4 : jj_D cX8_requireVault 4 (.iload_n 0) 1 5 := ⟨rfl, by decide +kernel⟩
theorem dX8_requireVault_5 : jj_D cX8_requireVault 5 (.iconst 4) 1 6 := ⟨rfl, by decide +kernel⟩
theorem dX8_requireVault_6 : jj_D cX8_requireVault 6 (.if_icmp .lt 14) 3 9 := ⟨rfl, by decide +kernel⟩
theorem dX8_requireVault_9 : jj_D cX8_requireVault 9 (.new 143) 3 12 := ⟨rfl, by decide +kernel⟩
theorem dX8_requireVault_12 : jj_D cX8_requireVault 12 (.dup) 1 13 := ⟨rfl, by decide +kernel⟩
theorem dX8_requireVault_13 : jj_D cX8_requireVault 13 (.ldc_w 374) 3 16 := ⟨rfl, by decide +kernel⟩
theorem dX8_requireVault_16 : jj_D cX8_requireVault 16 (.invokespecial 147) 3 19 := ⟨rfl, by decide +kernel⟩
theorem dX8_requireVault_19 : jj_D cX8_requireVault 19 (.athrow) 1 20 := ⟨rfl, by decide +kernel⟩
theorem dX8_requireVault_20 : jj_D cX8_requireVault 20 (.return_) 1 21 := ⟨rfl, by decide +kernel⟩
theorem dX8_requirePart_0 : jj_D cX8_requirePart 0 (.iload_n 0) 1 1 := ⟨rfl, by decide +kernel⟩
theorem dX8_requirePart_1 : jj_D cX8_requirePart 1 (.ifCond .lt 9) 3 4 := ⟨rfl, by decide +kernel⟩
theorem dX8_requirePart_4 : jj_D cX8_requirePart 4 (.iload_n 0) 1 5 := ⟨rfl, by decide +kernel⟩
theorem dX8_requirePart_5 : jj_D cX8_requirePart 5 (.bipush 8) 2 7 := ⟨rfl, by decide +kernel⟩
theorem dX8_requirePart_7 : jj_D cX8_requirePart 7 (.if_icmp .lt 14) 3 10 := ⟨rfl, by decide +kernel⟩
theorem dX8_requirePart_10 : jj_D cX8_requirePart 10 (.new 143) 3 13 := ⟨rfl, by decide +kernel⟩
theorem dX8_requirePart_13 : jj_D cX8_requirePart 13 (.dup) 1 14 := ⟨rfl, by decide +kernel⟩
theorem dX8_requirePart_14 : jj_D cX8_requirePart 14 (.ldc_w 376) 3 17 := ⟨rfl, by decide +kernel⟩
theorem dX8_requirePart_17 : jj_D cX8_requirePart 17 (.invokespecial 147) 3 20 := ⟨rfl, by decide +kernel⟩
theorem dX8_requirePart_20 : jj_D cX8_requirePart 20 (.athrow) 1 21 := ⟨rfl, by decide +kernel⟩
theorem dX8_requirePart_21 : jj_D cX8_requirePart 21 (.return_) 1 22 := ⟨rfl, by decide +kernel⟩
theorem dX8_requireDiscCount_0 : jj_D cX8_requireDiscCount 0 (.iload_n 0) 1 1 := ⟨rfl, by decide +kernel⟩
theorem dX8_requireDiscCount_1 : jj_D cX8_requireDiscCount 1 (.iconst 1) 1 2 := ⟨rfl, by decide +kernel⟩
theorem dX8_requireDiscCount_2 : jj_D cX8_requireDiscCount 2 (.if_icmp .lt 10) 3 5 := ⟨rfl, by decide +kernel⟩
theorem dX8_requireDiscCount_5 : jj_D cX8_requireDiscCount 5 (.iload_n 0) 1 6 := ⟨rfl, by decide +kernel⟩
theorem dX8_requireDiscCount_6 : jj_D cX8_requireDiscCount 6 (.sipush 500) 3 9 := ⟨rfl, by decide +kernel⟩
theorem dX8_requireDiscCount_9 : jj_D cX8_requireDiscCount 9 (.if_icmp .le 14) 3 12 := ⟨rfl, by decide +kernel⟩
theorem dX8_requireDiscCount_12 : jj_D cX8_requireDiscCount 12 (.new 55) 3 15 := ⟨rfl, by decide +kernel⟩
theorem dX8_requireDiscCount_15 : jj_D cX8_requireDiscCount 15 (.dup) 1 16 := ⟨rfl, by decide +kernel⟩
theorem dX8_requireDiscCount_16 : jj_D cX8_requireDiscCount 16 (.ldc_w 378) 3 19 := ⟨rfl, by decide +kernel⟩
theorem dX8_requireDiscCount_19 : jj_D cX8_requireDiscCount 19 (.invokespecial 59) 3 22 := ⟨rfl, by decide +kernel⟩
theorem dX8_requireDiscCount_22 : jj_D cX8_requireDiscCount 22 (.athrow) 1 23 := ⟨rfl, by decide +kernel⟩
theorem dX8_requireDiscCount_23 : jj_D cX8_requireDiscCount 23 (.return_) 1 24 := ⟨rfl, by decide +kernel⟩
theorem dX8_requirePlayable_0 : jj_D cX8_requirePlayable 0 (.aload_n 1) 1 1 := ⟨rfl, by decide +kernel⟩
theorem dX8_requirePlayable_1 : jj_D cX8_requirePlayable 1 (.aload_n 0) 1 2 := ⟨rfl, by decide +kernel⟩
theorem dX8_requirePlayable_2 : jj_D cX8_requirePlayable 2 (.getfield 108) 3 5 := ⟨rfl, by decide +kernel⟩
theorem dX8_requirePlayable_5 : jj_D cX8_requirePlayable 5 (.invokevirtual 117) 3 8 := ⟨rfl, by decide +kernel⟩
theorem dX8_requirePlayable_8 : jj_D cX8_requirePlayable 8 (.ifCond .ne 14) 3 11 := ⟨rfl, by decide +kernel⟩
theorem dX8_requirePlayable_11 : jj_D cX8_requirePlayable 11 (.new 93) 3 14 := ⟨rfl, by decide +kernel⟩
theorem dX8_requirePlayable_14 : jj_D cX8_requirePlayable 14 (.dup) 1 15 := ⟨rfl, by decide +kernel⟩
theorem dX8_requirePlayable_15 : jj_D cX8_requirePlayable 15 (.ldc_w 380) 3 18 := ⟨rfl, by decide +kernel⟩
theorem dX8_requirePlayable_18 : jj_D cX8_requirePlayable 18 (.invokespecial 97) 3 21 := ⟨rfl, by decide +kernel⟩
theorem dX8_requirePlayable_21 : jj_D cX8_requirePlayable 21 (.athrow) 1 22 := ⟨rfl, by decide +kernel⟩
theorem dX8_requirePlayable_22 : jj_D cX8_requirePlayable 22 (.return_) 1 23 := ⟨rfl, by decide +kernel⟩
theorem dX8_tapeAt_0 : jj_D cX8_tapeAt 0 (.iload_n 1) 1 1 := ⟨rfl, by decide +kernel⟩
theorem dX8_tapeAt_1 : jj_D cX8_tapeAt 1 (.ifCond .lt 12) 3 4 := ⟨rfl, by decide +kernel⟩
theorem dX8_tapeAt_4 : jj_D cX8_tapeAt 4 (.iload_n 1) 1 5 := ⟨rfl, by decide +kernel⟩
theorem dX8_tapeAt_5 : jj_D cX8_tapeAt 5 (.aload_n 0) 1 6 := ⟨rfl, by decide +kernel⟩
theorem dX8_tapeAt_6 : jj_D cX8_tapeAt 6 (.getfield 11) 3 9 := ⟨rfl, by decide +kernel⟩
theorem dX8_tapeAt_9 : jj_D cX8_tapeAt 9 (.arraylength) 1 10 := ⟨rfl, by decide +kernel⟩
theorem dX8_tapeAt_10 : jj_D cX8_tapeAt 10 (.if_icmp .lt 7) 3 13 := ⟨rfl, by decide +kernel⟩
theorem dX8_tapeAt_13 : jj_D cX8_tapeAt 13 (.aconst_null) 1 14 := ⟨rfl, by decide +kernel⟩
theorem dX8_tapeAt_14 : jj_D cX8_tapeAt 14 (.goto 9) 3 17 := ⟨rfl, by decide +kernel⟩
theorem dX8_tapeAt_17 : jj_D cX8_tapeAt 17 (.aload_n 0) 1 18 := ⟨rfl, by decide +kernel⟩
theorem dX8_tapeAt_18 : jj_D cX8_tapeAt 18 (.getfield 11) 3 21 := ⟨rfl, by decide +kernel⟩
theorem dX8_tapeAt_21 : jj_D cX8_tapeAt 21 (.iload_n 1) 1 22 := ⟨rfl, by decide +kernel⟩
theorem dX8_tapeAt_22 : jj_D cX8_tapeAt 22 (.aaload) 1 23 := ⟨rfl, by decide +kernel⟩
theorem dX8_tapeAt_23 : jj_D cX8_tapeAt 23 (.astore_n 2) 1 24 := ⟨rfl, by decide +kernel⟩
theorem dX8_tapeAt_24 : jj_D cX8_tapeAt 24 (.aload_n 2) 1 25 := ⟨rfl, by decide +kernel⟩
theorem dX8_tapeAt_25 : jj_D cX8_tapeAt 25 (.ifnonnull 14) 3 28 := ⟨rfl, by decide +kernel⟩
theorem dX8_tapeAt_28 : jj_D cX8_tapeAt 28 (.new 143) 3 31 := ⟨rfl, by decide +kernel⟩
theorem dX8_tapeAt_31 : jj_D cX8_tapeAt 31 (.dup) 1 32 := ⟨rfl, by decide +kernel⟩
theorem dX8_tapeAt_32 : jj_D cX8_tapeAt 32 (.ldc_w 382) 3 35 := ⟨rfl, by decide +kernel⟩
theorem dX8_tapeAt_35 : jj_D cX8_tapeAt 35 (.invokespecial 147) 3 38 := ⟨rfl, by decide +kernel⟩
theorem dX8_tapeAt_38 : jj_D cX8_tapeAt 38 (.athrow) 1 39 := ⟨rfl, by decide +kernel⟩
theorem dX8_tapeAt_39 : jj_D cX8_tapeAt 39 (.aload_n 2) 1 40 := ⟨rfl, by decide +kernel⟩
theorem dX8_tapeAt_40 : jj_D cX8_tapeAt 40 (.areturn) 1 41 := ⟨rfl, by decide +kernel⟩
theorem dX8_sideAt_0 : jj_D cX8_sideAt 0 (.iload_n 1) 1 1 := ⟨rfl, by decide +kernel⟩
theorem dX8_sideAt_1 : jj_D cX8_sideAt 1 (.ifCond .lt 12) 3 4 := ⟨rfl, by decide +kernel⟩
theorem dX8_sideAt_4 : jj_D cX8_sideAt 4 (.iload_n 1) 1 5 := ⟨rfl, by decide +kernel⟩
theorem dX8_sideAt_5 : jj_D cX8_sideAt 5 (.aload_n 0) 1 6 := ⟨rfl, by decide +kernel⟩
theorem dX8_sideAt_6 : jj_D cX8_sideAt 6 (.getfield 24) 3 9 := ⟨rfl, by decide +kernel⟩
theorem dX8_sideAt_9 : jj_D cX8_sideAt 9 (.arraylength) 1 10 := ⟨rfl, by decide +kernel⟩
theorem dX8_sideAt_10 : jj_D cX8_sideAt 10 (.if_icmp .lt 7) 3 13 := ⟨rfl, by decide +kernel⟩
theorem dX8_sideAt_13 : jj_D cX8_sideAt 13 (.aconst_null) 1 14 := ⟨rfl, by decide +kernel⟩
theorem dX8_sideAt_14 : jj_D cX8_sideAt 14 (.goto 9) 3 17 := ⟨rfl, by decide +kernel⟩
theorem dX8_sideAt_17 : jj_D cX8_sideAt 17 (.aload_n 0) 1 18 := ⟨rfl, by decide +kernel⟩
theorem dX8_sideAt_18 : jj_D cX8_sideAt 18 (.getfield 24) 3 21 := ⟨rfl, by decide +kernel⟩
theorem dX8_sideAt_21 : jj_D cX8_sideAt 21 (.iload_n 1) 1 22 := ⟨rfl, by decide +kernel⟩
theorem dX8_sideAt_22 : jj_D cX8_sideAt 22 (.aaload) 1 23 := ⟨rfl, by decide +kernel⟩
theorem dX8_sideAt_23 : jj_D cX8_sideAt 23 (.astore_n 2) 1 24 := ⟨rfl, by decide +kernel⟩
theorem dX8_sideAt_24 : jj_D cX8_sideAt 24 (.aload_n 2) 1 25 := ⟨rfl, by decide +kernel⟩
theorem dX8_sideAt_25 : jj_D cX8_sideAt 25 (.ifnonnull 14) 3 28 := ⟨rfl, by decide +kernel⟩
theorem dX8_sideAt_28 : jj_D cX8_sideAt 28 (.new 143) 3 31 := ⟨rfl, by decide +kernel⟩
theorem dX8_sideAt_31 : jj_D cX8_sideAt 31 (.dup) 1 32 := ⟨rfl, by decide +kernel⟩
theorem dX8_sideAt_32 : jj_D cX8_sideAt 32 (.ldc_w 384) 3 35 := ⟨rfl, by decide +kernel⟩
theorem dX8_sideAt_35 : jj_D cX8_sideAt 35 (.invokespecial 147) 3 38 := ⟨rfl, by decide +kernel⟩
theorem dX8_sideAt_38 : jj_D cX8_sideAt 38 (.athrow) 1 39 := ⟨rfl, by decide +kernel⟩
theorem dX8_sideAt_39 : jj_D cX8_sideAt 39 (.aload_n 2) 1 40 := ⟨rfl, by decide +kernel⟩
theorem dX8_sideAt_40 : jj_D cX8_sideAt 40 (.areturn) 1 41 := ⟨rfl, by decide +kernel⟩
theorem dX8_discAt_0 : jj_D cX8_discAt 0 (.iload_n 1) 1 1 := ⟨rfl, by decide +kernel⟩
theorem dX8_discAt_1 : jj_D cX8_discAt 1 (.ifCond .lt 12) 3 4 := ⟨rfl, by decide +kernel⟩
theorem dX8_discAt_4 : jj_D cX8_discAt 4 (.iload_n 1) 1 5 := ⟨rfl, by decide +kernel⟩
theorem dX8_discAt_5 : jj_D cX8_discAt 5 (.aload_n 0) 1 6 := ⟨rfl, by decide +kernel⟩
theorem dX8_discAt_6 : jj_D cX8_discAt 6 (.getfield 30) 3 9 := ⟨rfl, by decide +kernel⟩
theorem dX8_discAt_9 : jj_D cX8_discAt 9 (.arraylength) 1 10 := ⟨rfl, by decide +kernel⟩
theorem dX8_discAt_10 : jj_D cX8_discAt 10 (.if_icmp .lt 7) 3 13 := ⟨rfl, by decide +kernel⟩
theorem dX8_discAt_13 : jj_D cX8_discAt 13 (.aconst_null) 1 14 := ⟨rfl, by decide +kernel⟩
theorem dX8_discAt_14 : jj_D cX8_discAt 14 (.goto 9) 3 17 := ⟨rfl, by decide +kernel⟩
theorem dX8_discAt_17 : jj_D cX8_discAt 17 (.aload_n 0) 1 18 := ⟨rfl, by decide +kernel⟩
theorem dX8_discAt_18 : jj_D cX8_discAt 18 (.getfield 30) 3 21 := ⟨rfl, by decide +kernel⟩
theorem dX8_discAt_21 : jj_D cX8_discAt 21 (.iload_n 1) 1 22 := ⟨rfl, by decide +kernel⟩
theorem dX8_discAt_22 : jj_D cX8_discAt 22 (.aaload) 1 23 := ⟨rfl, by decide +kernel⟩
theorem dX8_discAt_23 : jj_D cX8_discAt 23 (.astore_n 2) 1 24 := ⟨rfl, by decide +kernel⟩
theorem dX8_discAt_24 : jj_D cX8_discAt 24 (.aload_n 2) 1 25 := ⟨rfl, by decide +kernel⟩
theorem dX8_discAt_25 : jj_D cX8_discAt 25 (.ifnonnull 14) 3 28 := ⟨rfl, by decide +kernel⟩
theorem dX8_discAt_28 : jj_D cX8_discAt 28 (.new 143) 3 31 := ⟨rfl, by decide +kernel⟩
theorem dX8_discAt_31 : jj_D cX8_discAt 31 (.dup) 1 32 := ⟨rfl, by decide +kernel⟩
theorem dX8_discAt_32 : jj_D cX8_discAt 32 (.ldc_w 386) 3 35 := ⟨rfl, by decide +kernel⟩
theorem dX8_discAt_35 : jj_D cX8_discAt 35 (.invokespecial 147) 3 38 := ⟨rfl, by decide +kernel⟩
theorem dX8_discAt_38 : jj_D cX8_discAt 38 (.athrow) 1 39 := ⟨rfl, by decide +kernel⟩
theorem dX8_discAt_39 : jj_D cX8_discAt 39 (.aload_n 2) 1 40 := ⟨rfl, by decide +kernel⟩
theorem dX8_discAt_40 : jj_D cX8_discAt 40 (.areturn) 1 41 := ⟨rfl, by decide +kernel⟩
theorem dX8_nextTape_0 : jj_D cX8_nextTape 0 (.aload_n 0) 1 1 := ⟨rfl, by decide +kernel⟩
theorem dX8_nextTape_1 : jj_D cX8_nextTape 1 (.getfield 69) 3 4 := ⟨rfl, by decide +kernel⟩
theorem dX8_nextTape_4 : jj_D cX8_nextTape 4 (.ifCond .lt 15) 3 7 := ⟨rfl, by decide +kernel⟩
theorem dX8_nextTape_7 : jj_D cX8_nextTape 7 (.aload_n 0) 1 8 := ⟨rfl, by decide +kernel⟩
theorem dX8_nextTape_8 : jj_D cX8_nextTape 8 (.getfield 69) 3 11 := ⟨rfl, by decide +kernel⟩
theorem dX8_nextTape_11 : jj_D cX8_nextTape 11 (.aload_n 0) 1 12 := ⟨rfl, by decide +kernel⟩
theorem dX8_nextTape_12 : jj_D cX8_nextTape 12 (.getfield 11) 3 15 := ⟨rfl, by decide +kernel⟩
theorem dX8_nextTape_15 : jj_D cX8_nextTape 15 (.arraylength) 1 16 := ⟨rfl, by decide +kernel⟩
theorem dX8_nextTape_16 : jj_D cX8_nextTape 16 (.if_icmp .lt 14) 3 19 := ⟨rfl, by decide +kernel⟩
theorem dX8_nextTape_19 : jj_D cX8_nextTape 19 (.new 93) 3 22 := ⟨rfl, by decide +kernel⟩
theorem dX8_nextTape_22 : jj_D cX8_nextTape 22 (.dup) 1 23 := ⟨rfl, by decide +kernel⟩
theorem dX8_nextTape_23 : jj_D cX8_nextTape 23 (.ldc_w 388) 3 26 := ⟨rfl, by decide +kernel⟩
theorem dX8_nextTape_26 : jj_D cX8_nextTape 26 (.invokespecial 97) 3 29 := ⟨rfl, by decide +kernel⟩
theorem dX8_nextTape_29 : jj_D cX8_nextTape 29 (.athrow) 1 30 := ⟨rfl, by decide +kernel⟩
theorem dX8_nextTape_30 : jj_D cX8_nextTape 30 (.aload_n 0) 1 31 := ⟨rfl, by decide +kernel⟩
theorem dX8_nextTape_31 : jj_D cX8_nextTape 31 (.getfield 69) 3 34 := ⟨rfl, by decide +kernel⟩
theorem dX8_nextTape_34 : jj_D cX8_nextTape 34 (.ireturn) 1 35 := ⟨rfl, by decide +kernel⟩
theorem dX8_has_0 : jj_D cX8_has 0 (.iload_n 0) 1 1 := ⟨rfl, by decide +kernel⟩
theorem dX8_has_1 : jj_D cX8_has 1 (.iload_n 1) 1 2 := ⟨rfl, by decide +kernel⟩
theorem dX8_has_2 : jj_D cX8_has 2 (.ishr) 1 3 := ⟨rfl, by decide +kernel⟩
theorem dX8_has_3 : jj_D cX8_has 3 (.iconst 1) 1 4 := ⟨rfl, by decide +kernel⟩
theorem dX8_has_4 : jj_D cX8_has 4 (.iand) 1 5 := ⟨rfl, by decide +kernel⟩
theorem dX8_has_5 : jj_D cX8_has 5 (.iconst 1) 1 6 := ⟨rfl, by decide +kernel⟩
theorem dX8_has_6 : jj_D cX8_has 6 (.if_icmp .ne 7) 3 9 := ⟨rfl, by decide +kernel⟩
theorem dX8_has_9 : jj_D cX8_has 9 (.iconst 1) 1 10 := ⟨rfl, by decide +kernel⟩
theorem dX8_has_10 : jj_D cX8_has 10 (.goto 4) 3 13 := ⟨rfl, by decide +kernel⟩
theorem dX8_has_13 : jj_D cX8_has 13 (.iconst 0) 1 14 := ⟨rfl, by decide +kernel⟩
theorem dX8_has_14 : jj_D cX8_has 14 (.ireturn) 1 15 := ⟨rfl, by decide +kernel⟩
theorem dX8_takesByMaking_0 : jj_D cX8_takesByMaking 0 (.iconst 0) 1 1 := ⟨rfl, by decide +kernel⟩
theorem dX8_takesByMaking_1 : jj_D cX8_takesByMaking 1 (.istore_n 1) 1 2 := ⟨rfl, by decide +kernel⟩
theorem dX8_takesByMaking_2 : jj_D cX8_takesByMaking 2 (.iconst 0) 1 3 := ⟨rfl, by decide +kernel⟩
theorem dX8_takesByMaking_3 : jj_D cX8_takesByMaking 3 (.istore_n 2) 1 4 := ⟨rfl, by decide +kernel⟩
theorem dX8_takesByMaking_4 : jj_D cX8_takesByMaking 4 (.iload_n 2) 1 5 := ⟨rfl, by decide +kernel⟩
theorem dX8_takesByMaking_5 : jj_D cX8_takesByMaking 5 (.aload_n 0) 1 6 := ⟨rfl, by decide +kernel⟩
theorem dX8_takesByMaking_6 : jj_D cX8_takesByMaking 6 (.getfield 77) 3 9 := ⟨rfl, by decide +kernel⟩
theorem dX8_takesByMaking_9 : jj_D cX8_takesByMaking 9 (.if_icmp .ge 126) 3 12 := ⟨rfl, by decide +kernel⟩
theorem dX8_takesByMaking_12 : jj_D cX8_takesByMaking 12 (.aload_n 0) 1 13 := ⟨rfl, by decide +kernel⟩
theorem dX8_takesByMaking_13 : jj_D cX8_takesByMaking 13 (.astore_n 3) 1 14 := ⟨rfl, by decide +kernel⟩
theorem dX8_takesByMaking_14 : jj_D cX8_takesByMaking 14 (.iload_n 2) 1 15 := ⟨rfl, by decide +kernel⟩
theorem dX8_takesByMaking_15 : jj_D cX8_takesByMaking 15 (.istore 4) 2 17 := ⟨rfl, by decide +kernel⟩
theorem dX8_takesByMaking_17 : jj_D cX8_takesByMaking 17 (.aload_n 0) 1 18 := ⟨rfl, by decide +kernel⟩
theorem dX8_takesByMaking_18 : jj_D cX8_takesByMaking 18 (.getfield 77) 3 21 := ⟨rfl, by decide +kernel⟩
theorem dX8_takesByMaking_21 : jj_D cX8_takesByMaking 21 (.iload_n 2) 1 22 := ⟨rfl, by decide +kernel⟩
theorem dX8_takesByMaking_22 : jj_D cX8_takesByMaking 22 (.isub) 1 23 := ⟨rfl, by decide +kernel⟩
theorem dX8_takesByMaking_23 : jj_D cX8_takesByMaking 23 (.istore 5) 2 25 := ⟨rfl, by decide +kernel⟩
theorem dX8_takesByMaking_25 : jj_D cX8_takesByMaking 25 (.iconst 0) 1 26 := ⟨rfl, by decide +kernel⟩
theorem dX8_takesByMaking_26 : jj_D cX8_takesByMaking 26 (.istore 6) 2 28 := ⟨rfl, by decide +kernel⟩
theorem dX8_takesByMaking_28 : jj_D cX8_takesByMaking 28 (.iload 6) 2 30 := ⟨rfl, by decide +kernel⟩
theorem dX8_takesByMaking_30 : jj_D cX8_takesByMaking 30 (.bipush 30) 2 32 := ⟨rfl, by decide +kernel⟩
theorem dX8_takesByMaking_32 : jj_D cX8_takesByMaking 32 (.if_icmp .ge 82) 3 35 := ⟨rfl, by decide +kernel⟩
theorem dX8_takesByMaking_35 : jj_D cX8_takesByMaking 35 (.aload_n 3) 1 36 := ⟨rfl, by decide +kernel⟩
theorem dX8_takesByMaking_36 : jj_D cX8_takesByMaking 36 (.getfield 139) 3 39 := ⟨rfl, by decide +kernel⟩
theorem dX8_takesByMaking_39 : jj_D cX8_takesByMaking 39 (.ifnull 75) 3 42 := ⟨rfl, by decide +kernel⟩
theorem dX8_takesByMaking_42 : jj_D cX8_takesByMaking 42 (.aload_n 3) 1 43 := ⟨rfl, by decide +kernel⟩
theorem dX8_takesByMaking_43 : jj_D cX8_takesByMaking 43 (.getfield 390) 3 46 := ⟨rfl, by decide +kernel⟩
theorem dX8_takesByMaking_46 : jj_D cX8_takesByMaking 46 (.aload_n 3) 1 47 := ⟨rfl, by decide +kernel⟩
theorem dX8_takesByMaking_47 : jj_D cX8_takesByMaking 47 (.getfield 393) 3 50 := ⟨rfl, by decide +kernel⟩
theorem dX8_takesByMaking_50 : jj_D cX8_takesByMaking 50 (.isub) 1 51 := ⟨rfl, by decide +kernel⟩
theorem dX8_takesByMaking_51 : jj_D cX8_takesByMaking 51 (.istore 7) 2 53 := ⟨rfl, by decide +kernel⟩
theorem dX8_takesByMaking_53 : jj_D cX8_takesByMaking 53 (.iload 4) 2 55 := ⟨rfl, by decide +kernel⟩
theorem dX8_takesByMaking_55 : jj_D cX8_takesByMaking 55 (.iload 7) 2 57 := ⟨rfl, by decide +kernel⟩
theorem dX8_takesByMaking_57 : jj_D cX8_takesByMaking 57 (.if_icmp .ge 32) 3 60 := ⟨rfl, by decide +kernel⟩
theorem dX8_takesByMaking_60 : jj_D cX8_takesByMaking 60 (.iload 5) 2 62 := ⟨rfl, by decide +kernel⟩
theorem dX8_takesByMaking_62 : jj_D cX8_takesByMaking 62 (.iload 7) 2 64 := ⟨rfl, by decide +kernel⟩
theorem dX8_takesByMaking_64 : jj_D cX8_takesByMaking 64 (.iload 4) 2 66 := ⟨rfl, by decide +kernel⟩
theorem dX8_takesByMaking_66 : jj_D cX8_takesByMaking 66 (.isub) 1 67 := ⟨rfl, by decide +kernel⟩
theorem dX8_takesByMaking_67 : jj_D cX8_takesByMaking 67 (.invokestatic 396) 3 70 := ⟨rfl, by decide +kernel⟩
theorem dX8_takesByMaking_70 : jj_D cX8_takesByMaking 70 (.istore 5) 2 72 := ⟨rfl, by decide +kernel⟩
theorem dX8_takesByMaking_72 : jj_D cX8_takesByMaking 72 (.iload 4) 2 74 := ⟨rfl, by decide +kernel⟩
theorem dX8_takesByMaking_74 : jj_D cX8_takesByMaking 74 (.aload_n 3) 1 75 := ⟨rfl, by decide +kernel⟩
theorem dX8_takesByMaking_75 : jj_D cX8_takesByMaking 75 (.getfield 393) 3 78 := ⟨rfl, by decide +kernel⟩
theorem dX8_takesByMaking_78 : jj_D cX8_takesByMaking 78 (.iadd) 1 79 := ⟨rfl, by decide +kernel⟩
theorem dX8_takesByMaking_79 : jj_D cX8_takesByMaking 79 (.istore 4) 2 81 := ⟨rfl, by decide +kernel⟩
theorem dX8_takesByMaking_81 : jj_D cX8_takesByMaking 81 (.aload_n 3) 1 82 := ⟨rfl, by decide +kernel⟩
theorem dX8_takesByMaking_82 : jj_D cX8_takesByMaking 82 (.getfield 139) 3 85 := ⟨rfl, by decide +kernel⟩
theorem dX8_takesByMaking_85 : jj_D cX8_takesByMaking 85 (.astore_n 3) 1 86 := ⟨rfl, by decide +kernel⟩
theorem dX8_takesByMaking_86 : jj_D cX8_takesByMaking 86 (.goto 22) 3 89 := ⟨rfl, by decide +kernel⟩
theorem dX8_takesByMaking_89 : jj_D cX8_takesByMaking 89 (.aload_n 3) 1 90 := ⟨rfl, by decide +kernel⟩
theorem dX8_takesByMaking_90 : jj_D cX8_takesByMaking 90 (.getfield 399) 3 93 := ⟨rfl, by decide +kernel⟩
theorem dX8_takesByMaking_93 : jj_D cX8_takesByMaking 93 (.ifnull 15) 3 96 := ⟨rfl, by decide +kernel⟩
theorem dX8_takesByMaking_96 : jj_D cX8_takesByMaking 96 (.iload 4) 2 98 := ⟨rfl, by decide +kernel⟩
theorem dX8_takesByMaking_98 : jj_D cX8_takesByMaking 98 (.iload 7) 2 100 := ⟨rfl, by decide +kernel⟩
theorem dX8_takesByMaking_100 : jj_D cX8_takesByMaking 100 (.isub) 1 101 := ⟨rfl, by decide +kernel⟩
theorem dX8_takesByMaking_101 : jj_D cX8_takesByMaking 101 (.istore 4) 2 103 := ⟨rfl, by decide +kernel⟩
theorem dX8_takesByMaking_103 : jj_D cX8_takesByMaking 103 (.aload_n 3) 1 104 := ⟨rfl, by decide +kernel⟩
theorem dX8_takesByMaking_104 : jj_D cX8_takesByMaking 104 (.getfield 399) 3 107 := ⟨rfl, by decide +kernel⟩
theorem dX8_takesByMaking_107 : jj_D cX8_takesByMaking 107 (.astore_n 3) 1 108 := ⟨rfl, by decide +kernel⟩
theorem dX8_takesByMaking_108 : jj_D cX8_takesByMaking 108 (.iinc 6 1) 3 111 := ⟨rfl, by decide +kernel⟩
theorem dX8_takesByMaking_111 : jj_D cX8_takesByMaking 111 (.goto (-83)) 3 114 := ⟨rfl, by decide +kernel⟩
theorem dX8_takesByMaking_114 : jj_D cX8_takesByMaking 114 (.iload_n 1) 1 115 := ⟨rfl, by decide +kernel⟩
theorem dX8_takesByMaking_115 : jj_D cX8_takesByMaking 115 (.iconst 1) 1 116 := ⟨rfl, by decide +kernel⟩
theorem dX8_takesByMaking_116 : jj_D cX8_takesByMaking 116 (.aload_n 3) 1 117 := ⟨rfl, by decide +kernel⟩
theorem dX8_takesByMaking_117 : jj_D cX8_takesByMaking 117 (.getfield 402) 3 120 := ⟨rfl, by decide +kernel⟩
theorem dX8_takesByMaking_120 : jj_D cX8_takesByMaking 120 (.ishl) 1 121 := ⟨rfl, by decide +kernel⟩
theorem dX8_takesByMaking_121 : jj_D cX8_takesByMaking 121 (.ior) 1 122 := ⟨rfl, by decide +kernel⟩
theorem dX8_takesByMaking_122 : jj_D cX8_takesByMaking 122 (.istore_n 1) 1 123 := ⟨rfl, by decide +kernel⟩
theorem dX8_takesByMaking_123 : jj_D cX8_takesByMaking 123 (.iload_n 2) 1 124 := ⟨rfl, by decide +kernel⟩
theorem dX8_takesByMaking_124 : jj_D cX8_takesByMaking 124 (.iconst 1) 1 125 := ⟨rfl, by decide +kernel⟩
theorem dX8_takesByMaking_125 : jj_D cX8_takesByMaking 125 (.iload 5) 2 127 := ⟨rfl, by decide +kernel⟩
theorem dX8_takesByMaking_127 : jj_D cX8_takesByMaking 127 (.invokestatic 363) 3 130 := ⟨rfl, by decide +kernel⟩
theorem dX8_takesByMaking_130 : jj_D cX8_takesByMaking 130 (.iadd) 1 131 := ⟨rfl, by decide +kernel⟩
theorem dX8_takesByMaking_131 : jj_D cX8_takesByMaking 131 (.istore_n 2) 1 132 := ⟨rfl, by decide +kernel⟩
theorem dX8_takesByMaking_132 : jj_D cX8_takesByMaking 132 (.goto (-128)) 3 135 := ⟨rfl, by decide +kernel⟩
theorem dX8_takesByMaking_135 : jj_D cX8_takesByMaking 135 (.iload_n 1) 1 136 := ⟨rfl, by decide +kernel⟩
theorem dX8_takesByMaking_136 : jj_D cX8_takesByMaking 136 (.ireturn) 1 137 := ⟨rfl, by decide +kernel⟩
theorem dX8_sideOfProgram_0 : jj_D cX8_sideOfProgram 0 (.new 22) 3 3 := ⟨rfl, by decide +kernel⟩
theorem dX8_sideOfProgram_3 : jj_D cX8_sideOfProgram 3 (.dup) 1 4 := ⟨rfl, by decide +kernel⟩
theorem dX8_sideOfProgram_4 : jj_D cX8_sideOfProgram 4 (.invokespecial 405) 3 7 := ⟨rfl, by decide +kernel⟩
theorem dX8_sideOfProgram_7 : jj_D cX8_sideOfProgram 7 (.astore_n 1) 1 8 := ⟨rfl, by decide +kernel⟩
theorem dX8_sideOfProgram_8 : jj_D cX8_sideOfProgram 8 (.aload_n 0) 1 9 := ⟨rfl, by decide +kernel⟩
theorem dX8_sideOfProgram_9 : jj_D cX8_sideOfProgram 9 (.getfield 18) 3 12 := ⟨rfl, by decide +kernel⟩
theorem dX8_sideOfProgram_12 : jj_D cX8_sideOfProgram 12 (.getfield 406) 3 15 := ⟨rfl, by decide +kernel⟩
theorem dX8_sideOfProgram_15 : jj_D cX8_sideOfProgram 15 (.astore_n 2) 1 16 := ⟨rfl, by decide +kernel⟩
theorem dX8_sideOfProgram_16 : jj_D cX8_sideOfProgram 16 (.aload_n 2) 1 17 := ⟨rfl, by decide +kernel⟩
theorem dX8_sideOfProgram_17 : jj_D cX8_sideOfProgram 17 (.arraylength) 1 18 := ⟨rfl, by decide +kernel⟩
theorem dX8_sideOfProgram_18 : jj_D cX8_sideOfProgram 18 (.istore_n 3) 1 19 := ⟨rfl, by decide +kernel⟩
theorem dX8_sideOfProgram_19 : jj_D cX8_sideOfProgram 19 (.iconst 0) 1 20 := ⟨rfl, by decide +kernel⟩
theorem dX8_sideOfProgram_20 : jj_D cX8_sideOfProgram 20 (.istore 4) 2 22 := ⟨rfl, by decide +kernel⟩
theorem dX8_sideOfProgram_22 : jj_D cX8_sideOfProgram 22 (.iload 4) 2 24 := ⟨rfl, by decide +kernel⟩
theorem dX8_sideOfProgram_24 : jj_D cX8_sideOfProgram 24 (.iload_n 3) 1 25 := ⟨rfl, by decide +kernel⟩
theorem dX8_sideOfProgram_25 : jj_D cX8_sideOfProgram 25 (.if_icmp .ge 71) 3 28 := ⟨rfl, by decide +kernel⟩
theorem dX8_sideOfProgram_28 : jj_D cX8_sideOfProgram 28 (.aload_n 2) 1 29 := ⟨rfl, by decide +kernel⟩
theorem dX8_sideOfProgram_29 : jj_D cX8_sideOfProgram 29 (.iload 4) 2 31 := ⟨rfl, by decide +kernel⟩
theorem dX8_sideOfProgram_31 : jj_D cX8_sideOfProgram 31 (.aaload) 1 32 := ⟨rfl, by decide +kernel⟩
theorem dX8_sideOfProgram_32 : jj_D cX8_sideOfProgram 32 (.astore 5) 2 34 := ⟨rfl, by decide +kernel⟩
theorem dX8_sideOfProgram_34 : jj_D cX8_sideOfProgram 34 (.aload 5) 2 36 := ⟨rfl, by decide +kernel⟩
theorem dX8_sideOfProgram_36 : jj_D cX8_sideOfProgram 36 (.ifnull 54) 3 39 := ⟨rfl, by decide +kernel⟩
theorem dX8_sideOfProgram_39 : jj_D cX8_sideOfProgram 39 (.iconst 0) 1 40 := ⟨rfl, by decide +kernel⟩
theorem dX8_sideOfProgram_40 : jj_D cX8_sideOfProgram 40 (.istore 6) 2 42 := ⟨rfl, by decide +kernel⟩
theorem dX8_sideOfProgram_42 : jj_D cX8_sideOfProgram 42 (.iload 6) 2 44 := ⟨rfl, by decide +kernel⟩
theorem dX8_sideOfProgram_44 : jj_D cX8_sideOfProgram 44 (.aload 5) 2 46 := ⟨rfl, by decide +kernel⟩
theorem dX8_sideOfProgram_46 : jj_D cX8_sideOfProgram 46 (.getfield 90) 3 49 := ⟨rfl, by decide +kernel⟩
theorem dX8_sideOfProgram_49 : jj_D cX8_sideOfProgram 49 (.if_icmp .ge 41) 3 52 := ⟨rfl, by decide +kernel⟩
theorem dX8_sideOfProgram_52 : jj_D cX8_sideOfProgram 52 (.aload 5) 2 54 := ⟨rfl, by decide +kernel⟩
theorem dX8_sideOfProgram_54 : jj_D cX8_sideOfProgram 54 (.getfield 409) 3 57 := ⟨rfl, by decide +kernel⟩
theorem dX8_sideOfProgram_57 : jj_D cX8_sideOfProgram 57 (.iload 6) 2 59 := ⟨rfl, by decide +kernel⟩
theorem dX8_sideOfProgram_59 : jj_D cX8_sideOfProgram 59 (.iaload) 1 60 := ⟨rfl, by decide +kernel⟩
theorem dX8_sideOfProgram_60 : jj_D cX8_sideOfProgram 60 (.istore 7) 2 62 := ⟨rfl, by decide +kernel⟩
theorem dX8_sideOfProgram_62 : jj_D cX8_sideOfProgram 62 (.aload_n 1) 1 63 := ⟨rfl, by decide +kernel⟩
theorem dX8_sideOfProgram_63 : jj_D cX8_sideOfProgram 63 (.iload 7) 2 65 := ⟨rfl, by decide +kernel⟩
theorem dX8_sideOfProgram_65 : jj_D cX8_sideOfProgram 65 (.aload_n 0) 1 66 := ⟨rfl, by decide +kernel⟩
theorem dX8_sideOfProgram_66 : jj_D cX8_sideOfProgram 66 (.iload 7) 2 68 := ⟨rfl, by decide +kernel⟩
theorem dX8_sideOfProgram_68 : jj_D cX8_sideOfProgram 68 (.invokevirtual 73) 3 71 := ⟨rfl, by decide +kernel⟩
theorem dX8_sideOfProgram_71 : jj_D cX8_sideOfProgram 71 (.getfield 412) 3 74 := ⟨rfl, by decide +kernel⟩
theorem dX8_sideOfProgram_74 : jj_D cX8_sideOfProgram 74 (.aload 5) 2 76 := ⟨rfl, by decide +kernel⟩
theorem dX8_sideOfProgram_76 : jj_D cX8_sideOfProgram 76 (.iload 6) 2 78 := ⟨rfl, by decide +kernel⟩
theorem dX8_sideOfProgram_78 : jj_D cX8_sideOfProgram 78 (.invokevirtual 415) 3 81 := ⟨rfl, by decide +kernel⟩
theorem dX8_sideOfProgram_81 : jj_D cX8_sideOfProgram 81 (.invokevirtual 418) 3 84 := ⟨rfl, by decide +kernel⟩
theorem dX8_sideOfProgram_84 : jj_D cX8_sideOfProgram 84 (.iinc 6 1) 3 87 := ⟨rfl, by decide +kernel⟩
theorem dX8_sideOfProgram_87 : jj_D cX8_sideOfProgram 87 (.goto (-45)) 3 90 := ⟨rfl, by decide +kernel⟩
theorem dX8_sideOfProgram_90 : jj_D cX8_sideOfProgram 90 (.iinc 4 1) 3 93 := ⟨rfl, by decide +kernel⟩
theorem dX8_sideOfProgram_93 : jj_D cX8_sideOfProgram 93 (.goto (-71)) 3 96 := ⟨rfl, by decide +kernel⟩
theorem dX8_sideOfProgram_96 : jj_D cX8_sideOfProgram 96 (.aload_n 1) 1 97 := ⟨rfl, by decide +kernel⟩
theorem dX8_sideOfProgram_97 : jj_D cX8_sideOfProgram 97 (.areturn) 1 98 := ⟨rfl, by decide +kernel⟩
theorem dX8_placeOf_0 : jj_D cX8_placeOf 0 (.iload_n 0) 1 1 := ⟨rfl, by decide +kernel⟩
theorem dX8_placeOf_1 : jj_D cX8_placeOf 1 (.ifCond .lt 17) 3 4 := ⟨rfl, by decide +kernel⟩
theorem dX8_placeOf_4 : jj_D cX8_placeOf 4 (.iload_n 0) 1 5 := ⟨rfl, by decide +kernel⟩
theorem dX8_placeOf_5 : jj_D cX8_placeOf 5 (.iconst 3) 1 6 := ⟨rfl, by decide +kernel⟩
theorem dX8_placeOf_6 : jj_D cX8_placeOf 6 (.if_icmp .ge 12) 3 9 := ⟨rfl, by decide +kernel⟩
theorem dX8_placeOf_9 : jj_D cX8_placeOf 9 (.iload_n 1) 1 10 := ⟨rfl, by decide +kernel⟩
theorem dX8_placeOf_10 : jj_D cX8_placeOf 10 (.ifCond .lt 8) 3 13 := ⟨rfl, by decide +kernel⟩
theorem dX8_placeOf_13 : jj_D cX8_placeOf 13 (.iload_n 1) 1 14 := ⟨rfl, by decide +kernel⟩
theorem dX8_placeOf_14 : jj_D cX8_placeOf 14 (.iconst 4) 1 15 := ⟨rfl, by decide +kernel⟩
theorem dX8_placeOf_15 : jj_D cX8_placeOf 15 (.if_icmp .lt 14) 3 18 := ⟨rfl, by decide +kernel⟩
theorem dX8_placeOf_18 : jj_D cX8_placeOf 18 (.new 143) 3 21 := ⟨rfl, by decide +kernel⟩
theorem dX8_placeOf_21 : jj_D cX8_placeOf 21 (.dup) 1 22 := ⟨rfl, by decide +kernel⟩
theorem dX8_placeOf_22 : jj_D cX8_placeOf 22 (.ldc_w 422) 3 25 := ⟨rfl, by decide +kernel⟩
theorem dX8_placeOf_25 : jj_D cX8_placeOf 25 (.invokespecial 147) 3 28 := ⟨rfl, by decide +kernel⟩
theorem dX8_placeOf_28 : jj_D cX8_placeOf 28 (.athrow) 1 29 := ⟨rfl, by decide +kernel⟩
theorem dX8_placeOf_29 : jj_D cX8_placeOf 29 (.iload_n 0) 1 30 := ⟨rfl, by decide +kernel⟩
theorem dX8_placeOf_30 : jj_D cX8_placeOf 30 (.iconst 4) 1 31 := ⟨rfl, by decide +kernel⟩
theorem dX8_placeOf_31 : jj_D cX8_placeOf 31 (.imul) 1 32 := ⟨rfl, by decide +kernel⟩
theorem dX8_placeOf_32 : jj_D cX8_placeOf 32 (.iload_n 1) 1 33 := ⟨rfl, by decide +kernel⟩
theorem dX8_placeOf_33 : jj_D cX8_placeOf 33 (.iadd) 1 34 := ⟨rfl, by decide +kernel⟩
theorem dX8_placeOf_34 : jj_D cX8_placeOf 34 (.ireturn) 1 35 := ⟨rfl, by decide +kernel⟩
theorem dX8_hasWhatItNeeds_0 : jj_D cX8_hasWhatItNeeds 0 (.iload_n 1) 1 1 := ⟨rfl, by decide +kernel⟩
theorem dX8_hasWhatItNeeds_1 : jj_D cX8_hasWhatItNeeds 1 (.ifCond .ne 5) 3 4 := ⟨rfl, by decide +kernel⟩
theorem dX8_hasWhatItNeeds_4 : jj_D cX8_hasWhatItNeeds 4 (.iconst 1) 1 5 := ⟨rfl, by decide +kernel⟩
theorem dX8_hasWhatItNeeds_5 : jj_D cX8_hasWhatItNeeds 5 (.ireturn) 1 6 := ⟨rfl, by decide +kernel⟩
theorem dX8_hasWhatItNeeds_6 : jj_D cX8_hasWhatItNeeds 6 (.iload_n 1) 1 7 := ⟨rfl, by decide +kernel⟩
theorem dX8_hasWhatItNeeds_7 : jj_D cX8_hasWhatItNeeds 7 (.iconst 4) 1 8 := ⟨rfl, by decide +kernel⟩
theorem dX8_hasWhatItNeeds_8 : jj_D cX8_hasWhatItNeeds 8 (.irem) 1 9 := ⟨rfl, by decide +kernel⟩
theorem dX8_hasWhatItNeeds_9 : jj_D cX8_hasWhatItNeeds 9 (.ifCond .ne 7) 3 12 := ⟨rfl, by decide +kernel⟩
theorem dX8_hasWhatItNeeds_12 : jj_D cX8_hasWhatItNeeds 12 (.iconst 1) 1 13 := ⟨rfl, by decide +kernel⟩
theorem dX8_hasWhatItNeeds_13 : jj_D cX8_hasWhatItNeeds 13 (.goto 4) 3 16 := ⟨rfl, by decide +kernel⟩
theorem dX8_hasWhatItNeeds_16 : jj_D cX8_hasWhatItNeeds 16 (.iconst 0) 1 17 := ⟨rfl, by decide +kernel⟩
theorem dX8_hasWhatItNeeds_17 : jj_D cX8_hasWhatItNeeds 17 (.istore_n 2) 1 18 := ⟨rfl, by decide +kernel⟩
theorem dX8_hasWhatItNeeds_18 : jj_D cX8_hasWhatItNeeds 18 (.iload_n 2) 1 19 := ⟨rfl, by decide +kernel⟩
theorem dX8_hasWhatItNeeds_19 : jj_D cX8_hasWhatItNeeds 19 (.ifCond .eq 9) 3 22 := ⟨rfl, by decide +kernel⟩
theorem dX8_hasWhatItNeeds_22 : jj_D cX8_hasWhatItNeeds 22 (.iload_n 1) 1 23 := ⟨rfl, by decide +kernel⟩
theorem dX8_hasWhatItNeeds_23 : jj_D cX8_hasWhatItNeeds 23 (.iconst 4) 1 24 := ⟨rfl, by decide +kernel⟩
theorem dX8_hasWhatItNeeds_24 : jj_D cX8_hasWhatItNeeds 24 (.isub) 1 25 := ⟨rfl, by decide +kernel⟩
theorem dX8_hasWhatItNeeds_25 : jj_D cX8_hasWhatItNeeds 25 (.goto 6) 3 28 := ⟨rfl, by decide +kernel⟩
theorem dX8_hasWhatItNeeds_28 : jj_D cX8_hasWhatItNeeds 28 (.iload_n 1) 1 29 := ⟨rfl, by decide +kernel⟩
theorem dX8_hasWhatItNeeds_29 : jj_D cX8_hasWhatItNeeds 29 (.iconst 1) 1 30 := ⟨rfl, by decide +kernel⟩
theorem dX8_hasWhatItNeeds_30 : jj_D cX8_hasWhatItNeeds 30 (.isub) 1 31 := ⟨rfl, by decide +kernel⟩
theorem dX8_hasWhatItNeeds_31 : jj_D cX8_hasWhatItNeeds 31 (.istore_n 3) 1 32 := ⟨rfl, by decide +kernel⟩
theorem dX8_hasWhatItNeeds_32 : jj_D cX8_hasWhatItNeeds 32 (.aload_n 0) 1 33 := ⟨rfl, by decide +kernel⟩
theorem dX8_hasWhatItNeeds_33 : jj_D cX8_hasWhatItNeeds 33 (.iload_n 3) 1 34 := ⟨rfl, by decide +kernel⟩
theorem dX8_hasWhatItNeeds_34 : jj_D cX8_hasWhatItNeeds 34 (.invokevirtual 200) 3 37 := ⟨rfl, by decide +kernel⟩
theorem dX8_hasWhatItNeeds_37 : jj_D cX8_hasWhatItNeeds 37 (.ifnull 7) 3 40 := ⟨rfl, by decide +kernel⟩
theorem dX8_hasWhatItNeeds_40 : jj_D cX8_hasWhatItNeeds 40 (.iconst 1) 1 41 := ⟨rfl, by decide +kernel⟩
theorem dX8_hasWhatItNeeds_41 : jj_D cX8_hasWhatItNeeds 41 (.goto 4) 3 44 := ⟨rfl, by decide +kernel⟩
theorem dX8_hasWhatItNeeds_44 : jj_D cX8_hasWhatItNeeds 44 (.iconst 0) 1 45 := ⟨rfl, by decide +kernel⟩
theorem dX8_hasWhatItNeeds_45 : jj_D cX8_hasWhatItNeeds 45 (.ireturn) 1 46 := ⟨rfl, by decide +kernel⟩
theorem dX8_requireJoinable_0 : jj_D cX8_requireJoinable 0 (.iconst 1) 1 1 := ⟨rfl, by decide +kernel⟩
theorem dX8_requireJoinable_1 : jj_D cX8_requireJoinable 1 (.aload_n 0) 1 2 := ⟨rfl, by decide +kernel⟩
theorem dX8_requireJoinable_2 : jj_D cX8_requireJoinable 2 (.getfield 286) 3 5 := ⟨rfl, by decide +kernel⟩
theorem dX8_requireJoinable_5 : jj_D cX8_requireJoinable 5 (.ishl) 1 6 := ⟨rfl, by decide +kernel⟩
theorem dX8_requireJoinable_6 : jj_D cX8_requireJoinable 6 (.iconst 1) 1 7 := ⟨rfl, by decide +kernel⟩
theorem dX8_requireJoinable_7 : jj_D cX8_requireJoinable 7 (.isub) 1 8 := ⟨rfl, by decide +kernel⟩
theorem dX8_requireJoinable_8 : jj_D cX8_requireJoinable 8 (.istore_n 2) 1 9 := ⟨rfl, by decide +kernel⟩
theorem dX8_requireJoinable_9 : jj_D cX8_requireJoinable 9 (.iload_n 1) 1 10 := ⟨rfl, by decide +kernel⟩
theorem dX8_requireJoinable_10 : jj_D cX8_requireJoinable 10 (.ifCond .eq 11) 3 13 := ⟨rfl, by decide +kernel⟩
theorem dX8_requireJoinable_13 : jj_D cX8_requireJoinable 13 (.iload_n 1) 1 14 := ⟨rfl, by decide +kernel⟩
theorem dX8_requireJoinable_14 : jj_D cX8_requireJoinable 14 (.iload_n 2) 1 15 := ⟨rfl, by decide +kernel⟩
theorem dX8_requireJoinable_15 : jj_D cX8_requireJoinable 15 (.iconst (-1)) 1 16 := ⟨rfl, by decide +kernel⟩
theorem dX8_requireJoinable_16 : jj_D cX8_requireJoinable 16 (.ixor) 1 17 := ⟨rfl, by decide +kernel⟩
theorem dX8_requireJoinable_17 : jj_D cX8_requireJoinable 17 (.iand) 1 18 := ⟨rfl, by decide +kernel⟩
theorem dX8_requireJoinable_18 : jj_D cX8_requireJoinable 18 (.ifCond .eq 14) 3 21 := ⟨rfl, by decide +kernel⟩
theorem dX8_requireJoinable_21 : jj_D cX8_requireJoinable 21 (.new 55) 3 24 := ⟨rfl, by decide +kernel⟩
theorem dX8_requireJoinable_24 : jj_D cX8_requireJoinable 24 (.dup) 1 25 := ⟨rfl, by decide +kernel⟩
theorem dX8_requireJoinable_25 : jj_D cX8_requireJoinable 25 (.ldc_w 424) 3 28 := ⟨rfl, by decide +kernel⟩
theorem dX8_requireJoinable_28 : jj_D cX8_requireJoinable 28 (.invokespecial 59) 3 31 := ⟨rfl, by decide +kernel⟩
theorem dX8_requireJoinable_31 : jj_D cX8_requireJoinable 31 (.athrow) 1 32 := ⟨rfl, by decide +kernel⟩
theorem dX8_requireJoinable_32 : jj_D cX8_requireJoinable 32 (.aconst_null) 1 33 := ⟨rfl, by decide +kernel⟩
theorem dX8_requireJoinable_33 : jj_D cX8_requireJoinable 33 (.astore_n 3) 1 34 := ⟨rfl, by decide +kernel⟩
theorem dX8_requireJoinable_34 : jj_D cX8_requireJoinable 34 (.iconst 0) 1 35 := ⟨rfl, by decide +kernel⟩
theorem dX8_requireJoinable_35 : jj_D cX8_requireJoinable 35 (.istore 4) 2 37 := ⟨rfl, by decide +kernel⟩
theorem dX8_requireJoinable_37 : jj_D cX8_requireJoinable 37 (.iload 4) 2 39 := ⟨rfl, by decide +kernel⟩
theorem dX8_requireJoinable_39 : jj_D cX8_requireJoinable 39 (.aload_n 0) 1 40 := ⟨rfl, by decide +kernel⟩
theorem dX8_requireJoinable_40 : jj_D cX8_requireJoinable 40 (.getfield 30) 3 43 := ⟨rfl, by decide +kernel⟩
theorem dX8_requireJoinable_43 : jj_D cX8_requireJoinable 43 (.arraylength) 1 44 := ⟨rfl, by decide +kernel⟩
theorem dX8_requireJoinable_44 : jj_D cX8_requireJoinable 44 (.if_icmp .ge 53) 3 47 := ⟨rfl, by decide +kernel⟩
theorem dX8_requireJoinable_47 : jj_D cX8_requireJoinable 47 (.iload_n 1) 1 48 := ⟨rfl, by decide +kernel⟩
theorem dX8_requireJoinable_48 : jj_D cX8_requireJoinable 48 (.iload 4) 2 50 := ⟨rfl, by decide +kernel⟩
theorem dX8_requireJoinable_50 : jj_D cX8_requireJoinable 50 (.invokestatic 148) 3 53 := ⟨rfl, by decide +kernel⟩
theorem dX8_requireJoinable_53 : jj_D cX8_requireJoinable 53 (.ifCond .eq 38) 3 56 := ⟨rfl, by decide +kernel⟩
theorem dX8_requireJoinable_56 : jj_D cX8_requireJoinable 56 (.aload_n 0) 1 57 := ⟨rfl, by decide +kernel⟩
theorem dX8_requireJoinable_57 : jj_D cX8_requireJoinable 57 (.iload 4) 2 59 := ⟨rfl, by decide +kernel⟩
theorem dX8_requireJoinable_59 : jj_D cX8_requireJoinable 59 (.invokevirtual 297) 3 62 := ⟨rfl, by decide +kernel⟩
theorem dX8_requireJoinable_62 : jj_D cX8_requireJoinable 62 (.getfield 426) 3 65 := ⟨rfl, by decide +kernel⟩
theorem dX8_requireJoinable_65 : jj_D cX8_requireJoinable 65 (.astore 5) 2 67 := ⟨rfl, by decide +kernel⟩
theorem dX8_requireJoinable_67 : jj_D cX8_requireJoinable 67 (.aload_n 3) 1 68 := ⟨rfl, by decide +kernel⟩
theorem dX8_requireJoinable_68 : jj_D cX8_requireJoinable 68 (.ifnull 20) 3 71 := ⟨rfl, by decide +kernel⟩
theorem dX8_requireJoinable_71 : jj_D cX8_requireJoinable 71 (.aload_n 3) 1 72 := ⟨rfl, by decide +kernel⟩
theorem dX8_requireJoinable_72 : jj_D cX8_requireJoinable 72 (.aload 5) 2 74 := ⟨rfl, by decide +kernel⟩
theorem dX8_requireJoinable_74 : jj_D cX8_requireJoinable 74 (.if_acmp .eq 14) 3 77 := ⟨rfl, by decide +kernel⟩
theorem dX8_requireJoinable_77 : jj_D cX8_requireJoinable 77 (.new 93) 3 80 := ⟨rfl, by decide +kernel⟩
theorem dX8_requireJoinable_80 : jj_D cX8_requireJoinable 80 (.dup) 1 81 := ⟨rfl, by decide +kernel⟩
theorem dX8_requireJoinable_81 : jj_D cX8_requireJoinable 81 (.ldc_w 430) 3 84 := ⟨rfl, by decide +kernel⟩
theorem dX8_requireJoinable_84 : jj_D cX8_requireJoinable 84 (.invokespecial 97) 3 87 := ⟨rfl, by decide +kernel⟩
theorem dX8_requireJoinable_87 : jj_D cX8_requireJoinable 87 (.athrow) 1 88 := ⟨rfl, by decide +kernel⟩
theorem dX8_requireJoinable_88 : jj_D cX8_requireJoinable 88 (.aload 5) 2 90 := ⟨rfl, by decide +kernel⟩
theorem dX8_requireJoinable_90 : jj_D cX8_requireJoinable 90 (.astore_n 3) 1 91 := ⟨rfl, by decide +kernel⟩
theorem dX8_requireJoinable_91 : jj_D cX8_requireJoinable 91 (.iinc 4 1) 3 94 := ⟨rfl, by decide +kernel⟩
theorem dX8_requireJoinable_94 : jj_D cX8_requireJoinable 94 (.goto (-57)) 3 97 := ⟨rfl, by decide +kernel⟩
theorem dX8_requireJoinable_97 : jj_D cX8_requireJoinable 97 (.return_) 1 98 := ⟨rfl, by decide +kernel⟩
theorem dX8_leastNoisy_0 : jj_D cX8_leastNoisy 0 (.iconst (-1)) 1 1 := ⟨rfl, by decide +kernel⟩
theorem dX8_leastNoisy_1 : jj_D cX8_leastNoisy 1 (.istore_n 3) 1 2 := ⟨rfl, by decide +kernel⟩
theorem dX8_leastNoisy_2 : jj_D cX8_leastNoisy 2 (.iconst 0) 1 3 := ⟨rfl, by decide +kernel⟩
theorem dX8_leastNoisy_3 : jj_D cX8_leastNoisy 3 (.istore 4) 2 5 := ⟨rfl, by decide +kernel⟩
theorem dX8_leastNoisy_5 : jj_D cX8_leastNoisy 5 (.iconst 0) 1 6 := ⟨rfl, by decide +kernel⟩
theorem dX8_leastNoisy_6 : jj_D cX8_leastNoisy 6 (.istore 5) 2 8 := ⟨rfl, by decide +kernel⟩
theorem dX8_leastNoisy_8 : jj_D cX8_leastNoisy 8 (.iload 5) 2 10 := ⟨rfl, by decide +kernel⟩
theorem dX8_leastNoisy_10 : jj_D cX8_leastNoisy 10 (.aload_n 0) 1 11 := ⟨rfl, by decide +kernel⟩
theorem dX8_leastNoisy_11 : jj_D cX8_leastNoisy 11 (.getfield 30) 3 14 := ⟨rfl, by decide +kernel⟩
theorem dX8_leastNoisy_14 : jj_D cX8_leastNoisy 14 (.arraylength) 1 15 := ⟨rfl, by decide +kernel⟩
theorem dX8_leastNoisy_15 : jj_D cX8_leastNoisy 15 (.if_icmp .ge 49) 3 18 := ⟨rfl, by decide +kernel⟩
theorem dX8_leastNoisy_18 : jj_D cX8_leastNoisy 18 (.iload_n 1) 1 19 := ⟨rfl, by decide +kernel⟩
theorem dX8_leastNoisy_19 : jj_D cX8_leastNoisy 19 (.iload 5) 2 21 := ⟨rfl, by decide +kernel⟩
theorem dX8_leastNoisy_21 : jj_D cX8_leastNoisy 21 (.invokestatic 148) 3 24 := ⟨rfl, by decide +kernel⟩
theorem dX8_leastNoisy_24 : jj_D cX8_leastNoisy 24 (.ifCond .eq 34) 3 27 := ⟨rfl, by decide +kernel⟩
theorem dX8_leastNoisy_27 : jj_D cX8_leastNoisy 27 (.aload_n 0) 1 28 := ⟨rfl, by decide +kernel⟩
theorem dX8_leastNoisy_28 : jj_D cX8_leastNoisy 28 (.iload 5) 2 30 := ⟨rfl, by decide +kernel⟩
theorem dX8_leastNoisy_30 : jj_D cX8_leastNoisy 30 (.invokevirtual 297) 3 33 := ⟨rfl, by decide +kernel⟩
theorem dX8_leastNoisy_33 : jj_D cX8_leastNoisy 33 (.iload_n 2) 1 34 := ⟨rfl, by decide +kernel⟩
theorem dX8_leastNoisy_34 : jj_D cX8_leastNoisy 34 (.invokevirtual 312) 3 37 := ⟨rfl, by decide +kernel⟩
theorem dX8_leastNoisy_37 : jj_D cX8_leastNoisy 37 (.istore 6) 2 39 := ⟨rfl, by decide +kernel⟩
theorem dX8_leastNoisy_39 : jj_D cX8_leastNoisy 39 (.iload_n 3) 1 40 := ⟨rfl, by decide +kernel⟩
theorem dX8_leastNoisy_40 : jj_D cX8_leastNoisy 40 (.iconst (-1)) 1 41 := ⟨rfl, by decide +kernel⟩
theorem dX8_leastNoisy_41 : jj_D cX8_leastNoisy 41 (.if_icmp .eq 10) 3 44 := ⟨rfl, by decide +kernel⟩
theorem dX8_leastNoisy_44 : jj_D cX8_leastNoisy 44 (.iload 6) 2 46 := ⟨rfl, by decide +kernel⟩
theorem dX8_leastNoisy_46 : jj_D cX8_leastNoisy 46 (.iload 4) 2 48 := ⟨rfl, by decide +kernel⟩
theorem dX8_leastNoisy_48 : jj_D cX8_leastNoisy 48 (.if_icmp .ge 10) 3 51 := ⟨rfl, by decide +kernel⟩
theorem dX8_leastNoisy_51 : jj_D cX8_leastNoisy 51 (.iload 5) 2 53 := ⟨rfl, by decide +kernel⟩
theorem dX8_leastNoisy_53 : jj_D cX8_leastNoisy 53 (.istore_n 3) 1 54 := ⟨rfl, by decide +kernel⟩
theorem dX8_leastNoisy_54 : jj_D cX8_leastNoisy 54 (.iload 6) 2 56 := ⟨rfl, by decide +kernel⟩
theorem dX8_leastNoisy_56 : jj_D cX8_leastNoisy 56 (.istore 4) 2 58 := ⟨rfl, by decide +kernel⟩
theorem dX8_leastNoisy_58 : jj_D cX8_leastNoisy 58 (.iinc 5 1) 3 61 := ⟨rfl, by decide +kernel⟩
theorem dX8_leastNoisy_61 : jj_D cX8_leastNoisy 61 (.goto (-53)) 3 64 := ⟨rfl, by decide +kernel⟩
theorem dX8_leastNoisy_64 : jj_D cX8_leastNoisy 64 (.iload_n 3) 1 65 := ⟨rfl, by decide +kernel⟩
theorem dX8_leastNoisy_65 : jj_D cX8_leastNoisy 65 (.ireturn) 1 66 := ⟨rfl, by decide +kernel⟩
end
section
theorem dX9_init_0 : jj_D cX9_init 0 (.aload_n 0) 1 1 := ⟨rfl, by decide +kernel⟩
theorem dX9_init_1 : jj_D cX9_init 1 (.invokespecial 1) 3 4 := ⟨rfl, by decide +kernel⟩
theorem dX9_init_4 : jj_D cX9_init 4 (.aload_n 0) 1 5 := ⟨rfl, by decide +kernel⟩
theorem dX9_init_5 : jj_D cX9_init 5 (.bipush 30) 2 7 := ⟨rfl, by decide +kernel⟩
theorem dX9_init_7 : jj_D cX9_init 7 (.newarray .int) 2 9 := ⟨rfl, by decide +kernel⟩
theorem dX9_init_9 : jj_D cX9_init 9 (.putfield 7) 3 12 := ⟨rfl, by decide +kernel⟩
theorem dX9_init_12 : jj_D cX9_init 12 (.aload_n 0) 1 13 := ⟨rfl, by decide +kernel⟩
theorem dX9_init_13 : jj_D cX9_init 13 (.bipush 30) 2 15 := ⟨rfl, by decide +kernel⟩
theorem dX9_init_15 : jj_D cX9_init 15 (.newarray .int) 2 17 := ⟨rfl, by decide +kernel⟩
theorem dX9_init_17 : jj_D cX9_init 17 (.putfield 13) 3 20 := ⟨rfl, by decide +kernel⟩
theorem dX9_init_20 : jj_D cX9_init 20 (.aload_n 0) 1 21 := ⟨rfl, by decide +kernel⟩
theorem dX9_init_21 : jj_D cX9_init 21 (.bipush 30) 2 23 := ⟨rfl, by decide +kernel⟩
theorem dX9_init_23 : jj_D cX9_init 23 (.newarray .int) 2 25 := ⟨rfl, by decide +kernel⟩
theorem dX9_init_25 : jj_D cX9_init 25 (.putfield 16) 3 28 := ⟨rfl, by decide +kernel⟩
theorem dX9_init_28 : jj_D cX9_init 28 (.aload_n 0) 1 29 := ⟨rfl, by decide +kernel⟩
theorem dX9_init_29 : jj_D cX9_init 29 (.bipush 30) 2 31 := ⟨rfl, by decide +kernel⟩
theorem dX9_init_31 : jj_D cX9_init 31 (.newarray .int) 2 33 := ⟨rfl, by decide +kernel⟩
theorem dX9_init_33 : jj_D cX9_init 33 (.putfield 19) 3 36 := ⟨rfl, by decide +kernel⟩
theorem dX9_init_36 : jj_D cX9_init 36 (.aload_n 0) 1 37 := ⟨rfl, by decide +kernel⟩
theorem dX9_init_37 : jj_D cX9_init 37 (.bipush 30) 2 39 := ⟨rfl, by decide +kernel⟩
theorem dX9_init_39 : jj_D cX9_init 39 (.newarray .int) 2 41 := ⟨rfl, by decide +kernel⟩
theorem dX9_init_41 : jj_D cX9_init 41 (.putfield 22) 3 44 := ⟨rfl, by decide +kernel⟩
theorem dX9_init_44 : jj_D cX9_init 44 (.aload_n 0) 1 45 := ⟨rfl, by decide +kernel⟩
theorem dX9_init_45 : jj_D cX9_init 45 (.bipush 30) 2 47 := ⟨rfl, by decide +kernel⟩
theorem dX9_init_47 : jj_D cX9_init 47 (.newarray .int) 2 49 := ⟨rfl, by decide +kernel⟩
theorem dX9_init_49 : jj_D cX9_init 49 (.putfield 25) 3 52 := ⟨rfl, by decide +kernel⟩
theorem dX9_init_52 : jj_D cX9_init 52 (.aload_n 0) 1 53 := ⟨rfl, by decide +kernel⟩
theorem dX9_init_53 : jj_D cX9_init 53 (.sipush 600) 3 56 := ⟨rfl, by decide +kernel⟩
theorem dX9_init_56 : jj_D cX9_init 56 (.newarray .int) 2 58 := ⟨rfl, by decide +kernel⟩
theorem dX9_init_58 : jj_D cX9_init 58 (.putfield 28) 3 61 := ⟨rfl, by decide +kernel⟩
theorem dX9_init_61 : jj_D cX9_init 61 (.aload_n 0) 1 62 := ⟨rfl, by decide +kernel⟩
theorem dX9_init_62 : jj_D cX9_init 62 (.sipush 600) 3 65 := ⟨rfl, by decide +kernel⟩
theorem dX9_init_65 : jj_D cX9_init 65 (.newarray .int) 2 67 := ⟨rfl, by decide +kernel⟩
theorem dX9_init_67 : jj_D cX9_init 67 (.putfield 31) 3 70 := ⟨rfl, by decide +kernel⟩
theorem dX9_init_70 : jj_D cX9_init 70 (.aload_n 0) 1 71 := ⟨rfl, by decide +kernel⟩
theorem dX9_init_71 : jj_D cX9_init 71 (.sipush 600) 3 74 := ⟨rfl, by decide +kernel⟩
theorem dX9_init_74 : jj_D cX9_init 74 (.newarray .int) 2 76 := ⟨rfl, by decide +kernel⟩
theorem dX9_init_76 : jj_D cX9_init 76 (.putfield 34) 3 79 := ⟨rfl, by decide +kernel⟩
theorem dX9_init_79 : jj_D cX9_init 79 (.aload_n 0) 1 80 := ⟨rfl, by decide +kernel⟩
theorem dX9_init_80 : jj_D cX9_init 80 (.bipush 6) 2 82 := ⟨rfl, by decide +kernel⟩
theorem dX9_init_82 : jj_D cX9_init 82 (.newarray .int) 2 84 := ⟨rfl, by decide +kernel⟩
theorem dX9_init_84 : jj_D cX9_init 84 (.putfield 37) 3 87 := ⟨rfl, by decide +kernel⟩
theorem dX9_init_87 : jj_D cX9_init 87 (.aload_n 0) 1 88 := ⟨rfl, by decide +kernel⟩
theorem dX9_init_88 : jj_D cX9_init 88 (.bipush 60) 2 90 := ⟨rfl, by decide +kernel⟩
theorem dX9_init_90 : jj_D cX9_init 90 (.newarray .int) 2 92 := ⟨rfl, by decide +kernel⟩
theorem dX9_init_92 : jj_D cX9_init 92 (.putfield 40) 3 95 := ⟨rfl, by decide +kernel⟩
theorem dX9_init_95 : jj_D cX9_init 95 (.aload_n 0) 1 96 := ⟨rfl, by decide +kernel⟩
theorem dX9_init_96 : jj_D cX9_init 96 (.bipush 10) 2 98 := ⟨rfl, by decide +kernel⟩
theorem dX9_init_98 : jj_D cX9_init 98 (.newarray .int) 2 100 := ⟨rfl, by decide +kernel⟩
theorem dX9_init_100 : jj_D cX9_init 100 (.putfield 43) 3 103 := ⟨rfl, by decide +kernel⟩
theorem dX9_init_103 : jj_D cX9_init 103 (.aload_n 0) 1 104 := ⟨rfl, by decide +kernel⟩
theorem dX9_init_104 : jj_D cX9_init 104 (.bipush 120) 2 106 := ⟨rfl, by decide +kernel⟩
theorem dX9_init_106 : jj_D cX9_init 106 (.newarray .int) 2 108 := ⟨rfl, by decide +kernel⟩
theorem dX9_init_108 : jj_D cX9_init 108 (.putfield 46) 3 111 := ⟨rfl, by decide +kernel⟩
theorem dX9_init_111 : jj_D cX9_init 111 (.aload_n 0) 1 112 := ⟨rfl, by decide +kernel⟩
theorem dX9_init_112 : jj_D cX9_init 112 (.bipush 120) 2 114 := ⟨rfl, by decide +kernel⟩
theorem dX9_init_114 : jj_D cX9_init 114 (.newarray .int) 2 116 := ⟨rfl, by decide +kernel⟩
theorem dX9_init_116 : jj_D cX9_init 116 (.putfield 49) 3 119 := ⟨rfl, by decide +kernel⟩
theorem dX9_init_119 : jj_D cX9_init 119 (.aload_n 0) 1 120 := ⟨rfl, by decide +kernel⟩
theorem dX9_init_120 : jj_D cX9_init 120 (.bipush 120) 2 122 := ⟨rfl, by decide +kernel⟩
theorem dX9_init_122 : jj_D cX9_init 122 (.newarray .int) 2 124 := ⟨rfl, by decide +kernel⟩
theorem dX9_init_124 : jj_D cX9_init 124 (.putfield 52) 3 127 := ⟨rfl, by decide +kernel⟩
theorem dX9_init_127 : jj_D cX9_init 127 (.aload_n 0) 1 128 := ⟨rfl, by decide +kernel⟩
theorem dX9_init_128 : jj_D cX9_init 128 (.bipush 120) 2 130 := ⟨rfl, by decide +kernel⟩
theorem dX9_init_130 : jj_D cX9_init 130 (.newarray .int) 2 132 := ⟨rfl, by decide +kernel⟩
theorem dX9_init_132 : jj_D cX9_init 132 (.putfield 55) 3 135 := ⟨rfl, by decide +kernel⟩
theorem dX9_init_135 : jj_D cX9_init 135 (.aload_n 0) 1 136 := ⟨rfl, by decide +kernel⟩
theorem dX9_init_136 : jj_D cX9_init 136 (.bipush 120) 2 138 := ⟨rfl, by decide +kernel⟩
theorem dX9_init_138 : jj_D cX9_init 138 (.newarray .int) 2 140 := ⟨rfl, by decide +kernel⟩
theorem dX9_init_140 : jj_D cX9_init 140 (.putfield 58) 3 143 := ⟨rfl, by decide +kernel⟩
theorem dX9_init_143 : jj_D cX9_init 143 (.aload_n 0) 1 144 := ⟨rfl, by decide +kernel⟩
theorem dX9_init_144 : jj_D cX9_init 144 (.bipush 120) 2 146 := ⟨rfl, by decide +kernel⟩
theorem dX9_init_146 : jj_D cX9_init 146 (.newarray .int) 2 148 := ⟨rfl, by decide +kernel⟩
theorem dX9_init_148 : jj_D cX9_init 148 (.putfield 61) 3 151 := ⟨rfl, by decide +kernel⟩
theorem dX9_init_151 : jj_D cX9_init 151 (.aload_n 0) 1 152 := ⟨rfl, by decide +kernel⟩
theorem dX9_init_152 : jj_D cX9_init 152 (.bipush 20) 2 154 := ⟨rfl, by decide +kernel⟩
theorem dX9_init_154 : jj_D cX9_init 154 (.newarray .int) 2 156 := ⟨rfl, by decide +kernel⟩
theorem dX9_init_156 : jj_D cX9_init 156 (.putfield 64) 3 159 := ⟨rfl, by decide +kernel⟩
theorem dX9_init_159 : jj_D cX9_init 159 (.aload_n 0) 1 160 := ⟨rfl, by decide +kernel⟩
theorem dX9_init_160 : jj_D cX9_init 160 (.bipush 20) 2 162 := ⟨rfl, by decide +kernel⟩
theorem dX9_init_162 : jj_D cX9_init 162 (.newarray .int) 2 164 := ⟨rfl, by decide +kernel⟩
theorem dX9_init_164 : jj_D cX9_init 164 (.putfield 67) 3 167 := ⟨rfl, by decide +kernel⟩
theorem dX9_init_167 : jj_D cX9_init 167 (.aload_n 0) 1 168 := ⟨rfl, by decide +kernel⟩
theorem dX9_init_168 : jj_D cX9_init 168 (.sipush 160) 3 171 := ⟨rfl, by decide +kernel⟩
theorem dX9_init_171 : jj_D cX9_init 171 (.newarray .int) 2 173 := ⟨rfl, by decide +kernel⟩
theorem dX9_init_173 : jj_D cX9_init 173 (.putfield 70) 3 176 := ⟨rfl, by decide +kernel⟩
theorem dX9_init_176 : jj_D cX9_init 176 (.aload_n 0) 1 177 := ⟨rfl, by decide +kernel⟩
theorem dX9_init_177 : jj_D cX9_init 177 (.bipush 8) 2 179 := ⟨rfl, by decide +kernel⟩
theorem dX9_init_179 : jj_D cX9_init 179 (.newarray .int) 2 181 := ⟨rfl, by decide +kernel⟩
theorem dX9_init_181 : jj_D cX9_init 181 (.putfield 73) 3 184 := ⟨rfl, by decide +kernel⟩
theorem dX9_init_184 : jj_D cX9_init 184 (.aload_n 0) 1 185 := ⟨rfl, by decide +kernel⟩
theorem dX9_init_185 : jj_D cX9_init 185 (.bipush 20) 2 187 := ⟨rfl, by decide +kernel⟩
theorem dX9_init_187 : jj_D cX9_init 187 (.newarray .int) 2 189 := ⟨rfl, by decide +kernel⟩
theorem dX9_init_189 : jj_D cX9_init 189 (.putfield 76) 3 192 := ⟨rfl, by decide +kernel⟩
theorem dX9_init_192 : jj_D cX9_init 192 (.aload_n 0) 1 193 := ⟨rfl, by decide +kernel⟩
theorem dX9_init_193 : jj_D cX9_init 193 (.bipush 20) 2 195 := ⟨rfl, by decide +kernel⟩
theorem dX9_init_195 : jj_D cX9_init 195 (.newarray .int) 2 197 := ⟨rfl, by decide +kernel⟩
theorem dX9_init_197 : jj_D cX9_init 197 (.putfield 79) 3 200 := ⟨rfl, by decide +kernel⟩
theorem dX9_init_200 : jj_D cX9_init 200 (.aload_n 0) 1 201 := ⟨rfl, by decide +kernel⟩
theorem dX9_init_201 : jj_D cX9_init 201 (.bipush 100) 2 203 := ⟨rfl, by decide +kernel⟩
theorem dX9_init_203 : jj_D cX9_init 203 (.newarray .int) 2 205 := ⟨rfl, by decide +kernel⟩
theorem dX9_init_205 : jj_D cX9_init 205 (.putfield 82) 3 208 := ⟨rfl, by decide +kernel⟩
theorem dX9_init_208 : jj_D cX9_init 208 (.aload_n 0) 1 209 := ⟨rfl, by decide +kernel⟩
theorem dX9_init_209 : jj_D cX9_init 209 (.bipush 100) 2 211 := ⟨rfl, by decide +kernel⟩
theorem dX9_init_211 : jj_D cX9_init 211 (.newarray .int) 2 213 := ⟨rfl, by decide +kernel⟩
theorem dX9_init_213 : jj_D cX9_init 213 (.putfield 85) 3 216 := ⟨rfl, by decide +kernel⟩
theorem dX9_init_216 : jj_D cX9_init 216 (.aload_n 0) 1 217 := ⟨rfl, by decide +kernel⟩
theorem dX9_init_217 : jj_D cX9_init 217 (.sipush 600) 3 220 := ⟨rfl, by decide +kernel⟩
theorem dX9_init_220 : jj_D cX9_init 220 (.newarray .int) 2 222 := ⟨rfl, by decide +kernel⟩
theorem dX9_init_222 : jj_D cX9_init 222 (.putfield 88) 3 225 := ⟨rfl, by decide +kernel⟩
theorem dX9_init_225 : jj_D cX9_init 225 (.aload_n 0) 1 226 := ⟨rfl, by decide +kernel⟩
theorem dX9_init_226 : jj_D cX9_init 226 (.bipush 6) 2 228 := ⟨rfl, by decide +kernel⟩
theorem dX9_init_228 : jj_D cX9_init 228 (.newarray .int) 2 230 := ⟨rfl, by decide +kernel⟩
theorem dX9_init_230 : jj_D cX9_init 230 (.putfield 91) 3 233 := ⟨rfl, by decide +kernel⟩
theorem dX9_init_233 : jj_D cX9_init 233 (.aload_n 0) 1 234 := ⟨rfl, by decide +kernel⟩
theorem dX9_init_234 : jj_D cX9_init 234 (.bipush 6) 2 236 := ⟨rfl, by decide +kernel⟩
theorem dX9_init_236 : jj_D cX9_init 236 (.newarray .int) 2 238 := ⟨rfl, by decide +kernel⟩
theorem dX9_init_238 : jj_D cX9_init 238 (.putfield 94) 3 241 := ⟨rfl, by decide +kernel⟩
theorem dX9_init_241 : jj_D cX9_init 241 (.iconst 0) 1 242 := ⟨rfl, by decide +kernel⟩
theorem dX9_init_242 : jj_D cX9_init 242 (.istore_n 1) 1 243 := ⟨rfl, by decide +kernel⟩
theorem dX9_init_243 : jj_D cX9_init 243 (.iload_n 1) 1 244 := ⟨rfl, by decide +kernel⟩
theorem dX9_init_244 : jj_D cX9_init 244 (.bipush 120) 2 246 := ⟨rfl, by decide +kernel⟩
theorem dX9_init_246 : jj_D cX9_init 246 (.if_icmp .ge 30) 3 249 := ⟨rfl, by decide +kernel⟩
theorem dX9_init_249 : jj_D cX9_init 249 (.aload_n 0) 1 250 := ⟨rfl, by decide +kernel⟩
theorem dX9_init_250 : jj_D cX9_init 250 (.getfield 46) 3 253 := ⟨rfl, by decide +kernel⟩
theorem dX9_init_253 : jj_D cX9_init 253 (.iload_n 1) 1 254 := ⟨rfl, by decide +kernel⟩
theorem dX9_init_254 : jj_D cX9_init 254 (.iconst (-1)) 1 255 := ⟨rfl, by decide +kernel⟩
theorem dX9_init_255 : jj_D cX9_init 255 (.iastore) 1 256 := ⟨rfl, by decide +kernel⟩
theorem dX9_init_256 : jj_D cX9_init 256 (.aload_n 0) 1 257 := ⟨rfl, by decide +kernel⟩
theorem dX9_init_257 : jj_D cX9_init 257 (.getfield 58) 3 260 := ⟨rfl, by decide +kernel⟩
theorem dX9_init_260 : jj_D cX9_init 260 (.iload_n 1) 1 261 := ⟨rfl, by decide +kernel⟩
theorem dX9_init_261 : jj_D cX9_init 261 (.iconst (-1)) 1 262 := ⟨rfl, by decide +kernel⟩
theorem dX9_init_262 : jj_D cX9_init 262 (.iastore) 1 263 := ⟨rfl, by decide +kernel⟩
theorem dX9_init_263 : jj_D cX9_init 263 (.aload_n 0) 1 264 := ⟨rfl, by decide +kernel⟩
theorem dX9_init_264 : jj_D cX9_init 264 (.getfield 61) 3 267 := ⟨rfl, by decide +kernel⟩
theorem dX9_init_267 : jj_D cX9_init 267 (.iload_n 1) 1 268 := ⟨rfl, by decide +kernel⟩
theorem dX9_init_268 : jj_D cX9_init 268 (.iconst (-1)) 1 269 := ⟨rfl, by decide +kernel⟩
theorem dX9_init_269 : jj_D cX9_init 269 (.iastore) 1 270 := ⟨rfl, by decide +kernel⟩
theorem dX9_init_270 : jj_D cX9_init 270 (.iinc 1 1) 3 273 := ⟨rfl, by decide +kernel⟩
theorem dX9_init_273 : jj_D cX9_init 273 (.goto (-30)) 3 276 := ⟨rfl, by decide +kernel⟩
theorem dX9_init_276 : jj_D cX9_init 276 (.return_) 1 277 := ⟨rfl, by decide +kernel⟩
theorem dX9_thrown_0 : jj_D cX9_thrown 0 (.aload_n 0) 1 1 := ⟨rfl, by decide +kernel⟩
theorem dX9_thrown_1 : jj_D cX9_thrown 1 (.getfield 97) 3 4 := ⟨rfl, by decide +kernel⟩
theorem dX9_thrown_4 : jj_D cX9_thrown 4 (.ireturn) 1 5 := ⟨rfl, by decide +kernel⟩
theorem dX9_goes_0 : jj_D cX9_goes 0 (.aload_n 0) 1 1 := ⟨rfl, by decide +kernel⟩
theorem dX9_goes_1 : jj_D cX9_goes 1 (.iload_n 1) 1 2 := ⟨rfl, by decide +kernel⟩
theorem dX9_goes_2 : jj_D cX9_goes 2 (.putfield 97) 3 5 := ⟨rfl, by decide +kernel⟩
theorem dX9_goes_5 : jj_D cX9_goes 5 (.iload_n 1) 1 6 := ⟨rfl, by decide +kernel⟩
theorem dX9_goes_6 : jj_D cX9_goes 6 (.ifCond .ne 7) 3 9 := ⟨rfl, by decide +kernel⟩
theorem dX9_goes_9 : jj_D cX9_goes 9 (.iconst 1) 1 10 := ⟨rfl, by decide +kernel⟩
theorem dX9_goes_10 : jj_D cX9_goes 10 (.goto 4) 3 13 := ⟨rfl, by decide +kernel⟩
theorem dX9_goes_13 : jj_D cX9_goes 13 (.iconst 0) 1 14 := ⟨rfl, by decide +kernel⟩
theorem dX9_goes_14 : jj_D cX9_goes 14 (.ireturn) 1 15 := ⟨rfl, by decide +kernel⟩
theorem dX9_isIn_0 : jj_D cX9_isIn 0 (.iload_n 0) 1 1 := ⟨rfl, by decide +kernel⟩
theorem dX9_isIn_1 : jj_D cX9_isIn 1 (.iload_n 1) 1 2 := ⟨rfl, by decide +kernel⟩
theorem dX9_isIn_2 : jj_D cX9_isIn 2 (.if_icmp .lt 12) 3 5 := ⟨rfl, by decide +kernel⟩
theorem dX9_isIn_5 : jj_D cX9_isIn 5 (.iload_n 0) 1 6 := ⟨rfl, by decide +kernel⟩
theorem dX9_isIn_6 : jj_D cX9_isIn 6 (.iload_n 2) 1 7 := ⟨rfl, by decide +kernel⟩
theorem dX9_isIn_7 : jj_D cX9_isIn 7 (.if_icmp .gt 7) 3 10 := ⟨rfl, by decide +kernel⟩
theorem dX9_isIn_10 : jj_D cX9_isIn 10 (.iconst 1) 1 11 := ⟨rfl, by decide +kernel⟩
theorem dX9_isIn_11 : jj_D cX9_isIn 11 (.goto 4) 3 14 := ⟨rfl, by decide +kernel⟩
theorem dX9_isIn_14 : jj_D cX9_isIn 14 (.iconst 0) 1 15 := ⟨rfl, by decide +kernel⟩
theorem dX9_isIn_15 : jj_D cX9_isIn 15 (.ireturn) 1 16 := ⟨rfl, by decide +kernel⟩
theorem dX9_isTape_0 : jj_D cX9_isTape 0 (.iload_n 1) 1 1 := ⟨rfl, by decide +kernel⟩
theorem dX9_isTape_1 : jj_D cX9_isTape 1 (.iconst 0) 1 2 := ⟨rfl, by decide +kernel⟩
theorem dX9_isTape_2 : jj_D cX9_isTape 2 (.aload_n 0) 1 3 := ⟨rfl, by decide +kernel⟩
theorem dX9_isTape_3 : jj_D cX9_isTape 3 (.getfield 101) 3 6 := ⟨rfl, by decide +kernel⟩
theorem dX9_isTape_6 : jj_D cX9_isTape 6 (.iconst 1) 1 7 := ⟨rfl, by decide +kernel⟩
theorem dX9_isTape_7 : jj_D cX9_isTape 7 (.isub) 1 8 := ⟨rfl, by decide +kernel⟩
theorem dX9_isTape_8 : jj_D cX9_isTape 8 (.invokestatic 104) 3 11 := ⟨rfl, by decide +kernel⟩
theorem dX9_isTape_11 : jj_D cX9_isTape 11 (.ireturn) 1 12 := ⟨rfl, by decide +kernel⟩
theorem dX9_isArtist_0 : jj_D cX9_isArtist 0 (.iload_n 0) 1 1 := ⟨rfl, by decide +kernel⟩
theorem dX9_isArtist_1 : jj_D cX9_isArtist 1 (.iconst 0) 1 2 := ⟨rfl, by decide +kernel⟩
theorem dX9_isArtist_2 : jj_D cX9_isArtist 2 (.iconst 5) 1 3 := ⟨rfl, by decide +kernel⟩
theorem dX9_isArtist_3 : jj_D cX9_isArtist 3 (.invokestatic 104) 3 6 := ⟨rfl, by decide +kernel⟩
theorem dX9_isArtist_6 : jj_D cX9_isArtist 6 (.ireturn) 1 7 := ⟨rfl, by decide +kernel⟩
theorem dX9_isVault_0 : jj_D cX9_isVault 0 (.iload_n 0) 1 1 := ⟨rfl, by decide +kernel⟩
theorem dX9_isVault_1 : jj_D cX9_isVault 1 (.iconst 0) 1 2 := ⟨rfl, by decide +kernel⟩
theorem dX9_isVault_2 : jj_D cX9_isVault 2 (.iconst 3) 1 3 := ⟨rfl, by decide +kernel⟩
theorem dX9_isVault_3 : jj_D cX9_isVault 3 (.invokestatic 104) 3 6 := ⟨rfl, by decide +kernel⟩
theorem dX9_isVault_6 : jj_D cX9_isVault 6 (.ireturn) 1 7 := ⟨rfl, by decide +kernel⟩
theorem dX9_isPlayable_0 : jj_D cX9_isPlayable 0 (.aload_n 0) 1 1 := ⟨rfl, by decide +kernel⟩
theorem dX9_isPlayable_1 : jj_D cX9_isPlayable 1 (.getfield 7) 3 4 := ⟨rfl, by decide +kernel⟩
theorem dX9_isPlayable_4 : jj_D cX9_isPlayable 4 (.iload_n 1) 1 5 := ⟨rfl, by decide +kernel⟩
theorem dX9_isPlayable_5 : jj_D cX9_isPlayable 5 (.iaload) 1 6 := ⟨rfl, by decide +kernel⟩
theorem dX9_isPlayable_6 : jj_D cX9_isPlayable 6 (.ifCond .eq 29) 3 9 := ⟨rfl, by decide +kernel⟩
theorem dX9_isPlayable_9 : jj_D cX9_isPlayable 9 (.aload_n 0) 1 10 := ⟨rfl, by decide +kernel⟩
theorem dX9_isPlayable_10 : jj_D cX9_isPlayable 10 (.getfield 7) 3 13 := ⟨rfl, by decide +kernel⟩
theorem dX9_isPlayable_13 : jj_D cX9_isPlayable 13 (.iload_n 1) 1 14 := ⟨rfl, by decide +kernel⟩
theorem dX9_isPlayable_14 : jj_D cX9_isPlayable 14 (.iaload) 1 15 := ⟨rfl, by decide +kernel⟩
theorem dX9_isPlayable_15 : jj_D cX9_isPlayable 15 (.iconst 2) 1 16 := ⟨rfl, by decide +kernel⟩
theorem dX9_isPlayable_16 : jj_D cX9_isPlayable 16 (.if_icmp .ne 23) 3 19 := ⟨rfl, by decide +kernel⟩
theorem dX9_isPlayable_19 : jj_D cX9_isPlayable 19 (.aload_n 0) 1 20 := ⟨rfl, by decide +kernel⟩
theorem dX9_isPlayable_20 : jj_D cX9_isPlayable 20 (.getfield 108) 3 23 := ⟨rfl, by decide +kernel⟩
theorem dX9_isPlayable_23 : jj_D cX9_isPlayable 23 (.aload_n 0) 1 24 := ⟨rfl, by decide +kernel⟩
theorem dX9_isPlayable_24 : jj_D cX9_isPlayable 24 (.getfield 13) 3 27 := ⟨rfl, by decide +kernel⟩
theorem dX9_isPlayable_27 : jj_D cX9_isPlayable 27 (.iload_n 1) 1 28 := ⟨rfl, by decide +kernel⟩
theorem dX9_isPlayable_28 : jj_D cX9_isPlayable 28 (.iaload) 1 29 := ⟨rfl, by decide +kernel⟩
theorem dX9_isPlayable_29 : jj_D cX9_isPlayable 29 (.isub) 1 30 := ⟨rfl, by decide +kernel⟩
theorem dX9_isPlayable_30 : jj_D cX9_isPlayable 30 (.bipush 30) 2 32 := ⟨rfl, by decide +kernel⟩
theorem dX9_isPlayable_32 : jj_D cX9_isPlayable 32 (.if_icmp .ge 7) 3 35 := ⟨rfl, by decide +kernel⟩
theorem dX9_isPlayable_35 : jj_D cX9_isPlayable 35 (.iconst 1) 1 36 := ⟨rfl, by decide +kernel⟩
theorem dX9_isPlayable_36 : jj_D cX9_isPlayable 36 (.goto 4) 3 39 := ⟨rfl, by decide +kernel⟩
theorem dX9_isPlayable_39 : jj_D cX9_isPlayable 39 (.iconst 0) 1 40 := ⟨rfl, by decide +kernel⟩
theorem dX9_isPlayable_40 : jj_D cX9_isPlayable 40 (.ireturn) 1 41 := ⟨rfl, by decide +kernel⟩
theorem dX9_length_0 : jj_D cX9_length 0 (.iconst 0) 1 1 := ⟨rfl, by decide +kernel⟩
theorem dX9_length_1 : jj_D cX9_length 1 (.istore_n 2) 1 2 := ⟨rfl, by decide +kernel⟩
theorem dX9_length_2 : jj_D cX9_length 2 (.bipush 20) 2 4 := ⟨rfl, by decide +kernel⟩
theorem dX9_length_4 : jj_D cX9_length 4 (.iload_n 1) 1 5 := ⟨rfl, by decide +kernel⟩
theorem dX9_length_5 : jj_D cX9_length 5 (.imul) 1 6 := ⟨rfl, by decide +kernel⟩
theorem dX9_length_6 : jj_D cX9_length 6 (.istore_n 3) 1 7 := ⟨rfl, by decide +kernel⟩
theorem dX9_length_7 : jj_D cX9_length 7 (.iload_n 3) 1 8 := ⟨rfl, by decide +kernel⟩
theorem dX9_length_8 : jj_D cX9_length 8 (.bipush 20) 2 10 := ⟨rfl, by decide +kernel⟩
theorem dX9_length_10 : jj_D cX9_length 10 (.iload_n 1) 1 11 := ⟨rfl, by decide +kernel⟩
theorem dX9_length_11 : jj_D cX9_length 11 (.imul) 1 12 := ⟨rfl, by decide +kernel⟩
theorem dX9_length_12 : jj_D cX9_length 12 (.aload_n 0) 1 13 := ⟨rfl, by decide +kernel⟩
theorem dX9_length_13 : jj_D cX9_length 13 (.getfield 25) 3 16 := ⟨rfl, by decide +kernel⟩
theorem dX9_length_16 : jj_D cX9_length 16 (.iload_n 1) 1 17 := ⟨rfl, by decide +kernel⟩
theorem dX9_length_17 : jj_D cX9_length 17 (.iaload) 1 18 := ⟨rfl, by decide +kernel⟩
theorem dX9_length_18 : jj_D cX9_length 18 (.iadd) 1 19 := ⟨rfl, by decide +kernel⟩
theorem dX9_length_19 : jj_D cX9_length 19 (.if_icmp .ge 25) 3 22 := ⟨rfl, by decide +kernel⟩
theorem dX9_length_22 : jj_D cX9_length 22 (.iload_n 2) 1 23 := ⟨rfl, by decide +kernel⟩
theorem dX9_length_23 : jj_D cX9_length 23 (.aload_n 0) 1 24 := ⟨rfl, by decide +kernel⟩
theorem dX9_length_24 : jj_D cX9_length 24 (.getfield 34) 3 27 := ⟨rfl, by decide +kernel⟩
theorem dX9_length_27 : jj_D cX9_length 27 (.iload_n 3) 1 28 := ⟨rfl, by decide +kernel⟩
theorem dX9_length_28 : jj_D cX9_length 28 (.iaload) 1 29 := ⟨rfl, by decide +kernel⟩
theorem dX9_length_29 : jj_D cX9_length 29 (.aload_n 0) 1 30 := ⟨rfl, by decide +kernel⟩
theorem dX9_length_30 : jj_D cX9_length 30 (.getfield 31) 3 33 := ⟨rfl, by decide +kernel⟩
theorem dX9_length_33 : jj_D cX9_length 33 (.iload_n 3) 1 34 := ⟨rfl, by decide +kernel⟩
theorem dX9_length_34 : jj_D cX9_length 34 (.iaload) 1 35 := ⟨rfl, by decide +kernel⟩
theorem dX9_length_35 : jj_D cX9_length 35 (.isub) 1 36 := ⟨rfl, by decide +kernel⟩
theorem dX9_length_36 : jj_D cX9_length 36 (.iadd) 1 37 := ⟨rfl, by decide +kernel⟩
theorem dX9_length_37 : jj_D cX9_length 37 (.istore_n 2) 1 38 := ⟨rfl, by decide +kernel⟩
theorem dX9_length_38 : jj_D cX9_length 38 (.iinc 3 1) 3 41 := ⟨rfl, by decide +kernel⟩
theorem dX9_length_41 : jj_D cX9_length 41 (.goto (-34)) 3 44 := ⟨rfl, by decide +kernel⟩
theorem dX9_length_44 : jj_D cX9_length 44 (.iload_n 2) 1 45 := ⟨rfl, by decide +kernel⟩
theorem dX9_length_45 : jj_D cX9_length 45 (.ireturn) 1 46 := ⟨rfl, by decide +kernel⟩
theorem dX9_puts_0 : jj_D cX9_puts 0 (.bipush 20) 2 2 := ⟨rfl, by decide +kernel⟩
theorem dX9_puts_2 : jj_D cX9_puts 2 (.aload_n 0) 1 3 := ⟨rfl, by decide +kernel⟩
theorem dX9_puts_3 : jj_D cX9_puts 3 (.getfield 101) 3 6 := ⟨rfl, by decide +kernel⟩
theorem dX9_puts_6 : jj_D cX9_puts 6 (.imul) 1 7 := ⟨rfl, by decide +kernel⟩
theorem dX9_puts_7 : jj_D cX9_puts 7 (.aload_n 0) 1 8 := ⟨rfl, by decide +kernel⟩
theorem dX9_puts_8 : jj_D cX9_puts 8 (.getfield 25) 3 11 := ⟨rfl, by decide +kernel⟩
theorem dX9_puts_11 : jj_D cX9_puts 11 (.aload_n 0) 1 12 := ⟨rfl, by decide +kernel⟩
theorem dX9_puts_12 : jj_D cX9_puts 12 (.getfield 101) 3 15 := ⟨rfl, by decide +kernel⟩
theorem dX9_puts_15 : jj_D cX9_puts 15 (.iaload) 1 16 := ⟨rfl, by decide +kernel⟩
theorem dX9_puts_16 : jj_D cX9_puts 16 (.iadd) 1 17 := ⟨rfl, by decide +kernel⟩
theorem dX9_puts_17 : jj_D cX9_puts 17 (.istore 4) 2 19 := ⟨rfl, by decide +kernel⟩
theorem dX9_puts_19 : jj_D cX9_puts 19 (.aload_n 0) 1 20 := ⟨rfl, by decide +kernel⟩
theorem dX9_puts_20 : jj_D cX9_puts 20 (.getfield 28) 3 23 := ⟨rfl, by decide +kernel⟩
theorem dX9_puts_23 : jj_D cX9_puts 23 (.iload 4) 2 25 := ⟨rfl, by decide +kernel⟩
theorem dX9_puts_25 : jj_D cX9_puts 25 (.iload_n 1) 1 26 := ⟨rfl, by decide +kernel⟩
theorem dX9_puts_26 : jj_D cX9_puts 26 (.iastore) 1 27 := ⟨rfl, by decide +kernel⟩
theorem dX9_puts_27 : jj_D cX9_puts 27 (.aload_n 0) 1 28 := ⟨rfl, by decide +kernel⟩
theorem dX9_puts_28 : jj_D cX9_puts 28 (.getfield 31) 3 31 := ⟨rfl, by decide +kernel⟩
theorem dX9_puts_31 : jj_D cX9_puts 31 (.iload 4) 2 33 := ⟨rfl, by decide +kernel⟩
theorem dX9_puts_33 : jj_D cX9_puts 33 (.iload_n 2) 1 34 := ⟨rfl, by decide +kernel⟩
theorem dX9_puts_34 : jj_D cX9_puts 34 (.iastore) 1 35 := ⟨rfl, by decide +kernel⟩
theorem dX9_puts_35 : jj_D cX9_puts 35 (.aload_n 0) 1 36 := ⟨rfl, by decide +kernel⟩
theorem dX9_puts_36 : jj_D cX9_puts 36 (.getfield 34) 3 39 := ⟨rfl, by decide +kernel⟩
theorem dX9_puts_39 : jj_D cX9_puts 39 (.iload 4) 2 41 := ⟨rfl, by decide +kernel⟩
theorem dX9_puts_41 : jj_D cX9_puts 41 (.iload_n 3) 1 42 := ⟨rfl, by decide +kernel⟩
theorem dX9_puts_42 : jj_D cX9_puts 42 (.iastore) 1 43 := ⟨rfl, by decide +kernel⟩
theorem dX9_puts_43 : jj_D cX9_puts 43 (.aload_n 0) 1 44 := ⟨rfl, by decide +kernel⟩
theorem dX9_puts_44 : jj_D cX9_puts 44 (.getfield 25) 3 47 := ⟨rfl, by decide +kernel⟩
theorem dX9_puts_47 : jj_D cX9_puts 47 (.aload_n 0) 1 48 := ⟨rfl, by decide +kernel⟩
theorem dX9_puts_48 : jj_D cX9_puts 48 (.getfield 101) 3 51 := ⟨rfl, by decide +kernel⟩
theorem dX9_puts_51 : jj_D cX9_puts 51 (.dup2) 1 52 := ⟨rfl, by decide +kernel⟩
theorem dX9_puts_52 : jj_D cX9_puts 52 (.iaload) 1 53 := ⟨rfl, by decide +kernel⟩
theorem dX9_puts_53 : jj_D cX9_puts 53 (.iconst 1) 1 54 := ⟨rfl, by decide +kernel⟩
theorem dX9_puts_54 : jj_D cX9_puts 54 (.iadd) 1 55 := ⟨rfl, by decide +kernel⟩
theorem dX9_puts_55 : jj_D cX9_puts 55 (.iastore) 1 56 := ⟨rfl, by decide +kernel⟩
theorem dX9_puts_56 : jj_D cX9_puts 56 (.return_) 1 57 := ⟨rfl, by decide +kernel⟩
theorem dX9_makes_0 : jj_D cX9_makes 0 (.aload_n 0) 1 1 := ⟨rfl, by decide +kernel⟩
theorem dX9_makes_1 : jj_D cX9_makes 1 (.getfield 7) 3 4 := ⟨rfl, by decide +kernel⟩
theorem dX9_makes_4 : jj_D cX9_makes 4 (.aload_n 0) 1 5 := ⟨rfl, by decide +kernel⟩
theorem dX9_makes_5 : jj_D cX9_makes 5 (.getfield 101) 3 8 := ⟨rfl, by decide +kernel⟩
theorem dX9_makes_8 : jj_D cX9_makes 8 (.iconst 0) 1 9 := ⟨rfl, by decide +kernel⟩
theorem dX9_makes_9 : jj_D cX9_makes 9 (.iastore) 1 10 := ⟨rfl, by decide +kernel⟩
theorem dX9_makes_10 : jj_D cX9_makes 10 (.aload_n 0) 1 11 := ⟨rfl, by decide +kernel⟩
theorem dX9_makes_11 : jj_D cX9_makes 11 (.getfield 16) 3 14 := ⟨rfl, by decide +kernel⟩
theorem dX9_makes_14 : jj_D cX9_makes 14 (.aload_n 0) 1 15 := ⟨rfl, by decide +kernel⟩
theorem dX9_makes_15 : jj_D cX9_makes 15 (.getfield 101) 3 18 := ⟨rfl, by decide +kernel⟩
theorem dX9_makes_18 : jj_D cX9_makes 18 (.iload_n 1) 1 19 := ⟨rfl, by decide +kernel⟩
theorem dX9_makes_19 : jj_D cX9_makes 19 (.iastore) 1 20 := ⟨rfl, by decide +kernel⟩
theorem dX9_makes_20 : jj_D cX9_makes 20 (.aload_n 0) 1 21 := ⟨rfl, by decide +kernel⟩
theorem dX9_makes_21 : jj_D cX9_makes 21 (.getfield 19) 3 24 := ⟨rfl, by decide +kernel⟩
theorem dX9_makes_24 : jj_D cX9_makes 24 (.aload_n 0) 1 25 := ⟨rfl, by decide +kernel⟩
theorem dX9_makes_25 : jj_D cX9_makes 25 (.getfield 101) 3 28 := ⟨rfl, by decide +kernel⟩
theorem dX9_makes_28 : jj_D cX9_makes 28 (.iload_n 2) 1 29 := ⟨rfl, by decide +kernel⟩
theorem dX9_makes_29 : jj_D cX9_makes 29 (.iastore) 1 30 := ⟨rfl, by decide +kernel⟩
theorem dX9_makes_30 : jj_D cX9_makes 30 (.aload_n 0) 1 31 := ⟨rfl, by decide +kernel⟩
theorem dX9_makes_31 : jj_D cX9_makes 31 (.dup) 1 32 := ⟨rfl, by decide +kernel⟩
theorem dX9_makes_32 : jj_D cX9_makes 32 (.getfield 101) 3 35 := ⟨rfl, by decide +kernel⟩
theorem dX9_makes_35 : jj_D cX9_makes 35 (.iconst 1) 1 36 := ⟨rfl, by decide +kernel⟩
theorem dX9_makes_36 : jj_D cX9_makes 36 (.iadd) 1 37 := ⟨rfl, by decide +kernel⟩
theorem dX9_makes_37 : jj_D cX9_makes 37 (.putfield 101) 3 40 := ⟨rfl, by decide +kernel⟩
theorem dX9_makes_40 : jj_D cX9_makes 40 (.aload_n 0) 1 41 := ⟨rfl, by decide +kernel⟩
theorem dX9_makes_41 : jj_D cX9_makes 41 (.getfield 101) 3 44 := ⟨rfl, by decide +kernel⟩
theorem dX9_makes_44 : jj_D cX9_makes 44 (.iconst 1) 1 45 := ⟨rfl, by decide +kernel⟩
theorem dX9_makes_45 : jj_D cX9_makes 45 (.isub) 1 46 := ⟨rfl, by decide +kernel⟩
theorem dX9_makes_46 : jj_D cX9_makes 46 (.ireturn) 1 47 := ⟨rfl, by decide +kernel⟩
theorem dX9_session_0 : jj_D cX9_session 0 (.iload_n 1) 1 1 := ⟨rfl, by decide +kernel⟩
theorem dX9_session_1 : jj_D cX9_session 1 (.invokestatic 111) 3 4 := ⟨rfl, by decide +kernel⟩
theorem dX9_session_4 : jj_D cX9_session 4 (.ifCond .eq 14) 3 7 := ⟨rfl, by decide +kernel⟩
theorem dX9_session_7 : jj_D cX9_session 7 (.iload_n 3) 1 8 := ⟨rfl, by decide +kernel⟩
theorem dX9_session_8 : jj_D cX9_session 8 (.invokestatic 115) 3 11 := ⟨rfl, by decide +kernel⟩
theorem dX9_session_11 : jj_D cX9_session 11 (.ifCond .eq 7) 3 14 := ⟨rfl, by decide +kernel⟩
theorem dX9_session_14 : jj_D cX9_session 14 (.iconst 1) 1 15 := ⟨rfl, by decide +kernel⟩
theorem dX9_session_15 : jj_D cX9_session 15 (.goto 4) 3 18 := ⟨rfl, by decide +kernel⟩
theorem dX9_session_18 : jj_D cX9_session 18 (.iconst 0) 1 19 := ⟨rfl, by decide +kernel⟩
theorem dX9_session_19 : jj_D cX9_session 19 (.istore 4) 2 21 := ⟨rfl, by decide +kernel⟩
theorem dX9_session_21 : jj_D cX9_session 21 (.aload_n 0) 1 22 := ⟨rfl, by decide +kernel⟩
theorem dX9_session_22 : jj_D cX9_session 22 (.iload 4) 2 24 := ⟨rfl, by decide +kernel⟩
theorem dX9_session_24 : jj_D cX9_session 24 (.ifCond .ne 7) 3 27 := ⟨rfl, by decide +kernel⟩
theorem dX9_session_27 : jj_D cX9_session 27 (.iconst 1) 1 28 := ⟨rfl, by decide +kernel⟩
theorem dX9_session_28 : jj_D cX9_session 28 (.goto 32) 3 31 := ⟨rfl, by decide +kernel⟩
theorem dX9_session_31 : jj_D cX9_session 31 (.iload_n 2) 1 32 := ⟨rfl, by decide +kernel⟩
theorem dX9_session_32 : jj_D cX9_session 32 (.iconst 1) 1 33 := ⟨rfl, by decide +kernel⟩
theorem dX9_session_33 : jj_D cX9_session 33 (.sipush 900) 3 36 := ⟨rfl, by decide +kernel⟩
theorem dX9_session_36 : jj_D cX9_session 36 (.invokestatic 104) 3 39 := ⟨rfl, by decide +kernel⟩
theorem dX9_session_39 : jj_D cX9_session 39 (.ifCond .ne 7) 3 42 := ⟨rfl, by decide +kernel⟩
theorem dX9_session_42 : jj_D cX9_session 42 (.iconst 2) 1 43 := ⟨rfl, by decide +kernel⟩
theorem dX9_session_43 : jj_D cX9_session 43 (.goto 17) 3 46 := ⟨rfl, by decide +kernel⟩
theorem dX9_session_46 : jj_D cX9_session 46 (.aload_n 0) 1 47 := ⟨rfl, by decide +kernel⟩
theorem dX9_session_47 : jj_D cX9_session 47 (.getfield 101) 3 50 := ⟨rfl, by decide +kernel⟩
theorem dX9_session_50 : jj_D cX9_session 50 (.bipush 30) 2 52 := ⟨rfl, by decide +kernel⟩
theorem dX9_session_52 : jj_D cX9_session 52 (.if_icmp .ne 7) 3 55 := ⟨rfl, by decide +kernel⟩
theorem dX9_session_55 : jj_D cX9_session 55 (.iconst 3) 1 56 := ⟨rfl, by decide +kernel⟩
theorem dX9_session_56 : jj_D cX9_session 56 (.goto 4) 3 59 := ⟨rfl, by decide +kernel⟩
theorem dX9_session_59 : jj_D cX9_session 59 (.iconst 0) 1 60 := ⟨rfl, by decide +kernel⟩
theorem dX9_session_60 : jj_D cX9_session 60 (.invokevirtual 118) 3 63 := ⟨rfl, by decide +kernel⟩
theorem dX9_session_63 : jj_D cX9_session 63 (.ifCond .ne 5) 3 66 := ⟨rfl, by decide +kernel⟩
theorem dX9_session_66 : jj_D cX9_session 66 (.iconst 0) 1 67 := ⟨rfl, by decide +kernel⟩
theorem dX9_session_67 : jj_D cX9_session 67 (.ireturn) 1 68 := ⟨rfl, by decide +kernel⟩
theorem dX9_session_68 : jj_D cX9_session 68 (.aload_n 0) 1 69 := ⟨rfl, by decide +kernel⟩
theorem dX9_session_69 : jj_D cX9_session 69 (.getfield 22) 3 72 := ⟨rfl, by decide +kernel⟩
theorem dX9_session_72 : jj_D cX9_session 72 (.aload_n 0) 1 73 := ⟨rfl, by decide +kernel⟩
theorem dX9_session_73 : jj_D cX9_session 73 (.getfield 101) 3 76 := ⟨rfl, by decide +kernel⟩
theorem dX9_session_76 : jj_D cX9_session 76 (.iload_n 1) 1 77 := ⟨rfl, by decide +kernel⟩
theorem dX9_session_77 : jj_D cX9_session 77 (.iastore) 1 78 := ⟨rfl, by decide +kernel⟩
theorem dX9_session_78 : jj_D cX9_session 78 (.aload_n 0) 1 79 := ⟨rfl, by decide +kernel⟩
theorem dX9_session_79 : jj_D cX9_session 79 (.aload_n 0) 1 80 := ⟨rfl, by decide +kernel⟩
theorem dX9_session_80 : jj_D cX9_session 80 (.getfield 101) 3 83 := ⟨rfl, by decide +kernel⟩
theorem dX9_session_83 : jj_D cX9_session 83 (.iconst 0) 1 84 := ⟨rfl, by decide +kernel⟩
theorem dX9_session_84 : jj_D cX9_session 84 (.iload_n 2) 1 85 := ⟨rfl, by decide +kernel⟩
theorem dX9_session_85 : jj_D cX9_session 85 (.invokevirtual 121) 3 88 := ⟨rfl, by decide +kernel⟩
theorem dX9_session_88 : jj_D cX9_session 88 (.aload_n 0) 1 89 := ⟨rfl, by decide +kernel⟩
theorem dX9_session_89 : jj_D cX9_session 89 (.iconst 0) 1 90 := ⟨rfl, by decide +kernel⟩
theorem dX9_session_90 : jj_D cX9_session 90 (.iload_n 3) 1 91 := ⟨rfl, by decide +kernel⟩
theorem dX9_session_91 : jj_D cX9_session 91 (.invokevirtual 125) 3 94 := ⟨rfl, by decide +kernel⟩
theorem dX9_session_94 : jj_D cX9_session 94 (.ireturn) 1 95 := ⟨rfl, by decide +kernel⟩
theorem dX9_spansIn_0 : jj_D cX9_spansIn 0 (.iconst 0) 1 1 := ⟨rfl, by decide +kernel⟩
theorem dX9_spansIn_1 : jj_D cX9_spansIn 1 (.istore 4) 2 3 := ⟨rfl, by decide +kernel⟩
theorem dX9_spansIn_3 : jj_D cX9_spansIn 3 (.iconst 0) 1 4 := ⟨rfl, by decide +kernel⟩
theorem dX9_spansIn_4 : jj_D cX9_spansIn 4 (.istore 5) 2 6 := ⟨rfl, by decide +kernel⟩
theorem dX9_spansIn_6 : jj_D cX9_spansIn 6 (.bipush 20) 2 8 := ⟨rfl, by decide +kernel⟩
theorem dX9_spansIn_8 : jj_D cX9_spansIn 8 (.iload_n 1) 1 9 := ⟨rfl, by decide +kernel⟩
theorem dX9_spansIn_9 : jj_D cX9_spansIn 9 (.imul) 1 10 := ⟨rfl, by decide +kernel⟩
theorem dX9_spansIn_10 : jj_D cX9_spansIn 10 (.istore 6) 2 12 := ⟨rfl, by decide +kernel⟩
theorem dX9_spansIn_12 : jj_D cX9_spansIn 12 (.iload 6) 2 14 := ⟨rfl, by decide +kernel⟩
theorem dX9_spansIn_14 : jj_D cX9_spansIn 14 (.bipush 20) 2 16 := ⟨rfl, by decide +kernel⟩
theorem dX9_spansIn_16 : jj_D cX9_spansIn 16 (.iload_n 1) 1 17 := ⟨rfl, by decide +kernel⟩
theorem dX9_spansIn_17 : jj_D cX9_spansIn 17 (.imul) 1 18 := ⟨rfl, by decide +kernel⟩
theorem dX9_spansIn_18 : jj_D cX9_spansIn 18 (.aload_n 0) 1 19 := ⟨rfl, by decide +kernel⟩
theorem dX9_spansIn_19 : jj_D cX9_spansIn 19 (.getfield 25) 3 22 := ⟨rfl, by decide +kernel⟩
theorem dX9_spansIn_22 : jj_D cX9_spansIn 22 (.iload_n 1) 1 23 := ⟨rfl, by decide +kernel⟩
theorem dX9_spansIn_23 : jj_D cX9_spansIn 23 (.iaload) 1 24 := ⟨rfl, by decide +kernel⟩
theorem dX9_spansIn_24 : jj_D cX9_spansIn 24 (.iadd) 1 25 := ⟨rfl, by decide +kernel⟩
theorem dX9_spansIn_25 : jj_D cX9_spansIn 25 (.if_icmp .ge 55) 3 28 := ⟨rfl, by decide +kernel⟩
theorem dX9_spansIn_28 : jj_D cX9_spansIn 28 (.iload 5) 2 30 := ⟨rfl, by decide +kernel⟩
theorem dX9_spansIn_30 : jj_D cX9_spansIn 30 (.aload_n 0) 1 31 := ⟨rfl, by decide +kernel⟩
theorem dX9_spansIn_31 : jj_D cX9_spansIn 31 (.getfield 34) 3 34 := ⟨rfl, by decide +kernel⟩
theorem dX9_spansIn_34 : jj_D cX9_spansIn 34 (.iload 6) 2 36 := ⟨rfl, by decide +kernel⟩
theorem dX9_spansIn_36 : jj_D cX9_spansIn 36 (.iaload) 1 37 := ⟨rfl, by decide +kernel⟩
theorem dX9_spansIn_37 : jj_D cX9_spansIn 37 (.iadd) 1 38 := ⟨rfl, by decide +kernel⟩
theorem dX9_spansIn_38 : jj_D cX9_spansIn 38 (.aload_n 0) 1 39 := ⟨rfl, by decide +kernel⟩
theorem dX9_spansIn_39 : jj_D cX9_spansIn 39 (.getfield 31) 3 42 := ⟨rfl, by decide +kernel⟩
theorem dX9_spansIn_42 : jj_D cX9_spansIn 42 (.iload 6) 2 44 := ⟨rfl, by decide +kernel⟩
theorem dX9_spansIn_44 : jj_D cX9_spansIn 44 (.iaload) 1 45 := ⟨rfl, by decide +kernel⟩
theorem dX9_spansIn_45 : jj_D cX9_spansIn 45 (.isub) 1 46 := ⟨rfl, by decide +kernel⟩
theorem dX9_spansIn_46 : jj_D cX9_spansIn 46 (.istore 7) 2 48 := ⟨rfl, by decide +kernel⟩
theorem dX9_spansIn_48 : jj_D cX9_spansIn 48 (.iload 4) 2 50 := ⟨rfl, by decide +kernel⟩
theorem dX9_spansIn_50 : jj_D cX9_spansIn 50 (.iload 5) 2 52 := ⟨rfl, by decide +kernel⟩
theorem dX9_spansIn_52 : jj_D cX9_spansIn 52 (.iload_n 3) 1 53 := ⟨rfl, by decide +kernel⟩
theorem dX9_spansIn_53 : jj_D cX9_spansIn 53 (.if_icmp .ge 13) 3 56 := ⟨rfl, by decide +kernel⟩
theorem dX9_spansIn_56 : jj_D cX9_spansIn 56 (.iload 7) 2 58 := ⟨rfl, by decide +kernel⟩
theorem dX9_spansIn_58 : jj_D cX9_spansIn 58 (.iload_n 2) 1 59 := ⟨rfl, by decide +kernel⟩
theorem dX9_spansIn_59 : jj_D cX9_spansIn 59 (.if_icmp .le 7) 3 62 := ⟨rfl, by decide +kernel⟩
theorem dX9_spansIn_62 : jj_D cX9_spansIn 62 (.iconst 1) 1 63 := ⟨rfl, by decide +kernel⟩
theorem dX9_spansIn_63 : jj_D cX9_spansIn 63 (.goto 4) 3 66 := ⟨rfl, by decide +kernel⟩
theorem dX9_spansIn_66 : jj_D cX9_spansIn 66 (.iconst 0) 1 67 := ⟨rfl, by decide +kernel⟩
theorem dX9_spansIn_67 : jj_D cX9_spansIn 67 (.iadd) 1 68 := ⟨rfl, by decide +kernel⟩
theorem dX9_spansIn_68 : jj_D cX9_spansIn 68 (.istore 4) 2 70 := ⟨rfl, by decide +kernel⟩
theorem dX9_spansIn_70 : jj_D cX9_spansIn 70 (.iload 7) 2 72 := ⟨rfl, by decide +kernel⟩
theorem dX9_spansIn_72 : jj_D cX9_spansIn 72 (.istore 5) 2 74 := ⟨rfl, by decide +kernel⟩
theorem dX9_spansIn_74 : jj_D cX9_spansIn 74 (.iinc 6 1) 3 77 := ⟨rfl, by decide +kernel⟩
theorem dX9_spansIn_77 : jj_D cX9_spansIn 77 (.goto (-65)) 3 80 := ⟨rfl, by decide +kernel⟩
theorem dX9_spansIn_80 : jj_D cX9_spansIn 80 (.iload 4) 2 82 := ⟨rfl, by decide +kernel⟩
theorem dX9_spansIn_82 : jj_D cX9_spansIn 82 (.ireturn) 1 83 := ⟨rfl, by decide +kernel⟩
theorem dX9_copies_0 : jj_D cX9_copies 0 (.iconst 0) 1 1 := ⟨rfl, by decide +kernel⟩
theorem dX9_copies_1 : jj_D cX9_copies 1 (.istore 4) 2 3 := ⟨rfl, by decide +kernel⟩
theorem dX9_copies_3 : jj_D cX9_copies 3 (.bipush 20) 2 5 := ⟨rfl, by decide +kernel⟩
theorem dX9_copies_5 : jj_D cX9_copies 5 (.iload_n 1) 1 6 := ⟨rfl, by decide +kernel⟩
theorem dX9_copies_6 : jj_D cX9_copies 6 (.imul) 1 7 := ⟨rfl, by decide +kernel⟩
theorem dX9_copies_7 : jj_D cX9_copies 7 (.istore 5) 2 9 := ⟨rfl, by decide +kernel⟩
theorem dX9_copies_9 : jj_D cX9_copies 9 (.iload 5) 2 11 := ⟨rfl, by decide +kernel⟩
theorem dX9_copies_11 : jj_D cX9_copies 11 (.bipush 20) 2 13 := ⟨rfl, by decide +kernel⟩
theorem dX9_copies_13 : jj_D cX9_copies 13 (.iload_n 1) 1 14 := ⟨rfl, by decide +kernel⟩
theorem dX9_copies_14 : jj_D cX9_copies 14 (.imul) 1 15 := ⟨rfl, by decide +kernel⟩
theorem dX9_copies_15 : jj_D cX9_copies 15 (.aload_n 0) 1 16 := ⟨rfl, by decide +kernel⟩
theorem dX9_copies_16 : jj_D cX9_copies 16 (.getfield 25) 3 19 := ⟨rfl, by decide +kernel⟩
theorem dX9_copies_19 : jj_D cX9_copies 19 (.iload_n 1) 1 20 := ⟨rfl, by decide +kernel⟩
theorem dX9_copies_20 : jj_D cX9_copies 20 (.iaload) 1 21 := ⟨rfl, by decide +kernel⟩
theorem dX9_copies_21 : jj_D cX9_copies 21 (.iadd) 1 22 := ⟨rfl, by decide +kernel⟩
theorem dX9_copies_22 : jj_D cX9_copies 22 (.if_icmp .ge 105) 3 25 := ⟨rfl, by decide +kernel⟩
theorem dX9_copies_25 : jj_D cX9_copies 25 (.iload 4) 2 27 := ⟨rfl, by decide +kernel⟩
theorem dX9_copies_27 : jj_D cX9_copies 27 (.aload_n 0) 1 28 := ⟨rfl, by decide +kernel⟩
theorem dX9_copies_28 : jj_D cX9_copies 28 (.getfield 34) 3 31 := ⟨rfl, by decide +kernel⟩
theorem dX9_copies_31 : jj_D cX9_copies 31 (.iload 5) 2 33 := ⟨rfl, by decide +kernel⟩
theorem dX9_copies_33 : jj_D cX9_copies 33 (.iaload) 1 34 := ⟨rfl, by decide +kernel⟩
theorem dX9_copies_34 : jj_D cX9_copies 34 (.iadd) 1 35 := ⟨rfl, by decide +kernel⟩
theorem dX9_copies_35 : jj_D cX9_copies 35 (.aload_n 0) 1 36 := ⟨rfl, by decide +kernel⟩
theorem dX9_copies_36 : jj_D cX9_copies 36 (.getfield 31) 3 39 := ⟨rfl, by decide +kernel⟩
theorem dX9_copies_39 : jj_D cX9_copies 39 (.iload 5) 2 41 := ⟨rfl, by decide +kernel⟩
theorem dX9_copies_41 : jj_D cX9_copies 41 (.iaload) 1 42 := ⟨rfl, by decide +kernel⟩
theorem dX9_copies_42 : jj_D cX9_copies 42 (.isub) 1 43 := ⟨rfl, by decide +kernel⟩
theorem dX9_copies_43 : jj_D cX9_copies 43 (.istore 6) 2 45 := ⟨rfl, by decide +kernel⟩
theorem dX9_copies_45 : jj_D cX9_copies 45 (.iload_n 2) 1 46 := ⟨rfl, by decide +kernel⟩
theorem dX9_copies_46 : jj_D cX9_copies 46 (.iload 4) 2 48 := ⟨rfl, by decide +kernel⟩
theorem dX9_copies_48 : jj_D cX9_copies 48 (.if_icmp .le 7) 3 51 := ⟨rfl, by decide +kernel⟩
theorem dX9_copies_51 : jj_D cX9_copies 51 (.iload_n 2) 1 52 := ⟨rfl, by decide +kernel⟩
theorem dX9_copies_52 : jj_D cX9_copies 52 (.goto 5) 3 55 := ⟨rfl, by decide +kernel⟩
theorem dX9_copies_55 : jj_D cX9_copies 55 (.iload 4) 2 57 := ⟨rfl, by decide +kernel⟩
theorem dX9_copies_57 : jj_D cX9_copies 57 (.istore 7) 2 59 := ⟨rfl, by decide +kernel⟩
theorem dX9_copies_59 : jj_D cX9_copies 59 (.iload_n 3) 1 60 := ⟨rfl, by decide +kernel⟩
theorem dX9_copies_60 : jj_D cX9_copies 60 (.iload 6) 2 62 := ⟨rfl, by decide +kernel⟩
theorem dX9_copies_62 : jj_D cX9_copies 62 (.if_icmp .ge 7) 3 65 := ⟨rfl, by decide +kernel⟩
theorem dX9_copies_65 : jj_D cX9_copies 65 (.iload_n 3) 1 66 := ⟨rfl, by decide +kernel⟩
theorem dX9_copies_66 : jj_D cX9_copies 66 (.goto 5) 3 69 := ⟨rfl, by decide +kernel⟩
theorem dX9_copies_69 : jj_D cX9_copies 69 (.iload 6) 2 71 := ⟨rfl, by decide +kernel⟩
theorem dX9_copies_71 : jj_D cX9_copies 71 (.istore 8) 2 73 := ⟨rfl, by decide +kernel⟩
theorem dX9_copies_73 : jj_D cX9_copies 73 (.iload 7) 2 75 := ⟨rfl, by decide +kernel⟩
theorem dX9_copies_75 : jj_D cX9_copies 75 (.iload 8) 2 77 := ⟨rfl, by decide +kernel⟩
theorem dX9_copies_77 : jj_D cX9_copies 77 (.if_icmp .ge 40) 3 80 := ⟨rfl, by decide +kernel⟩
theorem dX9_copies_80 : jj_D cX9_copies 80 (.aload_n 0) 1 81 := ⟨rfl, by decide +kernel⟩
theorem dX9_copies_81 : jj_D cX9_copies 81 (.aload_n 0) 1 82 := ⟨rfl, by decide +kernel⟩
theorem dX9_copies_82 : jj_D cX9_copies 82 (.getfield 28) 3 85 := ⟨rfl, by decide +kernel⟩
theorem dX9_copies_85 : jj_D cX9_copies 85 (.iload 5) 2 87 := ⟨rfl, by decide +kernel⟩
theorem dX9_copies_87 : jj_D cX9_copies 87 (.iaload) 1 88 := ⟨rfl, by decide +kernel⟩
theorem dX9_copies_88 : jj_D cX9_copies 88 (.aload_n 0) 1 89 := ⟨rfl, by decide +kernel⟩
theorem dX9_copies_89 : jj_D cX9_copies 89 (.getfield 31) 3 92 := ⟨rfl, by decide +kernel⟩
theorem dX9_copies_92 : jj_D cX9_copies 92 (.iload 5) 2 94 := ⟨rfl, by decide +kernel⟩
theorem dX9_copies_94 : jj_D cX9_copies 94 (.iaload) 1 95 := ⟨rfl, by decide +kernel⟩
theorem dX9_copies_95 : jj_D cX9_copies 95 (.iload 7) 2 97 := ⟨rfl, by decide +kernel⟩
theorem dX9_copies_97 : jj_D cX9_copies 97 (.iadd) 1 98 := ⟨rfl, by decide +kernel⟩
theorem dX9_copies_98 : jj_D cX9_copies 98 (.iload 4) 2 100 := ⟨rfl, by decide +kernel⟩
theorem dX9_copies_100 : jj_D cX9_copies 100 (.isub) 1 101 := ⟨rfl, by decide +kernel⟩
theorem dX9_copies_101 : jj_D cX9_copies 101 (.aload_n 0) 1 102 := ⟨rfl, by decide +kernel⟩
theorem dX9_copies_102 : jj_D cX9_copies 102 (.getfield 31) 3 105 := ⟨rfl, by decide +kernel⟩
theorem dX9_copies_105 : jj_D cX9_copies 105 (.iload 5) 2 107 := ⟨rfl, by decide +kernel⟩
theorem dX9_copies_107 : jj_D cX9_copies 107 (.iaload) 1 108 := ⟨rfl, by decide +kernel⟩
theorem dX9_copies_108 : jj_D cX9_copies 108 (.iload 8) 2 110 := ⟨rfl, by decide +kernel⟩
theorem dX9_copies_110 : jj_D cX9_copies 110 (.iadd) 1 111 := ⟨rfl, by decide +kernel⟩
theorem dX9_copies_111 : jj_D cX9_copies 111 (.iload 4) 2 113 := ⟨rfl, by decide +kernel⟩
theorem dX9_copies_113 : jj_D cX9_copies 113 (.isub) 1 114 := ⟨rfl, by decide +kernel⟩
theorem dX9_copies_114 : jj_D cX9_copies 114 (.invokevirtual 121) 3 117 := ⟨rfl, by decide +kernel⟩
theorem dX9_copies_117 : jj_D cX9_copies 117 (.iload 6) 2 119 := ⟨rfl, by decide +kernel⟩
theorem dX9_copies_119 : jj_D cX9_copies 119 (.istore 4) 2 121 := ⟨rfl, by decide +kernel⟩
theorem dX9_copies_121 : jj_D cX9_copies 121 (.iinc 5 1) 3 124 := ⟨rfl, by decide +kernel⟩
theorem dX9_copies_124 : jj_D cX9_copies 124 (.goto (-115)) 3 127 := ⟨rfl, by decide +kernel⟩
theorem dX9_copies_127 : jj_D cX9_copies 127 (.return_) 1 128 := ⟨rfl, by decide +kernel⟩
theorem dX9_splice_0 : jj_D cX9_splice 0 (.aload_n 0) 1 1 := ⟨rfl, by decide +kernel⟩
theorem dX9_splice_1 : jj_D cX9_splice 1 (.iload_n 1) 1 2 := ⟨rfl, by decide +kernel⟩
theorem dX9_splice_2 : jj_D cX9_splice 2 (.invokevirtual 129) 3 5 := ⟨rfl, by decide +kernel⟩
theorem dX9_splice_5 : jj_D cX9_splice 5 (.ifCond .eq 30) 3 8 := ⟨rfl, by decide +kernel⟩
theorem dX9_splice_8 : jj_D cX9_splice 8 (.iload 4) 2 10 := ⟨rfl, by decide +kernel⟩
theorem dX9_splice_10 : jj_D cX9_splice 10 (.iconst (-1)) 1 11 := ⟨rfl, by decide +kernel⟩
theorem dX9_splice_11 : jj_D cX9_splice 11 (.if_icmp .eq 12) 3 14 := ⟨rfl, by decide +kernel⟩
theorem dX9_splice_14 : jj_D cX9_splice 14 (.aload_n 0) 1 15 := ⟨rfl, by decide +kernel⟩
theorem dX9_splice_15 : jj_D cX9_splice 15 (.iload 4) 2 17 := ⟨rfl, by decide +kernel⟩
theorem dX9_splice_17 : jj_D cX9_splice 17 (.invokevirtual 129) 3 20 := ⟨rfl, by decide +kernel⟩
theorem dX9_splice_20 : jj_D cX9_splice 20 (.ifCond .eq 15) 3 23 := ⟨rfl, by decide +kernel⟩
theorem dX9_splice_23 : jj_D cX9_splice 23 (.iload 5) 2 25 := ⟨rfl, by decide +kernel⟩
theorem dX9_splice_25 : jj_D cX9_splice 25 (.invokestatic 115) 3 28 := ⟨rfl, by decide +kernel⟩
theorem dX9_splice_28 : jj_D cX9_splice 28 (.ifCond .eq 7) 3 31 := ⟨rfl, by decide +kernel⟩
theorem dX9_splice_31 : jj_D cX9_splice 31 (.iconst 1) 1 32 := ⟨rfl, by decide +kernel⟩
theorem dX9_splice_32 : jj_D cX9_splice 32 (.goto 4) 3 35 := ⟨rfl, by decide +kernel⟩
theorem dX9_splice_35 : jj_D cX9_splice 35 (.iconst 0) 1 36 := ⟨rfl, by decide +kernel⟩
theorem dX9_splice_36 : jj_D cX9_splice 36 (.istore 6) 2 38 := ⟨rfl, by decide +kernel⟩
theorem dX9_splice_38 : jj_D cX9_splice 38 (.iload 6) 2 40 := ⟨rfl, by decide +kernel⟩
theorem dX9_splice_40 : jj_D cX9_splice 40 (.ifCond .eq 25) 3 43 := ⟨rfl, by decide +kernel⟩
theorem dX9_splice_43 : jj_D cX9_splice 43 (.iload_n 2) 1 44 := ⟨rfl, by decide +kernel⟩
theorem dX9_splice_44 : jj_D cX9_splice 44 (.ifCond .lt 21) 3 47 := ⟨rfl, by decide +kernel⟩
theorem dX9_splice_47 : jj_D cX9_splice 47 (.iload_n 3) 1 48 := ⟨rfl, by decide +kernel⟩
theorem dX9_splice_48 : jj_D cX9_splice 48 (.iload_n 2) 1 49 := ⟨rfl, by decide +kernel⟩
theorem dX9_splice_49 : jj_D cX9_splice 49 (.if_icmp .le 16) 3 52 := ⟨rfl, by decide +kernel⟩
theorem dX9_splice_52 : jj_D cX9_splice 52 (.iload_n 3) 1 53 := ⟨rfl, by decide +kernel⟩
theorem dX9_splice_53 : jj_D cX9_splice 53 (.aload_n 0) 1 54 := ⟨rfl, by decide +kernel⟩
theorem dX9_splice_54 : jj_D cX9_splice 54 (.iload_n 1) 1 55 := ⟨rfl, by decide +kernel⟩
theorem dX9_splice_55 : jj_D cX9_splice 55 (.invokevirtual 132) 3 58 := ⟨rfl, by decide +kernel⟩
theorem dX9_splice_58 : jj_D cX9_splice 58 (.if_icmp .gt 7) 3 61 := ⟨rfl, by decide +kernel⟩
theorem dX9_splice_61 : jj_D cX9_splice 61 (.iconst 1) 1 62 := ⟨rfl, by decide +kernel⟩
theorem dX9_splice_62 : jj_D cX9_splice 62 (.goto 4) 3 65 := ⟨rfl, by decide +kernel⟩
theorem dX9_splice_65 : jj_D cX9_splice 65 (.iconst 0) 1 66 := ⟨rfl, by decide +kernel⟩
theorem dX9_splice_66 : jj_D cX9_splice 66 (.istore 7) 2 68 := ⟨rfl, by decide +kernel⟩
theorem dX9_splice_68 : jj_D cX9_splice 68 (.iload 6) 2 70 := ⟨rfl, by decide +kernel⟩
theorem dX9_splice_70 : jj_D cX9_splice 70 (.ifCond .eq 13) 3 73 := ⟨rfl, by decide +kernel⟩
theorem dX9_splice_73 : jj_D cX9_splice 73 (.iload 4) 2 75 := ⟨rfl, by decide +kernel⟩
theorem dX9_splice_75 : jj_D cX9_splice 75 (.iconst (-1)) 1 76 := ⟨rfl, by decide +kernel⟩
theorem dX9_splice_76 : jj_D cX9_splice 76 (.if_icmp .eq 7) 3 79 := ⟨rfl, by decide +kernel⟩
theorem dX9_splice_79 : jj_D cX9_splice 79 (.iconst 1) 1 80 := ⟨rfl, by decide +kernel⟩
theorem dX9_splice_80 : jj_D cX9_splice 80 (.goto 4) 3 83 := ⟨rfl, by decide +kernel⟩
theorem dX9_splice_83 : jj_D cX9_splice 83 (.iconst 0) 1 84 := ⟨rfl, by decide +kernel⟩
theorem dX9_splice_84 : jj_D cX9_splice 84 (.istore 8) 2 86 := ⟨rfl, by decide +kernel⟩
theorem dX9_splice_86 : jj_D cX9_splice 86 (.iload 7) 2 88 := ⟨rfl, by decide +kernel⟩
theorem dX9_splice_88 : jj_D cX9_splice 88 (.ifCond .eq 67) 3 91 := ⟨rfl, by decide +kernel⟩
theorem dX9_splice_91 : jj_D cX9_splice 91 (.aload_n 0) 1 92 := ⟨rfl, by decide +kernel⟩
theorem dX9_splice_92 : jj_D cX9_splice 92 (.iload_n 1) 1 93 := ⟨rfl, by decide +kernel⟩
theorem dX9_splice_93 : jj_D cX9_splice 93 (.invokevirtual 136) 3 96 := ⟨rfl, by decide +kernel⟩
theorem dX9_splice_96 : jj_D cX9_splice 96 (.ifCond .eq 59) 3 99 := ⟨rfl, by decide +kernel⟩
theorem dX9_splice_99 : jj_D cX9_splice 99 (.iload 8) 2 101 := ⟨rfl, by decide +kernel⟩
theorem dX9_splice_101 : jj_D cX9_splice 101 (.ifCond .eq 12) 3 104 := ⟨rfl, by decide +kernel⟩
theorem dX9_splice_104 : jj_D cX9_splice 104 (.aload_n 0) 1 105 := ⟨rfl, by decide +kernel⟩
theorem dX9_splice_105 : jj_D cX9_splice 105 (.iload 4) 2 107 := ⟨rfl, by decide +kernel⟩
theorem dX9_splice_107 : jj_D cX9_splice 107 (.invokevirtual 136) 3 110 := ⟨rfl, by decide +kernel⟩
theorem dX9_splice_110 : jj_D cX9_splice 110 (.ifCond .eq 45) 3 113 := ⟨rfl, by decide +kernel⟩
theorem dX9_splice_113 : jj_D cX9_splice 113 (.aload_n 0) 1 114 := ⟨rfl, by decide +kernel⟩
theorem dX9_splice_114 : jj_D cX9_splice 114 (.getfield 101) 3 117 := ⟨rfl, by decide +kernel⟩
theorem dX9_splice_117 : jj_D cX9_splice 117 (.bipush 30) 2 119 := ⟨rfl, by decide +kernel⟩
theorem dX9_splice_119 : jj_D cX9_splice 119 (.if_icmp .ge 36) 3 122 := ⟨rfl, by decide +kernel⟩
theorem dX9_splice_122 : jj_D cX9_splice 122 (.aload_n 0) 1 123 := ⟨rfl, by decide +kernel⟩
theorem dX9_splice_123 : jj_D cX9_splice 123 (.iload_n 1) 1 124 := ⟨rfl, by decide +kernel⟩
theorem dX9_splice_124 : jj_D cX9_splice 124 (.iload_n 2) 1 125 := ⟨rfl, by decide +kernel⟩
theorem dX9_splice_125 : jj_D cX9_splice 125 (.iload_n 3) 1 126 := ⟨rfl, by decide +kernel⟩
theorem dX9_splice_126 : jj_D cX9_splice 126 (.invokevirtual 139) 3 129 := ⟨rfl, by decide +kernel⟩
theorem dX9_splice_129 : jj_D cX9_splice 129 (.iload 8) 2 131 := ⟨rfl, by decide +kernel⟩
theorem dX9_splice_131 : jj_D cX9_splice 131 (.ifCond .eq 13) 3 134 := ⟨rfl, by decide +kernel⟩
theorem dX9_splice_134 : jj_D cX9_splice 134 (.aload_n 0) 1 135 := ⟨rfl, by decide +kernel⟩
theorem dX9_splice_135 : jj_D cX9_splice 135 (.getfield 25) 3 138 := ⟨rfl, by decide +kernel⟩
theorem dX9_splice_138 : jj_D cX9_splice 138 (.iload 4) 2 140 := ⟨rfl, by decide +kernel⟩
theorem dX9_splice_140 : jj_D cX9_splice 140 (.iaload) 1 141 := ⟨rfl, by decide +kernel⟩
theorem dX9_splice_141 : jj_D cX9_splice 141 (.goto 4) 3 144 := ⟨rfl, by decide +kernel⟩
theorem dX9_splice_144 : jj_D cX9_splice 144 (.iconst 0) 1 145 := ⟨rfl, by decide +kernel⟩
theorem dX9_splice_145 : jj_D cX9_splice 145 (.iadd) 1 146 := ⟨rfl, by decide +kernel⟩
theorem dX9_splice_146 : jj_D cX9_splice 146 (.bipush 20) 2 148 := ⟨rfl, by decide +kernel⟩
theorem dX9_splice_148 : jj_D cX9_splice 148 (.if_icmp .gt 7) 3 151 := ⟨rfl, by decide +kernel⟩
theorem dX9_splice_151 : jj_D cX9_splice 151 (.iconst 1) 1 152 := ⟨rfl, by decide +kernel⟩
theorem dX9_splice_152 : jj_D cX9_splice 152 (.goto 4) 3 155 := ⟨rfl, by decide +kernel⟩
theorem dX9_splice_155 : jj_D cX9_splice 155 (.iconst 0) 1 156 := ⟨rfl, by decide +kernel⟩
theorem dX9_splice_156 : jj_D cX9_splice 156 (.istore 9) 2 158 := ⟨rfl, by decide +kernel⟩
theorem dX9_splice_158 : jj_D cX9_splice 158 (.aload_n 0) 1 159 := ⟨rfl, by decide +kernel⟩
theorem dX9_splice_159 : jj_D cX9_splice 159 (.iload 6) 2 161 := ⟨rfl, by decide +kernel⟩
theorem dX9_splice_161 : jj_D cX9_splice 161 (.ifCond .ne 7) 3 164 := ⟨rfl, by decide +kernel⟩
theorem dX9_splice_164 : jj_D cX9_splice 164 (.iconst 1) 1 165 := ⟨rfl, by decide +kernel⟩
theorem dX9_splice_165 : jj_D cX9_splice 165 (.goto 22) 3 168 := ⟨rfl, by decide +kernel⟩
theorem dX9_splice_168 : jj_D cX9_splice 168 (.iload 7) 2 170 := ⟨rfl, by decide +kernel⟩
theorem dX9_splice_170 : jj_D cX9_splice 170 (.ifCond .ne 7) 3 173 := ⟨rfl, by decide +kernel⟩
theorem dX9_splice_173 : jj_D cX9_splice 173 (.iconst 2) 1 174 := ⟨rfl, by decide +kernel⟩
theorem dX9_splice_174 : jj_D cX9_splice 174 (.goto 13) 3 177 := ⟨rfl, by decide +kernel⟩
theorem dX9_splice_177 : jj_D cX9_splice 177 (.iload 9) 2 179 := ⟨rfl, by decide +kernel⟩
theorem dX9_splice_179 : jj_D cX9_splice 179 (.ifCond .eq 7) 3 182 := ⟨rfl, by decide +kernel⟩
theorem dX9_splice_182 : jj_D cX9_splice 182 (.iconst 0) 1 183 := ⟨rfl, by decide +kernel⟩
theorem dX9_splice_183 : jj_D cX9_splice 183 (.goto 4) 3 186 := ⟨rfl, by decide +kernel⟩
theorem dX9_splice_186 : jj_D cX9_splice 186 (.iconst 3) 1 187 := ⟨rfl, by decide +kernel⟩
theorem dX9_splice_187 : jj_D cX9_splice 187 (.invokevirtual 118) 3 190 := ⟨rfl, by decide +kernel⟩
theorem dX9_splice_190 : jj_D cX9_splice 190 (.ifCond .ne 5) 3 193 := ⟨rfl, by decide +kernel⟩
theorem dX9_splice_193 : jj_D cX9_splice 193 (.iconst 0) 1 194 := ⟨rfl, by decide +kernel⟩
theorem dX9_splice_194 : jj_D cX9_splice 194 (.ireturn) 1 195 := ⟨rfl, by decide +kernel⟩
theorem dX9_splice_195 : jj_D cX9_splice 195 (.aload_n 0) 1 196 := ⟨rfl, by decide +kernel⟩
theorem dX9_splice_196 : jj_D cX9_splice 196 (.getfield 16) 3 199 := ⟨rfl, by decide +kernel⟩
theorem dX9_splice_199 : jj_D cX9_splice 199 (.iload_n 1) 1 200 := ⟨rfl, by decide +kernel⟩
theorem dX9_splice_200 : jj_D cX9_splice 200 (.iaload) 1 201 := ⟨rfl, by decide +kernel⟩
theorem dX9_splice_201 : jj_D cX9_splice 201 (.istore 10) 2 203 := ⟨rfl, by decide +kernel⟩
theorem dX9_splice_203 : jj_D cX9_splice 203 (.aload_n 0) 1 204 := ⟨rfl, by decide +kernel⟩
theorem dX9_splice_204 : jj_D cX9_splice 204 (.iload_n 1) 1 205 := ⟨rfl, by decide +kernel⟩
theorem dX9_splice_205 : jj_D cX9_splice 205 (.iload_n 2) 1 206 := ⟨rfl, by decide +kernel⟩
theorem dX9_splice_206 : jj_D cX9_splice 206 (.iload_n 3) 1 207 := ⟨rfl, by decide +kernel⟩
theorem dX9_splice_207 : jj_D cX9_splice 207 (.invokevirtual 143) 3 210 := ⟨rfl, by decide +kernel⟩
theorem dX9_splice_210 : jj_D cX9_splice 210 (.iload 8) 2 212 := ⟨rfl, by decide +kernel⟩
theorem dX9_splice_212 : jj_D cX9_splice 212 (.ifCond .eq 42) 3 215 := ⟨rfl, by decide +kernel⟩
theorem dX9_splice_215 : jj_D cX9_splice 215 (.aload_n 0) 1 216 := ⟨rfl, by decide +kernel⟩
theorem dX9_splice_216 : jj_D cX9_splice 216 (.iload 4) 2 218 := ⟨rfl, by decide +kernel⟩
theorem dX9_splice_218 : jj_D cX9_splice 218 (.iconst 0) 1 219 := ⟨rfl, by decide +kernel⟩
theorem dX9_splice_219 : jj_D cX9_splice 219 (.aload_n 0) 1 220 := ⟨rfl, by decide +kernel⟩
theorem dX9_splice_220 : jj_D cX9_splice 220 (.iload 4) 2 222 := ⟨rfl, by decide +kernel⟩
theorem dX9_splice_222 : jj_D cX9_splice 222 (.invokevirtual 132) 3 225 := ⟨rfl, by decide +kernel⟩
theorem dX9_splice_225 : jj_D cX9_splice 225 (.invokevirtual 143) 3 228 := ⟨rfl, by decide +kernel⟩
theorem dX9_splice_228 : jj_D cX9_splice 228 (.aload_n 0) 1 229 := ⟨rfl, by decide +kernel⟩
theorem dX9_splice_229 : jj_D cX9_splice 229 (.getfield 16) 3 232 := ⟨rfl, by decide +kernel⟩
theorem dX9_splice_232 : jj_D cX9_splice 232 (.iload 4) 2 234 := ⟨rfl, by decide +kernel⟩
theorem dX9_splice_234 : jj_D cX9_splice 234 (.iaload) 1 235 := ⟨rfl, by decide +kernel⟩
theorem dX9_splice_235 : jj_D cX9_splice 235 (.iload 10) 2 237 := ⟨rfl, by decide +kernel⟩
theorem dX9_splice_237 : jj_D cX9_splice 237 (.if_icmp .le 13) 3 240 := ⟨rfl, by decide +kernel⟩
theorem dX9_splice_240 : jj_D cX9_splice 240 (.aload_n 0) 1 241 := ⟨rfl, by decide +kernel⟩
theorem dX9_splice_241 : jj_D cX9_splice 241 (.getfield 16) 3 244 := ⟨rfl, by decide +kernel⟩
theorem dX9_splice_244 : jj_D cX9_splice 244 (.iload 4) 2 246 := ⟨rfl, by decide +kernel⟩
theorem dX9_splice_246 : jj_D cX9_splice 246 (.iaload) 1 247 := ⟨rfl, by decide +kernel⟩
theorem dX9_splice_247 : jj_D cX9_splice 247 (.goto 5) 3 250 := ⟨rfl, by decide +kernel⟩
theorem dX9_splice_250 : jj_D cX9_splice 250 (.iload 10) 2 252 := ⟨rfl, by decide +kernel⟩
theorem dX9_splice_252 : jj_D cX9_splice 252 (.istore 10) 2 254 := ⟨rfl, by decide +kernel⟩
theorem dX9_splice_254 : jj_D cX9_splice 254 (.aload_n 0) 1 255 := ⟨rfl, by decide +kernel⟩
theorem dX9_splice_255 : jj_D cX9_splice 255 (.getfield 22) 3 258 := ⟨rfl, by decide +kernel⟩
theorem dX9_splice_258 : jj_D cX9_splice 258 (.aload_n 0) 1 259 := ⟨rfl, by decide +kernel⟩
theorem dX9_splice_259 : jj_D cX9_splice 259 (.getfield 101) 3 262 := ⟨rfl, by decide +kernel⟩
theorem dX9_splice_262 : jj_D cX9_splice 262 (.iconst (-1)) 1 263 := ⟨rfl, by decide +kernel⟩
theorem dX9_splice_263 : jj_D cX9_splice 263 (.iastore) 1 264 := ⟨rfl, by decide +kernel⟩
theorem dX9_splice_264 : jj_D cX9_splice 264 (.aload_n 0) 1 265 := ⟨rfl, by decide +kernel⟩
theorem dX9_splice_265 : jj_D cX9_splice 265 (.iload 10) 2 267 := ⟨rfl, by decide +kernel⟩
theorem dX9_splice_267 : jj_D cX9_splice 267 (.iconst 1) 1 268 := ⟨rfl, by decide +kernel⟩
theorem dX9_splice_268 : jj_D cX9_splice 268 (.iadd) 1 269 := ⟨rfl, by decide +kernel⟩
theorem dX9_splice_269 : jj_D cX9_splice 269 (.iload 5) 2 271 := ⟨rfl, by decide +kernel⟩
theorem dX9_splice_271 : jj_D cX9_splice 271 (.invokevirtual 125) 3 274 := ⟨rfl, by decide +kernel⟩
theorem dX9_splice_274 : jj_D cX9_splice 274 (.ireturn) 1 275 := ⟨rfl, by decide +kernel⟩
theorem dX9_shed_0 : jj_D cX9_shed 0 (.aload_n 0) 1 1 := ⟨rfl, by decide +kernel⟩
theorem dX9_shed_1 : jj_D cX9_shed 1 (.iload_n 1) 1 2 := ⟨rfl, by decide +kernel⟩
theorem dX9_shed_2 : jj_D cX9_shed 2 (.invokevirtual 129) 3 5 := ⟨rfl, by decide +kernel⟩
theorem dX9_shed_5 : jj_D cX9_shed 5 (.istore_n 2) 1 6 := ⟨rfl, by decide +kernel⟩
theorem dX9_shed_6 : jj_D cX9_shed 6 (.aload_n 0) 1 7 := ⟨rfl, by decide +kernel⟩
theorem dX9_shed_7 : jj_D cX9_shed 7 (.iload_n 2) 1 8 := ⟨rfl, by decide +kernel⟩
theorem dX9_shed_8 : jj_D cX9_shed 8 (.ifCond .ne 7) 3 11 := ⟨rfl, by decide +kernel⟩
theorem dX9_shed_11 : jj_D cX9_shed 11 (.iconst 1) 1 12 := ⟨rfl, by decide +kernel⟩
theorem dX9_shed_12 : jj_D cX9_shed 12 (.goto 17) 3 15 := ⟨rfl, by decide +kernel⟩
theorem dX9_shed_15 : jj_D cX9_shed 15 (.aload_n 0) 1 16 := ⟨rfl, by decide +kernel⟩
theorem dX9_shed_16 : jj_D cX9_shed 16 (.getfield 7) 3 19 := ⟨rfl, by decide +kernel⟩
theorem dX9_shed_19 : jj_D cX9_shed 19 (.iload_n 1) 1 20 := ⟨rfl, by decide +kernel⟩
theorem dX9_shed_20 : jj_D cX9_shed 20 (.iaload) 1 21 := ⟨rfl, by decide +kernel⟩
theorem dX9_shed_21 : jj_D cX9_shed 21 (.ifCond .ne 7) 3 24 := ⟨rfl, by decide +kernel⟩
theorem dX9_shed_24 : jj_D cX9_shed 24 (.iconst 0) 1 25 := ⟨rfl, by decide +kernel⟩
theorem dX9_shed_25 : jj_D cX9_shed 25 (.goto 4) 3 28 := ⟨rfl, by decide +kernel⟩
theorem dX9_shed_28 : jj_D cX9_shed 28 (.iconst 2) 1 29 := ⟨rfl, by decide +kernel⟩
theorem dX9_shed_29 : jj_D cX9_shed 29 (.invokevirtual 118) 3 32 := ⟨rfl, by decide +kernel⟩
theorem dX9_shed_32 : jj_D cX9_shed 32 (.ifCond .eq 10) 3 35 := ⟨rfl, by decide +kernel⟩
theorem dX9_shed_35 : jj_D cX9_shed 35 (.aload_n 0) 1 36 := ⟨rfl, by decide +kernel⟩
theorem dX9_shed_36 : jj_D cX9_shed 36 (.getfield 7) 3 39 := ⟨rfl, by decide +kernel⟩
theorem dX9_shed_39 : jj_D cX9_shed 39 (.iload_n 1) 1 40 := ⟨rfl, by decide +kernel⟩
theorem dX9_shed_40 : jj_D cX9_shed 40 (.iconst 1) 1 41 := ⟨rfl, by decide +kernel⟩
theorem dX9_shed_41 : jj_D cX9_shed 41 (.iastore) 1 42 := ⟨rfl, by decide +kernel⟩
theorem dX9_shed_42 : jj_D cX9_shed 42 (.return_) 1 43 := ⟨rfl, by decide +kernel⟩
theorem dX9_bake_0 : jj_D cX9_bake 0 (.aload_n 0) 1 1 := ⟨rfl, by decide +kernel⟩
theorem dX9_bake_1 : jj_D cX9_bake 1 (.iload_n 1) 1 2 := ⟨rfl, by decide +kernel⟩
theorem dX9_bake_2 : jj_D cX9_bake 2 (.invokevirtual 129) 3 5 := ⟨rfl, by decide +kernel⟩
theorem dX9_bake_5 : jj_D cX9_bake 5 (.istore_n 2) 1 6 := ⟨rfl, by decide +kernel⟩
theorem dX9_bake_6 : jj_D cX9_bake 6 (.aload_n 0) 1 7 := ⟨rfl, by decide +kernel⟩
theorem dX9_bake_7 : jj_D cX9_bake 7 (.iload_n 2) 1 8 := ⟨rfl, by decide +kernel⟩
theorem dX9_bake_8 : jj_D cX9_bake 8 (.ifCond .ne 7) 3 11 := ⟨rfl, by decide +kernel⟩
theorem dX9_bake_11 : jj_D cX9_bake 11 (.iconst 1) 1 12 := ⟨rfl, by decide +kernel⟩
theorem dX9_bake_12 : jj_D cX9_bake 12 (.goto 18) 3 15 := ⟨rfl, by decide +kernel⟩
theorem dX9_bake_15 : jj_D cX9_bake 15 (.aload_n 0) 1 16 := ⟨rfl, by decide +kernel⟩
theorem dX9_bake_16 : jj_D cX9_bake 16 (.getfield 7) 3 19 := ⟨rfl, by decide +kernel⟩
theorem dX9_bake_19 : jj_D cX9_bake 19 (.iload_n 1) 1 20 := ⟨rfl, by decide +kernel⟩
theorem dX9_bake_20 : jj_D cX9_bake 20 (.iaload) 1 21 := ⟨rfl, by decide +kernel⟩
theorem dX9_bake_21 : jj_D cX9_bake 21 (.iconst 1) 1 22 := ⟨rfl, by decide +kernel⟩
theorem dX9_bake_22 : jj_D cX9_bake 22 (.if_icmp .ne 7) 3 25 := ⟨rfl, by decide +kernel⟩
theorem dX9_bake_25 : jj_D cX9_bake 25 (.iconst 0) 1 26 := ⟨rfl, by decide +kernel⟩
theorem dX9_bake_26 : jj_D cX9_bake 26 (.goto 4) 3 29 := ⟨rfl, by decide +kernel⟩
theorem dX9_bake_29 : jj_D cX9_bake 29 (.iconst 2) 1 30 := ⟨rfl, by decide +kernel⟩
theorem dX9_bake_30 : jj_D cX9_bake 30 (.invokevirtual 118) 3 33 := ⟨rfl, by decide +kernel⟩
theorem dX9_bake_33 : jj_D cX9_bake 33 (.ifCond .ne 5) 3 36 := ⟨rfl, by decide +kernel⟩
theorem dX9_bake_36 : jj_D cX9_bake 36 (.iconst 0) 1 37 := ⟨rfl, by decide +kernel⟩
theorem dX9_bake_37 : jj_D cX9_bake 37 (.ireturn) 1 38 := ⟨rfl, by decide +kernel⟩
theorem dX9_bake_38 : jj_D cX9_bake 38 (.aload_n 0) 1 39 := ⟨rfl, by decide +kernel⟩
theorem dX9_bake_39 : jj_D cX9_bake 39 (.getfield 7) 3 42 := ⟨rfl, by decide +kernel⟩
theorem dX9_bake_42 : jj_D cX9_bake 42 (.iload_n 1) 1 43 := ⟨rfl, by decide +kernel⟩
theorem dX9_bake_43 : jj_D cX9_bake 43 (.iconst 2) 1 44 := ⟨rfl, by decide +kernel⟩
theorem dX9_bake_44 : jj_D cX9_bake 44 (.iastore) 1 45 := ⟨rfl, by decide +kernel⟩
theorem dX9_bake_45 : jj_D cX9_bake 45 (.aload_n 0) 1 46 := ⟨rfl, by decide +kernel⟩
theorem dX9_bake_46 : jj_D cX9_bake 46 (.getfield 13) 3 49 := ⟨rfl, by decide +kernel⟩
theorem dX9_bake_49 : jj_D cX9_bake 49 (.iload_n 1) 1 50 := ⟨rfl, by decide +kernel⟩
theorem dX9_bake_50 : jj_D cX9_bake 50 (.aload_n 0) 1 51 := ⟨rfl, by decide +kernel⟩
theorem dX9_bake_51 : jj_D cX9_bake 51 (.getfield 108) 3 54 := ⟨rfl, by decide +kernel⟩
theorem dX9_bake_54 : jj_D cX9_bake 54 (.iastore) 1 55 := ⟨rfl, by decide +kernel⟩
theorem dX9_bake_55 : jj_D cX9_bake 55 (.aload_n 0) 1 56 := ⟨rfl, by decide +kernel⟩
theorem dX9_bake_56 : jj_D cX9_bake 56 (.getfield 108) 3 59 := ⟨rfl, by decide +kernel⟩
theorem dX9_bake_59 : jj_D cX9_bake 59 (.bipush 30) 2 61 := ⟨rfl, by decide +kernel⟩
theorem dX9_bake_61 : jj_D cX9_bake 61 (.iadd) 1 62 := ⟨rfl, by decide +kernel⟩
theorem dX9_bake_62 : jj_D cX9_bake 62 (.ireturn) 1 63 := ⟨rfl, by decide +kernel⟩
theorem dX9_fire_0 : jj_D cX9_fire 0 (.aload_n 0) 1 1 := ⟨rfl, by decide +kernel⟩
theorem dX9_fire_1 : jj_D cX9_fire 1 (.iload_n 1) 1 2 := ⟨rfl, by decide +kernel⟩
theorem dX9_fire_2 : jj_D cX9_fire 2 (.invokestatic 115) 3 5 := ⟨rfl, by decide +kernel⟩
theorem dX9_fire_5 : jj_D cX9_fire 5 (.ifCond .eq 7) 3 8 := ⟨rfl, by decide +kernel⟩
theorem dX9_fire_8 : jj_D cX9_fire 8 (.iconst 0) 1 9 := ⟨rfl, by decide +kernel⟩
theorem dX9_fire_9 : jj_D cX9_fire 9 (.goto 4) 3 12 := ⟨rfl, by decide +kernel⟩
theorem dX9_fire_12 : jj_D cX9_fire 12 (.iconst 1) 1 13 := ⟨rfl, by decide +kernel⟩
theorem dX9_fire_13 : jj_D cX9_fire 13 (.invokevirtual 118) 3 16 := ⟨rfl, by decide +kernel⟩
theorem dX9_fire_16 : jj_D cX9_fire 16 (.ifCond .ne 5) 3 19 := ⟨rfl, by decide +kernel⟩
theorem dX9_fire_19 : jj_D cX9_fire 19 (.iconst 0) 1 20 := ⟨rfl, by decide +kernel⟩
theorem dX9_fire_20 : jj_D cX9_fire 20 (.ireturn) 1 21 := ⟨rfl, by decide +kernel⟩
theorem dX9_fire_21 : jj_D cX9_fire 21 (.iconst 0) 1 22 := ⟨rfl, by decide +kernel⟩
theorem dX9_fire_22 : jj_D cX9_fire 22 (.istore_n 2) 1 23 := ⟨rfl, by decide +kernel⟩
theorem dX9_fire_23 : jj_D cX9_fire 23 (.iconst 0) 1 24 := ⟨rfl, by decide +kernel⟩
theorem dX9_fire_24 : jj_D cX9_fire 24 (.istore_n 3) 1 25 := ⟨rfl, by decide +kernel⟩
theorem dX9_fire_25 : jj_D cX9_fire 25 (.iload_n 3) 1 26 := ⟨rfl, by decide +kernel⟩
theorem dX9_fire_26 : jj_D cX9_fire 26 (.aload_n 0) 1 27 := ⟨rfl, by decide +kernel⟩
theorem dX9_fire_27 : jj_D cX9_fire 27 (.getfield 101) 3 30 := ⟨rfl, by decide +kernel⟩
theorem dX9_fire_30 : jj_D cX9_fire 30 (.if_icmp .ge 39) 3 33 := ⟨rfl, by decide +kernel⟩
theorem dX9_fire_33 : jj_D cX9_fire 33 (.aload_n 0) 1 34 := ⟨rfl, by decide +kernel⟩
theorem dX9_fire_34 : jj_D cX9_fire 34 (.getfield 19) 3 37 := ⟨rfl, by decide +kernel⟩
theorem dX9_fire_37 : jj_D cX9_fire 37 (.iload_n 3) 1 38 := ⟨rfl, by decide +kernel⟩
theorem dX9_fire_38 : jj_D cX9_fire 38 (.iaload) 1 39 := ⟨rfl, by decide +kernel⟩
theorem dX9_fire_39 : jj_D cX9_fire 39 (.iload_n 1) 1 40 := ⟨rfl, by decide +kernel⟩
theorem dX9_fire_40 : jj_D cX9_fire 40 (.if_icmp .ne 23) 3 43 := ⟨rfl, by decide +kernel⟩
theorem dX9_fire_43 : jj_D cX9_fire 43 (.aload_n 0) 1 44 := ⟨rfl, by decide +kernel⟩
theorem dX9_fire_44 : jj_D cX9_fire 44 (.getfield 7) 3 47 := ⟨rfl, by decide +kernel⟩
theorem dX9_fire_47 : jj_D cX9_fire 47 (.iload_n 3) 1 48 := ⟨rfl, by decide +kernel⟩
theorem dX9_fire_48 : jj_D cX9_fire 48 (.iaload) 1 49 := ⟨rfl, by decide +kernel⟩
theorem dX9_fire_49 : jj_D cX9_fire 49 (.iconst 3) 1 50 := ⟨rfl, by decide +kernel⟩
theorem dX9_fire_50 : jj_D cX9_fire 50 (.if_icmp .eq 13) 3 53 := ⟨rfl, by decide +kernel⟩
theorem dX9_fire_53 : jj_D cX9_fire 53 (.aload_n 0) 1 54 := ⟨rfl, by decide +kernel⟩
theorem dX9_fire_54 : jj_D cX9_fire 54 (.getfield 7) 3 57 := ⟨rfl, by decide +kernel⟩
theorem dX9_fire_57 : jj_D cX9_fire 57 (.iload_n 3) 1 58 := ⟨rfl, by decide +kernel⟩
theorem dX9_fire_58 : jj_D cX9_fire 58 (.iconst 3) 1 59 := ⟨rfl, by decide +kernel⟩
theorem dX9_fire_59 : jj_D cX9_fire 59 (.iastore) 1 60 := ⟨rfl, by decide +kernel⟩
theorem dX9_fire_60 : jj_D cX9_fire 60 (.iinc 2 1) 3 63 := ⟨rfl, by decide +kernel⟩
theorem dX9_fire_63 : jj_D cX9_fire 63 (.iinc 3 1) 3 66 := ⟨rfl, by decide +kernel⟩
theorem dX9_fire_66 : jj_D cX9_fire 66 (.goto (-41)) 3 69 := ⟨rfl, by decide +kernel⟩
theorem dX9_fire_69 : jj_D cX9_fire 69 (.iload_n 2) 1 70 := ⟨rfl, by decide +kernel⟩
theorem dX9_fire_70 : jj_D cX9_fire 70 (.ireturn) 1 71 := ⟨rfl, by decide +kernel⟩
theorem dX9_tapeIs_0 : jj_D cX9_tapeIs 0 (.aload_n 0) 1 1 := ⟨rfl, by decide +kernel⟩
theorem dX9_tapeIs_1 : jj_D cX9_tapeIs 1 (.aload_n 0) 1 2 := ⟨rfl, by decide +kernel⟩
theorem dX9_tapeIs_2 : jj_D cX9_tapeIs 2 (.iload_n 1) 1 3 := ⟨rfl, by decide +kernel⟩
theorem dX9_tapeIs_3 : jj_D cX9_tapeIs 3 (.invokevirtual 129) 3 6 := ⟨rfl, by decide +kernel⟩
theorem dX9_tapeIs_6 : jj_D cX9_tapeIs 6 (.ifCond .ne 7) 3 9 := ⟨rfl, by decide +kernel⟩
theorem dX9_tapeIs_9 : jj_D cX9_tapeIs 9 (.iconst 1) 1 10 := ⟨rfl, by decide +kernel⟩
theorem dX9_tapeIs_10 : jj_D cX9_tapeIs 10 (.goto 17) 3 13 := ⟨rfl, by decide +kernel⟩
theorem dX9_tapeIs_13 : jj_D cX9_tapeIs 13 (.iload_n 2) 1 14 := ⟨rfl, by decide +kernel⟩
theorem dX9_tapeIs_14 : jj_D cX9_tapeIs 14 (.iconst 0) 1 15 := ⟨rfl, by decide +kernel⟩
theorem dX9_tapeIs_15 : jj_D cX9_tapeIs 15 (.iconst 5) 1 16 := ⟨rfl, by decide +kernel⟩
theorem dX9_tapeIs_16 : jj_D cX9_tapeIs 16 (.invokestatic 104) 3 19 := ⟨rfl, by decide +kernel⟩
theorem dX9_tapeIs_19 : jj_D cX9_tapeIs 19 (.ifCond .eq 7) 3 22 := ⟨rfl, by decide +kernel⟩
theorem dX9_tapeIs_22 : jj_D cX9_tapeIs 22 (.iconst 0) 1 23 := ⟨rfl, by decide +kernel⟩
theorem dX9_tapeIs_23 : jj_D cX9_tapeIs 23 (.goto 4) 3 26 := ⟨rfl, by decide +kernel⟩
theorem dX9_tapeIs_26 : jj_D cX9_tapeIs 26 (.iconst 2) 1 27 := ⟨rfl, by decide +kernel⟩
theorem dX9_tapeIs_27 : jj_D cX9_tapeIs 27 (.invokevirtual 118) 3 30 := ⟨rfl, by decide +kernel⟩
theorem dX9_tapeIs_30 : jj_D cX9_tapeIs 30 (.ifCond .ne 5) 3 33 := ⟨rfl, by decide +kernel⟩
theorem dX9_tapeIs_33 : jj_D cX9_tapeIs 33 (.iconst 0) 1 34 := ⟨rfl, by decide +kernel⟩
theorem dX9_tapeIs_34 : jj_D cX9_tapeIs 34 (.ireturn) 1 35 := ⟨rfl, by decide +kernel⟩
theorem dX9_tapeIs_35 : jj_D cX9_tapeIs 35 (.iload_n 2) 1 36 := ⟨rfl, by decide +kernel⟩
theorem dX9_tapeIs_36 : jj_D cX9_tapeIs 36 (.ifCond .ne 12) 3 39 := ⟨rfl, by decide +kernel⟩
theorem dX9_tapeIs_39 : jj_D cX9_tapeIs 39 (.aload_n 0) 1 40 := ⟨rfl, by decide +kernel⟩
theorem dX9_tapeIs_40 : jj_D cX9_tapeIs 40 (.getfield 7) 3 43 := ⟨rfl, by decide +kernel⟩
theorem dX9_tapeIs_43 : jj_D cX9_tapeIs 43 (.iload_n 1) 1 44 := ⟨rfl, by decide +kernel⟩
theorem dX9_tapeIs_44 : jj_D cX9_tapeIs 44 (.iaload) 1 45 := ⟨rfl, by decide +kernel⟩
theorem dX9_tapeIs_45 : jj_D cX9_tapeIs 45 (.goto 71) 3 48 := ⟨rfl, by decide +kernel⟩
theorem dX9_tapeIs_48 : jj_D cX9_tapeIs 48 (.iload_n 2) 1 49 := ⟨rfl, by decide +kernel⟩
theorem dX9_tapeIs_49 : jj_D cX9_tapeIs 49 (.iconst 1) 1 50 := ⟨rfl, by decide +kernel⟩
theorem dX9_tapeIs_50 : jj_D cX9_tapeIs 50 (.if_icmp .ne 19) 3 53 := ⟨rfl, by decide +kernel⟩
theorem dX9_tapeIs_53 : jj_D cX9_tapeIs 53 (.aload_n 0) 1 54 := ⟨rfl, by decide +kernel⟩
theorem dX9_tapeIs_54 : jj_D cX9_tapeIs 54 (.iload_n 1) 1 55 := ⟨rfl, by decide +kernel⟩
theorem dX9_tapeIs_55 : jj_D cX9_tapeIs 55 (.invokevirtual 136) 3 58 := ⟨rfl, by decide +kernel⟩
theorem dX9_tapeIs_58 : jj_D cX9_tapeIs 58 (.ifCond .eq 7) 3 61 := ⟨rfl, by decide +kernel⟩
theorem dX9_tapeIs_61 : jj_D cX9_tapeIs 61 (.iconst 1) 1 62 := ⟨rfl, by decide +kernel⟩
theorem dX9_tapeIs_62 : jj_D cX9_tapeIs 62 (.goto 54) 3 65 := ⟨rfl, by decide +kernel⟩
theorem dX9_tapeIs_65 : jj_D cX9_tapeIs 65 (.iconst 0) 1 66 := ⟨rfl, by decide +kernel⟩
theorem dX9_tapeIs_66 : jj_D cX9_tapeIs 66 (.goto 50) 3 69 := ⟨rfl, by decide +kernel⟩
theorem dX9_tapeIs_69 : jj_D cX9_tapeIs 69 (.iload_n 2) 1 70 := ⟨rfl, by decide +kernel⟩
theorem dX9_tapeIs_70 : jj_D cX9_tapeIs 70 (.iconst 2) 1 71 := ⟨rfl, by decide +kernel⟩
theorem dX9_tapeIs_71 : jj_D cX9_tapeIs 71 (.if_icmp .ne 11) 3 74 := ⟨rfl, by decide +kernel⟩
theorem dX9_tapeIs_74 : jj_D cX9_tapeIs 74 (.aload_n 0) 1 75 := ⟨rfl, by decide +kernel⟩
theorem dX9_tapeIs_75 : jj_D cX9_tapeIs 75 (.iload_n 1) 1 76 := ⟨rfl, by decide +kernel⟩
theorem dX9_tapeIs_76 : jj_D cX9_tapeIs 76 (.invokevirtual 132) 3 79 := ⟨rfl, by decide +kernel⟩
theorem dX9_tapeIs_79 : jj_D cX9_tapeIs 79 (.goto 37) 3 82 := ⟨rfl, by decide +kernel⟩
theorem dX9_tapeIs_82 : jj_D cX9_tapeIs 82 (.iload_n 2) 1 83 := ⟨rfl, by decide +kernel⟩
theorem dX9_tapeIs_83 : jj_D cX9_tapeIs 83 (.iconst 3) 1 84 := ⟨rfl, by decide +kernel⟩
theorem dX9_tapeIs_84 : jj_D cX9_tapeIs 84 (.if_icmp .ne 12) 3 87 := ⟨rfl, by decide +kernel⟩
theorem dX9_tapeIs_87 : jj_D cX9_tapeIs 87 (.aload_n 0) 1 88 := ⟨rfl, by decide +kernel⟩
theorem dX9_tapeIs_88 : jj_D cX9_tapeIs 88 (.getfield 16) 3 91 := ⟨rfl, by decide +kernel⟩
theorem dX9_tapeIs_91 : jj_D cX9_tapeIs 91 (.iload_n 1) 1 92 := ⟨rfl, by decide +kernel⟩
theorem dX9_tapeIs_92 : jj_D cX9_tapeIs 92 (.iaload) 1 93 := ⟨rfl, by decide +kernel⟩
theorem dX9_tapeIs_93 : jj_D cX9_tapeIs 93 (.goto 23) 3 96 := ⟨rfl, by decide +kernel⟩
theorem dX9_tapeIs_96 : jj_D cX9_tapeIs 96 (.iload_n 2) 1 97 := ⟨rfl, by decide +kernel⟩
theorem dX9_tapeIs_97 : jj_D cX9_tapeIs 97 (.iconst 4) 1 98 := ⟨rfl, by decide +kernel⟩
theorem dX9_tapeIs_98 : jj_D cX9_tapeIs 98 (.if_icmp .ne 12) 3 101 := ⟨rfl, by decide +kernel⟩
theorem dX9_tapeIs_101 : jj_D cX9_tapeIs 101 (.aload_n 0) 1 102 := ⟨rfl, by decide +kernel⟩
theorem dX9_tapeIs_102 : jj_D cX9_tapeIs 102 (.getfield 19) 3 105 := ⟨rfl, by decide +kernel⟩
theorem dX9_tapeIs_105 : jj_D cX9_tapeIs 105 (.iload_n 1) 1 106 := ⟨rfl, by decide +kernel⟩
theorem dX9_tapeIs_106 : jj_D cX9_tapeIs 106 (.iaload) 1 107 := ⟨rfl, by decide +kernel⟩
theorem dX9_tapeIs_107 : jj_D cX9_tapeIs 107 (.goto 9) 3 110 := ⟨rfl, by decide +kernel⟩
theorem dX9_tapeIs_110 : jj_D cX9_tapeIs 110 (.aload_n 0) 1 111 := ⟨rfl, by decide +kernel⟩
theorem dX9_tapeIs_111 : jj_D cX9_tapeIs 111 (.getfield 25) 3 114 := ⟨rfl, by decide +kernel⟩
theorem dX9_tapeIs_114 : jj_D cX9_tapeIs 114 (.iload_n 1) 1 115 := ⟨rfl, by decide +kernel⟩
theorem dX9_tapeIs_115 : jj_D cX9_tapeIs 115 (.iaload) 1 116 := ⟨rfl, by decide +kernel⟩
theorem dX9_tapeIs_116 : jj_D cX9_tapeIs 116 (.ireturn) 1 117 := ⟨rfl, by decide +kernel⟩
theorem dX9_heard_0 : jj_D cX9_heard 0 (.aload_n 0) 1 1 := ⟨rfl, by decide +kernel⟩
theorem dX9_heard_1 : jj_D cX9_heard 1 (.aload_n 0) 1 2 := ⟨rfl, by decide +kernel⟩
theorem dX9_heard_2 : jj_D cX9_heard 2 (.iload_n 1) 1 3 := ⟨rfl, by decide +kernel⟩
theorem dX9_heard_3 : jj_D cX9_heard 3 (.invokevirtual 129) 3 6 := ⟨rfl, by decide +kernel⟩
theorem dX9_heard_6 : jj_D cX9_heard 6 (.ifCond .ne 7) 3 9 := ⟨rfl, by decide +kernel⟩
theorem dX9_heard_9 : jj_D cX9_heard 9 (.iconst 1) 1 10 := ⟨rfl, by decide +kernel⟩
theorem dX9_heard_10 : jj_D cX9_heard 10 (.goto 12) 3 13 := ⟨rfl, by decide +kernel⟩
theorem dX9_heard_13 : jj_D cX9_heard 13 (.iload_n 2) 1 14 := ⟨rfl, by decide +kernel⟩
theorem dX9_heard_14 : jj_D cX9_heard 14 (.ifCond .ge 7) 3 17 := ⟨rfl, by decide +kernel⟩
theorem dX9_heard_17 : jj_D cX9_heard 17 (.iconst 2) 1 18 := ⟨rfl, by decide +kernel⟩
theorem dX9_heard_18 : jj_D cX9_heard 18 (.goto 4) 3 21 := ⟨rfl, by decide +kernel⟩
theorem dX9_heard_21 : jj_D cX9_heard 21 (.iconst 0) 1 22 := ⟨rfl, by decide +kernel⟩
theorem dX9_heard_22 : jj_D cX9_heard 22 (.invokevirtual 118) 3 25 := ⟨rfl, by decide +kernel⟩
theorem dX9_heard_25 : jj_D cX9_heard 25 (.ifCond .ne 5) 3 28 := ⟨rfl, by decide +kernel⟩
theorem dX9_heard_28 : jj_D cX9_heard 28 (.iconst 0) 1 29 := ⟨rfl, by decide +kernel⟩
theorem dX9_heard_29 : jj_D cX9_heard 29 (.ireturn) 1 30 := ⟨rfl, by decide +kernel⟩
theorem dX9_heard_30 : jj_D cX9_heard 30 (.iconst 0) 1 31 := ⟨rfl, by decide +kernel⟩
theorem dX9_heard_31 : jj_D cX9_heard 31 (.istore_n 3) 1 32 := ⟨rfl, by decide +kernel⟩
theorem dX9_heard_32 : jj_D cX9_heard 32 (.bipush 20) 2 34 := ⟨rfl, by decide +kernel⟩
theorem dX9_heard_34 : jj_D cX9_heard 34 (.iload_n 1) 1 35 := ⟨rfl, by decide +kernel⟩
theorem dX9_heard_35 : jj_D cX9_heard 35 (.imul) 1 36 := ⟨rfl, by decide +kernel⟩
theorem dX9_heard_36 : jj_D cX9_heard 36 (.istore 4) 2 38 := ⟨rfl, by decide +kernel⟩
theorem dX9_heard_38 : jj_D cX9_heard 38 (.iload 4) 2 40 := ⟨rfl, by decide +kernel⟩
theorem dX9_heard_40 : jj_D cX9_heard 40 (.bipush 20) 2 42 := ⟨rfl, by decide +kernel⟩
theorem dX9_heard_42 : jj_D cX9_heard 42 (.iload_n 1) 1 43 := ⟨rfl, by decide +kernel⟩
theorem dX9_heard_43 : jj_D cX9_heard 43 (.imul) 1 44 := ⟨rfl, by decide +kernel⟩
theorem dX9_heard_44 : jj_D cX9_heard 44 (.aload_n 0) 1 45 := ⟨rfl, by decide +kernel⟩
theorem dX9_heard_45 : jj_D cX9_heard 45 (.getfield 25) 3 48 := ⟨rfl, by decide +kernel⟩
theorem dX9_heard_48 : jj_D cX9_heard 48 (.iload_n 1) 1 49 := ⟨rfl, by decide +kernel⟩
theorem dX9_heard_49 : jj_D cX9_heard 49 (.iaload) 1 50 := ⟨rfl, by decide +kernel⟩
theorem dX9_heard_50 : jj_D cX9_heard 50 (.iadd) 1 51 := ⟨rfl, by decide +kernel⟩
theorem dX9_heard_51 : jj_D cX9_heard 51 (.if_icmp .ge 61) 3 54 := ⟨rfl, by decide +kernel⟩
theorem dX9_heard_54 : jj_D cX9_heard 54 (.iload_n 3) 1 55 := ⟨rfl, by decide +kernel⟩
theorem dX9_heard_55 : jj_D cX9_heard 55 (.aload_n 0) 1 56 := ⟨rfl, by decide +kernel⟩
theorem dX9_heard_56 : jj_D cX9_heard 56 (.getfield 34) 3 59 := ⟨rfl, by decide +kernel⟩
theorem dX9_heard_59 : jj_D cX9_heard 59 (.iload 4) 2 61 := ⟨rfl, by decide +kernel⟩
theorem dX9_heard_61 : jj_D cX9_heard 61 (.iaload) 1 62 := ⟨rfl, by decide +kernel⟩
theorem dX9_heard_62 : jj_D cX9_heard 62 (.iadd) 1 63 := ⟨rfl, by decide +kernel⟩
theorem dX9_heard_63 : jj_D cX9_heard 63 (.aload_n 0) 1 64 := ⟨rfl, by decide +kernel⟩
theorem dX9_heard_64 : jj_D cX9_heard 64 (.getfield 31) 3 67 := ⟨rfl, by decide +kernel⟩
theorem dX9_heard_67 : jj_D cX9_heard 67 (.iload 4) 2 69 := ⟨rfl, by decide +kernel⟩
theorem dX9_heard_69 : jj_D cX9_heard 69 (.iaload) 1 70 := ⟨rfl, by decide +kernel⟩
theorem dX9_heard_70 : jj_D cX9_heard 70 (.isub) 1 71 := ⟨rfl, by decide +kernel⟩
theorem dX9_heard_71 : jj_D cX9_heard 71 (.istore 5) 2 73 := ⟨rfl, by decide +kernel⟩
theorem dX9_heard_73 : jj_D cX9_heard 73 (.iload_n 2) 1 74 := ⟨rfl, by decide +kernel⟩
theorem dX9_heard_74 : jj_D cX9_heard 74 (.iload 5) 2 76 := ⟨rfl, by decide +kernel⟩
theorem dX9_heard_76 : jj_D cX9_heard 76 (.if_icmp .ge 27) 3 79 := ⟨rfl, by decide +kernel⟩
theorem dX9_heard_79 : jj_D cX9_heard 79 (.sipush 1000) 3 82 := ⟨rfl, by decide +kernel⟩
theorem dX9_heard_82 : jj_D cX9_heard 82 (.aload_n 0) 1 83 := ⟨rfl, by decide +kernel⟩
theorem dX9_heard_83 : jj_D cX9_heard 83 (.getfield 28) 3 86 := ⟨rfl, by decide +kernel⟩
theorem dX9_heard_86 : jj_D cX9_heard 86 (.iload 4) 2 88 := ⟨rfl, by decide +kernel⟩
theorem dX9_heard_88 : jj_D cX9_heard 88 (.iaload) 1 89 := ⟨rfl, by decide +kernel⟩
theorem dX9_heard_89 : jj_D cX9_heard 89 (.imul) 1 90 := ⟨rfl, by decide +kernel⟩
theorem dX9_heard_90 : jj_D cX9_heard 90 (.aload_n 0) 1 91 := ⟨rfl, by decide +kernel⟩
theorem dX9_heard_91 : jj_D cX9_heard 91 (.getfield 31) 3 94 := ⟨rfl, by decide +kernel⟩
theorem dX9_heard_94 : jj_D cX9_heard 94 (.iload 4) 2 96 := ⟨rfl, by decide +kernel⟩
theorem dX9_heard_96 : jj_D cX9_heard 96 (.iaload) 1 97 := ⟨rfl, by decide +kernel⟩
theorem dX9_heard_97 : jj_D cX9_heard 97 (.iadd) 1 98 := ⟨rfl, by decide +kernel⟩
theorem dX9_heard_98 : jj_D cX9_heard 98 (.iload_n 2) 1 99 := ⟨rfl, by decide +kernel⟩
theorem dX9_heard_99 : jj_D cX9_heard 99 (.iadd) 1 100 := ⟨rfl, by decide +kernel⟩
theorem dX9_heard_100 : jj_D cX9_heard 100 (.iload_n 3) 1 101 := ⟨rfl, by decide +kernel⟩
theorem dX9_heard_101 : jj_D cX9_heard 101 (.isub) 1 102 := ⟨rfl, by decide +kernel⟩
theorem dX9_heard_102 : jj_D cX9_heard 102 (.ireturn) 1 103 := ⟨rfl, by decide +kernel⟩
theorem dX9_heard_103 : jj_D cX9_heard 103 (.iload 5) 2 105 := ⟨rfl, by decide +kernel⟩
theorem dX9_heard_105 : jj_D cX9_heard 105 (.istore_n 3) 1 106 := ⟨rfl, by decide +kernel⟩
theorem dX9_heard_106 : jj_D cX9_heard 106 (.iinc 4 1) 3 109 := ⟨rfl, by decide +kernel⟩
theorem dX9_heard_109 : jj_D cX9_heard 109 (.goto (-71)) 3 112 := ⟨rfl, by decide +kernel⟩
theorem dX9_heard_112 : jj_D cX9_heard 112 (.iconst (-1)) 1 113 := ⟨rfl, by decide +kernel⟩
theorem dX9_heard_113 : jj_D cX9_heard 113 (.ireturn) 1 114 := ⟨rfl, by decide +kernel⟩
theorem dX9_takesOf_0 : jj_D cX9_takesOf 0 (.iconst 0) 1 1 := ⟨rfl, by decide +kernel⟩
theorem dX9_takesOf_1 : jj_D cX9_takesOf 1 (.istore_n 2) 1 2 := ⟨rfl, by decide +kernel⟩
theorem dX9_takesOf_2 : jj_D cX9_takesOf 2 (.bipush 20) 2 4 := ⟨rfl, by decide +kernel⟩
theorem dX9_takesOf_4 : jj_D cX9_takesOf 4 (.iload_n 1) 1 5 := ⟨rfl, by decide +kernel⟩
theorem dX9_takesOf_5 : jj_D cX9_takesOf 5 (.imul) 1 6 := ⟨rfl, by decide +kernel⟩
theorem dX9_takesOf_6 : jj_D cX9_takesOf 6 (.istore_n 3) 1 7 := ⟨rfl, by decide +kernel⟩
theorem dX9_takesOf_7 : jj_D cX9_takesOf 7 (.iload_n 3) 1 8 := ⟨rfl, by decide +kernel⟩
theorem dX9_takesOf_8 : jj_D cX9_takesOf 8 (.bipush 20) 2 10 := ⟨rfl, by decide +kernel⟩
theorem dX9_takesOf_10 : jj_D cX9_takesOf 10 (.iload_n 1) 1 11 := ⟨rfl, by decide +kernel⟩
theorem dX9_takesOf_11 : jj_D cX9_takesOf 11 (.imul) 1 12 := ⟨rfl, by decide +kernel⟩
theorem dX9_takesOf_12 : jj_D cX9_takesOf 12 (.aload_n 0) 1 13 := ⟨rfl, by decide +kernel⟩
theorem dX9_takesOf_13 : jj_D cX9_takesOf 13 (.getfield 25) 3 16 := ⟨rfl, by decide +kernel⟩
theorem dX9_takesOf_16 : jj_D cX9_takesOf 16 (.iload_n 1) 1 17 := ⟨rfl, by decide +kernel⟩
theorem dX9_takesOf_17 : jj_D cX9_takesOf 17 (.iaload) 1 18 := ⟨rfl, by decide +kernel⟩
theorem dX9_takesOf_18 : jj_D cX9_takesOf 18 (.iadd) 1 19 := ⟨rfl, by decide +kernel⟩
theorem dX9_takesOf_19 : jj_D cX9_takesOf 19 (.if_icmp .ge 20) 3 22 := ⟨rfl, by decide +kernel⟩
theorem dX9_takesOf_22 : jj_D cX9_takesOf 22 (.iload_n 2) 1 23 := ⟨rfl, by decide +kernel⟩
theorem dX9_takesOf_23 : jj_D cX9_takesOf 23 (.iconst 1) 1 24 := ⟨rfl, by decide +kernel⟩
theorem dX9_takesOf_24 : jj_D cX9_takesOf 24 (.aload_n 0) 1 25 := ⟨rfl, by decide +kernel⟩
theorem dX9_takesOf_25 : jj_D cX9_takesOf 25 (.getfield 28) 3 28 := ⟨rfl, by decide +kernel⟩
theorem dX9_takesOf_28 : jj_D cX9_takesOf 28 (.iload_n 3) 1 29 := ⟨rfl, by decide +kernel⟩
theorem dX9_takesOf_29 : jj_D cX9_takesOf 29 (.iaload) 1 30 := ⟨rfl, by decide +kernel⟩
theorem dX9_takesOf_30 : jj_D cX9_takesOf 30 (.ishl) 1 31 := ⟨rfl, by decide +kernel⟩
theorem dX9_takesOf_31 : jj_D cX9_takesOf 31 (.ior) 1 32 := ⟨rfl, by decide +kernel⟩
theorem dX9_takesOf_32 : jj_D cX9_takesOf 32 (.istore_n 2) 1 33 := ⟨rfl, by decide +kernel⟩
theorem dX9_takesOf_33 : jj_D cX9_takesOf 33 (.iinc 3 1) 3 36 := ⟨rfl, by decide +kernel⟩
theorem dX9_takesOf_36 : jj_D cX9_takesOf 36 (.goto (-29)) 3 39 := ⟨rfl, by decide +kernel⟩
theorem dX9_takesOf_39 : jj_D cX9_takesOf 39 (.iload_n 2) 1 40 := ⟨rfl, by decide +kernel⟩
theorem dX9_takesOf_40 : jj_D cX9_takesOf 40 (.ireturn) 1 41 := ⟨rfl, by decide +kernel⟩
theorem dX9_takes_0 : jj_D cX9_takes 0 (.aload_n 0) 1 1 := ⟨rfl, by decide +kernel⟩
theorem dX9_takes_1 : jj_D cX9_takes 1 (.aload_n 0) 1 2 := ⟨rfl, by decide +kernel⟩
theorem dX9_takes_2 : jj_D cX9_takes 2 (.iload_n 1) 1 3 := ⟨rfl, by decide +kernel⟩
theorem dX9_takes_3 : jj_D cX9_takes 3 (.invokevirtual 129) 3 6 := ⟨rfl, by decide +kernel⟩
theorem dX9_takes_6 : jj_D cX9_takes 6 (.ifCond .eq 7) 3 9 := ⟨rfl, by decide +kernel⟩
theorem dX9_takes_9 : jj_D cX9_takes 9 (.iconst 0) 1 10 := ⟨rfl, by decide +kernel⟩
theorem dX9_takes_10 : jj_D cX9_takes 10 (.goto 4) 3 13 := ⟨rfl, by decide +kernel⟩
theorem dX9_takes_13 : jj_D cX9_takes 13 (.iconst 1) 1 14 := ⟨rfl, by decide +kernel⟩
theorem dX9_takes_14 : jj_D cX9_takes 14 (.invokevirtual 118) 3 17 := ⟨rfl, by decide +kernel⟩
theorem dX9_takes_17 : jj_D cX9_takes 17 (.ifCond .eq 11) 3 20 := ⟨rfl, by decide +kernel⟩
theorem dX9_takes_20 : jj_D cX9_takes 20 (.aload_n 0) 1 21 := ⟨rfl, by decide +kernel⟩
theorem dX9_takes_21 : jj_D cX9_takes 21 (.iload_n 1) 1 22 := ⟨rfl, by decide +kernel⟩
theorem dX9_takes_22 : jj_D cX9_takes 22 (.invokevirtual 146) 3 25 := ⟨rfl, by decide +kernel⟩
theorem dX9_takes_25 : jj_D cX9_takes 25 (.goto 4) 3 28 := ⟨rfl, by decide +kernel⟩
theorem dX9_takes_28 : jj_D cX9_takes 28 (.iconst 0) 1 29 := ⟨rfl, by decide +kernel⟩
theorem dX9_takes_29 : jj_D cX9_takes 29 (.ireturn) 1 30 := ⟨rfl, by decide +kernel⟩
theorem dX9_takesAnew_0 : jj_D cX9_takesAnew 0 (.aload_n 0) 1 1 := ⟨rfl, by decide +kernel⟩
theorem dX9_takesAnew_1 : jj_D cX9_takesAnew 1 (.aload_n 0) 1 2 := ⟨rfl, by decide +kernel⟩
theorem dX9_takesAnew_2 : jj_D cX9_takesAnew 2 (.iload_n 1) 1 3 := ⟨rfl, by decide +kernel⟩
theorem dX9_takesAnew_3 : jj_D cX9_takesAnew 3 (.invokevirtual 129) 3 6 := ⟨rfl, by decide +kernel⟩
theorem dX9_takesAnew_6 : jj_D cX9_takesAnew 6 (.ifCond .eq 7) 3 9 := ⟨rfl, by decide +kernel⟩
theorem dX9_takesAnew_9 : jj_D cX9_takesAnew 9 (.iconst 0) 1 10 := ⟨rfl, by decide +kernel⟩
theorem dX9_takesAnew_10 : jj_D cX9_takesAnew 10 (.goto 4) 3 13 := ⟨rfl, by decide +kernel⟩
theorem dX9_takesAnew_13 : jj_D cX9_takesAnew 13 (.iconst 1) 1 14 := ⟨rfl, by decide +kernel⟩
theorem dX9_takesAnew_14 : jj_D cX9_takesAnew 14 (.invokevirtual 118) 3 17 := ⟨rfl, by decide +kernel⟩
theorem dX9_takesAnew_17 : jj_D cX9_takesAnew 17 (.ifCond .eq 11) 3 20 := ⟨rfl, by decide +kernel⟩
theorem dX9_takesAnew_20 : jj_D cX9_takesAnew 20 (.aload_n 0) 1 21 := ⟨rfl, by decide +kernel⟩
theorem dX9_takesAnew_21 : jj_D cX9_takesAnew 21 (.iload_n 1) 1 22 := ⟨rfl, by decide +kernel⟩
theorem dX9_takesAnew_22 : jj_D cX9_takesAnew 22 (.invokevirtual 146) 3 25 := ⟨rfl, by decide +kernel⟩
theorem dX9_takesAnew_25 : jj_D cX9_takesAnew 25 (.goto 4) 3 28 := ⟨rfl, by decide +kernel⟩
theorem dX9_takesAnew_28 : jj_D cX9_takesAnew 28 (.iconst 0) 1 29 := ⟨rfl, by decide +kernel⟩
theorem dX9_takesAnew_29 : jj_D cX9_takesAnew 29 (.ireturn) 1 30 := ⟨rfl, by decide +kernel⟩
theorem dX9_isLost_0 : jj_D cX9_isLost 0 (.aload_n 0) 1 1 := ⟨rfl, by decide +kernel⟩
theorem dX9_isLost_1 : jj_D cX9_isLost 1 (.aload_n 0) 1 2 := ⟨rfl, by decide +kernel⟩
theorem dX9_isLost_2 : jj_D cX9_isLost 2 (.iload_n 1) 1 3 := ⟨rfl, by decide +kernel⟩
theorem dX9_isLost_3 : jj_D cX9_isLost 3 (.invokevirtual 129) 3 6 := ⟨rfl, by decide +kernel⟩
theorem dX9_isLost_6 : jj_D cX9_isLost 6 (.ifCond .eq 17) 3 9 := ⟨rfl, by decide +kernel⟩
theorem dX9_isLost_9 : jj_D cX9_isLost 9 (.aload_n 0) 1 10 := ⟨rfl, by decide +kernel⟩
theorem dX9_isLost_10 : jj_D cX9_isLost 10 (.getfield 22) 3 13 := ⟨rfl, by decide +kernel⟩
theorem dX9_isLost_13 : jj_D cX9_isLost 13 (.iload_n 1) 1 14 := ⟨rfl, by decide +kernel⟩
theorem dX9_isLost_14 : jj_D cX9_isLost 14 (.iaload) 1 15 := ⟨rfl, by decide +kernel⟩
theorem dX9_isLost_15 : jj_D cX9_isLost 15 (.iconst (-1)) 1 16 := ⟨rfl, by decide +kernel⟩
theorem dX9_isLost_16 : jj_D cX9_isLost 16 (.if_icmp .eq 7) 3 19 := ⟨rfl, by decide +kernel⟩
theorem dX9_isLost_19 : jj_D cX9_isLost 19 (.iconst 0) 1 20 := ⟨rfl, by decide +kernel⟩
theorem dX9_isLost_20 : jj_D cX9_isLost 20 (.goto 4) 3 23 := ⟨rfl, by decide +kernel⟩
theorem dX9_isLost_23 : jj_D cX9_isLost 23 (.iconst 1) 1 24 := ⟨rfl, by decide +kernel⟩
theorem dX9_isLost_24 : jj_D cX9_isLost 24 (.invokevirtual 118) 3 27 := ⟨rfl, by decide +kernel⟩
theorem dX9_isLost_27 : jj_D cX9_isLost 27 (.ifCond .ne 5) 3 30 := ⟨rfl, by decide +kernel⟩
theorem dX9_isLost_30 : jj_D cX9_isLost 30 (.iconst 0) 1 31 := ⟨rfl, by decide +kernel⟩
theorem dX9_isLost_31 : jj_D cX9_isLost 31 (.ireturn) 1 32 := ⟨rfl, by decide +kernel⟩
theorem dX9_isLost_32 : jj_D cX9_isLost 32 (.iconst 0) 1 33 := ⟨rfl, by decide +kernel⟩
theorem dX9_isLost_33 : jj_D cX9_isLost 33 (.istore_n 2) 1 34 := ⟨rfl, by decide +kernel⟩
theorem dX9_isLost_34 : jj_D cX9_isLost 34 (.iconst 0) 1 35 := ⟨rfl, by decide +kernel⟩
theorem dX9_isLost_35 : jj_D cX9_isLost 35 (.istore_n 3) 1 36 := ⟨rfl, by decide +kernel⟩
theorem dX9_isLost_36 : jj_D cX9_isLost 36 (.iload_n 3) 1 37 := ⟨rfl, by decide +kernel⟩
theorem dX9_isLost_37 : jj_D cX9_isLost 37 (.aload_n 0) 1 38 := ⟨rfl, by decide +kernel⟩
theorem dX9_isLost_38 : jj_D cX9_isLost 38 (.getfield 101) 3 41 := ⟨rfl, by decide +kernel⟩
theorem dX9_isLost_41 : jj_D cX9_isLost 41 (.if_icmp .ge 42) 3 44 := ⟨rfl, by decide +kernel⟩
theorem dX9_isLost_44 : jj_D cX9_isLost 44 (.iload_n 2) 1 45 := ⟨rfl, by decide +kernel⟩
theorem dX9_isLost_45 : jj_D cX9_isLost 45 (.ifCond .ne 26) 3 48 := ⟨rfl, by decide +kernel⟩
theorem dX9_isLost_48 : jj_D cX9_isLost 48 (.aload_n 0) 1 49 := ⟨rfl, by decide +kernel⟩
theorem dX9_isLost_49 : jj_D cX9_isLost 49 (.getfield 7) 3 52 := ⟨rfl, by decide +kernel⟩
theorem dX9_isLost_52 : jj_D cX9_isLost 52 (.iload_n 3) 1 53 := ⟨rfl, by decide +kernel⟩
theorem dX9_isLost_53 : jj_D cX9_isLost 53 (.iaload) 1 54 := ⟨rfl, by decide +kernel⟩
theorem dX9_isLost_54 : jj_D cX9_isLost 54 (.iconst 3) 1 55 := ⟨rfl, by decide +kernel⟩
theorem dX9_isLost_55 : jj_D cX9_isLost 55 (.if_icmp .eq 20) 3 58 := ⟨rfl, by decide +kernel⟩
theorem dX9_isLost_58 : jj_D cX9_isLost 58 (.aload_n 0) 1 59 := ⟨rfl, by decide +kernel⟩
theorem dX9_isLost_59 : jj_D cX9_isLost 59 (.iload_n 3) 1 60 := ⟨rfl, by decide +kernel⟩
theorem dX9_isLost_60 : jj_D cX9_isLost 60 (.invokevirtual 146) 3 63 := ⟨rfl, by decide +kernel⟩
theorem dX9_isLost_63 : jj_D cX9_isLost 63 (.iload_n 1) 1 64 := ⟨rfl, by decide +kernel⟩
theorem dX9_isLost_64 : jj_D cX9_isLost 64 (.ishr) 1 65 := ⟨rfl, by decide +kernel⟩
theorem dX9_isLost_65 : jj_D cX9_isLost 65 (.iconst 1) 1 66 := ⟨rfl, by decide +kernel⟩
theorem dX9_isLost_66 : jj_D cX9_isLost 66 (.iand) 1 67 := ⟨rfl, by decide +kernel⟩
theorem dX9_isLost_67 : jj_D cX9_isLost 67 (.iconst 1) 1 68 := ⟨rfl, by decide +kernel⟩
theorem dX9_isLost_68 : jj_D cX9_isLost 68 (.if_icmp .ne 7) 3 71 := ⟨rfl, by decide +kernel⟩
theorem dX9_isLost_71 : jj_D cX9_isLost 71 (.iconst 1) 1 72 := ⟨rfl, by decide +kernel⟩
theorem dX9_isLost_72 : jj_D cX9_isLost 72 (.goto 4) 3 75 := ⟨rfl, by decide +kernel⟩
theorem dX9_isLost_75 : jj_D cX9_isLost 75 (.iconst 0) 1 76 := ⟨rfl, by decide +kernel⟩
theorem dX9_isLost_76 : jj_D cX9_isLost 76 (.istore_n 2) 1 77 := ⟨rfl, by decide +kernel⟩
theorem dX9_isLost_77 : jj_D cX9_isLost 77 (.iinc 3 1) 3 80 := ⟨rfl, by decide +kernel⟩
theorem dX9_isLost_80 : jj_D cX9_isLost 80 (.goto (-44)) 3 83 := ⟨rfl, by decide +kernel⟩
theorem dX9_isLost_83 : jj_D cX9_isLost 83 (.iconst 0) 1 84 := ⟨rfl, by decide +kernel⟩
theorem dX9_isLost_84 : jj_D cX9_isLost 84 (.istore_n 3) 1 85 := ⟨rfl, by decide +kernel⟩
theorem dX9_isLost_85 : jj_D cX9_isLost 85 (.iload_n 3) 1 86 := ⟨rfl, by decide +kernel⟩
theorem dX9_isLost_86 : jj_D cX9_isLost 86 (.bipush 12) 2 88 := ⟨rfl, by decide +kernel⟩
theorem dX9_isLost_88 : jj_D cX9_isLost 88 (.aload_n 0) 1 89 := ⟨rfl, by decide +kernel⟩
theorem dX9_isLost_89 : jj_D cX9_isLost 89 (.getfield 149) 3 92 := ⟨rfl, by decide +kernel⟩
theorem dX9_isLost_92 : jj_D cX9_isLost 92 (.imul) 1 93 := ⟨rfl, by decide +kernel⟩
theorem dX9_isLost_93 : jj_D cX9_isLost 93 (.if_icmp .ge 51) 3 96 := ⟨rfl, by decide +kernel⟩
theorem dX9_isLost_96 : jj_D cX9_isLost 96 (.iload_n 2) 1 97 := ⟨rfl, by decide +kernel⟩
theorem dX9_isLost_97 : jj_D cX9_isLost 97 (.ifCond .ne 35) 3 100 := ⟨rfl, by decide +kernel⟩
theorem dX9_isLost_100 : jj_D cX9_isLost 100 (.aload_n 0) 1 101 := ⟨rfl, by decide +kernel⟩
theorem dX9_isLost_101 : jj_D cX9_isLost 101 (.getfield 52) 3 104 := ⟨rfl, by decide +kernel⟩
theorem dX9_isLost_104 : jj_D cX9_isLost 104 (.iload_n 3) 1 105 := ⟨rfl, by decide +kernel⟩
theorem dX9_isLost_105 : jj_D cX9_isLost 105 (.iaload) 1 106 := ⟨rfl, by decide +kernel⟩
theorem dX9_isLost_106 : jj_D cX9_isLost 106 (.aload_n 0) 1 107 := ⟨rfl, by decide +kernel⟩
theorem dX9_isLost_107 : jj_D cX9_isLost 107 (.getfield 55) 3 110 := ⟨rfl, by decide +kernel⟩
theorem dX9_isLost_110 : jj_D cX9_isLost 110 (.iload_n 3) 1 111 := ⟨rfl, by decide +kernel⟩
theorem dX9_isLost_111 : jj_D cX9_isLost 111 (.iaload) 1 112 := ⟨rfl, by decide +kernel⟩
theorem dX9_isLost_112 : jj_D cX9_isLost 112 (.if_icmp .le 24) 3 115 := ⟨rfl, by decide +kernel⟩
theorem dX9_isLost_115 : jj_D cX9_isLost 115 (.aload_n 0) 1 116 := ⟨rfl, by decide +kernel⟩
theorem dX9_isLost_116 : jj_D cX9_isLost 116 (.getfield 43) 3 119 := ⟨rfl, by decide +kernel⟩
theorem dX9_isLost_119 : jj_D cX9_isLost 119 (.iload_n 3) 1 120 := ⟨rfl, by decide +kernel⟩
theorem dX9_isLost_120 : jj_D cX9_isLost 120 (.bipush 12) 2 122 := ⟨rfl, by decide +kernel⟩
theorem dX9_isLost_122 : jj_D cX9_isLost 122 (.idiv) 1 123 := ⟨rfl, by decide +kernel⟩
theorem dX9_isLost_123 : jj_D cX9_isLost 123 (.iaload) 1 124 := ⟨rfl, by decide +kernel⟩
theorem dX9_isLost_124 : jj_D cX9_isLost 124 (.iload_n 1) 1 125 := ⟨rfl, by decide +kernel⟩
theorem dX9_isLost_125 : jj_D cX9_isLost 125 (.ishr) 1 126 := ⟨rfl, by decide +kernel⟩
theorem dX9_isLost_126 : jj_D cX9_isLost 126 (.iconst 1) 1 127 := ⟨rfl, by decide +kernel⟩
theorem dX9_isLost_127 : jj_D cX9_isLost 127 (.iand) 1 128 := ⟨rfl, by decide +kernel⟩
theorem dX9_isLost_128 : jj_D cX9_isLost 128 (.iconst 1) 1 129 := ⟨rfl, by decide +kernel⟩
theorem dX9_isLost_129 : jj_D cX9_isLost 129 (.if_icmp .ne 7) 3 132 := ⟨rfl, by decide +kernel⟩
theorem dX9_isLost_132 : jj_D cX9_isLost 132 (.iconst 1) 1 133 := ⟨rfl, by decide +kernel⟩
theorem dX9_isLost_133 : jj_D cX9_isLost 133 (.goto 4) 3 136 := ⟨rfl, by decide +kernel⟩
theorem dX9_isLost_136 : jj_D cX9_isLost 136 (.iconst 0) 1 137 := ⟨rfl, by decide +kernel⟩
theorem dX9_isLost_137 : jj_D cX9_isLost 137 (.istore_n 2) 1 138 := ⟨rfl, by decide +kernel⟩
theorem dX9_isLost_138 : jj_D cX9_isLost 138 (.iinc 3 1) 3 141 := ⟨rfl, by decide +kernel⟩
theorem dX9_isLost_141 : jj_D cX9_isLost 141 (.goto (-56)) 3 144 := ⟨rfl, by decide +kernel⟩
theorem dX9_isLost_144 : jj_D cX9_isLost 144 (.iload_n 2) 1 145 := ⟨rfl, by decide +kernel⟩
theorem dX9_isLost_145 : jj_D cX9_isLost 145 (.ifCond .ne 7) 3 148 := ⟨rfl, by decide +kernel⟩
theorem dX9_isLost_148 : jj_D cX9_isLost 148 (.iconst 1) 1 149 := ⟨rfl, by decide +kernel⟩
theorem dX9_isLost_149 : jj_D cX9_isLost 149 (.goto 4) 3 152 := ⟨rfl, by decide +kernel⟩
theorem dX9_isLost_152 : jj_D cX9_isLost 152 (.iconst 0) 1 153 := ⟨rfl, by decide +kernel⟩
theorem dX9_isLost_153 : jj_D cX9_isLost 153 (.ireturn) 1 154 := ⟨rfl, by decide +kernel⟩
theorem dX9_add_0 : jj_D cX9_add 0 (.aload_n 0) 1 1 := ⟨rfl, by decide +kernel⟩
theorem dX9_add_1 : jj_D cX9_add 1 (.iload_n 1) 1 2 := ⟨rfl, by decide +kernel⟩
theorem dX9_add_2 : jj_D cX9_add 2 (.invokevirtual 129) 3 5 := ⟨rfl, by decide +kernel⟩
theorem dX9_add_5 : jj_D cX9_add 5 (.istore_n 2) 1 6 := ⟨rfl, by decide +kernel⟩
theorem dX9_add_6 : jj_D cX9_add 6 (.aload_n 0) 1 7 := ⟨rfl, by decide +kernel⟩
theorem dX9_add_7 : jj_D cX9_add 7 (.iload_n 2) 1 8 := ⟨rfl, by decide +kernel⟩
theorem dX9_add_8 : jj_D cX9_add 8 (.ifCond .ne 7) 3 11 := ⟨rfl, by decide +kernel⟩
theorem dX9_add_11 : jj_D cX9_add 11 (.iconst 1) 1 12 := ⟨rfl, by decide +kernel⟩
theorem dX9_add_12 : jj_D cX9_add 12 (.goto 25) 3 15 := ⟨rfl, by decide +kernel⟩
theorem dX9_add_15 : jj_D cX9_add 15 (.aload_n 0) 1 16 := ⟨rfl, by decide +kernel⟩
theorem dX9_add_16 : jj_D cX9_add 16 (.iload_n 1) 1 17 := ⟨rfl, by decide +kernel⟩
theorem dX9_add_17 : jj_D cX9_add 17 (.invokevirtual 136) 3 20 := ⟨rfl, by decide +kernel⟩
theorem dX9_add_20 : jj_D cX9_add 20 (.ifCond .eq 12) 3 23 := ⟨rfl, by decide +kernel⟩
theorem dX9_add_23 : jj_D cX9_add 23 (.aload_n 0) 1 24 := ⟨rfl, by decide +kernel⟩
theorem dX9_add_24 : jj_D cX9_add 24 (.getfield 152) 3 27 := ⟨rfl, by decide +kernel⟩
theorem dX9_add_27 : jj_D cX9_add 27 (.bipush 6) 2 29 := ⟨rfl, by decide +kernel⟩
theorem dX9_add_29 : jj_D cX9_add 29 (.if_icmp .ne 7) 3 32 := ⟨rfl, by decide +kernel⟩
theorem dX9_add_32 : jj_D cX9_add 32 (.iconst 2) 1 33 := ⟨rfl, by decide +kernel⟩
theorem dX9_add_33 : jj_D cX9_add 33 (.goto 4) 3 36 := ⟨rfl, by decide +kernel⟩
theorem dX9_add_36 : jj_D cX9_add 36 (.iconst 0) 1 37 := ⟨rfl, by decide +kernel⟩
theorem dX9_add_37 : jj_D cX9_add 37 (.invokevirtual 118) 3 40 := ⟨rfl, by decide +kernel⟩
theorem dX9_add_40 : jj_D cX9_add 40 (.ifCond .ne 5) 3 43 := ⟨rfl, by decide +kernel⟩
theorem dX9_add_43 : jj_D cX9_add 43 (.iconst 0) 1 44 := ⟨rfl, by decide +kernel⟩
theorem dX9_add_44 : jj_D cX9_add 44 (.ireturn) 1 45 := ⟨rfl, by decide +kernel⟩
theorem dX9_add_45 : jj_D cX9_add 45 (.aload_n 0) 1 46 := ⟨rfl, by decide +kernel⟩
theorem dX9_add_46 : jj_D cX9_add 46 (.getfield 37) 3 49 := ⟨rfl, by decide +kernel⟩
theorem dX9_add_49 : jj_D cX9_add 49 (.aload_n 0) 1 50 := ⟨rfl, by decide +kernel⟩
theorem dX9_add_50 : jj_D cX9_add 50 (.getfield 152) 3 53 := ⟨rfl, by decide +kernel⟩
theorem dX9_add_53 : jj_D cX9_add 53 (.iload_n 1) 1 54 := ⟨rfl, by decide +kernel⟩
theorem dX9_add_54 : jj_D cX9_add 54 (.iastore) 1 55 := ⟨rfl, by decide +kernel⟩
theorem dX9_add_55 : jj_D cX9_add 55 (.aload_n 0) 1 56 := ⟨rfl, by decide +kernel⟩
theorem dX9_add_56 : jj_D cX9_add 56 (.dup) 1 57 := ⟨rfl, by decide +kernel⟩
theorem dX9_add_57 : jj_D cX9_add 57 (.getfield 152) 3 60 := ⟨rfl, by decide +kernel⟩
theorem dX9_add_60 : jj_D cX9_add 60 (.iconst 1) 1 61 := ⟨rfl, by decide +kernel⟩
theorem dX9_add_61 : jj_D cX9_add 61 (.iadd) 1 62 := ⟨rfl, by decide +kernel⟩
theorem dX9_add_62 : jj_D cX9_add 62 (.putfield 152) 3 65 := ⟨rfl, by decide +kernel⟩
theorem dX9_add_65 : jj_D cX9_add 65 (.aload_n 0) 1 66 := ⟨rfl, by decide +kernel⟩
theorem dX9_add_66 : jj_D cX9_add 66 (.getfield 152) 3 69 := ⟨rfl, by decide +kernel⟩
theorem dX9_add_69 : jj_D cX9_add 69 (.ireturn) 1 70 := ⟨rfl, by decide +kernel⟩
theorem dX9_clear_0 : jj_D cX9_clear 0 (.aload_n 0) 1 1 := ⟨rfl, by decide +kernel⟩
theorem dX9_clear_1 : jj_D cX9_clear 1 (.iconst 0) 1 2 := ⟨rfl, by decide +kernel⟩
theorem dX9_clear_2 : jj_D cX9_clear 2 (.putfield 97) 3 5 := ⟨rfl, by decide +kernel⟩
theorem dX9_clear_5 : jj_D cX9_clear 5 (.aload_n 0) 1 6 := ⟨rfl, by decide +kernel⟩
theorem dX9_clear_6 : jj_D cX9_clear 6 (.getfield 152) 3 9 := ⟨rfl, by decide +kernel⟩
theorem dX9_clear_9 : jj_D cX9_clear 9 (.istore_n 1) 1 10 := ⟨rfl, by decide +kernel⟩
theorem dX9_clear_10 : jj_D cX9_clear 10 (.aload_n 0) 1 11 := ⟨rfl, by decide +kernel⟩
theorem dX9_clear_11 : jj_D cX9_clear 11 (.iconst 0) 1 12 := ⟨rfl, by decide +kernel⟩
theorem dX9_clear_12 : jj_D cX9_clear 12 (.putfield 152) 3 15 := ⟨rfl, by decide +kernel⟩
theorem dX9_clear_15 : jj_D cX9_clear 15 (.iload_n 1) 1 16 := ⟨rfl, by decide +kernel⟩
theorem dX9_clear_16 : jj_D cX9_clear 16 (.ireturn) 1 17 := ⟨rfl, by decide +kernel⟩
theorem dX9_canCut_0 : jj_D cX9_canCut 0 (.iconst 3) 1 1 := ⟨rfl, by decide +kernel⟩
theorem dX9_canCut_1 : jj_D cX9_canCut 1 (.aload_n 0) 1 2 := ⟨rfl, by decide +kernel⟩
theorem dX9_canCut_2 : jj_D cX9_canCut 2 (.getfield 152) 3 5 := ⟨rfl, by decide +kernel⟩
theorem dX9_canCut_5 : jj_D cX9_canCut 5 (.iconst 1) 1 6 := ⟨rfl, by decide +kernel⟩
theorem dX9_canCut_6 : jj_D cX9_canCut 6 (.isub) 1 7 := ⟨rfl, by decide +kernel⟩
theorem dX9_canCut_7 : jj_D cX9_canCut 7 (.imul) 1 8 := ⟨rfl, by decide +kernel⟩
theorem dX9_canCut_8 : jj_D cX9_canCut 8 (.istore_n 2) 1 9 := ⟨rfl, by decide +kernel⟩
theorem dX9_canCut_9 : jj_D cX9_canCut 9 (.iconst 1) 1 10 := ⟨rfl, by decide +kernel⟩
theorem dX9_canCut_10 : jj_D cX9_canCut 10 (.istore_n 3) 1 11 := ⟨rfl, by decide +kernel⟩
theorem dX9_canCut_11 : jj_D cX9_canCut 11 (.iconst 0) 1 12 := ⟨rfl, by decide +kernel⟩
theorem dX9_canCut_12 : jj_D cX9_canCut 12 (.istore 4) 2 14 := ⟨rfl, by decide +kernel⟩
theorem dX9_canCut_14 : jj_D cX9_canCut 14 (.iload 4) 2 16 := ⟨rfl, by decide +kernel⟩
theorem dX9_canCut_16 : jj_D cX9_canCut 16 (.aload_n 0) 1 17 := ⟨rfl, by decide +kernel⟩
theorem dX9_canCut_17 : jj_D cX9_canCut 17 (.getfield 152) 3 20 := ⟨rfl, by decide +kernel⟩
theorem dX9_canCut_20 : jj_D cX9_canCut 20 (.if_icmp .ge 47) 3 23 := ⟨rfl, by decide +kernel⟩
theorem dX9_canCut_23 : jj_D cX9_canCut 23 (.iload_n 2) 1 24 := ⟨rfl, by decide +kernel⟩
theorem dX9_canCut_24 : jj_D cX9_canCut 24 (.aload_n 0) 1 25 := ⟨rfl, by decide +kernel⟩
theorem dX9_canCut_25 : jj_D cX9_canCut 25 (.aload_n 0) 1 26 := ⟨rfl, by decide +kernel⟩
theorem dX9_canCut_26 : jj_D cX9_canCut 26 (.getfield 37) 3 29 := ⟨rfl, by decide +kernel⟩
theorem dX9_canCut_29 : jj_D cX9_canCut 29 (.iload 4) 2 31 := ⟨rfl, by decide +kernel⟩
theorem dX9_canCut_31 : jj_D cX9_canCut 31 (.iaload) 1 32 := ⟨rfl, by decide +kernel⟩
theorem dX9_canCut_32 : jj_D cX9_canCut 32 (.invokevirtual 132) 3 35 := ⟨rfl, by decide +kernel⟩
theorem dX9_canCut_35 : jj_D cX9_canCut 35 (.iadd) 1 36 := ⟨rfl, by decide +kernel⟩
theorem dX9_canCut_36 : jj_D cX9_canCut 36 (.istore_n 2) 1 37 := ⟨rfl, by decide +kernel⟩
theorem dX9_canCut_37 : jj_D cX9_canCut 37 (.iload_n 3) 1 38 := ⟨rfl, by decide +kernel⟩
theorem dX9_canCut_38 : jj_D cX9_canCut 38 (.ifCond .eq 21) 3 41 := ⟨rfl, by decide +kernel⟩
theorem dX9_canCut_41 : jj_D cX9_canCut 41 (.aload_n 0) 1 42 := ⟨rfl, by decide +kernel⟩
theorem dX9_canCut_42 : jj_D cX9_canCut 42 (.aload_n 0) 1 43 := ⟨rfl, by decide +kernel⟩
theorem dX9_canCut_43 : jj_D cX9_canCut 43 (.getfield 37) 3 46 := ⟨rfl, by decide +kernel⟩
theorem dX9_canCut_46 : jj_D cX9_canCut 46 (.iload 4) 2 48 := ⟨rfl, by decide +kernel⟩
theorem dX9_canCut_48 : jj_D cX9_canCut 48 (.iaload) 1 49 := ⟨rfl, by decide +kernel⟩
theorem dX9_canCut_49 : jj_D cX9_canCut 49 (.invokevirtual 136) 3 52 := ⟨rfl, by decide +kernel⟩
theorem dX9_canCut_52 : jj_D cX9_canCut 52 (.ifCond .eq 7) 3 55 := ⟨rfl, by decide +kernel⟩
theorem dX9_canCut_55 : jj_D cX9_canCut 55 (.iconst 1) 1 56 := ⟨rfl, by decide +kernel⟩
theorem dX9_canCut_56 : jj_D cX9_canCut 56 (.goto 4) 3 59 := ⟨rfl, by decide +kernel⟩
theorem dX9_canCut_59 : jj_D cX9_canCut 59 (.iconst 0) 1 60 := ⟨rfl, by decide +kernel⟩
theorem dX9_canCut_60 : jj_D cX9_canCut 60 (.istore_n 3) 1 61 := ⟨rfl, by decide +kernel⟩
theorem dX9_canCut_61 : jj_D cX9_canCut 61 (.iinc 4 1) 3 64 := ⟨rfl, by decide +kernel⟩
theorem dX9_canCut_64 : jj_D cX9_canCut 64 (.goto (-50)) 3 67 := ⟨rfl, by decide +kernel⟩
theorem dX9_canCut_67 : jj_D cX9_canCut 67 (.aload_n 0) 1 68 := ⟨rfl, by decide +kernel⟩
theorem dX9_canCut_68 : jj_D cX9_canCut 68 (.getfield 152) 3 71 := ⟨rfl, by decide +kernel⟩
theorem dX9_canCut_71 : jj_D cX9_canCut 71 (.ifCond .le 33) 3 74 := ⟨rfl, by decide +kernel⟩
theorem dX9_canCut_74 : jj_D cX9_canCut 74 (.iload_n 3) 1 75 := ⟨rfl, by decide +kernel⟩
theorem dX9_canCut_75 : jj_D cX9_canCut 75 (.ifCond .eq 29) 3 78 := ⟨rfl, by decide +kernel⟩
theorem dX9_canCut_78 : jj_D cX9_canCut 78 (.iload_n 2) 1 79 := ⟨rfl, by decide +kernel⟩
theorem dX9_canCut_79 : jj_D cX9_canCut 79 (.sipush 1500) 3 82 := ⟨rfl, by decide +kernel⟩
theorem dX9_canCut_82 : jj_D cX9_canCut 82 (.sipush 150) 3 85 := ⟨rfl, by decide +kernel⟩
theorem dX9_canCut_85 : jj_D cX9_canCut 85 (.iload_n 1) 1 86 := ⟨rfl, by decide +kernel⟩
theorem dX9_canCut_86 : jj_D cX9_canCut 86 (.imul) 1 87 := ⟨rfl, by decide +kernel⟩
theorem dX9_canCut_87 : jj_D cX9_canCut 87 (.isub) 1 88 := ⟨rfl, by decide +kernel⟩
theorem dX9_canCut_88 : jj_D cX9_canCut 88 (.if_icmp .gt 16) 3 91 := ⟨rfl, by decide +kernel⟩
theorem dX9_canCut_91 : jj_D cX9_canCut 91 (.aload_n 0) 1 92 := ⟨rfl, by decide +kernel⟩
theorem dX9_canCut_92 : jj_D cX9_canCut 92 (.getfield 149) 3 95 := ⟨rfl, by decide +kernel⟩
theorem dX9_canCut_95 : jj_D cX9_canCut 95 (.bipush 10) 2 97 := ⟨rfl, by decide +kernel⟩
theorem dX9_canCut_97 : jj_D cX9_canCut 97 (.if_icmp .ge 7) 3 100 := ⟨rfl, by decide +kernel⟩
theorem dX9_canCut_100 : jj_D cX9_canCut 100 (.iconst 1) 1 101 := ⟨rfl, by decide +kernel⟩
theorem dX9_canCut_101 : jj_D cX9_canCut 101 (.goto 4) 3 104 := ⟨rfl, by decide +kernel⟩
theorem dX9_canCut_104 : jj_D cX9_canCut 104 (.iconst 0) 1 105 := ⟨rfl, by decide +kernel⟩
theorem dX9_canCut_105 : jj_D cX9_canCut 105 (.ireturn) 1 106 := ⟨rfl, by decide +kernel⟩
theorem dX9_cut_0 : jj_D cX9_cut 0 (.aload_n 0) 1 1 := ⟨rfl, by decide +kernel⟩
theorem dX9_cut_1 : jj_D cX9_cut 1 (.iload_n 1) 1 2 := ⟨rfl, by decide +kernel⟩
theorem dX9_cut_2 : jj_D cX9_cut 2 (.iconst 1) 1 3 := ⟨rfl, by decide +kernel⟩
theorem dX9_cut_3 : jj_D cX9_cut 3 (.iconst 5) 1 4 := ⟨rfl, by decide +kernel⟩
theorem dX9_cut_4 : jj_D cX9_cut 4 (.invokestatic 104) 3 7 := ⟨rfl, by decide +kernel⟩
theorem dX9_cut_7 : jj_D cX9_cut 7 (.ifCond .ne 7) 3 10 := ⟨rfl, by decide +kernel⟩
theorem dX9_cut_10 : jj_D cX9_cut 10 (.iconst 1) 1 11 := ⟨rfl, by decide +kernel⟩
theorem dX9_cut_11 : jj_D cX9_cut 11 (.goto 16) 3 14 := ⟨rfl, by decide +kernel⟩
theorem dX9_cut_14 : jj_D cX9_cut 14 (.aload_n 0) 1 15 := ⟨rfl, by decide +kernel⟩
theorem dX9_cut_15 : jj_D cX9_cut 15 (.iload_n 1) 1 16 := ⟨rfl, by decide +kernel⟩
theorem dX9_cut_16 : jj_D cX9_cut 16 (.invokevirtual 155) 3 19 := ⟨rfl, by decide +kernel⟩
theorem dX9_cut_19 : jj_D cX9_cut 19 (.ifCond .eq 7) 3 22 := ⟨rfl, by decide +kernel⟩
theorem dX9_cut_22 : jj_D cX9_cut 22 (.iconst 0) 1 23 := ⟨rfl, by decide +kernel⟩
theorem dX9_cut_23 : jj_D cX9_cut 23 (.goto 4) 3 26 := ⟨rfl, by decide +kernel⟩
theorem dX9_cut_26 : jj_D cX9_cut 26 (.iconst 2) 1 27 := ⟨rfl, by decide +kernel⟩
theorem dX9_cut_27 : jj_D cX9_cut 27 (.invokevirtual 118) 3 30 := ⟨rfl, by decide +kernel⟩
theorem dX9_cut_30 : jj_D cX9_cut 30 (.ifCond .ne 5) 3 33 := ⟨rfl, by decide +kernel⟩
theorem dX9_cut_33 : jj_D cX9_cut 33 (.iconst 0) 1 34 := ⟨rfl, by decide +kernel⟩
theorem dX9_cut_34 : jj_D cX9_cut 34 (.ireturn) 1 35 := ⟨rfl, by decide +kernel⟩
theorem dX9_cut_35 : jj_D cX9_cut 35 (.iconst 0) 1 36 := ⟨rfl, by decide +kernel⟩
theorem dX9_cut_36 : jj_D cX9_cut 36 (.istore_n 2) 1 37 := ⟨rfl, by decide +kernel⟩
theorem dX9_cut_37 : jj_D cX9_cut 37 (.iload_n 2) 1 38 := ⟨rfl, by decide +kernel⟩
theorem dX9_cut_38 : jj_D cX9_cut 38 (.aload_n 0) 1 39 := ⟨rfl, by decide +kernel⟩
theorem dX9_cut_39 : jj_D cX9_cut 39 (.getfield 152) 3 42 := ⟨rfl, by decide +kernel⟩
theorem dX9_cut_42 : jj_D cX9_cut 42 (.if_icmp .ge 104) 3 45 := ⟨rfl, by decide +kernel⟩
theorem dX9_cut_45 : jj_D cX9_cut 45 (.aload_n 0) 1 46 := ⟨rfl, by decide +kernel⟩
theorem dX9_cut_46 : jj_D cX9_cut 46 (.getfield 37) 3 49 := ⟨rfl, by decide +kernel⟩
theorem dX9_cut_49 : jj_D cX9_cut 49 (.iload_n 2) 1 50 := ⟨rfl, by decide +kernel⟩
theorem dX9_cut_50 : jj_D cX9_cut 50 (.iaload) 1 51 := ⟨rfl, by decide +kernel⟩
theorem dX9_cut_51 : jj_D cX9_cut 51 (.istore_n 3) 1 52 := ⟨rfl, by decide +kernel⟩
theorem dX9_cut_52 : jj_D cX9_cut 52 (.aload_n 0) 1 53 := ⟨rfl, by decide +kernel⟩
theorem dX9_cut_53 : jj_D cX9_cut 53 (.getfield 43) 3 56 := ⟨rfl, by decide +kernel⟩
theorem dX9_cut_56 : jj_D cX9_cut 56 (.aload_n 0) 1 57 := ⟨rfl, by decide +kernel⟩
theorem dX9_cut_57 : jj_D cX9_cut 57 (.getfield 149) 3 60 := ⟨rfl, by decide +kernel⟩
theorem dX9_cut_60 : jj_D cX9_cut 60 (.dup2) 1 61 := ⟨rfl, by decide +kernel⟩
theorem dX9_cut_61 : jj_D cX9_cut 61 (.iaload) 1 62 := ⟨rfl, by decide +kernel⟩
theorem dX9_cut_62 : jj_D cX9_cut 62 (.aload_n 0) 1 63 := ⟨rfl, by decide +kernel⟩
theorem dX9_cut_63 : jj_D cX9_cut 63 (.iload_n 3) 1 64 := ⟨rfl, by decide +kernel⟩
theorem dX9_cut_64 : jj_D cX9_cut 64 (.invokevirtual 146) 3 67 := ⟨rfl, by decide +kernel⟩
theorem dX9_cut_67 : jj_D cX9_cut 67 (.ior) 1 68 := ⟨rfl, by decide +kernel⟩
theorem dX9_cut_68 : jj_D cX9_cut 68 (.iastore) 1 69 := ⟨rfl, by decide +kernel⟩
theorem dX9_cut_69 : jj_D cX9_cut 69 (.bipush 20) 2 71 := ⟨rfl, by decide +kernel⟩
theorem dX9_cut_71 : jj_D cX9_cut 71 (.iload_n 3) 1 72 := ⟨rfl, by decide +kernel⟩
theorem dX9_cut_72 : jj_D cX9_cut 72 (.imul) 1 73 := ⟨rfl, by decide +kernel⟩
theorem dX9_cut_73 : jj_D cX9_cut 73 (.istore 4) 2 75 := ⟨rfl, by decide +kernel⟩
theorem dX9_cut_75 : jj_D cX9_cut 75 (.iload 4) 2 77 := ⟨rfl, by decide +kernel⟩
theorem dX9_cut_77 : jj_D cX9_cut 77 (.bipush 20) 2 79 := ⟨rfl, by decide +kernel⟩
theorem dX9_cut_79 : jj_D cX9_cut 79 (.iload_n 3) 1 80 := ⟨rfl, by decide +kernel⟩
theorem dX9_cut_80 : jj_D cX9_cut 80 (.imul) 1 81 := ⟨rfl, by decide +kernel⟩
theorem dX9_cut_81 : jj_D cX9_cut 81 (.aload_n 0) 1 82 := ⟨rfl, by decide +kernel⟩
theorem dX9_cut_82 : jj_D cX9_cut 82 (.getfield 25) 3 85 := ⟨rfl, by decide +kernel⟩
theorem dX9_cut_85 : jj_D cX9_cut 85 (.iload_n 3) 1 86 := ⟨rfl, by decide +kernel⟩
theorem dX9_cut_86 : jj_D cX9_cut 86 (.iaload) 1 87 := ⟨rfl, by decide +kernel⟩
theorem dX9_cut_87 : jj_D cX9_cut 87 (.iadd) 1 88 := ⟨rfl, by decide +kernel⟩
theorem dX9_cut_88 : jj_D cX9_cut 88 (.if_icmp .ge 52) 3 91 := ⟨rfl, by decide +kernel⟩
theorem dX9_cut_91 : jj_D cX9_cut 91 (.aload_n 0) 1 92 := ⟨rfl, by decide +kernel⟩
theorem dX9_cut_92 : jj_D cX9_cut 92 (.getfield 40) 3 95 := ⟨rfl, by decide +kernel⟩
theorem dX9_cut_95 : jj_D cX9_cut 95 (.bipush 6) 2 97 := ⟨rfl, by decide +kernel⟩
theorem dX9_cut_97 : jj_D cX9_cut 97 (.aload_n 0) 1 98 := ⟨rfl, by decide +kernel⟩
theorem dX9_cut_98 : jj_D cX9_cut 98 (.getfield 149) 3 101 := ⟨rfl, by decide +kernel⟩
theorem dX9_cut_101 : jj_D cX9_cut 101 (.imul) 1 102 := ⟨rfl, by decide +kernel⟩
theorem dX9_cut_102 : jj_D cX9_cut 102 (.aload_n 0) 1 103 := ⟨rfl, by decide +kernel⟩
theorem dX9_cut_103 : jj_D cX9_cut 103 (.getfield 22) 3 106 := ⟨rfl, by decide +kernel⟩
theorem dX9_cut_106 : jj_D cX9_cut 106 (.aload_n 0) 1 107 := ⟨rfl, by decide +kernel⟩
theorem dX9_cut_107 : jj_D cX9_cut 107 (.getfield 28) 3 110 := ⟨rfl, by decide +kernel⟩
theorem dX9_cut_110 : jj_D cX9_cut 110 (.iload 4) 2 112 := ⟨rfl, by decide +kernel⟩
theorem dX9_cut_112 : jj_D cX9_cut 112 (.iaload) 1 113 := ⟨rfl, by decide +kernel⟩
theorem dX9_cut_113 : jj_D cX9_cut 113 (.iaload) 1 114 := ⟨rfl, by decide +kernel⟩
theorem dX9_cut_114 : jj_D cX9_cut 114 (.iadd) 1 115 := ⟨rfl, by decide +kernel⟩
theorem dX9_cut_115 : jj_D cX9_cut 115 (.dup2) 1 116 := ⟨rfl, by decide +kernel⟩
theorem dX9_cut_116 : jj_D cX9_cut 116 (.iaload) 1 117 := ⟨rfl, by decide +kernel⟩
theorem dX9_cut_117 : jj_D cX9_cut 117 (.aload_n 0) 1 118 := ⟨rfl, by decide +kernel⟩
theorem dX9_cut_118 : jj_D cX9_cut 118 (.getfield 34) 3 121 := ⟨rfl, by decide +kernel⟩
theorem dX9_cut_121 : jj_D cX9_cut 121 (.iload 4) 2 123 := ⟨rfl, by decide +kernel⟩
theorem dX9_cut_123 : jj_D cX9_cut 123 (.iaload) 1 124 := ⟨rfl, by decide +kernel⟩
theorem dX9_cut_124 : jj_D cX9_cut 124 (.aload_n 0) 1 125 := ⟨rfl, by decide +kernel⟩
theorem dX9_cut_125 : jj_D cX9_cut 125 (.getfield 31) 3 128 := ⟨rfl, by decide +kernel⟩
theorem dX9_cut_128 : jj_D cX9_cut 128 (.iload 4) 2 130 := ⟨rfl, by decide +kernel⟩
theorem dX9_cut_130 : jj_D cX9_cut 130 (.iaload) 1 131 := ⟨rfl, by decide +kernel⟩
theorem dX9_cut_131 : jj_D cX9_cut 131 (.isub) 1 132 := ⟨rfl, by decide +kernel⟩
theorem dX9_cut_132 : jj_D cX9_cut 132 (.iadd) 1 133 := ⟨rfl, by decide +kernel⟩
theorem dX9_cut_133 : jj_D cX9_cut 133 (.iastore) 1 134 := ⟨rfl, by decide +kernel⟩
theorem dX9_cut_134 : jj_D cX9_cut 134 (.iinc 4 1) 3 137 := ⟨rfl, by decide +kernel⟩
theorem dX9_cut_137 : jj_D cX9_cut 137 (.goto (-62)) 3 140 := ⟨rfl, by decide +kernel⟩
theorem dX9_cut_140 : jj_D cX9_cut 140 (.iinc 2 1) 3 143 := ⟨rfl, by decide +kernel⟩
theorem dX9_cut_143 : jj_D cX9_cut 143 (.goto (-106)) 3 146 := ⟨rfl, by decide +kernel⟩
theorem dX9_cut_146 : jj_D cX9_cut 146 (.aload_n 0) 1 147 := ⟨rfl, by decide +kernel⟩
theorem dX9_cut_147 : jj_D cX9_cut 147 (.iconst 0) 1 148 := ⟨rfl, by decide +kernel⟩
theorem dX9_cut_148 : jj_D cX9_cut 148 (.putfield 152) 3 151 := ⟨rfl, by decide +kernel⟩
theorem dX9_cut_151 : jj_D cX9_cut 151 (.aload_n 0) 1 152 := ⟨rfl, by decide +kernel⟩
theorem dX9_cut_152 : jj_D cX9_cut 152 (.dup) 1 153 := ⟨rfl, by decide +kernel⟩
theorem dX9_cut_153 : jj_D cX9_cut 153 (.getfield 149) 3 156 := ⟨rfl, by decide +kernel⟩
theorem dX9_cut_156 : jj_D cX9_cut 156 (.iconst 1) 1 157 := ⟨rfl, by decide +kernel⟩
theorem dX9_cut_157 : jj_D cX9_cut 157 (.iadd) 1 158 := ⟨rfl, by decide +kernel⟩
theorem dX9_cut_158 : jj_D cX9_cut 158 (.putfield 149) 3 161 := ⟨rfl, by decide +kernel⟩
theorem dX9_cut_161 : jj_D cX9_cut 161 (.aload_n 0) 1 162 := ⟨rfl, by decide +kernel⟩
theorem dX9_cut_162 : jj_D cX9_cut 162 (.getfield 149) 3 165 := ⟨rfl, by decide +kernel⟩
theorem dX9_cut_165 : jj_D cX9_cut 165 (.iconst 1) 1 166 := ⟨rfl, by decide +kernel⟩
theorem dX9_cut_166 : jj_D cX9_cut 166 (.isub) 1 167 := ⟨rfl, by decide +kernel⟩
theorem dX9_cut_167 : jj_D cX9_cut 167 (.ireturn) 1 168 := ⟨rfl, by decide +kernel⟩
theorem dX9_secondsOf_0 : jj_D cX9_secondsOf 0 (.iconst 0) 1 1 := ⟨rfl, by decide +kernel⟩
theorem dX9_secondsOf_1 : jj_D cX9_secondsOf 1 (.istore_n 3) 1 2 := ⟨rfl, by decide +kernel⟩
theorem dX9_secondsOf_2 : jj_D cX9_secondsOf 2 (.iconst 0) 1 3 := ⟨rfl, by decide +kernel⟩
theorem dX9_secondsOf_3 : jj_D cX9_secondsOf 3 (.istore 4) 2 5 := ⟨rfl, by decide +kernel⟩
theorem dX9_secondsOf_5 : jj_D cX9_secondsOf 5 (.iload 4) 2 7 := ⟨rfl, by decide +kernel⟩
theorem dX9_secondsOf_7 : jj_D cX9_secondsOf 7 (.bipush 6) 2 9 := ⟨rfl, by decide +kernel⟩
theorem dX9_secondsOf_9 : jj_D cX9_secondsOf 9 (.if_icmp .ge 39) 3 12 := ⟨rfl, by decide +kernel⟩
theorem dX9_secondsOf_12 : jj_D cX9_secondsOf 12 (.iload_n 3) 1 13 := ⟨rfl, by decide +kernel⟩
theorem dX9_secondsOf_13 : jj_D cX9_secondsOf 13 (.iload_n 2) 1 14 := ⟨rfl, by decide +kernel⟩
theorem dX9_secondsOf_14 : jj_D cX9_secondsOf 14 (.iconst (-1)) 1 15 := ⟨rfl, by decide +kernel⟩
theorem dX9_secondsOf_15 : jj_D cX9_secondsOf 15 (.if_icmp .eq 9) 3 18 := ⟨rfl, by decide +kernel⟩
theorem dX9_secondsOf_18 : jj_D cX9_secondsOf 18 (.iload_n 2) 1 19 := ⟨rfl, by decide +kernel⟩
theorem dX9_secondsOf_19 : jj_D cX9_secondsOf 19 (.iload 4) 2 21 := ⟨rfl, by decide +kernel⟩
theorem dX9_secondsOf_21 : jj_D cX9_secondsOf 21 (.if_icmp .ne 18) 3 24 := ⟨rfl, by decide +kernel⟩
theorem dX9_secondsOf_24 : jj_D cX9_secondsOf 24 (.aload_n 0) 1 25 := ⟨rfl, by decide +kernel⟩
theorem dX9_secondsOf_25 : jj_D cX9_secondsOf 25 (.getfield 40) 3 28 := ⟨rfl, by decide +kernel⟩
theorem dX9_secondsOf_28 : jj_D cX9_secondsOf 28 (.bipush 6) 2 30 := ⟨rfl, by decide +kernel⟩
theorem dX9_secondsOf_30 : jj_D cX9_secondsOf 30 (.iload_n 1) 1 31 := ⟨rfl, by decide +kernel⟩
theorem dX9_secondsOf_31 : jj_D cX9_secondsOf 31 (.imul) 1 32 := ⟨rfl, by decide +kernel⟩
theorem dX9_secondsOf_32 : jj_D cX9_secondsOf 32 (.iload 4) 2 34 := ⟨rfl, by decide +kernel⟩
theorem dX9_secondsOf_34 : jj_D cX9_secondsOf 34 (.iadd) 1 35 := ⟨rfl, by decide +kernel⟩
theorem dX9_secondsOf_35 : jj_D cX9_secondsOf 35 (.iaload) 1 36 := ⟨rfl, by decide +kernel⟩
theorem dX9_secondsOf_36 : jj_D cX9_secondsOf 36 (.goto 4) 3 39 := ⟨rfl, by decide +kernel⟩
theorem dX9_secondsOf_39 : jj_D cX9_secondsOf 39 (.iconst 0) 1 40 := ⟨rfl, by decide +kernel⟩
theorem dX9_secondsOf_40 : jj_D cX9_secondsOf 40 (.iadd) 1 41 := ⟨rfl, by decide +kernel⟩
theorem dX9_secondsOf_41 : jj_D cX9_secondsOf 41 (.istore_n 3) 1 42 := ⟨rfl, by decide +kernel⟩
theorem dX9_secondsOf_42 : jj_D cX9_secondsOf 42 (.iinc 4 1) 3 45 := ⟨rfl, by decide +kernel⟩
theorem dX9_secondsOf_45 : jj_D cX9_secondsOf 45 (.goto (-40)) 3 48 := ⟨rfl, by decide +kernel⟩
theorem dX9_secondsOf_48 : jj_D cX9_secondsOf 48 (.iload_n 3) 1 49 := ⟨rfl, by decide +kernel⟩
theorem dX9_secondsOf_49 : jj_D cX9_secondsOf 49 (.ireturn) 1 50 := ⟨rfl, by decide +kernel⟩
theorem dX9_seconds_0 : jj_D cX9_seconds 0 (.aload_n 0) 1 1 := ⟨rfl, by decide +kernel⟩
theorem dX9_seconds_1 : jj_D cX9_seconds 1 (.iload_n 1) 1 2 := ⟨rfl, by decide +kernel⟩
theorem dX9_seconds_2 : jj_D cX9_seconds 2 (.iconst 0) 1 3 := ⟨rfl, by decide +kernel⟩
theorem dX9_seconds_3 : jj_D cX9_seconds 3 (.aload_n 0) 1 4 := ⟨rfl, by decide +kernel⟩
theorem dX9_seconds_4 : jj_D cX9_seconds 4 (.getfield 149) 3 7 := ⟨rfl, by decide +kernel⟩
theorem dX9_seconds_7 : jj_D cX9_seconds 7 (.iconst 1) 1 8 := ⟨rfl, by decide +kernel⟩
theorem dX9_seconds_8 : jj_D cX9_seconds 8 (.isub) 1 9 := ⟨rfl, by decide +kernel⟩
theorem dX9_seconds_9 : jj_D cX9_seconds 9 (.invokestatic 104) 3 12 := ⟨rfl, by decide +kernel⟩
theorem dX9_seconds_12 : jj_D cX9_seconds 12 (.ifCond .eq 16) 3 15 := ⟨rfl, by decide +kernel⟩
theorem dX9_seconds_15 : jj_D cX9_seconds 15 (.iload_n 2) 1 16 := ⟨rfl, by decide +kernel⟩
theorem dX9_seconds_16 : jj_D cX9_seconds 16 (.iconst (-1)) 1 17 := ⟨rfl, by decide +kernel⟩
theorem dX9_seconds_17 : jj_D cX9_seconds 17 (.iconst 5) 1 18 := ⟨rfl, by decide +kernel⟩
theorem dX9_seconds_18 : jj_D cX9_seconds 18 (.invokestatic 104) 3 21 := ⟨rfl, by decide +kernel⟩
theorem dX9_seconds_21 : jj_D cX9_seconds 21 (.ifCond .eq 7) 3 24 := ⟨rfl, by decide +kernel⟩
theorem dX9_seconds_24 : jj_D cX9_seconds 24 (.iconst 0) 1 25 := ⟨rfl, by decide +kernel⟩
theorem dX9_seconds_25 : jj_D cX9_seconds 25 (.goto 4) 3 28 := ⟨rfl, by decide +kernel⟩
theorem dX9_seconds_28 : jj_D cX9_seconds 28 (.iconst 1) 1 29 := ⟨rfl, by decide +kernel⟩
theorem dX9_seconds_29 : jj_D cX9_seconds 29 (.invokevirtual 118) 3 32 := ⟨rfl, by decide +kernel⟩
theorem dX9_seconds_32 : jj_D cX9_seconds 32 (.ifCond .eq 12) 3 35 := ⟨rfl, by decide +kernel⟩
theorem dX9_seconds_35 : jj_D cX9_seconds 35 (.aload_n 0) 1 36 := ⟨rfl, by decide +kernel⟩
theorem dX9_seconds_36 : jj_D cX9_seconds 36 (.iload_n 1) 1 37 := ⟨rfl, by decide +kernel⟩
theorem dX9_seconds_37 : jj_D cX9_seconds 37 (.iload_n 2) 1 38 := ⟨rfl, by decide +kernel⟩
theorem dX9_seconds_38 : jj_D cX9_seconds 38 (.invokevirtual 158) 3 41 := ⟨rfl, by decide +kernel⟩
theorem dX9_seconds_41 : jj_D cX9_seconds 41 (.goto 4) 3 44 := ⟨rfl, by decide +kernel⟩
theorem dX9_seconds_44 : jj_D cX9_seconds 44 (.iconst 0) 1 45 := ⟨rfl, by decide +kernel⟩
theorem dX9_seconds_45 : jj_D cX9_seconds 45 (.ireturn) 1 46 := ⟨rfl, by decide +kernel⟩
theorem dX9_isNamed_0 : jj_D cX9_isNamed 0 (.iload_n 1) 1 1 := ⟨rfl, by decide +kernel⟩
theorem dX9_isNamed_1 : jj_D cX9_isNamed 1 (.iconst 0) 1 2 := ⟨rfl, by decide +kernel⟩
theorem dX9_isNamed_2 : jj_D cX9_isNamed 2 (.aload_n 0) 1 3 := ⟨rfl, by decide +kernel⟩
theorem dX9_isNamed_3 : jj_D cX9_isNamed 3 (.getfield 149) 3 6 := ⟨rfl, by decide +kernel⟩
theorem dX9_isNamed_6 : jj_D cX9_isNamed 6 (.iconst 1) 1 7 := ⟨rfl, by decide +kernel⟩
theorem dX9_isNamed_7 : jj_D cX9_isNamed 7 (.isub) 1 8 := ⟨rfl, by decide +kernel⟩
theorem dX9_isNamed_8 : jj_D cX9_isNamed 8 (.invokestatic 104) 3 11 := ⟨rfl, by decide +kernel⟩
theorem dX9_isNamed_11 : jj_D cX9_isNamed 11 (.ifCond .eq 25) 3 14 := ⟨rfl, by decide +kernel⟩
theorem dX9_isNamed_14 : jj_D cX9_isNamed 14 (.iload_n 2) 1 15 := ⟨rfl, by decide +kernel⟩
theorem dX9_isNamed_15 : jj_D cX9_isNamed 15 (.iconst 0) 1 16 := ⟨rfl, by decide +kernel⟩
theorem dX9_isNamed_16 : jj_D cX9_isNamed 16 (.iconst 2) 1 17 := ⟨rfl, by decide +kernel⟩
theorem dX9_isNamed_17 : jj_D cX9_isNamed 17 (.invokestatic 104) 3 20 := ⟨rfl, by decide +kernel⟩
theorem dX9_isNamed_20 : jj_D cX9_isNamed 20 (.ifCond .eq 16) 3 23 := ⟨rfl, by decide +kernel⟩
theorem dX9_isNamed_23 : jj_D cX9_isNamed 23 (.iload_n 3) 1 24 := ⟨rfl, by decide +kernel⟩
theorem dX9_isNamed_24 : jj_D cX9_isNamed 24 (.iconst 0) 1 25 := ⟨rfl, by decide +kernel⟩
theorem dX9_isNamed_25 : jj_D cX9_isNamed 25 (.iconst 3) 1 26 := ⟨rfl, by decide +kernel⟩
theorem dX9_isNamed_26 : jj_D cX9_isNamed 26 (.invokestatic 104) 3 29 := ⟨rfl, by decide +kernel⟩
theorem dX9_isNamed_29 : jj_D cX9_isNamed 29 (.ifCond .eq 7) 3 32 := ⟨rfl, by decide +kernel⟩
theorem dX9_isNamed_32 : jj_D cX9_isNamed 32 (.iconst 1) 1 33 := ⟨rfl, by decide +kernel⟩
theorem dX9_isNamed_33 : jj_D cX9_isNamed 33 (.goto 4) 3 36 := ⟨rfl, by decide +kernel⟩
theorem dX9_isNamed_36 : jj_D cX9_isNamed 36 (.iconst 0) 1 37 := ⟨rfl, by decide +kernel⟩
theorem dX9_isNamed_37 : jj_D cX9_isNamed 37 (.ireturn) 1 38 := ⟨rfl, by decide +kernel⟩
theorem dX9_stamperOf_0 : jj_D cX9_stamperOf 0 (.bipush 12) 2 2 := ⟨rfl, by decide +kernel⟩
theorem dX9_stamperOf_2 : jj_D cX9_stamperOf 2 (.iload_n 0) 1 3 := ⟨rfl, by decide +kernel⟩
theorem dX9_stamperOf_3 : jj_D cX9_stamperOf 3 (.imul) 1 4 := ⟨rfl, by decide +kernel⟩
theorem dX9_stamperOf_4 : jj_D cX9_stamperOf 4 (.iconst 4) 1 5 := ⟨rfl, by decide +kernel⟩
theorem dX9_stamperOf_5 : jj_D cX9_stamperOf 5 (.iload_n 1) 1 6 := ⟨rfl, by decide +kernel⟩
theorem dX9_stamperOf_6 : jj_D cX9_stamperOf 6 (.imul) 1 7 := ⟨rfl, by decide +kernel⟩
theorem dX9_stamperOf_7 : jj_D cX9_stamperOf 7 (.iadd) 1 8 := ⟨rfl, by decide +kernel⟩
theorem dX9_stamperOf_8 : jj_D cX9_stamperOf 8 (.iload_n 2) 1 9 := ⟨rfl, by decide +kernel⟩
theorem dX9_stamperOf_9 : jj_D cX9_stamperOf 9 (.iadd) 1 10 := ⟨rfl, by decide +kernel⟩
theorem dX9_stamperOf_10 : jj_D cX9_stamperOf 10 (.ireturn) 1 11 := ⟨rfl, by decide +kernel⟩
theorem dX9_needed_0 : jj_D cX9_needed 0 (.iload_n 0) 1 1 := ⟨rfl, by decide +kernel⟩
theorem dX9_needed_1 : jj_D cX9_needed 1 (.bipush 12) 2 3 := ⟨rfl, by decide +kernel⟩
theorem dX9_needed_3 : jj_D cX9_needed 3 (.irem) 1 4 := ⟨rfl, by decide +kernel⟩
theorem dX9_needed_4 : jj_D cX9_needed 4 (.istore_n 1) 1 5 := ⟨rfl, by decide +kernel⟩
theorem dX9_needed_5 : jj_D cX9_needed 5 (.iload_n 1) 1 6 := ⟨rfl, by decide +kernel⟩
theorem dX9_needed_6 : jj_D cX9_needed 6 (.ifCond .ne 7) 3 9 := ⟨rfl, by decide +kernel⟩
theorem dX9_needed_9 : jj_D cX9_needed 9 (.iconst (-1)) 1 10 := ⟨rfl, by decide +kernel⟩
theorem dX9_needed_10 : jj_D cX9_needed 10 (.goto 18) 3 13 := ⟨rfl, by decide +kernel⟩
theorem dX9_needed_13 : jj_D cX9_needed 13 (.iload_n 1) 1 14 := ⟨rfl, by decide +kernel⟩
theorem dX9_needed_14 : jj_D cX9_needed 14 (.iconst 4) 1 15 := ⟨rfl, by decide +kernel⟩
theorem dX9_needed_15 : jj_D cX9_needed 15 (.irem) 1 16 := ⟨rfl, by decide +kernel⟩
theorem dX9_needed_16 : jj_D cX9_needed 16 (.ifCond .ne 9) 3 19 := ⟨rfl, by decide +kernel⟩
theorem dX9_needed_19 : jj_D cX9_needed 19 (.iload_n 0) 1 20 := ⟨rfl, by decide +kernel⟩
theorem dX9_needed_20 : jj_D cX9_needed 20 (.iconst 4) 1 21 := ⟨rfl, by decide +kernel⟩
theorem dX9_needed_21 : jj_D cX9_needed 21 (.isub) 1 22 := ⟨rfl, by decide +kernel⟩
theorem dX9_needed_22 : jj_D cX9_needed 22 (.goto 6) 3 25 := ⟨rfl, by decide +kernel⟩
theorem dX9_needed_25 : jj_D cX9_needed 25 (.iload_n 0) 1 26 := ⟨rfl, by decide +kernel⟩
theorem dX9_needed_26 : jj_D cX9_needed 26 (.iconst 1) 1 27 := ⟨rfl, by decide +kernel⟩
theorem dX9_needed_27 : jj_D cX9_needed 27 (.isub) 1 28 := ⟨rfl, by decide +kernel⟩
theorem dX9_needed_28 : jj_D cX9_needed 28 (.ireturn) 1 29 := ⟨rfl, by decide +kernel⟩
theorem dX9_stamper_0 : jj_D cX9_stamper 0 (.aload_n 0) 1 1 := ⟨rfl, by decide +kernel⟩
theorem dX9_stamper_1 : jj_D cX9_stamper 1 (.iload_n 1) 1 2 := ⟨rfl, by decide +kernel⟩
theorem dX9_stamper_2 : jj_D cX9_stamper 2 (.iload_n 2) 1 3 := ⟨rfl, by decide +kernel⟩
theorem dX9_stamper_3 : jj_D cX9_stamper 3 (.iload_n 3) 1 4 := ⟨rfl, by decide +kernel⟩
theorem dX9_stamper_4 : jj_D cX9_stamper 4 (.invokevirtual 161) 3 7 := ⟨rfl, by decide +kernel⟩
theorem dX9_stamper_7 : jj_D cX9_stamper 7 (.istore 4) 2 9 := ⟨rfl, by decide +kernel⟩
theorem dX9_stamper_9 : jj_D cX9_stamper 9 (.iload 4) 2 11 := ⟨rfl, by decide +kernel⟩
theorem dX9_stamper_11 : jj_D cX9_stamper 11 (.ifCond .eq 12) 3 14 := ⟨rfl, by decide +kernel⟩
theorem dX9_stamper_14 : jj_D cX9_stamper 14 (.iload_n 1) 1 15 := ⟨rfl, by decide +kernel⟩
theorem dX9_stamper_15 : jj_D cX9_stamper 15 (.iload_n 2) 1 16 := ⟨rfl, by decide +kernel⟩
theorem dX9_stamper_16 : jj_D cX9_stamper 16 (.iload_n 3) 1 17 := ⟨rfl, by decide +kernel⟩
theorem dX9_stamper_17 : jj_D cX9_stamper 17 (.invokestatic 164) 3 20 := ⟨rfl, by decide +kernel⟩
theorem dX9_stamper_20 : jj_D cX9_stamper 20 (.goto 4) 3 23 := ⟨rfl, by decide +kernel⟩
theorem dX9_stamper_23 : jj_D cX9_stamper 23 (.iconst 0) 1 24 := ⟨rfl, by decide +kernel⟩
theorem dX9_stamper_24 : jj_D cX9_stamper 24 (.istore 5) 2 26 := ⟨rfl, by decide +kernel⟩
theorem dX9_stamper_26 : jj_D cX9_stamper 26 (.iload 4) 2 28 := ⟨rfl, by decide +kernel⟩
theorem dX9_stamper_28 : jj_D cX9_stamper 28 (.ifCond .eq 41) 3 31 := ⟨rfl, by decide +kernel⟩
theorem dX9_stamper_31 : jj_D cX9_stamper 31 (.aload_n 0) 1 32 := ⟨rfl, by decide +kernel⟩
theorem dX9_stamper_32 : jj_D cX9_stamper 32 (.getfield 46) 3 35 := ⟨rfl, by decide +kernel⟩
theorem dX9_stamper_35 : jj_D cX9_stamper 35 (.iload 5) 2 37 := ⟨rfl, by decide +kernel⟩
theorem dX9_stamper_37 : jj_D cX9_stamper 37 (.iaload) 1 38 := ⟨rfl, by decide +kernel⟩
theorem dX9_stamper_38 : jj_D cX9_stamper 38 (.iconst (-1)) 1 39 := ⟨rfl, by decide +kernel⟩
theorem dX9_stamper_39 : jj_D cX9_stamper 39 (.if_icmp .ne 30) 3 42 := ⟨rfl, by decide +kernel⟩
theorem dX9_stamper_42 : jj_D cX9_stamper 42 (.iload 5) 2 44 := ⟨rfl, by decide +kernel⟩
theorem dX9_stamper_44 : jj_D cX9_stamper 44 (.invokestatic 167) 3 47 := ⟨rfl, by decide +kernel⟩
theorem dX9_stamper_47 : jj_D cX9_stamper 47 (.iconst (-1)) 1 48 := ⟨rfl, by decide +kernel⟩
theorem dX9_stamper_48 : jj_D cX9_stamper 48 (.if_icmp .eq 17) 3 51 := ⟨rfl, by decide +kernel⟩
theorem dX9_stamper_51 : jj_D cX9_stamper 51 (.aload_n 0) 1 52 := ⟨rfl, by decide +kernel⟩
theorem dX9_stamper_52 : jj_D cX9_stamper 52 (.getfield 46) 3 55 := ⟨rfl, by decide +kernel⟩
theorem dX9_stamper_55 : jj_D cX9_stamper 55 (.iload 5) 2 57 := ⟨rfl, by decide +kernel⟩
theorem dX9_stamper_57 : jj_D cX9_stamper 57 (.invokestatic 167) 3 60 := ⟨rfl, by decide +kernel⟩
theorem dX9_stamper_60 : jj_D cX9_stamper 60 (.iaload) 1 61 := ⟨rfl, by decide +kernel⟩
theorem dX9_stamper_61 : jj_D cX9_stamper 61 (.iconst (-1)) 1 62 := ⟨rfl, by decide +kernel⟩
theorem dX9_stamper_62 : jj_D cX9_stamper 62 (.if_icmp .eq 7) 3 65 := ⟨rfl, by decide +kernel⟩
theorem dX9_stamper_65 : jj_D cX9_stamper 65 (.iconst 1) 1 66 := ⟨rfl, by decide +kernel⟩
theorem dX9_stamper_66 : jj_D cX9_stamper 66 (.goto 4) 3 69 := ⟨rfl, by decide +kernel⟩
theorem dX9_stamper_69 : jj_D cX9_stamper 69 (.iconst 0) 1 70 := ⟨rfl, by decide +kernel⟩
theorem dX9_stamper_70 : jj_D cX9_stamper 70 (.istore 6) 2 72 := ⟨rfl, by decide +kernel⟩
theorem dX9_stamper_72 : jj_D cX9_stamper 72 (.aload_n 0) 1 73 := ⟨rfl, by decide +kernel⟩
theorem dX9_stamper_73 : jj_D cX9_stamper 73 (.iload 4) 2 75 := ⟨rfl, by decide +kernel⟩
theorem dX9_stamper_75 : jj_D cX9_stamper 75 (.ifCond .ne 7) 3 78 := ⟨rfl, by decide +kernel⟩
theorem dX9_stamper_78 : jj_D cX9_stamper 78 (.iconst 1) 1 79 := ⟨rfl, by decide +kernel⟩
theorem dX9_stamper_79 : jj_D cX9_stamper 79 (.goto 13) 3 82 := ⟨rfl, by decide +kernel⟩
theorem dX9_stamper_82 : jj_D cX9_stamper 82 (.iload 6) 2 84 := ⟨rfl, by decide +kernel⟩
theorem dX9_stamper_84 : jj_D cX9_stamper 84 (.ifCond .eq 7) 3 87 := ⟨rfl, by decide +kernel⟩
theorem dX9_stamper_87 : jj_D cX9_stamper 87 (.iconst 0) 1 88 := ⟨rfl, by decide +kernel⟩
theorem dX9_stamper_88 : jj_D cX9_stamper 88 (.goto 4) 3 91 := ⟨rfl, by decide +kernel⟩
theorem dX9_stamper_91 : jj_D cX9_stamper 91 (.iconst 2) 1 92 := ⟨rfl, by decide +kernel⟩
theorem dX9_stamper_92 : jj_D cX9_stamper 92 (.invokevirtual 118) 3 95 := ⟨rfl, by decide +kernel⟩
theorem dX9_stamper_95 : jj_D cX9_stamper 95 (.ifCond .ne 5) 3 98 := ⟨rfl, by decide +kernel⟩
theorem dX9_stamper_98 : jj_D cX9_stamper 98 (.iconst 0) 1 99 := ⟨rfl, by decide +kernel⟩
theorem dX9_stamper_99 : jj_D cX9_stamper 99 (.ireturn) 1 100 := ⟨rfl, by decide +kernel⟩
theorem dX9_stamper_100 : jj_D cX9_stamper 100 (.aload_n 0) 1 101 := ⟨rfl, by decide +kernel⟩
theorem dX9_stamper_101 : jj_D cX9_stamper 101 (.getfield 46) 3 104 := ⟨rfl, by decide +kernel⟩
theorem dX9_stamper_104 : jj_D cX9_stamper 104 (.iload 5) 2 106 := ⟨rfl, by decide +kernel⟩
theorem dX9_stamper_106 : jj_D cX9_stamper 106 (.aload_n 0) 1 107 := ⟨rfl, by decide +kernel⟩
theorem dX9_stamper_107 : jj_D cX9_stamper 107 (.getfield 108) 3 110 := ⟨rfl, by decide +kernel⟩
theorem dX9_stamper_110 : jj_D cX9_stamper 110 (.iastore) 1 111 := ⟨rfl, by decide +kernel⟩
theorem dX9_stamper_111 : jj_D cX9_stamper 111 (.iconst 0) 1 112 := ⟨rfl, by decide +kernel⟩
theorem dX9_stamper_112 : jj_D cX9_stamper 112 (.istore 7) 2 114 := ⟨rfl, by decide +kernel⟩
theorem dX9_stamper_114 : jj_D cX9_stamper 114 (.bipush 12) 2 116 := ⟨rfl, by decide +kernel⟩
theorem dX9_stamper_116 : jj_D cX9_stamper 116 (.iload_n 1) 1 117 := ⟨rfl, by decide +kernel⟩
theorem dX9_stamper_117 : jj_D cX9_stamper 117 (.imul) 1 118 := ⟨rfl, by decide +kernel⟩
theorem dX9_stamper_118 : jj_D cX9_stamper 118 (.istore 8) 2 120 := ⟨rfl, by decide +kernel⟩
theorem dX9_stamper_120 : jj_D cX9_stamper 120 (.iload 8) 2 122 := ⟨rfl, by decide +kernel⟩
theorem dX9_stamper_122 : jj_D cX9_stamper 122 (.bipush 12) 2 124 := ⟨rfl, by decide +kernel⟩
theorem dX9_stamper_124 : jj_D cX9_stamper 124 (.iload_n 1) 1 125 := ⟨rfl, by decide +kernel⟩
theorem dX9_stamper_125 : jj_D cX9_stamper 125 (.imul) 1 126 := ⟨rfl, by decide +kernel⟩
theorem dX9_stamper_126 : jj_D cX9_stamper 126 (.bipush 12) 2 128 := ⟨rfl, by decide +kernel⟩
theorem dX9_stamper_128 : jj_D cX9_stamper 128 (.iadd) 1 129 := ⟨rfl, by decide +kernel⟩
theorem dX9_stamper_129 : jj_D cX9_stamper 129 (.if_icmp .ge 30) 3 132 := ⟨rfl, by decide +kernel⟩
theorem dX9_stamper_132 : jj_D cX9_stamper 132 (.iload 7) 2 134 := ⟨rfl, by decide +kernel⟩
theorem dX9_stamper_134 : jj_D cX9_stamper 134 (.aload_n 0) 1 135 := ⟨rfl, by decide +kernel⟩
theorem dX9_stamper_135 : jj_D cX9_stamper 135 (.getfield 46) 3 138 := ⟨rfl, by decide +kernel⟩
theorem dX9_stamper_138 : jj_D cX9_stamper 138 (.iload 8) 2 140 := ⟨rfl, by decide +kernel⟩
theorem dX9_stamper_140 : jj_D cX9_stamper 140 (.iaload) 1 141 := ⟨rfl, by decide +kernel⟩
theorem dX9_stamper_141 : jj_D cX9_stamper 141 (.iconst (-1)) 1 142 := ⟨rfl, by decide +kernel⟩
theorem dX9_stamper_142 : jj_D cX9_stamper 142 (.if_icmp .ne 7) 3 145 := ⟨rfl, by decide +kernel⟩
theorem dX9_stamper_145 : jj_D cX9_stamper 145 (.iconst 0) 1 146 := ⟨rfl, by decide +kernel⟩
theorem dX9_stamper_146 : jj_D cX9_stamper 146 (.goto 4) 3 149 := ⟨rfl, by decide +kernel⟩
theorem dX9_stamper_149 : jj_D cX9_stamper 149 (.iconst 1) 1 150 := ⟨rfl, by decide +kernel⟩
theorem dX9_stamper_150 : jj_D cX9_stamper 150 (.iadd) 1 151 := ⟨rfl, by decide +kernel⟩
theorem dX9_stamper_151 : jj_D cX9_stamper 151 (.istore 7) 2 153 := ⟨rfl, by decide +kernel⟩
theorem dX9_stamper_153 : jj_D cX9_stamper 153 (.iinc 8 1) 3 156 := ⟨rfl, by decide +kernel⟩
theorem dX9_stamper_156 : jj_D cX9_stamper 156 (.goto (-36)) 3 159 := ⟨rfl, by decide +kernel⟩
theorem dX9_stamper_159 : jj_D cX9_stamper 159 (.iload 7) 2 161 := ⟨rfl, by decide +kernel⟩
theorem dX9_stamper_161 : jj_D cX9_stamper 161 (.ireturn) 1 162 := ⟨rfl, by decide +kernel⟩
theorem dX9_press_0 : jj_D cX9_press 0 (.aload_n 0) 1 1 := ⟨rfl, by decide +kernel⟩
theorem dX9_press_1 : jj_D cX9_press 1 (.iload_n 1) 1 2 := ⟨rfl, by decide +kernel⟩
theorem dX9_press_2 : jj_D cX9_press 2 (.iload_n 2) 1 3 := ⟨rfl, by decide +kernel⟩
theorem dX9_press_3 : jj_D cX9_press 3 (.iload_n 3) 1 4 := ⟨rfl, by decide +kernel⟩
theorem dX9_press_4 : jj_D cX9_press 4 (.invokevirtual 161) 3 7 := ⟨rfl, by decide +kernel⟩
theorem dX9_press_7 : jj_D cX9_press 7 (.istore 5) 2 9 := ⟨rfl, by decide +kernel⟩
theorem dX9_press_9 : jj_D cX9_press 9 (.iload 5) 2 11 := ⟨rfl, by decide +kernel⟩
theorem dX9_press_11 : jj_D cX9_press 11 (.ifCond .eq 12) 3 14 := ⟨rfl, by decide +kernel⟩
theorem dX9_press_14 : jj_D cX9_press 14 (.iload_n 1) 1 15 := ⟨rfl, by decide +kernel⟩
theorem dX9_press_15 : jj_D cX9_press 15 (.iload_n 2) 1 16 := ⟨rfl, by decide +kernel⟩
theorem dX9_press_16 : jj_D cX9_press 16 (.iload_n 3) 1 17 := ⟨rfl, by decide +kernel⟩
theorem dX9_press_17 : jj_D cX9_press 17 (.invokestatic 164) 3 20 := ⟨rfl, by decide +kernel⟩
theorem dX9_press_20 : jj_D cX9_press 20 (.goto 4) 3 23 := ⟨rfl, by decide +kernel⟩
theorem dX9_press_23 : jj_D cX9_press 23 (.iconst 0) 1 24 := ⟨rfl, by decide +kernel⟩
theorem dX9_press_24 : jj_D cX9_press 24 (.istore 6) 2 26 := ⟨rfl, by decide +kernel⟩
theorem dX9_press_26 : jj_D cX9_press 26 (.aload_n 0) 1 27 := ⟨rfl, by decide +kernel⟩
theorem dX9_press_27 : jj_D cX9_press 27 (.iload 5) 2 29 := ⟨rfl, by decide +kernel⟩
theorem dX9_press_29 : jj_D cX9_press 29 (.ifCond .ne 7) 3 32 := ⟨rfl, by decide +kernel⟩
theorem dX9_press_32 : jj_D cX9_press 32 (.iconst 1) 1 33 := ⟨rfl, by decide +kernel⟩
theorem dX9_press_33 : jj_D cX9_press 33 (.goto 51) 3 36 := ⟨rfl, by decide +kernel⟩
theorem dX9_press_36 : jj_D cX9_press 36 (.iload 4) 2 38 := ⟨rfl, by decide +kernel⟩
theorem dX9_press_38 : jj_D cX9_press 38 (.iconst 1) 1 39 := ⟨rfl, by decide +kernel⟩
theorem dX9_press_39 : jj_D cX9_press 39 (.sipush 500) 3 42 := ⟨rfl, by decide +kernel⟩
theorem dX9_press_42 : jj_D cX9_press 42 (.invokestatic 104) 3 45 := ⟨rfl, by decide +kernel⟩
theorem dX9_press_45 : jj_D cX9_press 45 (.ifCond .ne 7) 3 48 := ⟨rfl, by decide +kernel⟩
theorem dX9_press_48 : jj_D cX9_press 48 (.iconst 2) 1 49 := ⟨rfl, by decide +kernel⟩
theorem dX9_press_49 : jj_D cX9_press 49 (.goto 35) 3 52 := ⟨rfl, by decide +kernel⟩
theorem dX9_press_52 : jj_D cX9_press 52 (.aload_n 0) 1 53 := ⟨rfl, by decide +kernel⟩
theorem dX9_press_53 : jj_D cX9_press 53 (.getfield 46) 3 56 := ⟨rfl, by decide +kernel⟩
theorem dX9_press_56 : jj_D cX9_press 56 (.iload 6) 2 58 := ⟨rfl, by decide +kernel⟩
theorem dX9_press_58 : jj_D cX9_press 58 (.iaload) 1 59 := ⟨rfl, by decide +kernel⟩
theorem dX9_press_59 : jj_D cX9_press 59 (.iconst (-1)) 1 60 := ⟨rfl, by decide +kernel⟩
theorem dX9_press_60 : jj_D cX9_press 60 (.if_icmp .eq 19) 3 63 := ⟨rfl, by decide +kernel⟩
theorem dX9_press_63 : jj_D cX9_press 63 (.aload_n 0) 1 64 := ⟨rfl, by decide +kernel⟩
theorem dX9_press_64 : jj_D cX9_press 64 (.getfield 49) 3 67 := ⟨rfl, by decide +kernel⟩
theorem dX9_press_67 : jj_D cX9_press 67 (.iload 6) 2 69 := ⟨rfl, by decide +kernel⟩
theorem dX9_press_69 : jj_D cX9_press 69 (.iaload) 1 70 := ⟨rfl, by decide +kernel⟩
theorem dX9_press_70 : jj_D cX9_press 70 (.iload 4) 2 72 := ⟨rfl, by decide +kernel⟩
theorem dX9_press_72 : jj_D cX9_press 72 (.iadd) 1 73 := ⟨rfl, by decide +kernel⟩
theorem dX9_press_73 : jj_D cX9_press 73 (.sipush 500) 3 76 := ⟨rfl, by decide +kernel⟩
theorem dX9_press_76 : jj_D cX9_press 76 (.if_icmp .le 7) 3 79 := ⟨rfl, by decide +kernel⟩
theorem dX9_press_79 : jj_D cX9_press 79 (.iconst 3) 1 80 := ⟨rfl, by decide +kernel⟩
theorem dX9_press_80 : jj_D cX9_press 80 (.goto 4) 3 83 := ⟨rfl, by decide +kernel⟩
theorem dX9_press_83 : jj_D cX9_press 83 (.iconst 0) 1 84 := ⟨rfl, by decide +kernel⟩
theorem dX9_press_84 : jj_D cX9_press 84 (.invokevirtual 118) 3 87 := ⟨rfl, by decide +kernel⟩
theorem dX9_press_87 : jj_D cX9_press 87 (.ifCond .ne 5) 3 90 := ⟨rfl, by decide +kernel⟩
theorem dX9_press_90 : jj_D cX9_press 90 (.iconst 0) 1 91 := ⟨rfl, by decide +kernel⟩
theorem dX9_press_91 : jj_D cX9_press 91 (.ireturn) 1 92 := ⟨rfl, by decide +kernel⟩
theorem dX9_press_92 : jj_D cX9_press 92 (.aload_n 0) 1 93 := ⟨rfl, by decide +kernel⟩
theorem dX9_press_93 : jj_D cX9_press 93 (.getfield 49) 3 96 := ⟨rfl, by decide +kernel⟩
theorem dX9_press_96 : jj_D cX9_press 96 (.iload 6) 2 98 := ⟨rfl, by decide +kernel⟩
theorem dX9_press_98 : jj_D cX9_press 98 (.dup2) 1 99 := ⟨rfl, by decide +kernel⟩
theorem dX9_press_99 : jj_D cX9_press 99 (.iaload) 1 100 := ⟨rfl, by decide +kernel⟩
theorem dX9_press_100 : jj_D cX9_press 100 (.iload 4) 2 102 := ⟨rfl, by decide +kernel⟩
theorem dX9_press_102 : jj_D cX9_press 102 (.iadd) 1 103 := ⟨rfl, by decide +kernel⟩
theorem dX9_press_103 : jj_D cX9_press 103 (.iastore) 1 104 := ⟨rfl, by decide +kernel⟩
theorem dX9_press_104 : jj_D cX9_press 104 (.aload_n 0) 1 105 := ⟨rfl, by decide +kernel⟩
theorem dX9_press_105 : jj_D cX9_press 105 (.getfield 58) 3 108 := ⟨rfl, by decide +kernel⟩
theorem dX9_press_108 : jj_D cX9_press 108 (.iload 6) 2 110 := ⟨rfl, by decide +kernel⟩
theorem dX9_press_110 : jj_D cX9_press 110 (.aload_n 0) 1 111 := ⟨rfl, by decide +kernel⟩
theorem dX9_press_111 : jj_D cX9_press 111 (.getfield 58) 3 114 := ⟨rfl, by decide +kernel⟩
theorem dX9_press_114 : jj_D cX9_press 114 (.iload 6) 2 116 := ⟨rfl, by decide +kernel⟩
theorem dX9_press_116 : jj_D cX9_press 116 (.iaload) 1 117 := ⟨rfl, by decide +kernel⟩
theorem dX9_press_117 : jj_D cX9_press 117 (.iconst (-1)) 1 118 := ⟨rfl, by decide +kernel⟩
theorem dX9_press_118 : jj_D cX9_press 118 (.if_icmp .ne 10) 3 121 := ⟨rfl, by decide +kernel⟩
theorem dX9_press_121 : jj_D cX9_press 121 (.aload_n 0) 1 122 := ⟨rfl, by decide +kernel⟩
theorem dX9_press_122 : jj_D cX9_press 122 (.getfield 108) 3 125 := ⟨rfl, by decide +kernel⟩
theorem dX9_press_125 : jj_D cX9_press 125 (.goto 10) 3 128 := ⟨rfl, by decide +kernel⟩
theorem dX9_press_128 : jj_D cX9_press 128 (.aload_n 0) 1 129 := ⟨rfl, by decide +kernel⟩
theorem dX9_press_129 : jj_D cX9_press 129 (.getfield 58) 3 132 := ⟨rfl, by decide +kernel⟩
theorem dX9_press_132 : jj_D cX9_press 132 (.iload 6) 2 134 := ⟨rfl, by decide +kernel⟩
theorem dX9_press_134 : jj_D cX9_press 134 (.iaload) 1 135 := ⟨rfl, by decide +kernel⟩
theorem dX9_press_135 : jj_D cX9_press 135 (.iastore) 1 136 := ⟨rfl, by decide +kernel⟩
theorem dX9_press_136 : jj_D cX9_press 136 (.aload_n 0) 1 137 := ⟨rfl, by decide +kernel⟩
theorem dX9_press_137 : jj_D cX9_press 137 (.getfield 61) 3 140 := ⟨rfl, by decide +kernel⟩
theorem dX9_press_140 : jj_D cX9_press 140 (.iload 6) 2 142 := ⟨rfl, by decide +kernel⟩
theorem dX9_press_142 : jj_D cX9_press 142 (.aload_n 0) 1 143 := ⟨rfl, by decide +kernel⟩
theorem dX9_press_143 : jj_D cX9_press 143 (.getfield 108) 3 146 := ⟨rfl, by decide +kernel⟩
theorem dX9_press_146 : jj_D cX9_press 146 (.iastore) 1 147 := ⟨rfl, by decide +kernel⟩
theorem dX9_press_147 : jj_D cX9_press 147 (.aload_n 0) 1 148 := ⟨rfl, by decide +kernel⟩
theorem dX9_press_148 : jj_D cX9_press 148 (.getfield 49) 3 151 := ⟨rfl, by decide +kernel⟩
theorem dX9_press_151 : jj_D cX9_press 151 (.iload 6) 2 153 := ⟨rfl, by decide +kernel⟩
theorem dX9_press_153 : jj_D cX9_press 153 (.iaload) 1 154 := ⟨rfl, by decide +kernel⟩
theorem dX9_press_154 : jj_D cX9_press 154 (.ireturn) 1 155 := ⟨rfl, by decide +kernel⟩
theorem dX9_stamperIs_0 : jj_D cX9_stamperIs 0 (.aload_n 0) 1 1 := ⟨rfl, by decide +kernel⟩
theorem dX9_stamperIs_1 : jj_D cX9_stamperIs 1 (.iload_n 1) 1 2 := ⟨rfl, by decide +kernel⟩
theorem dX9_stamperIs_2 : jj_D cX9_stamperIs 2 (.iload_n 2) 1 3 := ⟨rfl, by decide +kernel⟩
theorem dX9_stamperIs_3 : jj_D cX9_stamperIs 3 (.iload_n 3) 1 4 := ⟨rfl, by decide +kernel⟩
theorem dX9_stamperIs_4 : jj_D cX9_stamperIs 4 (.invokevirtual 161) 3 7 := ⟨rfl, by decide +kernel⟩
theorem dX9_stamperIs_7 : jj_D cX9_stamperIs 7 (.istore 5) 2 9 := ⟨rfl, by decide +kernel⟩
theorem dX9_stamperIs_9 : jj_D cX9_stamperIs 9 (.aload_n 0) 1 10 := ⟨rfl, by decide +kernel⟩
theorem dX9_stamperIs_10 : jj_D cX9_stamperIs 10 (.iload 5) 2 12 := ⟨rfl, by decide +kernel⟩
theorem dX9_stamperIs_12 : jj_D cX9_stamperIs 12 (.ifCond .ne 7) 3 15 := ⟨rfl, by decide +kernel⟩
theorem dX9_stamperIs_15 : jj_D cX9_stamperIs 15 (.iconst 1) 1 16 := ⟨rfl, by decide +kernel⟩
theorem dX9_stamperIs_16 : jj_D cX9_stamperIs 16 (.goto 18) 3 19 := ⟨rfl, by decide +kernel⟩
theorem dX9_stamperIs_19 : jj_D cX9_stamperIs 19 (.iload 4) 2 21 := ⟨rfl, by decide +kernel⟩
theorem dX9_stamperIs_21 : jj_D cX9_stamperIs 21 (.iconst 0) 1 22 := ⟨rfl, by decide +kernel⟩
theorem dX9_stamperIs_22 : jj_D cX9_stamperIs 22 (.iconst 4) 1 23 := ⟨rfl, by decide +kernel⟩
theorem dX9_stamperIs_23 : jj_D cX9_stamperIs 23 (.invokestatic 104) 3 26 := ⟨rfl, by decide +kernel⟩
theorem dX9_stamperIs_26 : jj_D cX9_stamperIs 26 (.ifCond .eq 7) 3 29 := ⟨rfl, by decide +kernel⟩
theorem dX9_stamperIs_29 : jj_D cX9_stamperIs 29 (.iconst 0) 1 30 := ⟨rfl, by decide +kernel⟩
theorem dX9_stamperIs_30 : jj_D cX9_stamperIs 30 (.goto 4) 3 33 := ⟨rfl, by decide +kernel⟩
theorem dX9_stamperIs_33 : jj_D cX9_stamperIs 33 (.iconst 2) 1 34 := ⟨rfl, by decide +kernel⟩
theorem dX9_stamperIs_34 : jj_D cX9_stamperIs 34 (.invokevirtual 118) 3 37 := ⟨rfl, by decide +kernel⟩
theorem dX9_stamperIs_37 : jj_D cX9_stamperIs 37 (.ifCond .ne 5) 3 40 := ⟨rfl, by decide +kernel⟩
theorem dX9_stamperIs_40 : jj_D cX9_stamperIs 40 (.iconst 0) 1 41 := ⟨rfl, by decide +kernel⟩
theorem dX9_stamperIs_41 : jj_D cX9_stamperIs 41 (.ireturn) 1 42 := ⟨rfl, by decide +kernel⟩
theorem dX9_stamperIs_42 : jj_D cX9_stamperIs 42 (.iload_n 1) 1 43 := ⟨rfl, by decide +kernel⟩
theorem dX9_stamperIs_43 : jj_D cX9_stamperIs 43 (.iload_n 2) 1 44 := ⟨rfl, by decide +kernel⟩
theorem dX9_stamperIs_44 : jj_D cX9_stamperIs 44 (.iload_n 3) 1 45 := ⟨rfl, by decide +kernel⟩
theorem dX9_stamperIs_45 : jj_D cX9_stamperIs 45 (.invokestatic 164) 3 48 := ⟨rfl, by decide +kernel⟩
theorem dX9_stamperIs_48 : jj_D cX9_stamperIs 48 (.istore 6) 2 50 := ⟨rfl, by decide +kernel⟩
theorem dX9_stamperIs_50 : jj_D cX9_stamperIs 50 (.iload 4) 2 52 := ⟨rfl, by decide +kernel⟩
theorem dX9_stamperIs_52 : jj_D cX9_stamperIs 52 (.ifCond .ne 13) 3 55 := ⟨rfl, by decide +kernel⟩
theorem dX9_stamperIs_55 : jj_D cX9_stamperIs 55 (.aload_n 0) 1 56 := ⟨rfl, by decide +kernel⟩
theorem dX9_stamperIs_56 : jj_D cX9_stamperIs 56 (.getfield 46) 3 59 := ⟨rfl, by decide +kernel⟩
theorem dX9_stamperIs_59 : jj_D cX9_stamperIs 59 (.iload 6) 2 61 := ⟨rfl, by decide +kernel⟩
theorem dX9_stamperIs_61 : jj_D cX9_stamperIs 61 (.iaload) 1 62 := ⟨rfl, by decide +kernel⟩
theorem dX9_stamperIs_62 : jj_D cX9_stamperIs 62 (.goto 66) 3 65 := ⟨rfl, by decide +kernel⟩
theorem dX9_stamperIs_65 : jj_D cX9_stamperIs 65 (.iload 4) 2 67 := ⟨rfl, by decide +kernel⟩
theorem dX9_stamperIs_67 : jj_D cX9_stamperIs 67 (.iconst 1) 1 68 := ⟨rfl, by decide +kernel⟩
theorem dX9_stamperIs_68 : jj_D cX9_stamperIs 68 (.if_icmp .ne 13) 3 71 := ⟨rfl, by decide +kernel⟩
theorem dX9_stamperIs_71 : jj_D cX9_stamperIs 71 (.aload_n 0) 1 72 := ⟨rfl, by decide +kernel⟩
theorem dX9_stamperIs_72 : jj_D cX9_stamperIs 72 (.getfield 49) 3 75 := ⟨rfl, by decide +kernel⟩
theorem dX9_stamperIs_75 : jj_D cX9_stamperIs 75 (.iload 6) 2 77 := ⟨rfl, by decide +kernel⟩
theorem dX9_stamperIs_77 : jj_D cX9_stamperIs 77 (.iaload) 1 78 := ⟨rfl, by decide +kernel⟩
theorem dX9_stamperIs_78 : jj_D cX9_stamperIs 78 (.goto 50) 3 81 := ⟨rfl, by decide +kernel⟩
theorem dX9_stamperIs_81 : jj_D cX9_stamperIs 81 (.iload 4) 2 83 := ⟨rfl, by decide +kernel⟩
theorem dX9_stamperIs_83 : jj_D cX9_stamperIs 83 (.iconst 2) 1 84 := ⟨rfl, by decide +kernel⟩
theorem dX9_stamperIs_84 : jj_D cX9_stamperIs 84 (.if_icmp .ne 21) 3 87 := ⟨rfl, by decide +kernel⟩
theorem dX9_stamperIs_87 : jj_D cX9_stamperIs 87 (.aload_n 0) 1 88 := ⟨rfl, by decide +kernel⟩
theorem dX9_stamperIs_88 : jj_D cX9_stamperIs 88 (.getfield 52) 3 91 := ⟨rfl, by decide +kernel⟩
theorem dX9_stamperIs_91 : jj_D cX9_stamperIs 91 (.iload 6) 2 93 := ⟨rfl, by decide +kernel⟩
theorem dX9_stamperIs_93 : jj_D cX9_stamperIs 93 (.iaload) 1 94 := ⟨rfl, by decide +kernel⟩
theorem dX9_stamperIs_94 : jj_D cX9_stamperIs 94 (.aload_n 0) 1 95 := ⟨rfl, by decide +kernel⟩
theorem dX9_stamperIs_95 : jj_D cX9_stamperIs 95 (.getfield 55) 3 98 := ⟨rfl, by decide +kernel⟩
theorem dX9_stamperIs_98 : jj_D cX9_stamperIs 98 (.iload 6) 2 100 := ⟨rfl, by decide +kernel⟩
theorem dX9_stamperIs_100 : jj_D cX9_stamperIs 100 (.iaload) 1 101 := ⟨rfl, by decide +kernel⟩
theorem dX9_stamperIs_101 : jj_D cX9_stamperIs 101 (.isub) 1 102 := ⟨rfl, by decide +kernel⟩
theorem dX9_stamperIs_102 : jj_D cX9_stamperIs 102 (.goto 26) 3 105 := ⟨rfl, by decide +kernel⟩
theorem dX9_stamperIs_105 : jj_D cX9_stamperIs 105 (.iload 4) 2 107 := ⟨rfl, by decide +kernel⟩
theorem dX9_stamperIs_107 : jj_D cX9_stamperIs 107 (.iconst 3) 1 108 := ⟨rfl, by decide +kernel⟩
theorem dX9_stamperIs_108 : jj_D cX9_stamperIs 108 (.if_icmp .ne 13) 3 111 := ⟨rfl, by decide +kernel⟩
theorem dX9_stamperIs_111 : jj_D cX9_stamperIs 111 (.aload_n 0) 1 112 := ⟨rfl, by decide +kernel⟩
theorem dX9_stamperIs_112 : jj_D cX9_stamperIs 112 (.getfield 58) 3 115 := ⟨rfl, by decide +kernel⟩
theorem dX9_stamperIs_115 : jj_D cX9_stamperIs 115 (.iload 6) 2 117 := ⟨rfl, by decide +kernel⟩
theorem dX9_stamperIs_117 : jj_D cX9_stamperIs 117 (.iaload) 1 118 := ⟨rfl, by decide +kernel⟩
theorem dX9_stamperIs_118 : jj_D cX9_stamperIs 118 (.goto 10) 3 121 := ⟨rfl, by decide +kernel⟩
theorem dX9_stamperIs_121 : jj_D cX9_stamperIs 121 (.aload_n 0) 1 122 := ⟨rfl, by decide +kernel⟩
theorem dX9_stamperIs_122 : jj_D cX9_stamperIs 122 (.getfield 61) 3 125 := ⟨rfl, by decide +kernel⟩
theorem dX9_stamperIs_125 : jj_D cX9_stamperIs 125 (.iload 6) 2 127 := ⟨rfl, by decide +kernel⟩
theorem dX9_stamperIs_127 : jj_D cX9_stamperIs 127 (.iaload) 1 128 := ⟨rfl, by decide +kernel⟩
theorem dX9_stamperIs_128 : jj_D cX9_stamperIs 128 (.ireturn) 1 129 := ⟨rfl, by decide +kernel⟩
theorem dX9_dueOf_0 : jj_D cX9_dueOf 0 (.aload_n 0) 1 1 := ⟨rfl, by decide +kernel⟩
theorem dX9_dueOf_1 : jj_D cX9_dueOf 1 (.getfield 82) 3 4 := ⟨rfl, by decide +kernel⟩
theorem dX9_dueOf_4 : jj_D cX9_dueOf 4 (.iload_n 1) 1 5 := ⟨rfl, by decide +kernel⟩
theorem dX9_dueOf_5 : jj_D cX9_dueOf 5 (.iaload) 1 6 := ⟨rfl, by decide +kernel⟩
theorem dX9_dueOf_6 : jj_D cX9_dueOf 6 (.bipush 12) 2 8 := ⟨rfl, by decide +kernel⟩
theorem dX9_dueOf_8 : jj_D cX9_dueOf 8 (.idiv) 1 9 := ⟨rfl, by decide +kernel⟩
theorem dX9_dueOf_9 : jj_D cX9_dueOf 9 (.istore 4) 2 11 := ⟨rfl, by decide +kernel⟩
theorem dX9_dueOf_11 : jj_D cX9_dueOf 11 (.iload_n 3) 1 12 := ⟨rfl, by decide +kernel⟩
theorem dX9_dueOf_12 : jj_D cX9_dueOf 12 (.i2l) 1 13 := ⟨rfl, by decide +kernel⟩
theorem dX9_dueOf_13 : jj_D cX9_dueOf 13 (.aload_n 0) 1 14 := ⟨rfl, by decide +kernel⟩
theorem dX9_dueOf_14 : jj_D cX9_dueOf 14 (.getfield 88) 3 17 := ⟨rfl, by decide +kernel⟩
theorem dX9_dueOf_17 : jj_D cX9_dueOf 17 (.bipush 6) 2 19 := ⟨rfl, by decide +kernel⟩
theorem dX9_dueOf_19 : jj_D cX9_dueOf 19 (.iload_n 1) 1 20 := ⟨rfl, by decide +kernel⟩
theorem dX9_dueOf_20 : jj_D cX9_dueOf 20 (.imul) 1 21 := ⟨rfl, by decide +kernel⟩
theorem dX9_dueOf_21 : jj_D cX9_dueOf 21 (.iload_n 2) 1 22 := ⟨rfl, by decide +kernel⟩
theorem dX9_dueOf_22 : jj_D cX9_dueOf 22 (.iadd) 1 23 := ⟨rfl, by decide +kernel⟩
theorem dX9_dueOf_23 : jj_D cX9_dueOf 23 (.iaload) 1 24 := ⟨rfl, by decide +kernel⟩
theorem dX9_dueOf_24 : jj_D cX9_dueOf 24 (.i2l) 1 25 := ⟨rfl, by decide +kernel⟩
theorem dX9_dueOf_25 : jj_D cX9_dueOf 25 (.lmul) 1 26 := ⟨rfl, by decide +kernel⟩
theorem dX9_dueOf_26 : jj_D cX9_dueOf 26 (.aload_n 0) 1 27 := ⟨rfl, by decide +kernel⟩
theorem dX9_dueOf_27 : jj_D cX9_dueOf 27 (.iload 4) 2 29 := ⟨rfl, by decide +kernel⟩
theorem dX9_dueOf_29 : jj_D cX9_dueOf 29 (.iload_n 2) 1 30 := ⟨rfl, by decide +kernel⟩
theorem dX9_dueOf_30 : jj_D cX9_dueOf 30 (.invokevirtual 158) 3 33 := ⟨rfl, by decide +kernel⟩
theorem dX9_dueOf_33 : jj_D cX9_dueOf 33 (.i2l) 1 34 := ⟨rfl, by decide +kernel⟩
theorem dX9_dueOf_34 : jj_D cX9_dueOf 34 (.lmul) 1 35 := ⟨rfl, by decide +kernel⟩
theorem dX9_dueOf_35 : jj_D cX9_dueOf 35 (.lstore 5) 2 37 := ⟨rfl, by decide +kernel⟩
theorem dX9_dueOf_37 : jj_D cX9_dueOf 37 (.lload 5) 2 39 := ⟨rfl, by decide +kernel⟩
theorem dX9_dueOf_39 : jj_D cX9_dueOf 39 (.ldc2_w 170) 3 42 := ⟨rfl, by decide +kernel⟩
theorem dX9_dueOf_42 : jj_D cX9_dueOf 42 (.aload_n 0) 1 43 := ⟨rfl, by decide +kernel⟩
theorem dX9_dueOf_43 : jj_D cX9_dueOf 43 (.iload 4) 2 45 := ⟨rfl, by decide +kernel⟩
theorem dX9_dueOf_45 : jj_D cX9_dueOf 45 (.iconst (-1)) 1 46 := ⟨rfl, by decide +kernel⟩
theorem dX9_dueOf_46 : jj_D cX9_dueOf 46 (.invokevirtual 158) 3 49 := ⟨rfl, by decide +kernel⟩
theorem dX9_dueOf_49 : jj_D cX9_dueOf 49 (.i2l) 1 50 := ⟨rfl, by decide +kernel⟩
theorem dX9_dueOf_50 : jj_D cX9_dueOf 50 (.lmul) 1 51 := ⟨rfl, by decide +kernel⟩
theorem dX9_dueOf_51 : jj_D cX9_dueOf 51 (.ldiv) 1 52 := ⟨rfl, by decide +kernel⟩
theorem dX9_dueOf_52 : jj_D cX9_dueOf 52 (.l2i) 1 53 := ⟨rfl, by decide +kernel⟩
theorem dX9_dueOf_53 : jj_D cX9_dueOf 53 (.ireturn) 1 54 := ⟨rfl, by decide +kernel⟩
theorem dX9_sell_0 : jj_D cX9_sell 0 (.aload_n 0) 1 1 := ⟨rfl, by decide +kernel⟩
theorem dX9_sell_1 : jj_D cX9_sell 1 (.iload_n 1) 1 2 := ⟨rfl, by decide +kernel⟩
theorem dX9_sell_2 : jj_D cX9_sell 2 (.iload_n 2) 1 3 := ⟨rfl, by decide +kernel⟩
theorem dX9_sell_3 : jj_D cX9_sell 3 (.iload_n 3) 1 4 := ⟨rfl, by decide +kernel⟩
theorem dX9_sell_4 : jj_D cX9_sell 4 (.invokevirtual 161) 3 7 := ⟨rfl, by decide +kernel⟩
theorem dX9_sell_7 : jj_D cX9_sell 7 (.istore 5) 2 9 := ⟨rfl, by decide +kernel⟩
theorem dX9_sell_9 : jj_D cX9_sell 9 (.iload 5) 2 11 := ⟨rfl, by decide +kernel⟩
theorem dX9_sell_11 : jj_D cX9_sell 11 (.ifCond .eq 12) 3 14 := ⟨rfl, by decide +kernel⟩
theorem dX9_sell_14 : jj_D cX9_sell 14 (.iload_n 1) 1 15 := ⟨rfl, by decide +kernel⟩
theorem dX9_sell_15 : jj_D cX9_sell 15 (.iload_n 2) 1 16 := ⟨rfl, by decide +kernel⟩
theorem dX9_sell_16 : jj_D cX9_sell 16 (.iload_n 3) 1 17 := ⟨rfl, by decide +kernel⟩
theorem dX9_sell_17 : jj_D cX9_sell 17 (.invokestatic 164) 3 20 := ⟨rfl, by decide +kernel⟩
theorem dX9_sell_20 : jj_D cX9_sell 20 (.goto 4) 3 23 := ⟨rfl, by decide +kernel⟩
theorem dX9_sell_23 : jj_D cX9_sell 23 (.iconst 0) 1 24 := ⟨rfl, by decide +kernel⟩
theorem dX9_sell_24 : jj_D cX9_sell 24 (.istore 6) 2 26 := ⟨rfl, by decide +kernel⟩
theorem dX9_sell_26 : jj_D cX9_sell 26 (.aload_n 0) 1 27 := ⟨rfl, by decide +kernel⟩
theorem dX9_sell_27 : jj_D cX9_sell 27 (.iload 5) 2 29 := ⟨rfl, by decide +kernel⟩
theorem dX9_sell_29 : jj_D cX9_sell 29 (.ifCond .ne 7) 3 32 := ⟨rfl, by decide +kernel⟩
theorem dX9_sell_32 : jj_D cX9_sell 32 (.iconst 1) 1 33 := ⟨rfl, by decide +kernel⟩
theorem dX9_sell_33 : jj_D cX9_sell 33 (.goto 53) 3 36 := ⟨rfl, by decide +kernel⟩
theorem dX9_sell_36 : jj_D cX9_sell 36 (.iload 4) 2 38 := ⟨rfl, by decide +kernel⟩
theorem dX9_sell_38 : jj_D cX9_sell 38 (.iconst 1) 1 39 := ⟨rfl, by decide +kernel⟩
theorem dX9_sell_39 : jj_D cX9_sell 39 (.sipush 500) 3 42 := ⟨rfl, by decide +kernel⟩
theorem dX9_sell_42 : jj_D cX9_sell 42 (.invokestatic 104) 3 45 := ⟨rfl, by decide +kernel⟩
theorem dX9_sell_45 : jj_D cX9_sell 45 (.ifCond .ne 7) 3 48 := ⟨rfl, by decide +kernel⟩
theorem dX9_sell_48 : jj_D cX9_sell 48 (.iconst 2) 1 49 := ⟨rfl, by decide +kernel⟩
theorem dX9_sell_49 : jj_D cX9_sell 49 (.goto 37) 3 52 := ⟨rfl, by decide +kernel⟩
theorem dX9_sell_52 : jj_D cX9_sell 52 (.aload_n 0) 1 53 := ⟨rfl, by decide +kernel⟩
theorem dX9_sell_53 : jj_D cX9_sell 53 (.getfield 49) 3 56 := ⟨rfl, by decide +kernel⟩
theorem dX9_sell_56 : jj_D cX9_sell 56 (.iload 6) 2 58 := ⟨rfl, by decide +kernel⟩
theorem dX9_sell_58 : jj_D cX9_sell 58 (.iaload) 1 59 := ⟨rfl, by decide +kernel⟩
theorem dX9_sell_59 : jj_D cX9_sell 59 (.aload_n 0) 1 60 := ⟨rfl, by decide +kernel⟩
theorem dX9_sell_60 : jj_D cX9_sell 60 (.getfield 52) 3 63 := ⟨rfl, by decide +kernel⟩
theorem dX9_sell_63 : jj_D cX9_sell 63 (.iload 6) 2 65 := ⟨rfl, by decide +kernel⟩
theorem dX9_sell_65 : jj_D cX9_sell 65 (.iaload) 1 66 := ⟨rfl, by decide +kernel⟩
theorem dX9_sell_66 : jj_D cX9_sell 66 (.isub) 1 67 := ⟨rfl, by decide +kernel⟩
theorem dX9_sell_67 : jj_D cX9_sell 67 (.iload 4) 2 69 := ⟨rfl, by decide +kernel⟩
theorem dX9_sell_69 : jj_D cX9_sell 69 (.if_icmp .lt 12) 3 72 := ⟨rfl, by decide +kernel⟩
theorem dX9_sell_72 : jj_D cX9_sell 72 (.aload_n 0) 1 73 := ⟨rfl, by decide +kernel⟩
theorem dX9_sell_73 : jj_D cX9_sell 73 (.getfield 172) 3 76 := ⟨rfl, by decide +kernel⟩
theorem dX9_sell_76 : jj_D cX9_sell 76 (.bipush 100) 2 78 := ⟨rfl, by decide +kernel⟩
theorem dX9_sell_78 : jj_D cX9_sell 78 (.if_icmp .ne 7) 3 81 := ⟨rfl, by decide +kernel⟩
theorem dX9_sell_81 : jj_D cX9_sell 81 (.iconst 3) 1 82 := ⟨rfl, by decide +kernel⟩
theorem dX9_sell_82 : jj_D cX9_sell 82 (.goto 4) 3 85 := ⟨rfl, by decide +kernel⟩
theorem dX9_sell_85 : jj_D cX9_sell 85 (.iconst 0) 1 86 := ⟨rfl, by decide +kernel⟩
theorem dX9_sell_86 : jj_D cX9_sell 86 (.invokevirtual 118) 3 89 := ⟨rfl, by decide +kernel⟩
theorem dX9_sell_89 : jj_D cX9_sell 89 (.ifCond .ne 5) 3 92 := ⟨rfl, by decide +kernel⟩
theorem dX9_sell_92 : jj_D cX9_sell 92 (.iconst 0) 1 93 := ⟨rfl, by decide +kernel⟩
theorem dX9_sell_93 : jj_D cX9_sell 93 (.ireturn) 1 94 := ⟨rfl, by decide +kernel⟩
theorem dX9_sell_94 : jj_D cX9_sell 94 (.aload_n 0) 1 95 := ⟨rfl, by decide +kernel⟩
theorem dX9_sell_95 : jj_D cX9_sell 95 (.getfield 52) 3 98 := ⟨rfl, by decide +kernel⟩
theorem dX9_sell_98 : jj_D cX9_sell 98 (.iload 6) 2 100 := ⟨rfl, by decide +kernel⟩
theorem dX9_sell_100 : jj_D cX9_sell 100 (.dup2) 1 101 := ⟨rfl, by decide +kernel⟩
theorem dX9_sell_101 : jj_D cX9_sell 101 (.iaload) 1 102 := ⟨rfl, by decide +kernel⟩
theorem dX9_sell_102 : jj_D cX9_sell 102 (.iload 4) 2 104 := ⟨rfl, by decide +kernel⟩
theorem dX9_sell_104 : jj_D cX9_sell 104 (.iadd) 1 105 := ⟨rfl, by decide +kernel⟩
theorem dX9_sell_105 : jj_D cX9_sell 105 (.iastore) 1 106 := ⟨rfl, by decide +kernel⟩
theorem dX9_sell_106 : jj_D cX9_sell 106 (.aload_n 0) 1 107 := ⟨rfl, by decide +kernel⟩
theorem dX9_sell_107 : jj_D cX9_sell 107 (.getfield 82) 3 110 := ⟨rfl, by decide +kernel⟩
theorem dX9_sell_110 : jj_D cX9_sell 110 (.aload_n 0) 1 111 := ⟨rfl, by decide +kernel⟩
theorem dX9_sell_111 : jj_D cX9_sell 111 (.getfield 172) 3 114 := ⟨rfl, by decide +kernel⟩
theorem dX9_sell_114 : jj_D cX9_sell 114 (.iload 6) 2 116 := ⟨rfl, by decide +kernel⟩
theorem dX9_sell_116 : jj_D cX9_sell 116 (.iastore) 1 117 := ⟨rfl, by decide +kernel⟩
theorem dX9_sell_117 : jj_D cX9_sell 117 (.aload_n 0) 1 118 := ⟨rfl, by decide +kernel⟩
theorem dX9_sell_118 : jj_D cX9_sell 118 (.getfield 85) 3 121 := ⟨rfl, by decide +kernel⟩
theorem dX9_sell_121 : jj_D cX9_sell 121 (.aload_n 0) 1 122 := ⟨rfl, by decide +kernel⟩
theorem dX9_sell_122 : jj_D cX9_sell 122 (.getfield 172) 3 125 := ⟨rfl, by decide +kernel⟩
theorem dX9_sell_125 : jj_D cX9_sell 125 (.iload 4) 2 127 := ⟨rfl, by decide +kernel⟩
theorem dX9_sell_127 : jj_D cX9_sell 127 (.iastore) 1 128 := ⟨rfl, by decide +kernel⟩
theorem dX9_sell_128 : jj_D cX9_sell 128 (.iconst 0) 1 129 := ⟨rfl, by decide +kernel⟩
theorem dX9_sell_129 : jj_D cX9_sell 129 (.istore 7) 2 131 := ⟨rfl, by decide +kernel⟩
theorem dX9_sell_131 : jj_D cX9_sell 131 (.iload 7) 2 133 := ⟨rfl, by decide +kernel⟩
theorem dX9_sell_133 : jj_D cX9_sell 133 (.bipush 6) 2 135 := ⟨rfl, by decide +kernel⟩
theorem dX9_sell_135 : jj_D cX9_sell 135 (.if_icmp .ge 53) 3 138 := ⟨rfl, by decide +kernel⟩
theorem dX9_sell_138 : jj_D cX9_sell 138 (.aload_n 0) 1 139 := ⟨rfl, by decide +kernel⟩
theorem dX9_sell_139 : jj_D cX9_sell 139 (.getfield 88) 3 142 := ⟨rfl, by decide +kernel⟩
theorem dX9_sell_142 : jj_D cX9_sell 142 (.bipush 6) 2 144 := ⟨rfl, by decide +kernel⟩
theorem dX9_sell_144 : jj_D cX9_sell 144 (.aload_n 0) 1 145 := ⟨rfl, by decide +kernel⟩
theorem dX9_sell_145 : jj_D cX9_sell 145 (.getfield 172) 3 148 := ⟨rfl, by decide +kernel⟩
theorem dX9_sell_148 : jj_D cX9_sell 148 (.imul) 1 149 := ⟨rfl, by decide +kernel⟩
theorem dX9_sell_149 : jj_D cX9_sell 149 (.iload 7) 2 151 := ⟨rfl, by decide +kernel⟩
theorem dX9_sell_151 : jj_D cX9_sell 151 (.iadd) 1 152 := ⟨rfl, by decide +kernel⟩
theorem dX9_sell_152 : jj_D cX9_sell 152 (.aload_n 0) 1 153 := ⟨rfl, by decide +kernel⟩
theorem dX9_sell_153 : jj_D cX9_sell 153 (.getfield 91) 3 156 := ⟨rfl, by decide +kernel⟩
theorem dX9_sell_156 : jj_D cX9_sell 156 (.iload 7) 2 158 := ⟨rfl, by decide +kernel⟩
theorem dX9_sell_158 : jj_D cX9_sell 158 (.iaload) 1 159 := ⟨rfl, by decide +kernel⟩
theorem dX9_sell_159 : jj_D cX9_sell 159 (.iastore) 1 160 := ⟨rfl, by decide +kernel⟩
theorem dX9_sell_160 : jj_D cX9_sell 160 (.aload_n 0) 1 161 := ⟨rfl, by decide +kernel⟩
theorem dX9_sell_161 : jj_D cX9_sell 161 (.getfield 94) 3 164 := ⟨rfl, by decide +kernel⟩
theorem dX9_sell_164 : jj_D cX9_sell 164 (.iload 7) 2 166 := ⟨rfl, by decide +kernel⟩
theorem dX9_sell_166 : jj_D cX9_sell 166 (.dup2) 1 167 := ⟨rfl, by decide +kernel⟩
theorem dX9_sell_167 : jj_D cX9_sell 167 (.iaload) 1 168 := ⟨rfl, by decide +kernel⟩
theorem dX9_sell_168 : jj_D cX9_sell 168 (.aload_n 0) 1 169 := ⟨rfl, by decide +kernel⟩
theorem dX9_sell_169 : jj_D cX9_sell 169 (.aload_n 0) 1 170 := ⟨rfl, by decide +kernel⟩
theorem dX9_sell_170 : jj_D cX9_sell 170 (.getfield 172) 3 173 := ⟨rfl, by decide +kernel⟩
theorem dX9_sell_173 : jj_D cX9_sell 173 (.iload 7) 2 175 := ⟨rfl, by decide +kernel⟩
theorem dX9_sell_175 : jj_D cX9_sell 175 (.iload 4) 2 177 := ⟨rfl, by decide +kernel⟩
theorem dX9_sell_177 : jj_D cX9_sell 177 (.invokevirtual 175) 3 180 := ⟨rfl, by decide +kernel⟩
theorem dX9_sell_180 : jj_D cX9_sell 180 (.iadd) 1 181 := ⟨rfl, by decide +kernel⟩
theorem dX9_sell_181 : jj_D cX9_sell 181 (.iastore) 1 182 := ⟨rfl, by decide +kernel⟩
theorem dX9_sell_182 : jj_D cX9_sell 182 (.iinc 7 1) 3 185 := ⟨rfl, by decide +kernel⟩
theorem dX9_sell_185 : jj_D cX9_sell 185 (.goto (-54)) 3 188 := ⟨rfl, by decide +kernel⟩
theorem dX9_sell_188 : jj_D cX9_sell 188 (.aload_n 0) 1 189 := ⟨rfl, by decide +kernel⟩
theorem dX9_sell_189 : jj_D cX9_sell 189 (.dup) 1 190 := ⟨rfl, by decide +kernel⟩
theorem dX9_sell_190 : jj_D cX9_sell 190 (.getfield 172) 3 193 := ⟨rfl, by decide +kernel⟩
theorem dX9_sell_193 : jj_D cX9_sell 193 (.iconst 1) 1 194 := ⟨rfl, by decide +kernel⟩
theorem dX9_sell_194 : jj_D cX9_sell 194 (.iadd) 1 195 := ⟨rfl, by decide +kernel⟩
theorem dX9_sell_195 : jj_D cX9_sell 195 (.putfield 172) 3 198 := ⟨rfl, by decide +kernel⟩
theorem dX9_sell_198 : jj_D cX9_sell 198 (.aload_n 0) 1 199 := ⟨rfl, by decide +kernel⟩
theorem dX9_sell_199 : jj_D cX9_sell 199 (.getfield 52) 3 202 := ⟨rfl, by decide +kernel⟩
theorem dX9_sell_202 : jj_D cX9_sell 202 (.iload 6) 2 204 := ⟨rfl, by decide +kernel⟩
theorem dX9_sell_204 : jj_D cX9_sell 204 (.iaload) 1 205 := ⟨rfl, by decide +kernel⟩
theorem dX9_sell_205 : jj_D cX9_sell 205 (.aload_n 0) 1 206 := ⟨rfl, by decide +kernel⟩
theorem dX9_sell_206 : jj_D cX9_sell 206 (.getfield 55) 3 209 := ⟨rfl, by decide +kernel⟩
theorem dX9_sell_209 : jj_D cX9_sell 209 (.iload 6) 2 211 := ⟨rfl, by decide +kernel⟩
theorem dX9_sell_211 : jj_D cX9_sell 211 (.iaload) 1 212 := ⟨rfl, by decide +kernel⟩
theorem dX9_sell_212 : jj_D cX9_sell 212 (.isub) 1 213 := ⟨rfl, by decide +kernel⟩
theorem dX9_sell_213 : jj_D cX9_sell 213 (.ireturn) 1 214 := ⟨rfl, by decide +kernel⟩
theorem dX9_discsOf_0 : jj_D cX9_discsOf 0 (.iconst 0) 1 1 := ⟨rfl, by decide +kernel⟩
theorem dX9_discsOf_1 : jj_D cX9_discsOf 1 (.istore_n 2) 1 2 := ⟨rfl, by decide +kernel⟩
theorem dX9_discsOf_2 : jj_D cX9_discsOf 2 (.iconst 0) 1 3 := ⟨rfl, by decide +kernel⟩
theorem dX9_discsOf_3 : jj_D cX9_discsOf 3 (.istore_n 3) 1 4 := ⟨rfl, by decide +kernel⟩
theorem dX9_discsOf_4 : jj_D cX9_discsOf 4 (.iload_n 3) 1 5 := ⟨rfl, by decide +kernel⟩
theorem dX9_discsOf_5 : jj_D cX9_discsOf 5 (.aload_n 0) 1 6 := ⟨rfl, by decide +kernel⟩
theorem dX9_discsOf_6 : jj_D cX9_discsOf 6 (.getfield 178) 3 9 := ⟨rfl, by decide +kernel⟩
theorem dX9_discsOf_9 : jj_D cX9_discsOf 9 (.if_icmp .ge 27) 3 12 := ⟨rfl, by decide +kernel⟩
theorem dX9_discsOf_12 : jj_D cX9_discsOf 12 (.iload_n 2) 1 13 := ⟨rfl, by decide +kernel⟩
theorem dX9_discsOf_13 : jj_D cX9_discsOf 13 (.aload_n 0) 1 14 := ⟨rfl, by decide +kernel⟩
theorem dX9_discsOf_14 : jj_D cX9_discsOf 14 (.getfield 64) 3 17 := ⟨rfl, by decide +kernel⟩
theorem dX9_discsOf_17 : jj_D cX9_discsOf 17 (.iload_n 3) 1 18 := ⟨rfl, by decide +kernel⟩
theorem dX9_discsOf_18 : jj_D cX9_discsOf 18 (.iaload) 1 19 := ⟨rfl, by decide +kernel⟩
theorem dX9_discsOf_19 : jj_D cX9_discsOf 19 (.iload_n 1) 1 20 := ⟨rfl, by decide +kernel⟩
theorem dX9_discsOf_20 : jj_D cX9_discsOf 20 (.if_icmp .ne 7) 3 23 := ⟨rfl, by decide +kernel⟩
theorem dX9_discsOf_23 : jj_D cX9_discsOf 23 (.iconst 1) 1 24 := ⟨rfl, by decide +kernel⟩
theorem dX9_discsOf_24 : jj_D cX9_discsOf 24 (.goto 4) 3 27 := ⟨rfl, by decide +kernel⟩
theorem dX9_discsOf_27 : jj_D cX9_discsOf 27 (.iconst 0) 1 28 := ⟨rfl, by decide +kernel⟩
theorem dX9_discsOf_28 : jj_D cX9_discsOf 28 (.iadd) 1 29 := ⟨rfl, by decide +kernel⟩
theorem dX9_discsOf_29 : jj_D cX9_discsOf 29 (.istore_n 2) 1 30 := ⟨rfl, by decide +kernel⟩
theorem dX9_discsOf_30 : jj_D cX9_discsOf 30 (.iinc 3 1) 3 33 := ⟨rfl, by decide +kernel⟩
theorem dX9_discsOf_33 : jj_D cX9_discsOf 33 (.goto (-29)) 3 36 := ⟨rfl, by decide +kernel⟩
theorem dX9_discsOf_36 : jj_D cX9_discsOf 36 (.iload_n 2) 1 37 := ⟨rfl, by decide +kernel⟩
theorem dX9_discsOf_37 : jj_D cX9_discsOf 37 (.ireturn) 1 38 := ⟨rfl, by decide +kernel⟩
theorem dX9_takesOff_0 : jj_D cX9_takesOff 0 (.iconst 0) 1 1 := ⟨rfl, by decide +kernel⟩
theorem dX9_takesOff_1 : jj_D cX9_takesOff 1 (.istore_n 3) 1 2 := ⟨rfl, by decide +kernel⟩
theorem dX9_takesOff_2 : jj_D cX9_takesOff 2 (.iload_n 3) 1 3 := ⟨rfl, by decide +kernel⟩
theorem dX9_takesOff_3 : jj_D cX9_takesOff 3 (.bipush 6) 2 5 := ⟨rfl, by decide +kernel⟩
theorem dX9_takesOff_5 : jj_D cX9_takesOff 5 (.if_icmp .ge 45) 3 8 := ⟨rfl, by decide +kernel⟩
theorem dX9_takesOff_8 : jj_D cX9_takesOff 8 (.aload_n 0) 1 9 := ⟨rfl, by decide +kernel⟩
theorem dX9_takesOff_9 : jj_D cX9_takesOff 9 (.getfield 94) 3 12 := ⟨rfl, by decide +kernel⟩
theorem dX9_takesOff_12 : jj_D cX9_takesOff 12 (.iload_n 3) 1 13 := ⟨rfl, by decide +kernel⟩
theorem dX9_takesOff_13 : jj_D cX9_takesOff 13 (.dup2) 1 14 := ⟨rfl, by decide +kernel⟩
theorem dX9_takesOff_14 : jj_D cX9_takesOff 14 (.iaload) 1 15 := ⟨rfl, by decide +kernel⟩
theorem dX9_takesOff_15 : jj_D cX9_takesOff 15 (.aload_n 0) 1 16 := ⟨rfl, by decide +kernel⟩
theorem dX9_takesOff_16 : jj_D cX9_takesOff 16 (.iload_n 1) 1 17 := ⟨rfl, by decide +kernel⟩
theorem dX9_takesOff_17 : jj_D cX9_takesOff 17 (.iload_n 3) 1 18 := ⟨rfl, by decide +kernel⟩
theorem dX9_takesOff_18 : jj_D cX9_takesOff 18 (.aload_n 0) 1 19 := ⟨rfl, by decide +kernel⟩
theorem dX9_takesOff_19 : jj_D cX9_takesOff 19 (.getfield 85) 3 22 := ⟨rfl, by decide +kernel⟩
theorem dX9_takesOff_22 : jj_D cX9_takesOff 22 (.iload_n 1) 1 23 := ⟨rfl, by decide +kernel⟩
theorem dX9_takesOff_23 : jj_D cX9_takesOff 23 (.iaload) 1 24 := ⟨rfl, by decide +kernel⟩
theorem dX9_takesOff_24 : jj_D cX9_takesOff 24 (.iload_n 2) 1 25 := ⟨rfl, by decide +kernel⟩
theorem dX9_takesOff_25 : jj_D cX9_takesOff 25 (.isub) 1 26 := ⟨rfl, by decide +kernel⟩
theorem dX9_takesOff_26 : jj_D cX9_takesOff 26 (.invokevirtual 175) 3 29 := ⟨rfl, by decide +kernel⟩
theorem dX9_takesOff_29 : jj_D cX9_takesOff 29 (.aload_n 0) 1 30 := ⟨rfl, by decide +kernel⟩
theorem dX9_takesOff_30 : jj_D cX9_takesOff 30 (.iload_n 1) 1 31 := ⟨rfl, by decide +kernel⟩
theorem dX9_takesOff_31 : jj_D cX9_takesOff 31 (.iload_n 3) 1 32 := ⟨rfl, by decide +kernel⟩
theorem dX9_takesOff_32 : jj_D cX9_takesOff 32 (.aload_n 0) 1 33 := ⟨rfl, by decide +kernel⟩
theorem dX9_takesOff_33 : jj_D cX9_takesOff 33 (.getfield 85) 3 36 := ⟨rfl, by decide +kernel⟩
theorem dX9_takesOff_36 : jj_D cX9_takesOff 36 (.iload_n 1) 1 37 := ⟨rfl, by decide +kernel⟩
theorem dX9_takesOff_37 : jj_D cX9_takesOff 37 (.iaload) 1 38 := ⟨rfl, by decide +kernel⟩
theorem dX9_takesOff_38 : jj_D cX9_takesOff 38 (.invokevirtual 175) 3 41 := ⟨rfl, by decide +kernel⟩
theorem dX9_takesOff_41 : jj_D cX9_takesOff 41 (.isub) 1 42 := ⟨rfl, by decide +kernel⟩
theorem dX9_takesOff_42 : jj_D cX9_takesOff 42 (.iadd) 1 43 := ⟨rfl, by decide +kernel⟩
theorem dX9_takesOff_43 : jj_D cX9_takesOff 43 (.iastore) 1 44 := ⟨rfl, by decide +kernel⟩
theorem dX9_takesOff_44 : jj_D cX9_takesOff 44 (.iinc 3 1) 3 47 := ⟨rfl, by decide +kernel⟩
theorem dX9_takesOff_47 : jj_D cX9_takesOff 47 (.goto (-45)) 3 50 := ⟨rfl, by decide +kernel⟩
theorem dX9_takesOff_50 : jj_D cX9_takesOff 50 (.aload_n 0) 1 51 := ⟨rfl, by decide +kernel⟩
theorem dX9_takesOff_51 : jj_D cX9_takesOff 51 (.getfield 85) 3 54 := ⟨rfl, by decide +kernel⟩
theorem dX9_takesOff_54 : jj_D cX9_takesOff 54 (.iload_n 1) 1 55 := ⟨rfl, by decide +kernel⟩
theorem dX9_takesOff_55 : jj_D cX9_takesOff 55 (.dup2) 1 56 := ⟨rfl, by decide +kernel⟩
theorem dX9_takesOff_56 : jj_D cX9_takesOff 56 (.iaload) 1 57 := ⟨rfl, by decide +kernel⟩
theorem dX9_takesOff_57 : jj_D cX9_takesOff 57 (.iload_n 2) 1 58 := ⟨rfl, by decide +kernel⟩
theorem dX9_takesOff_58 : jj_D cX9_takesOff 58 (.isub) 1 59 := ⟨rfl, by decide +kernel⟩
theorem dX9_takesOff_59 : jj_D cX9_takesOff 59 (.iastore) 1 60 := ⟨rfl, by decide +kernel⟩
theorem dX9_takesOff_60 : jj_D cX9_takesOff 60 (.return_) 1 61 := ⟨rfl, by decide +kernel⟩
theorem dX9_back_0 : jj_D cX9_back 0 (.aload_n 0) 1 1 := ⟨rfl, by decide +kernel⟩
theorem dX9_back_1 : jj_D cX9_back 1 (.iload_n 1) 1 2 := ⟨rfl, by decide +kernel⟩
theorem dX9_back_2 : jj_D cX9_back 2 (.iload_n 2) 1 3 := ⟨rfl, by decide +kernel⟩
theorem dX9_back_3 : jj_D cX9_back 3 (.iload_n 3) 1 4 := ⟨rfl, by decide +kernel⟩
theorem dX9_back_4 : jj_D cX9_back 4 (.invokevirtual 161) 3 7 := ⟨rfl, by decide +kernel⟩
theorem dX9_back_7 : jj_D cX9_back 7 (.istore 5) 2 9 := ⟨rfl, by decide +kernel⟩
theorem dX9_back_9 : jj_D cX9_back 9 (.iload 5) 2 11 := ⟨rfl, by decide +kernel⟩
theorem dX9_back_11 : jj_D cX9_back 11 (.ifCond .eq 12) 3 14 := ⟨rfl, by decide +kernel⟩
theorem dX9_back_14 : jj_D cX9_back 14 (.iload_n 1) 1 15 := ⟨rfl, by decide +kernel⟩
theorem dX9_back_15 : jj_D cX9_back 15 (.iload_n 2) 1 16 := ⟨rfl, by decide +kernel⟩
theorem dX9_back_16 : jj_D cX9_back 16 (.iload_n 3) 1 17 := ⟨rfl, by decide +kernel⟩
theorem dX9_back_17 : jj_D cX9_back 17 (.invokestatic 164) 3 20 := ⟨rfl, by decide +kernel⟩
theorem dX9_back_20 : jj_D cX9_back 20 (.goto 4) 3 23 := ⟨rfl, by decide +kernel⟩
theorem dX9_back_23 : jj_D cX9_back 23 (.iconst 0) 1 24 := ⟨rfl, by decide +kernel⟩
theorem dX9_back_24 : jj_D cX9_back 24 (.istore 6) 2 26 := ⟨rfl, by decide +kernel⟩
theorem dX9_back_26 : jj_D cX9_back 26 (.aload_n 0) 1 27 := ⟨rfl, by decide +kernel⟩
theorem dX9_back_27 : jj_D cX9_back 27 (.iload 5) 2 29 := ⟨rfl, by decide +kernel⟩
theorem dX9_back_29 : jj_D cX9_back 29 (.ifCond .ne 7) 3 32 := ⟨rfl, by decide +kernel⟩
theorem dX9_back_32 : jj_D cX9_back 32 (.iconst 1) 1 33 := ⟨rfl, by decide +kernel⟩
theorem dX9_back_33 : jj_D cX9_back 33 (.goto 51) 3 36 := ⟨rfl, by decide +kernel⟩
theorem dX9_back_36 : jj_D cX9_back 36 (.iload 4) 2 38 := ⟨rfl, by decide +kernel⟩
theorem dX9_back_38 : jj_D cX9_back 38 (.iconst 1) 1 39 := ⟨rfl, by decide +kernel⟩
theorem dX9_back_39 : jj_D cX9_back 39 (.sipush 500) 3 42 := ⟨rfl, by decide +kernel⟩
theorem dX9_back_42 : jj_D cX9_back 42 (.invokestatic 104) 3 45 := ⟨rfl, by decide +kernel⟩
theorem dX9_back_45 : jj_D cX9_back 45 (.ifCond .ne 7) 3 48 := ⟨rfl, by decide +kernel⟩
theorem dX9_back_48 : jj_D cX9_back 48 (.iconst 2) 1 49 := ⟨rfl, by decide +kernel⟩
theorem dX9_back_49 : jj_D cX9_back 49 (.goto 35) 3 52 := ⟨rfl, by decide +kernel⟩
theorem dX9_back_52 : jj_D cX9_back 52 (.aload_n 0) 1 53 := ⟨rfl, by decide +kernel⟩
theorem dX9_back_53 : jj_D cX9_back 53 (.getfield 52) 3 56 := ⟨rfl, by decide +kernel⟩
theorem dX9_back_56 : jj_D cX9_back 56 (.iload 6) 2 58 := ⟨rfl, by decide +kernel⟩
theorem dX9_back_58 : jj_D cX9_back 58 (.iaload) 1 59 := ⟨rfl, by decide +kernel⟩
theorem dX9_back_59 : jj_D cX9_back 59 (.aload_n 0) 1 60 := ⟨rfl, by decide +kernel⟩
theorem dX9_back_60 : jj_D cX9_back 60 (.getfield 55) 3 63 := ⟨rfl, by decide +kernel⟩
theorem dX9_back_63 : jj_D cX9_back 63 (.iload 6) 2 65 := ⟨rfl, by decide +kernel⟩
theorem dX9_back_65 : jj_D cX9_back 65 (.iaload) 1 66 := ⟨rfl, by decide +kernel⟩
theorem dX9_back_66 : jj_D cX9_back 66 (.isub) 1 67 := ⟨rfl, by decide +kernel⟩
theorem dX9_back_67 : jj_D cX9_back 67 (.aload_n 0) 1 68 := ⟨rfl, by decide +kernel⟩
theorem dX9_back_68 : jj_D cX9_back 68 (.iload 6) 2 70 := ⟨rfl, by decide +kernel⟩
theorem dX9_back_70 : jj_D cX9_back 70 (.invokevirtual 181) 3 73 := ⟨rfl, by decide +kernel⟩
theorem dX9_back_73 : jj_D cX9_back 73 (.isub) 1 74 := ⟨rfl, by decide +kernel⟩
theorem dX9_back_74 : jj_D cX9_back 74 (.iload 4) 2 76 := ⟨rfl, by decide +kernel⟩
theorem dX9_back_76 : jj_D cX9_back 76 (.if_icmp .ge 7) 3 79 := ⟨rfl, by decide +kernel⟩
theorem dX9_back_79 : jj_D cX9_back 79 (.iconst 3) 1 80 := ⟨rfl, by decide +kernel⟩
theorem dX9_back_80 : jj_D cX9_back 80 (.goto 4) 3 83 := ⟨rfl, by decide +kernel⟩
theorem dX9_back_83 : jj_D cX9_back 83 (.iconst 0) 1 84 := ⟨rfl, by decide +kernel⟩
theorem dX9_back_84 : jj_D cX9_back 84 (.invokevirtual 118) 3 87 := ⟨rfl, by decide +kernel⟩
theorem dX9_back_87 : jj_D cX9_back 87 (.ifCond .ne 5) 3 90 := ⟨rfl, by decide +kernel⟩
theorem dX9_back_90 : jj_D cX9_back 90 (.iconst 0) 1 91 := ⟨rfl, by decide +kernel⟩
theorem dX9_back_91 : jj_D cX9_back 91 (.ireturn) 1 92 := ⟨rfl, by decide +kernel⟩
theorem dX9_back_92 : jj_D cX9_back 92 (.iload 4) 2 94 := ⟨rfl, by decide +kernel⟩
theorem dX9_back_94 : jj_D cX9_back 94 (.istore 7) 2 96 := ⟨rfl, by decide +kernel⟩
theorem dX9_back_96 : jj_D cX9_back 96 (.aload_n 0) 1 97 := ⟨rfl, by decide +kernel⟩
theorem dX9_back_97 : jj_D cX9_back 97 (.getfield 172) 3 100 := ⟨rfl, by decide +kernel⟩
theorem dX9_back_100 : jj_D cX9_back 100 (.iconst 1) 1 101 := ⟨rfl, by decide +kernel⟩
theorem dX9_back_101 : jj_D cX9_back 101 (.isub) 1 102 := ⟨rfl, by decide +kernel⟩
theorem dX9_back_102 : jj_D cX9_back 102 (.istore 8) 2 104 := ⟨rfl, by decide +kernel⟩
theorem dX9_back_104 : jj_D cX9_back 104 (.iload 8) 2 106 := ⟨rfl, by decide +kernel⟩
theorem dX9_back_106 : jj_D cX9_back 106 (.ifCond .lt 62) 3 109 := ⟨rfl, by decide +kernel⟩
theorem dX9_back_109 : jj_D cX9_back 109 (.aload_n 0) 1 110 := ⟨rfl, by decide +kernel⟩
theorem dX9_back_110 : jj_D cX9_back 110 (.getfield 82) 3 113 := ⟨rfl, by decide +kernel⟩
theorem dX9_back_113 : jj_D cX9_back 113 (.iload 8) 2 115 := ⟨rfl, by decide +kernel⟩
theorem dX9_back_115 : jj_D cX9_back 115 (.iaload) 1 116 := ⟨rfl, by decide +kernel⟩
theorem dX9_back_116 : jj_D cX9_back 116 (.iload 6) 2 118 := ⟨rfl, by decide +kernel⟩
theorem dX9_back_118 : jj_D cX9_back 118 (.if_icmp .ne 44) 3 121 := ⟨rfl, by decide +kernel⟩
theorem dX9_back_121 : jj_D cX9_back 121 (.aload_n 0) 1 122 := ⟨rfl, by decide +kernel⟩
theorem dX9_back_122 : jj_D cX9_back 122 (.getfield 85) 3 125 := ⟨rfl, by decide +kernel⟩
theorem dX9_back_125 : jj_D cX9_back 125 (.iload 8) 2 127 := ⟨rfl, by decide +kernel⟩
theorem dX9_back_127 : jj_D cX9_back 127 (.iaload) 1 128 := ⟨rfl, by decide +kernel⟩
theorem dX9_back_128 : jj_D cX9_back 128 (.iload 7) 2 130 := ⟨rfl, by decide +kernel⟩
theorem dX9_back_130 : jj_D cX9_back 130 (.if_icmp .ge 13) 3 133 := ⟨rfl, by decide +kernel⟩
theorem dX9_back_133 : jj_D cX9_back 133 (.aload_n 0) 1 134 := ⟨rfl, by decide +kernel⟩
theorem dX9_back_134 : jj_D cX9_back 134 (.getfield 85) 3 137 := ⟨rfl, by decide +kernel⟩
theorem dX9_back_137 : jj_D cX9_back 137 (.iload 8) 2 139 := ⟨rfl, by decide +kernel⟩
theorem dX9_back_139 : jj_D cX9_back 139 (.iaload) 1 140 := ⟨rfl, by decide +kernel⟩
theorem dX9_back_140 : jj_D cX9_back 140 (.goto 5) 3 143 := ⟨rfl, by decide +kernel⟩
theorem dX9_back_143 : jj_D cX9_back 143 (.iload 7) 2 145 := ⟨rfl, by decide +kernel⟩
theorem dX9_back_145 : jj_D cX9_back 145 (.istore 9) 2 147 := ⟨rfl, by decide +kernel⟩
theorem dX9_back_147 : jj_D cX9_back 147 (.aload_n 0) 1 148 := ⟨rfl, by decide +kernel⟩
theorem dX9_back_148 : jj_D cX9_back 148 (.iload 8) 2 150 := ⟨rfl, by decide +kernel⟩
theorem dX9_back_150 : jj_D cX9_back 150 (.iload 9) 2 152 := ⟨rfl, by decide +kernel⟩
theorem dX9_back_152 : jj_D cX9_back 152 (.invokevirtual 184) 3 155 := ⟨rfl, by decide +kernel⟩
theorem dX9_back_155 : jj_D cX9_back 155 (.iload 7) 2 157 := ⟨rfl, by decide +kernel⟩
theorem dX9_back_157 : jj_D cX9_back 157 (.iload 9) 2 159 := ⟨rfl, by decide +kernel⟩
theorem dX9_back_159 : jj_D cX9_back 159 (.isub) 1 160 := ⟨rfl, by decide +kernel⟩
theorem dX9_back_160 : jj_D cX9_back 160 (.istore 7) 2 162 := ⟨rfl, by decide +kernel⟩
theorem dX9_back_162 : jj_D cX9_back 162 (.iinc 8 (-1)) 3 165 := ⟨rfl, by decide +kernel⟩
theorem dX9_back_165 : jj_D cX9_back 165 (.goto (-61)) 3 168 := ⟨rfl, by decide +kernel⟩
theorem dX9_back_168 : jj_D cX9_back 168 (.aload_n 0) 1 169 := ⟨rfl, by decide +kernel⟩
theorem dX9_back_169 : jj_D cX9_back 169 (.getfield 55) 3 172 := ⟨rfl, by decide +kernel⟩
theorem dX9_back_172 : jj_D cX9_back 172 (.iload 6) 2 174 := ⟨rfl, by decide +kernel⟩
theorem dX9_back_174 : jj_D cX9_back 174 (.dup2) 1 175 := ⟨rfl, by decide +kernel⟩
theorem dX9_back_175 : jj_D cX9_back 175 (.iaload) 1 176 := ⟨rfl, by decide +kernel⟩
theorem dX9_back_176 : jj_D cX9_back 176 (.iload 4) 2 178 := ⟨rfl, by decide +kernel⟩
theorem dX9_back_178 : jj_D cX9_back 178 (.iadd) 1 179 := ⟨rfl, by decide +kernel⟩
theorem dX9_back_179 : jj_D cX9_back 179 (.iastore) 1 180 := ⟨rfl, by decide +kernel⟩
theorem dX9_back_180 : jj_D cX9_back 180 (.aload_n 0) 1 181 := ⟨rfl, by decide +kernel⟩
theorem dX9_back_181 : jj_D cX9_back 181 (.getfield 52) 3 184 := ⟨rfl, by decide +kernel⟩
theorem dX9_back_184 : jj_D cX9_back 184 (.iload 6) 2 186 := ⟨rfl, by decide +kernel⟩
theorem dX9_back_186 : jj_D cX9_back 186 (.iaload) 1 187 := ⟨rfl, by decide +kernel⟩
theorem dX9_back_187 : jj_D cX9_back 187 (.aload_n 0) 1 188 := ⟨rfl, by decide +kernel⟩
theorem dX9_back_188 : jj_D cX9_back 188 (.getfield 55) 3 191 := ⟨rfl, by decide +kernel⟩
theorem dX9_back_191 : jj_D cX9_back 191 (.iload 6) 2 193 := ⟨rfl, by decide +kernel⟩
theorem dX9_back_193 : jj_D cX9_back 193 (.iaload) 1 194 := ⟨rfl, by decide +kernel⟩
theorem dX9_back_194 : jj_D cX9_back 194 (.isub) 1 195 := ⟨rfl, by decide +kernel⟩
theorem dX9_back_195 : jj_D cX9_back 195 (.ireturn) 1 196 := ⟨rfl, by decide +kernel⟩
theorem dX9_isDisc_0 : jj_D cX9_isDisc 0 (.iload_n 1) 1 1 := ⟨rfl, by decide +kernel⟩
theorem dX9_isDisc_1 : jj_D cX9_isDisc 1 (.iconst 0) 1 2 := ⟨rfl, by decide +kernel⟩
theorem dX9_isDisc_2 : jj_D cX9_isDisc 2 (.aload_n 0) 1 3 := ⟨rfl, by decide +kernel⟩
theorem dX9_isDisc_3 : jj_D cX9_isDisc 3 (.getfield 178) 3 6 := ⟨rfl, by decide +kernel⟩
theorem dX9_isDisc_6 : jj_D cX9_isDisc 6 (.iconst 1) 1 7 := ⟨rfl, by decide +kernel⟩
theorem dX9_isDisc_7 : jj_D cX9_isDisc 7 (.isub) 1 8 := ⟨rfl, by decide +kernel⟩
theorem dX9_isDisc_8 : jj_D cX9_isDisc 8 (.invokestatic 104) 3 11 := ⟨rfl, by decide +kernel⟩
theorem dX9_isDisc_11 : jj_D cX9_isDisc 11 (.ireturn) 1 12 := ⟨rfl, by decide +kernel⟩
theorem dX9_isPart_0 : jj_D cX9_isPart 0 (.iload_n 0) 1 1 := ⟨rfl, by decide +kernel⟩
theorem dX9_isPart_1 : jj_D cX9_isPart 1 (.iconst 0) 1 2 := ⟨rfl, by decide +kernel⟩
theorem dX9_isPart_2 : jj_D cX9_isPart 2 (.bipush 7) 2 4 := ⟨rfl, by decide +kernel⟩
theorem dX9_isPart_4 : jj_D cX9_isPart 4 (.invokestatic 104) 3 7 := ⟨rfl, by decide +kernel⟩
theorem dX9_isPart_7 : jj_D cX9_isPart 7 (.ireturn) 1 8 := ⟨rfl, by decide +kernel⟩
theorem dX9_disc_0 : jj_D cX9_disc 0 (.aload_n 0) 1 1 := ⟨rfl, by decide +kernel⟩
theorem dX9_disc_1 : jj_D cX9_disc 1 (.iload_n 1) 1 2 := ⟨rfl, by decide +kernel⟩
theorem dX9_disc_2 : jj_D cX9_disc 2 (.iload_n 2) 1 3 := ⟨rfl, by decide +kernel⟩
theorem dX9_disc_3 : jj_D cX9_disc 3 (.iload_n 3) 1 4 := ⟨rfl, by decide +kernel⟩
theorem dX9_disc_4 : jj_D cX9_disc 4 (.invokevirtual 161) 3 7 := ⟨rfl, by decide +kernel⟩
theorem dX9_disc_7 : jj_D cX9_disc 7 (.istore 4) 2 9 := ⟨rfl, by decide +kernel⟩
theorem dX9_disc_9 : jj_D cX9_disc 9 (.iload 4) 2 11 := ⟨rfl, by decide +kernel⟩
theorem dX9_disc_11 : jj_D cX9_disc 11 (.ifCond .eq 12) 3 14 := ⟨rfl, by decide +kernel⟩
theorem dX9_disc_14 : jj_D cX9_disc 14 (.iload_n 1) 1 15 := ⟨rfl, by decide +kernel⟩
theorem dX9_disc_15 : jj_D cX9_disc 15 (.iload_n 2) 1 16 := ⟨rfl, by decide +kernel⟩
theorem dX9_disc_16 : jj_D cX9_disc 16 (.iload_n 3) 1 17 := ⟨rfl, by decide +kernel⟩
theorem dX9_disc_17 : jj_D cX9_disc 17 (.invokestatic 164) 3 20 := ⟨rfl, by decide +kernel⟩
theorem dX9_disc_20 : jj_D cX9_disc 20 (.goto 4) 3 23 := ⟨rfl, by decide +kernel⟩
theorem dX9_disc_23 : jj_D cX9_disc 23 (.iconst 0) 1 24 := ⟨rfl, by decide +kernel⟩
theorem dX9_disc_24 : jj_D cX9_disc 24 (.istore 5) 2 26 := ⟨rfl, by decide +kernel⟩
theorem dX9_disc_26 : jj_D cX9_disc 26 (.aload_n 0) 1 27 := ⟨rfl, by decide +kernel⟩
theorem dX9_disc_27 : jj_D cX9_disc 27 (.iload 4) 2 29 := ⟨rfl, by decide +kernel⟩
theorem dX9_disc_29 : jj_D cX9_disc 29 (.ifCond .ne 7) 3 32 := ⟨rfl, by decide +kernel⟩
theorem dX9_disc_32 : jj_D cX9_disc 32 (.iconst 1) 1 33 := ⟨rfl, by decide +kernel⟩
theorem dX9_disc_33 : jj_D cX9_disc 33 (.goto 41) 3 36 := ⟨rfl, by decide +kernel⟩
theorem dX9_disc_36 : jj_D cX9_disc 36 (.aload_n 0) 1 37 := ⟨rfl, by decide +kernel⟩
theorem dX9_disc_37 : jj_D cX9_disc 37 (.iload 5) 2 39 := ⟨rfl, by decide +kernel⟩
theorem dX9_disc_39 : jj_D cX9_disc 39 (.invokevirtual 181) 3 42 := ⟨rfl, by decide +kernel⟩
theorem dX9_disc_42 : jj_D cX9_disc 42 (.aload_n 0) 1 43 := ⟨rfl, by decide +kernel⟩
theorem dX9_disc_43 : jj_D cX9_disc 43 (.getfield 52) 3 46 := ⟨rfl, by decide +kernel⟩
theorem dX9_disc_46 : jj_D cX9_disc 46 (.iload 5) 2 48 := ⟨rfl, by decide +kernel⟩
theorem dX9_disc_48 : jj_D cX9_disc 48 (.iaload) 1 49 := ⟨rfl, by decide +kernel⟩
theorem dX9_disc_49 : jj_D cX9_disc 49 (.aload_n 0) 1 50 := ⟨rfl, by decide +kernel⟩
theorem dX9_disc_50 : jj_D cX9_disc 50 (.getfield 55) 3 53 := ⟨rfl, by decide +kernel⟩
theorem dX9_disc_53 : jj_D cX9_disc 53 (.iload 5) 2 55 := ⟨rfl, by decide +kernel⟩
theorem dX9_disc_55 : jj_D cX9_disc 55 (.iaload) 1 56 := ⟨rfl, by decide +kernel⟩
theorem dX9_disc_56 : jj_D cX9_disc 56 (.isub) 1 57 := ⟨rfl, by decide +kernel⟩
theorem dX9_disc_57 : jj_D cX9_disc 57 (.if_icmp .eq 12) 3 60 := ⟨rfl, by decide +kernel⟩
theorem dX9_disc_60 : jj_D cX9_disc 60 (.aload_n 0) 1 61 := ⟨rfl, by decide +kernel⟩
theorem dX9_disc_61 : jj_D cX9_disc 61 (.getfield 178) 3 64 := ⟨rfl, by decide +kernel⟩
theorem dX9_disc_64 : jj_D cX9_disc 64 (.bipush 20) 2 66 := ⟨rfl, by decide +kernel⟩
theorem dX9_disc_66 : jj_D cX9_disc 66 (.if_icmp .ne 7) 3 69 := ⟨rfl, by decide +kernel⟩
theorem dX9_disc_69 : jj_D cX9_disc 69 (.iconst 2) 1 70 := ⟨rfl, by decide +kernel⟩
theorem dX9_disc_70 : jj_D cX9_disc 70 (.goto 4) 3 73 := ⟨rfl, by decide +kernel⟩
theorem dX9_disc_73 : jj_D cX9_disc 73 (.iconst 0) 1 74 := ⟨rfl, by decide +kernel⟩
theorem dX9_disc_74 : jj_D cX9_disc 74 (.invokevirtual 118) 3 77 := ⟨rfl, by decide +kernel⟩
theorem dX9_disc_77 : jj_D cX9_disc 77 (.ifCond .ne 5) 3 80 := ⟨rfl, by decide +kernel⟩
theorem dX9_disc_80 : jj_D cX9_disc 80 (.iconst 0) 1 81 := ⟨rfl, by decide +kernel⟩
theorem dX9_disc_81 : jj_D cX9_disc 81 (.ireturn) 1 82 := ⟨rfl, by decide +kernel⟩
theorem dX9_disc_82 : jj_D cX9_disc 82 (.aload_n 0) 1 83 := ⟨rfl, by decide +kernel⟩
theorem dX9_disc_83 : jj_D cX9_disc 83 (.getfield 64) 3 86 := ⟨rfl, by decide +kernel⟩
theorem dX9_disc_86 : jj_D cX9_disc 86 (.aload_n 0) 1 87 := ⟨rfl, by decide +kernel⟩
theorem dX9_disc_87 : jj_D cX9_disc 87 (.getfield 178) 3 90 := ⟨rfl, by decide +kernel⟩
theorem dX9_disc_90 : jj_D cX9_disc 90 (.iload 5) 2 92 := ⟨rfl, by decide +kernel⟩
theorem dX9_disc_92 : jj_D cX9_disc 92 (.iastore) 1 93 := ⟨rfl, by decide +kernel⟩
theorem dX9_disc_93 : jj_D cX9_disc 93 (.aload_n 0) 1 94 := ⟨rfl, by decide +kernel⟩
theorem dX9_disc_94 : jj_D cX9_disc 94 (.dup) 1 95 := ⟨rfl, by decide +kernel⟩
theorem dX9_disc_95 : jj_D cX9_disc 95 (.getfield 178) 3 98 := ⟨rfl, by decide +kernel⟩
theorem dX9_disc_98 : jj_D cX9_disc 98 (.iconst 1) 1 99 := ⟨rfl, by decide +kernel⟩
theorem dX9_disc_99 : jj_D cX9_disc 99 (.iadd) 1 100 := ⟨rfl, by decide +kernel⟩
theorem dX9_disc_100 : jj_D cX9_disc 100 (.putfield 178) 3 103 := ⟨rfl, by decide +kernel⟩
theorem dX9_disc_103 : jj_D cX9_disc 103 (.aload_n 0) 1 104 := ⟨rfl, by decide +kernel⟩
theorem dX9_disc_104 : jj_D cX9_disc 104 (.getfield 178) 3 107 := ⟨rfl, by decide +kernel⟩
theorem dX9_disc_107 : jj_D cX9_disc 107 (.iconst 1) 1 108 := ⟨rfl, by decide +kernel⟩
theorem dX9_disc_108 : jj_D cX9_disc 108 (.isub) 1 109 := ⟨rfl, by decide +kernel⟩
theorem dX9_disc_109 : jj_D cX9_disc 109 (.ireturn) 1 110 := ⟨rfl, by decide +kernel⟩
theorem dX9_play_0 : jj_D cX9_play 0 (.aload_n 0) 1 1 := ⟨rfl, by decide +kernel⟩
theorem dX9_play_1 : jj_D cX9_play 1 (.aload_n 0) 1 2 := ⟨rfl, by decide +kernel⟩
theorem dX9_play_2 : jj_D cX9_play 2 (.iload_n 1) 1 3 := ⟨rfl, by decide +kernel⟩
theorem dX9_play_3 : jj_D cX9_play 3 (.invokevirtual 188) 3 6 := ⟨rfl, by decide +kernel⟩
theorem dX9_play_6 : jj_D cX9_play 6 (.ifCond .ne 7) 3 9 := ⟨rfl, by decide +kernel⟩
theorem dX9_play_9 : jj_D cX9_play 9 (.iconst 1) 1 10 := ⟨rfl, by decide +kernel⟩
theorem dX9_play_10 : jj_D cX9_play 10 (.goto 27) 3 13 := ⟨rfl, by decide +kernel⟩
theorem dX9_play_13 : jj_D cX9_play 13 (.iload_n 2) 1 14 := ⟨rfl, by decide +kernel⟩
theorem dX9_play_14 : jj_D cX9_play 14 (.iconst 1) 1 15 := ⟨rfl, by decide +kernel⟩
theorem dX9_play_15 : jj_D cX9_play 15 (.iconst 3) 1 16 := ⟨rfl, by decide +kernel⟩
theorem dX9_play_16 : jj_D cX9_play 16 (.invokestatic 104) 3 19 := ⟨rfl, by decide +kernel⟩
theorem dX9_play_19 : jj_D cX9_play 19 (.ifCond .eq 17) 3 22 := ⟨rfl, by decide +kernel⟩
theorem dX9_play_22 : jj_D cX9_play 22 (.iload_n 3) 1 23 := ⟨rfl, by decide +kernel⟩
theorem dX9_play_23 : jj_D cX9_play 23 (.iconst 1) 1 24 := ⟨rfl, by decide +kernel⟩
theorem dX9_play_24 : jj_D cX9_play 24 (.bipush 50) 2 26 := ⟨rfl, by decide +kernel⟩
theorem dX9_play_26 : jj_D cX9_play 26 (.invokestatic 104) 3 29 := ⟨rfl, by decide +kernel⟩
theorem dX9_play_29 : jj_D cX9_play 29 (.ifCond .eq 7) 3 32 := ⟨rfl, by decide +kernel⟩
theorem dX9_play_32 : jj_D cX9_play 32 (.iconst 0) 1 33 := ⟨rfl, by decide +kernel⟩
theorem dX9_play_33 : jj_D cX9_play 33 (.goto 4) 3 36 := ⟨rfl, by decide +kernel⟩
theorem dX9_play_36 : jj_D cX9_play 36 (.iconst 2) 1 37 := ⟨rfl, by decide +kernel⟩
theorem dX9_play_37 : jj_D cX9_play 37 (.invokevirtual 118) 3 40 := ⟨rfl, by decide +kernel⟩
theorem dX9_play_40 : jj_D cX9_play 40 (.ifCond .ne 5) 3 43 := ⟨rfl, by decide +kernel⟩
theorem dX9_play_43 : jj_D cX9_play 43 (.iconst 0) 1 44 := ⟨rfl, by decide +kernel⟩
theorem dX9_play_44 : jj_D cX9_play 44 (.ireturn) 1 45 := ⟨rfl, by decide +kernel⟩
theorem dX9_play_45 : jj_D cX9_play 45 (.aload_n 0) 1 46 := ⟨rfl, by decide +kernel⟩
theorem dX9_play_46 : jj_D cX9_play 46 (.getfield 67) 3 49 := ⟨rfl, by decide +kernel⟩
theorem dX9_play_49 : jj_D cX9_play 49 (.iload_n 1) 1 50 := ⟨rfl, by decide +kernel⟩
theorem dX9_play_50 : jj_D cX9_play 50 (.dup2) 1 51 := ⟨rfl, by decide +kernel⟩
theorem dX9_play_51 : jj_D cX9_play 51 (.iaload) 1 52 := ⟨rfl, by decide +kernel⟩
theorem dX9_play_52 : jj_D cX9_play 52 (.iload_n 2) 1 53 := ⟨rfl, by decide +kernel⟩
theorem dX9_play_53 : jj_D cX9_play 53 (.iload_n 3) 1 54 := ⟨rfl, by decide +kernel⟩
theorem dX9_play_54 : jj_D cX9_play 54 (.imul) 1 55 := ⟨rfl, by decide +kernel⟩
theorem dX9_play_55 : jj_D cX9_play 55 (.iadd) 1 56 := ⟨rfl, by decide +kernel⟩
theorem dX9_play_56 : jj_D cX9_play 56 (.iastore) 1 57 := ⟨rfl, by decide +kernel⟩
theorem dX9_play_57 : jj_D cX9_play 57 (.aload_n 0) 1 58 := ⟨rfl, by decide +kernel⟩
theorem dX9_play_58 : jj_D cX9_play 58 (.getfield 67) 3 61 := ⟨rfl, by decide +kernel⟩
theorem dX9_play_61 : jj_D cX9_play 61 (.iload_n 1) 1 62 := ⟨rfl, by decide +kernel⟩
theorem dX9_play_62 : jj_D cX9_play 62 (.iaload) 1 63 := ⟨rfl, by decide +kernel⟩
theorem dX9_play_63 : jj_D cX9_play 63 (.ireturn) 1 64 := ⟨rfl, by decide +kernel⟩
theorem dX9_noiseOf_0 : jj_D cX9_noiseOf 0 (.iconst 5) 1 1 := ⟨rfl, by decide +kernel⟩
theorem dX9_noiseOf_1 : jj_D cX9_noiseOf 1 (.aload_n 0) 1 2 := ⟨rfl, by decide +kernel⟩
theorem dX9_noiseOf_2 : jj_D cX9_noiseOf 2 (.getfield 70) 3 5 := ⟨rfl, by decide +kernel⟩
theorem dX9_noiseOf_5 : jj_D cX9_noiseOf 5 (.bipush 8) 2 7 := ⟨rfl, by decide +kernel⟩
theorem dX9_noiseOf_7 : jj_D cX9_noiseOf 7 (.iload_n 1) 1 8 := ⟨rfl, by decide +kernel⟩
theorem dX9_noiseOf_8 : jj_D cX9_noiseOf 8 (.imul) 1 9 := ⟨rfl, by decide +kernel⟩
theorem dX9_noiseOf_9 : jj_D cX9_noiseOf 9 (.iload_n 2) 1 10 := ⟨rfl, by decide +kernel⟩
theorem dX9_noiseOf_10 : jj_D cX9_noiseOf 10 (.iadd) 1 11 := ⟨rfl, by decide +kernel⟩
theorem dX9_noiseOf_11 : jj_D cX9_noiseOf 11 (.iaload) 1 12 := ⟨rfl, by decide +kernel⟩
theorem dX9_noiseOf_12 : jj_D cX9_noiseOf 12 (.imul) 1 13 := ⟨rfl, by decide +kernel⟩
theorem dX9_noiseOf_13 : jj_D cX9_noiseOf 13 (.aload_n 0) 1 14 := ⟨rfl, by decide +kernel⟩
theorem dX9_noiseOf_14 : jj_D cX9_noiseOf 14 (.getfield 67) 3 17 := ⟨rfl, by decide +kernel⟩
theorem dX9_noiseOf_17 : jj_D cX9_noiseOf 17 (.iload_n 1) 1 18 := ⟨rfl, by decide +kernel⟩
theorem dX9_noiseOf_18 : jj_D cX9_noiseOf 18 (.iaload) 1 19 := ⟨rfl, by decide +kernel⟩
theorem dX9_noiseOf_19 : jj_D cX9_noiseOf 19 (.iload_n 2) 1 20 := ⟨rfl, by decide +kernel⟩
theorem dX9_noiseOf_20 : jj_D cX9_noiseOf 20 (.iconst 1) 1 21 := ⟨rfl, by decide +kernel⟩
theorem dX9_noiseOf_21 : jj_D cX9_noiseOf 21 (.iadd) 1 22 := ⟨rfl, by decide +kernel⟩
theorem dX9_noiseOf_22 : jj_D cX9_noiseOf 22 (.imul) 1 23 := ⟨rfl, by decide +kernel⟩
theorem dX9_noiseOf_23 : jj_D cX9_noiseOf 23 (.bipush 16) 2 25 := ⟨rfl, by decide +kernel⟩
theorem dX9_noiseOf_25 : jj_D cX9_noiseOf 25 (.idiv) 1 26 := ⟨rfl, by decide +kernel⟩
theorem dX9_noiseOf_26 : jj_D cX9_noiseOf 26 (.iadd) 1 27 := ⟨rfl, by decide +kernel⟩
theorem dX9_noiseOf_27 : jj_D cX9_noiseOf 27 (.ireturn) 1 28 := ⟨rfl, by decide +kernel⟩
theorem dX9_scratch_0 : jj_D cX9_scratch 0 (.aload_n 0) 1 1 := ⟨rfl, by decide +kernel⟩
theorem dX9_scratch_1 : jj_D cX9_scratch 1 (.aload_n 0) 1 2 := ⟨rfl, by decide +kernel⟩
theorem dX9_scratch_2 : jj_D cX9_scratch 2 (.iload_n 1) 1 3 := ⟨rfl, by decide +kernel⟩
theorem dX9_scratch_3 : jj_D cX9_scratch 3 (.invokevirtual 188) 3 6 := ⟨rfl, by decide +kernel⟩
theorem dX9_scratch_6 : jj_D cX9_scratch 6 (.ifCond .eq 14) 3 9 := ⟨rfl, by decide +kernel⟩
theorem dX9_scratch_9 : jj_D cX9_scratch 9 (.iload_n 2) 1 10 := ⟨rfl, by decide +kernel⟩
theorem dX9_scratch_10 : jj_D cX9_scratch 10 (.invokestatic 191) 3 13 := ⟨rfl, by decide +kernel⟩
theorem dX9_scratch_13 : jj_D cX9_scratch 13 (.ifCond .eq 7) 3 16 := ⟨rfl, by decide +kernel⟩
theorem dX9_scratch_16 : jj_D cX9_scratch 16 (.iconst 0) 1 17 := ⟨rfl, by decide +kernel⟩
theorem dX9_scratch_17 : jj_D cX9_scratch 17 (.goto 4) 3 20 := ⟨rfl, by decide +kernel⟩
theorem dX9_scratch_20 : jj_D cX9_scratch 20 (.iconst 1) 1 21 := ⟨rfl, by decide +kernel⟩
theorem dX9_scratch_21 : jj_D cX9_scratch 21 (.invokevirtual 118) 3 24 := ⟨rfl, by decide +kernel⟩
theorem dX9_scratch_24 : jj_D cX9_scratch 24 (.ifCond .ne 5) 3 27 := ⟨rfl, by decide +kernel⟩
theorem dX9_scratch_27 : jj_D cX9_scratch 27 (.iconst 0) 1 28 := ⟨rfl, by decide +kernel⟩
theorem dX9_scratch_28 : jj_D cX9_scratch 28 (.ireturn) 1 29 := ⟨rfl, by decide +kernel⟩
theorem dX9_scratch_29 : jj_D cX9_scratch 29 (.aload_n 0) 1 30 := ⟨rfl, by decide +kernel⟩
theorem dX9_scratch_30 : jj_D cX9_scratch 30 (.getfield 70) 3 33 := ⟨rfl, by decide +kernel⟩
theorem dX9_scratch_33 : jj_D cX9_scratch 33 (.bipush 8) 2 35 := ⟨rfl, by decide +kernel⟩
theorem dX9_scratch_35 : jj_D cX9_scratch 35 (.iload_n 1) 1 36 := ⟨rfl, by decide +kernel⟩
theorem dX9_scratch_36 : jj_D cX9_scratch 36 (.imul) 1 37 := ⟨rfl, by decide +kernel⟩
theorem dX9_scratch_37 : jj_D cX9_scratch 37 (.iload_n 2) 1 38 := ⟨rfl, by decide +kernel⟩
theorem dX9_scratch_38 : jj_D cX9_scratch 38 (.iadd) 1 39 := ⟨rfl, by decide +kernel⟩
theorem dX9_scratch_39 : jj_D cX9_scratch 39 (.dup2) 1 40 := ⟨rfl, by decide +kernel⟩
theorem dX9_scratch_40 : jj_D cX9_scratch 40 (.iaload) 1 41 := ⟨rfl, by decide +kernel⟩
theorem dX9_scratch_41 : jj_D cX9_scratch 41 (.iconst 1) 1 42 := ⟨rfl, by decide +kernel⟩
theorem dX9_scratch_42 : jj_D cX9_scratch 42 (.iadd) 1 43 := ⟨rfl, by decide +kernel⟩
theorem dX9_scratch_43 : jj_D cX9_scratch 43 (.iastore) 1 44 := ⟨rfl, by decide +kernel⟩
theorem dX9_scratch_44 : jj_D cX9_scratch 44 (.aload_n 0) 1 45 := ⟨rfl, by decide +kernel⟩
theorem dX9_scratch_45 : jj_D cX9_scratch 45 (.iload_n 1) 1 46 := ⟨rfl, by decide +kernel⟩
theorem dX9_scratch_46 : jj_D cX9_scratch 46 (.iload_n 2) 1 47 := ⟨rfl, by decide +kernel⟩
theorem dX9_scratch_47 : jj_D cX9_scratch 47 (.invokevirtual 194) 3 50 := ⟨rfl, by decide +kernel⟩
theorem dX9_scratch_50 : jj_D cX9_scratch 50 (.ireturn) 1 51 := ⟨rfl, by decide +kernel⟩
theorem dX9_noise_0 : jj_D cX9_noise 0 (.aload_n 0) 1 1 := ⟨rfl, by decide +kernel⟩
theorem dX9_noise_1 : jj_D cX9_noise 1 (.aload_n 0) 1 2 := ⟨rfl, by decide +kernel⟩
theorem dX9_noise_2 : jj_D cX9_noise 2 (.iload_n 1) 1 3 := ⟨rfl, by decide +kernel⟩
theorem dX9_noise_3 : jj_D cX9_noise 3 (.invokevirtual 188) 3 6 := ⟨rfl, by decide +kernel⟩
theorem dX9_noise_6 : jj_D cX9_noise 6 (.ifCond .eq 14) 3 9 := ⟨rfl, by decide +kernel⟩
theorem dX9_noise_9 : jj_D cX9_noise 9 (.iload_n 2) 1 10 := ⟨rfl, by decide +kernel⟩
theorem dX9_noise_10 : jj_D cX9_noise 10 (.invokestatic 191) 3 13 := ⟨rfl, by decide +kernel⟩
theorem dX9_noise_13 : jj_D cX9_noise 13 (.ifCond .eq 7) 3 16 := ⟨rfl, by decide +kernel⟩
theorem dX9_noise_16 : jj_D cX9_noise 16 (.iconst 0) 1 17 := ⟨rfl, by decide +kernel⟩
theorem dX9_noise_17 : jj_D cX9_noise 17 (.goto 4) 3 20 := ⟨rfl, by decide +kernel⟩
theorem dX9_noise_20 : jj_D cX9_noise 20 (.iconst 1) 1 21 := ⟨rfl, by decide +kernel⟩
theorem dX9_noise_21 : jj_D cX9_noise 21 (.invokevirtual 118) 3 24 := ⟨rfl, by decide +kernel⟩
theorem dX9_noise_24 : jj_D cX9_noise 24 (.ifCond .eq 12) 3 27 := ⟨rfl, by decide +kernel⟩
theorem dX9_noise_27 : jj_D cX9_noise 27 (.aload_n 0) 1 28 := ⟨rfl, by decide +kernel⟩
theorem dX9_noise_28 : jj_D cX9_noise 28 (.iload_n 1) 1 29 := ⟨rfl, by decide +kernel⟩
theorem dX9_noise_29 : jj_D cX9_noise 29 (.iload_n 2) 1 30 := ⟨rfl, by decide +kernel⟩
theorem dX9_noise_30 : jj_D cX9_noise 30 (.invokevirtual 194) 3 33 := ⟨rfl, by decide +kernel⟩
theorem dX9_noise_33 : jj_D cX9_noise 33 (.goto 4) 3 36 := ⟨rfl, by decide +kernel⟩
theorem dX9_noise_36 : jj_D cX9_noise 36 (.iconst 0) 1 37 := ⟨rfl, by decide +kernel⟩
theorem dX9_noise_37 : jj_D cX9_noise 37 (.ireturn) 1 38 := ⟨rfl, by decide +kernel⟩
theorem dX9_grade_0 : jj_D cX9_grade 0 (.aload_n 0) 1 1 := ⟨rfl, by decide +kernel⟩
theorem dX9_grade_1 : jj_D cX9_grade 1 (.aload_n 0) 1 2 := ⟨rfl, by decide +kernel⟩
theorem dX9_grade_2 : jj_D cX9_grade 2 (.iload_n 1) 1 3 := ⟨rfl, by decide +kernel⟩
theorem dX9_grade_3 : jj_D cX9_grade 3 (.invokevirtual 188) 3 6 := ⟨rfl, by decide +kernel⟩
theorem dX9_grade_6 : jj_D cX9_grade 6 (.ifCond .eq 7) 3 9 := ⟨rfl, by decide +kernel⟩
theorem dX9_grade_9 : jj_D cX9_grade 9 (.iconst 0) 1 10 := ⟨rfl, by decide +kernel⟩
theorem dX9_grade_10 : jj_D cX9_grade 10 (.goto 4) 3 13 := ⟨rfl, by decide +kernel⟩
theorem dX9_grade_13 : jj_D cX9_grade 13 (.iconst 1) 1 14 := ⟨rfl, by decide +kernel⟩
theorem dX9_grade_14 : jj_D cX9_grade 14 (.invokevirtual 118) 3 17 := ⟨rfl, by decide +kernel⟩
theorem dX9_grade_17 : jj_D cX9_grade 17 (.ifCond .ne 5) 3 20 := ⟨rfl, by decide +kernel⟩
theorem dX9_grade_20 : jj_D cX9_grade 20 (.iconst 0) 1 21 := ⟨rfl, by decide +kernel⟩
theorem dX9_grade_21 : jj_D cX9_grade 21 (.ireturn) 1 22 := ⟨rfl, by decide +kernel⟩
theorem dX9_grade_22 : jj_D cX9_grade 22 (.iconst 0) 1 23 := ⟨rfl, by decide +kernel⟩
theorem dX9_grade_23 : jj_D cX9_grade 23 (.istore_n 2) 1 24 := ⟨rfl, by decide +kernel⟩
theorem dX9_grade_24 : jj_D cX9_grade 24 (.iconst 0) 1 25 := ⟨rfl, by decide +kernel⟩
theorem dX9_grade_25 : jj_D cX9_grade 25 (.istore_n 3) 1 26 := ⟨rfl, by decide +kernel⟩
theorem dX9_grade_26 : jj_D cX9_grade 26 (.iload_n 3) 1 27 := ⟨rfl, by decide +kernel⟩
theorem dX9_grade_27 : jj_D cX9_grade 27 (.bipush 8) 2 29 := ⟨rfl, by decide +kernel⟩
theorem dX9_grade_29 : jj_D cX9_grade 29 (.if_icmp .ge 18) 3 32 := ⟨rfl, by decide +kernel⟩
theorem dX9_grade_32 : jj_D cX9_grade 32 (.iload_n 2) 1 33 := ⟨rfl, by decide +kernel⟩
theorem dX9_grade_33 : jj_D cX9_grade 33 (.aload_n 0) 1 34 := ⟨rfl, by decide +kernel⟩
theorem dX9_grade_34 : jj_D cX9_grade 34 (.iload_n 1) 1 35 := ⟨rfl, by decide +kernel⟩
theorem dX9_grade_35 : jj_D cX9_grade 35 (.iload_n 3) 1 36 := ⟨rfl, by decide +kernel⟩
theorem dX9_grade_36 : jj_D cX9_grade 36 (.invokevirtual 194) 3 39 := ⟨rfl, by decide +kernel⟩
theorem dX9_grade_39 : jj_D cX9_grade 39 (.iadd) 1 40 := ⟨rfl, by decide +kernel⟩
theorem dX9_grade_40 : jj_D cX9_grade 40 (.istore_n 2) 1 41 := ⟨rfl, by decide +kernel⟩
theorem dX9_grade_41 : jj_D cX9_grade 41 (.iinc 3 1) 3 44 := ⟨rfl, by decide +kernel⟩
theorem dX9_grade_44 : jj_D cX9_grade 44 (.goto (-18)) 3 47 := ⟨rfl, by decide +kernel⟩
theorem dX9_grade_47 : jj_D cX9_grade 47 (.iload_n 2) 1 48 := ⟨rfl, by decide +kernel⟩
theorem dX9_grade_48 : jj_D cX9_grade 48 (.ifCond .ne 7) 3 51 := ⟨rfl, by decide +kernel⟩
theorem dX9_grade_51 : jj_D cX9_grade 51 (.iconst 0) 1 52 := ⟨rfl, by decide +kernel⟩
theorem dX9_grade_52 : jj_D cX9_grade 52 (.goto 35) 3 55 := ⟨rfl, by decide +kernel⟩
theorem dX9_grade_55 : jj_D cX9_grade 55 (.iload_n 2) 1 56 := ⟨rfl, by decide +kernel⟩
theorem dX9_grade_56 : jj_D cX9_grade 56 (.bipush 20) 2 58 := ⟨rfl, by decide +kernel⟩
theorem dX9_grade_58 : jj_D cX9_grade 58 (.if_icmp .ge 7) 3 61 := ⟨rfl, by decide +kernel⟩
theorem dX9_grade_61 : jj_D cX9_grade 61 (.iconst 1) 1 62 := ⟨rfl, by decide +kernel⟩
theorem dX9_grade_62 : jj_D cX9_grade 62 (.goto 25) 3 65 := ⟨rfl, by decide +kernel⟩
theorem dX9_grade_65 : jj_D cX9_grade 65 (.iload_n 2) 1 66 := ⟨rfl, by decide +kernel⟩
theorem dX9_grade_66 : jj_D cX9_grade 66 (.bipush 80) 2 68 := ⟨rfl, by decide +kernel⟩
theorem dX9_grade_68 : jj_D cX9_grade 68 (.if_icmp .ge 7) 3 71 := ⟨rfl, by decide +kernel⟩
theorem dX9_grade_71 : jj_D cX9_grade 71 (.iconst 2) 1 72 := ⟨rfl, by decide +kernel⟩
theorem dX9_grade_72 : jj_D cX9_grade 72 (.goto 15) 3 75 := ⟨rfl, by decide +kernel⟩
theorem dX9_grade_75 : jj_D cX9_grade 75 (.iload_n 2) 1 76 := ⟨rfl, by decide +kernel⟩
theorem dX9_grade_76 : jj_D cX9_grade 76 (.sipush 200) 3 79 := ⟨rfl, by decide +kernel⟩
theorem dX9_grade_79 : jj_D cX9_grade 79 (.if_icmp .ge 7) 3 82 := ⟨rfl, by decide +kernel⟩
theorem dX9_grade_82 : jj_D cX9_grade 82 (.iconst 3) 1 83 := ⟨rfl, by decide +kernel⟩
theorem dX9_grade_83 : jj_D cX9_grade 83 (.goto 4) 3 86 := ⟨rfl, by decide +kernel⟩
theorem dX9_grade_86 : jj_D cX9_grade 86 (.iconst 4) 1 87 := ⟨rfl, by decide +kernel⟩
theorem dX9_grade_87 : jj_D cX9_grade 87 (.ireturn) 1 88 := ⟨rfl, by decide +kernel⟩
theorem dX9_areDiscs_0 : jj_D cX9_areDiscs 0 (.iload_n 1) 1 1 := ⟨rfl, by decide +kernel⟩
theorem dX9_areDiscs_1 : jj_D cX9_areDiscs 1 (.ifCond .eq 22) 3 4 := ⟨rfl, by decide +kernel⟩
theorem dX9_areDiscs_4 : jj_D cX9_areDiscs 4 (.iload_n 1) 1 5 := ⟨rfl, by decide +kernel⟩
theorem dX9_areDiscs_5 : jj_D cX9_areDiscs 5 (.iconst 1) 1 6 := ⟨rfl, by decide +kernel⟩
theorem dX9_areDiscs_6 : jj_D cX9_areDiscs 6 (.aload_n 0) 1 7 := ⟨rfl, by decide +kernel⟩
theorem dX9_areDiscs_7 : jj_D cX9_areDiscs 7 (.getfield 178) 3 10 := ⟨rfl, by decide +kernel⟩
theorem dX9_areDiscs_10 : jj_D cX9_areDiscs 10 (.ishl) 1 11 := ⟨rfl, by decide +kernel⟩
theorem dX9_areDiscs_11 : jj_D cX9_areDiscs 11 (.iconst 1) 1 12 := ⟨rfl, by decide +kernel⟩
theorem dX9_areDiscs_12 : jj_D cX9_areDiscs 12 (.isub) 1 13 := ⟨rfl, by decide +kernel⟩
theorem dX9_areDiscs_13 : jj_D cX9_areDiscs 13 (.iconst (-1)) 1 14 := ⟨rfl, by decide +kernel⟩
theorem dX9_areDiscs_14 : jj_D cX9_areDiscs 14 (.ixor) 1 15 := ⟨rfl, by decide +kernel⟩
theorem dX9_areDiscs_15 : jj_D cX9_areDiscs 15 (.iand) 1 16 := ⟨rfl, by decide +kernel⟩
theorem dX9_areDiscs_16 : jj_D cX9_areDiscs 16 (.ifCond .ne 7) 3 19 := ⟨rfl, by decide +kernel⟩
theorem dX9_areDiscs_19 : jj_D cX9_areDiscs 19 (.iconst 1) 1 20 := ⟨rfl, by decide +kernel⟩
theorem dX9_areDiscs_20 : jj_D cX9_areDiscs 20 (.goto 4) 3 23 := ⟨rfl, by decide +kernel⟩
theorem dX9_areDiscs_23 : jj_D cX9_areDiscs 23 (.iconst 0) 1 24 := ⟨rfl, by decide +kernel⟩
theorem dX9_areDiscs_24 : jj_D cX9_areDiscs 24 (.ireturn) 1 25 := ⟨rfl, by decide +kernel⟩
theorem dX9_areOfOneSide_0 : jj_D cX9_areOfOneSide 0 (.iconst (-1)) 1 1 := ⟨rfl, by decide +kernel⟩
theorem dX9_areOfOneSide_1 : jj_D cX9_areOfOneSide 1 (.istore_n 2) 1 2 := ⟨rfl, by decide +kernel⟩
theorem dX9_areOfOneSide_2 : jj_D cX9_areOfOneSide 2 (.iconst 1) 1 3 := ⟨rfl, by decide +kernel⟩
theorem dX9_areOfOneSide_3 : jj_D cX9_areOfOneSide 3 (.istore_n 3) 1 4 := ⟨rfl, by decide +kernel⟩
theorem dX9_areOfOneSide_4 : jj_D cX9_areOfOneSide 4 (.iconst 0) 1 5 := ⟨rfl, by decide +kernel⟩
theorem dX9_areOfOneSide_5 : jj_D cX9_areOfOneSide 5 (.istore 4) 2 7 := ⟨rfl, by decide +kernel⟩
theorem dX9_areOfOneSide_7 : jj_D cX9_areOfOneSide 7 (.iload 4) 2 9 := ⟨rfl, by decide +kernel⟩
theorem dX9_areOfOneSide_9 : jj_D cX9_areOfOneSide 9 (.aload_n 0) 1 10 := ⟨rfl, by decide +kernel⟩
theorem dX9_areOfOneSide_10 : jj_D cX9_areOfOneSide 10 (.getfield 178) 3 13 := ⟨rfl, by decide +kernel⟩
theorem dX9_areOfOneSide_13 : jj_D cX9_areOfOneSide 13 (.if_icmp .ge 59) 3 16 := ⟨rfl, by decide +kernel⟩
theorem dX9_areOfOneSide_16 : jj_D cX9_areOfOneSide 16 (.iload_n 1) 1 17 := ⟨rfl, by decide +kernel⟩
theorem dX9_areOfOneSide_17 : jj_D cX9_areOfOneSide 17 (.iload 4) 2 19 := ⟨rfl, by decide +kernel⟩
theorem dX9_areOfOneSide_19 : jj_D cX9_areOfOneSide 19 (.ishr) 1 20 := ⟨rfl, by decide +kernel⟩
theorem dX9_areOfOneSide_20 : jj_D cX9_areOfOneSide 20 (.iconst 1) 1 21 := ⟨rfl, by decide +kernel⟩
theorem dX9_areOfOneSide_21 : jj_D cX9_areOfOneSide 21 (.iand) 1 22 := ⟨rfl, by decide +kernel⟩
theorem dX9_areOfOneSide_22 : jj_D cX9_areOfOneSide 22 (.iconst 1) 1 23 := ⟨rfl, by decide +kernel⟩
theorem dX9_areOfOneSide_23 : jj_D cX9_areOfOneSide 23 (.if_icmp .ne 43) 3 26 := ⟨rfl, by decide +kernel⟩
theorem dX9_areOfOneSide_26 : jj_D cX9_areOfOneSide 26 (.iload_n 3) 1 27 := ⟨rfl, by decide +kernel⟩
theorem dX9_areOfOneSide_27 : jj_D cX9_areOfOneSide 27 (.ifCond .eq 26) 3 30 := ⟨rfl, by decide +kernel⟩
theorem dX9_areOfOneSide_30 : jj_D cX9_areOfOneSide 30 (.iload_n 2) 1 31 := ⟨rfl, by decide +kernel⟩
theorem dX9_areOfOneSide_31 : jj_D cX9_areOfOneSide 31 (.iconst (-1)) 1 32 := ⟨rfl, by decide +kernel⟩
theorem dX9_areOfOneSide_32 : jj_D cX9_areOfOneSide 32 (.if_icmp .eq 17) 3 35 := ⟨rfl, by decide +kernel⟩
theorem dX9_areOfOneSide_35 : jj_D cX9_areOfOneSide 35 (.iload_n 2) 1 36 := ⟨rfl, by decide +kernel⟩
theorem dX9_areOfOneSide_36 : jj_D cX9_areOfOneSide 36 (.aload_n 0) 1 37 := ⟨rfl, by decide +kernel⟩
theorem dX9_areOfOneSide_37 : jj_D cX9_areOfOneSide 37 (.getfield 64) 3 40 := ⟨rfl, by decide +kernel⟩
theorem dX9_areOfOneSide_40 : jj_D cX9_areOfOneSide 40 (.iload 4) 2 42 := ⟨rfl, by decide +kernel⟩
theorem dX9_areOfOneSide_42 : jj_D cX9_areOfOneSide 42 (.iaload) 1 43 := ⟨rfl, by decide +kernel⟩
theorem dX9_areOfOneSide_43 : jj_D cX9_areOfOneSide 43 (.bipush 12) 2 45 := ⟨rfl, by decide +kernel⟩
theorem dX9_areOfOneSide_45 : jj_D cX9_areOfOneSide 45 (.idiv) 1 46 := ⟨rfl, by decide +kernel⟩
theorem dX9_areOfOneSide_46 : jj_D cX9_areOfOneSide 46 (.if_icmp .ne 7) 3 49 := ⟨rfl, by decide +kernel⟩
theorem dX9_areOfOneSide_49 : jj_D cX9_areOfOneSide 49 (.iconst 1) 1 50 := ⟨rfl, by decide +kernel⟩
theorem dX9_areOfOneSide_50 : jj_D cX9_areOfOneSide 50 (.goto 4) 3 53 := ⟨rfl, by decide +kernel⟩
theorem dX9_areOfOneSide_53 : jj_D cX9_areOfOneSide 53 (.iconst 0) 1 54 := ⟨rfl, by decide +kernel⟩
theorem dX9_areOfOneSide_54 : jj_D cX9_areOfOneSide 54 (.istore_n 3) 1 55 := ⟨rfl, by decide +kernel⟩
theorem dX9_areOfOneSide_55 : jj_D cX9_areOfOneSide 55 (.aload_n 0) 1 56 := ⟨rfl, by decide +kernel⟩
theorem dX9_areOfOneSide_56 : jj_D cX9_areOfOneSide 56 (.getfield 64) 3 59 := ⟨rfl, by decide +kernel⟩
theorem dX9_areOfOneSide_59 : jj_D cX9_areOfOneSide 59 (.iload 4) 2 61 := ⟨rfl, by decide +kernel⟩
theorem dX9_areOfOneSide_61 : jj_D cX9_areOfOneSide 61 (.iaload) 1 62 := ⟨rfl, by decide +kernel⟩
theorem dX9_areOfOneSide_62 : jj_D cX9_areOfOneSide 62 (.bipush 12) 2 64 := ⟨rfl, by decide +kernel⟩
theorem dX9_areOfOneSide_64 : jj_D cX9_areOfOneSide 64 (.idiv) 1 65 := ⟨rfl, by decide +kernel⟩
theorem dX9_areOfOneSide_65 : jj_D cX9_areOfOneSide 65 (.istore_n 2) 1 66 := ⟨rfl, by decide +kernel⟩
theorem dX9_areOfOneSide_66 : jj_D cX9_areOfOneSide 66 (.iinc 4 1) 3 69 := ⟨rfl, by decide +kernel⟩
theorem dX9_areOfOneSide_69 : jj_D cX9_areOfOneSide 69 (.goto (-62)) 3 72 := ⟨rfl, by decide +kernel⟩
theorem dX9_areOfOneSide_72 : jj_D cX9_areOfOneSide 72 (.iload_n 3) 1 73 := ⟨rfl, by decide +kernel⟩
theorem dX9_areOfOneSide_73 : jj_D cX9_areOfOneSide 73 (.ireturn) 1 74 := ⟨rfl, by decide +kernel⟩
theorem dX9_joinOf_0 : jj_D cX9_joinOf 0 (.iconst (-1)) 1 1 := ⟨rfl, by decide +kernel⟩
theorem dX9_joinOf_1 : jj_D cX9_joinOf 1 (.istore_n 3) 1 2 := ⟨rfl, by decide +kernel⟩
theorem dX9_joinOf_2 : jj_D cX9_joinOf 2 (.iconst 0) 1 3 := ⟨rfl, by decide +kernel⟩
theorem dX9_joinOf_3 : jj_D cX9_joinOf 3 (.istore 4) 2 5 := ⟨rfl, by decide +kernel⟩
theorem dX9_joinOf_5 : jj_D cX9_joinOf 5 (.iload 4) 2 7 := ⟨rfl, by decide +kernel⟩
theorem dX9_joinOf_7 : jj_D cX9_joinOf 7 (.aload_n 0) 1 8 := ⟨rfl, by decide +kernel⟩
theorem dX9_joinOf_8 : jj_D cX9_joinOf 8 (.getfield 178) 3 11 := ⟨rfl, by decide +kernel⟩
theorem dX9_joinOf_11 : jj_D cX9_joinOf 11 (.if_icmp .ge 59) 3 14 := ⟨rfl, by decide +kernel⟩
theorem dX9_joinOf_14 : jj_D cX9_joinOf 14 (.iload_n 1) 1 15 := ⟨rfl, by decide +kernel⟩
theorem dX9_joinOf_15 : jj_D cX9_joinOf 15 (.iload 4) 2 17 := ⟨rfl, by decide +kernel⟩
theorem dX9_joinOf_17 : jj_D cX9_joinOf 17 (.ishr) 1 18 := ⟨rfl, by decide +kernel⟩
theorem dX9_joinOf_18 : jj_D cX9_joinOf 18 (.iconst 1) 1 19 := ⟨rfl, by decide +kernel⟩
theorem dX9_joinOf_19 : jj_D cX9_joinOf 19 (.iand) 1 20 := ⟨rfl, by decide +kernel⟩
theorem dX9_joinOf_20 : jj_D cX9_joinOf 20 (.iconst 1) 1 21 := ⟨rfl, by decide +kernel⟩
theorem dX9_joinOf_21 : jj_D cX9_joinOf 21 (.if_icmp .ne 28) 3 24 := ⟨rfl, by decide +kernel⟩
theorem dX9_joinOf_24 : jj_D cX9_joinOf 24 (.iload_n 3) 1 25 := ⟨rfl, by decide +kernel⟩
theorem dX9_joinOf_25 : jj_D cX9_joinOf 25 (.iconst (-1)) 1 26 := ⟨rfl, by decide +kernel⟩
theorem dX9_joinOf_26 : jj_D cX9_joinOf 26 (.if_icmp .eq 19) 3 29 := ⟨rfl, by decide +kernel⟩
theorem dX9_joinOf_29 : jj_D cX9_joinOf 29 (.aload_n 0) 1 30 := ⟨rfl, by decide +kernel⟩
theorem dX9_joinOf_30 : jj_D cX9_joinOf 30 (.iload 4) 2 32 := ⟨rfl, by decide +kernel⟩
theorem dX9_joinOf_32 : jj_D cX9_joinOf 32 (.iload_n 2) 1 33 := ⟨rfl, by decide +kernel⟩
theorem dX9_joinOf_33 : jj_D cX9_joinOf 33 (.invokevirtual 194) 3 36 := ⟨rfl, by decide +kernel⟩
theorem dX9_joinOf_36 : jj_D cX9_joinOf 36 (.aload_n 0) 1 37 := ⟨rfl, by decide +kernel⟩
theorem dX9_joinOf_37 : jj_D cX9_joinOf 37 (.iload_n 3) 1 38 := ⟨rfl, by decide +kernel⟩
theorem dX9_joinOf_38 : jj_D cX9_joinOf 38 (.iload_n 2) 1 39 := ⟨rfl, by decide +kernel⟩
theorem dX9_joinOf_39 : jj_D cX9_joinOf 39 (.invokevirtual 194) 3 42 := ⟨rfl, by decide +kernel⟩
theorem dX9_joinOf_42 : jj_D cX9_joinOf 42 (.if_icmp .ge 7) 3 45 := ⟨rfl, by decide +kernel⟩
theorem dX9_joinOf_45 : jj_D cX9_joinOf 45 (.iconst 1) 1 46 := ⟨rfl, by decide +kernel⟩
theorem dX9_joinOf_46 : jj_D cX9_joinOf 46 (.goto 4) 3 49 := ⟨rfl, by decide +kernel⟩
theorem dX9_joinOf_49 : jj_D cX9_joinOf 49 (.iconst 0) 1 50 := ⟨rfl, by decide +kernel⟩
theorem dX9_joinOf_50 : jj_D cX9_joinOf 50 (.istore 5) 2 52 := ⟨rfl, by decide +kernel⟩
theorem dX9_joinOf_52 : jj_D cX9_joinOf 52 (.iload 5) 2 54 := ⟨rfl, by decide +kernel⟩
theorem dX9_joinOf_54 : jj_D cX9_joinOf 54 (.ifCond .eq 8) 3 57 := ⟨rfl, by decide +kernel⟩
theorem dX9_joinOf_57 : jj_D cX9_joinOf 57 (.iload 4) 2 59 := ⟨rfl, by decide +kernel⟩
theorem dX9_joinOf_59 : jj_D cX9_joinOf 59 (.goto 4) 3 62 := ⟨rfl, by decide +kernel⟩
theorem dX9_joinOf_62 : jj_D cX9_joinOf 62 (.iload_n 3) 1 63 := ⟨rfl, by decide +kernel⟩
theorem dX9_joinOf_63 : jj_D cX9_joinOf 63 (.istore_n 3) 1 64 := ⟨rfl, by decide +kernel⟩
theorem dX9_joinOf_64 : jj_D cX9_joinOf 64 (.iinc 4 1) 3 67 := ⟨rfl, by decide +kernel⟩
theorem dX9_joinOf_67 : jj_D cX9_joinOf 67 (.goto (-62)) 3 70 := ⟨rfl, by decide +kernel⟩
theorem dX9_joinOf_70 : jj_D cX9_joinOf 70 (.iload_n 3) 1 71 := ⟨rfl, by decide +kernel⟩
theorem dX9_joinOf_71 : jj_D cX9_joinOf 71 (.ireturn) 1 72 := ⟨rfl, by decide +kernel⟩
theorem dX9_join_0 : jj_D cX9_join 0 (.aload_n 0) 1 1 := ⟨rfl, by decide +kernel⟩
theorem dX9_join_1 : jj_D cX9_join 1 (.iload_n 2) 1 2 := ⟨rfl, by decide +kernel⟩
theorem dX9_join_2 : jj_D cX9_join 2 (.invokestatic 191) 3 5 := ⟨rfl, by decide +kernel⟩
theorem dX9_join_5 : jj_D cX9_join 5 (.ifCond .ne 7) 3 8 := ⟨rfl, by decide +kernel⟩
theorem dX9_join_8 : jj_D cX9_join 8 (.iconst 1) 1 9 := ⟨rfl, by decide +kernel⟩
theorem dX9_join_9 : jj_D cX9_join 9 (.goto 28) 3 12 := ⟨rfl, by decide +kernel⟩
theorem dX9_join_12 : jj_D cX9_join 12 (.aload_n 0) 1 13 := ⟨rfl, by decide +kernel⟩
theorem dX9_join_13 : jj_D cX9_join 13 (.iload_n 1) 1 14 := ⟨rfl, by decide +kernel⟩
theorem dX9_join_14 : jj_D cX9_join 14 (.invokevirtual 197) 3 17 := ⟨rfl, by decide +kernel⟩
theorem dX9_join_17 : jj_D cX9_join 17 (.ifCond .ne 7) 3 20 := ⟨rfl, by decide +kernel⟩
theorem dX9_join_20 : jj_D cX9_join 20 (.iconst 2) 1 21 := ⟨rfl, by decide +kernel⟩
theorem dX9_join_21 : jj_D cX9_join 21 (.goto 16) 3 24 := ⟨rfl, by decide +kernel⟩
theorem dX9_join_24 : jj_D cX9_join 24 (.aload_n 0) 1 25 := ⟨rfl, by decide +kernel⟩
theorem dX9_join_25 : jj_D cX9_join 25 (.iload_n 1) 1 26 := ⟨rfl, by decide +kernel⟩
theorem dX9_join_26 : jj_D cX9_join 26 (.invokevirtual 200) 3 29 := ⟨rfl, by decide +kernel⟩
theorem dX9_join_29 : jj_D cX9_join 29 (.ifCond .eq 7) 3 32 := ⟨rfl, by decide +kernel⟩
theorem dX9_join_32 : jj_D cX9_join 32 (.iconst 0) 1 33 := ⟨rfl, by decide +kernel⟩
theorem dX9_join_33 : jj_D cX9_join 33 (.goto 4) 3 36 := ⟨rfl, by decide +kernel⟩
theorem dX9_join_36 : jj_D cX9_join 36 (.iconst 3) 1 37 := ⟨rfl, by decide +kernel⟩
theorem dX9_join_37 : jj_D cX9_join 37 (.invokevirtual 118) 3 40 := ⟨rfl, by decide +kernel⟩
theorem dX9_join_40 : jj_D cX9_join 40 (.ifCond .ne 5) 3 43 := ⟨rfl, by decide +kernel⟩
theorem dX9_join_43 : jj_D cX9_join 43 (.iconst 0) 1 44 := ⟨rfl, by decide +kernel⟩
theorem dX9_join_44 : jj_D cX9_join 44 (.ireturn) 1 45 := ⟨rfl, by decide +kernel⟩
theorem dX9_join_45 : jj_D cX9_join 45 (.aload_n 0) 1 46 := ⟨rfl, by decide +kernel⟩
theorem dX9_join_46 : jj_D cX9_join 46 (.iload_n 1) 1 47 := ⟨rfl, by decide +kernel⟩
theorem dX9_join_47 : jj_D cX9_join 47 (.iload_n 2) 1 48 := ⟨rfl, by decide +kernel⟩
theorem dX9_join_48 : jj_D cX9_join 48 (.invokevirtual 203) 3 51 := ⟨rfl, by decide +kernel⟩
theorem dX9_join_51 : jj_D cX9_join 51 (.ireturn) 1 52 := ⟨rfl, by decide +kernel⟩
theorem dX9_file_0 : jj_D cX9_file 0 (.aload_n 0) 1 1 := ⟨rfl, by decide +kernel⟩
theorem dX9_file_1 : jj_D cX9_file 1 (.aload_n 0) 1 2 := ⟨rfl, by decide +kernel⟩
theorem dX9_file_2 : jj_D cX9_file 2 (.iload_n 1) 1 3 := ⟨rfl, by decide +kernel⟩
theorem dX9_file_3 : jj_D cX9_file 3 (.invokevirtual 197) 3 6 := ⟨rfl, by decide +kernel⟩
theorem dX9_file_6 : jj_D cX9_file 6 (.ifCond .ne 7) 3 9 := ⟨rfl, by decide +kernel⟩
theorem dX9_file_9 : jj_D cX9_file 9 (.iconst 1) 1 10 := ⟨rfl, by decide +kernel⟩
theorem dX9_file_10 : jj_D cX9_file 10 (.goto 16) 3 13 := ⟨rfl, by decide +kernel⟩
theorem dX9_file_13 : jj_D cX9_file 13 (.aload_n 0) 1 14 := ⟨rfl, by decide +kernel⟩
theorem dX9_file_14 : jj_D cX9_file 14 (.iload_n 1) 1 15 := ⟨rfl, by decide +kernel⟩
theorem dX9_file_15 : jj_D cX9_file 15 (.invokevirtual 200) 3 18 := ⟨rfl, by decide +kernel⟩
theorem dX9_file_18 : jj_D cX9_file 18 (.ifCond .eq 7) 3 21 := ⟨rfl, by decide +kernel⟩
theorem dX9_file_21 : jj_D cX9_file 21 (.iconst 0) 1 22 := ⟨rfl, by decide +kernel⟩
theorem dX9_file_22 : jj_D cX9_file 22 (.goto 4) 3 25 := ⟨rfl, by decide +kernel⟩
theorem dX9_file_25 : jj_D cX9_file 25 (.iconst 2) 1 26 := ⟨rfl, by decide +kernel⟩
theorem dX9_file_26 : jj_D cX9_file 26 (.invokevirtual 118) 3 29 := ⟨rfl, by decide +kernel⟩
theorem dX9_file_29 : jj_D cX9_file 29 (.ifCond .ne 5) 3 32 := ⟨rfl, by decide +kernel⟩
theorem dX9_file_32 : jj_D cX9_file 32 (.iconst 0) 1 33 := ⟨rfl, by decide +kernel⟩
theorem dX9_file_33 : jj_D cX9_file 33 (.ireturn) 1 34 := ⟨rfl, by decide +kernel⟩
theorem dX9_file_34 : jj_D cX9_file 34 (.iconst 0) 1 35 := ⟨rfl, by decide +kernel⟩
theorem dX9_file_35 : jj_D cX9_file 35 (.istore_n 2) 1 36 := ⟨rfl, by decide +kernel⟩
theorem dX9_file_36 : jj_D cX9_file 36 (.iconst 0) 1 37 := ⟨rfl, by decide +kernel⟩
theorem dX9_file_37 : jj_D cX9_file 37 (.istore_n 3) 1 38 := ⟨rfl, by decide +kernel⟩
theorem dX9_file_38 : jj_D cX9_file 38 (.iload_n 3) 1 39 := ⟨rfl, by decide +kernel⟩
theorem dX9_file_39 : jj_D cX9_file 39 (.bipush 8) 2 41 := ⟨rfl, by decide +kernel⟩
theorem dX9_file_41 : jj_D cX9_file 41 (.if_icmp .ge 35) 3 44 := ⟨rfl, by decide +kernel⟩
theorem dX9_file_44 : jj_D cX9_file 44 (.aload_n 0) 1 45 := ⟨rfl, by decide +kernel⟩
theorem dX9_file_45 : jj_D cX9_file 45 (.getfield 73) 3 48 := ⟨rfl, by decide +kernel⟩
theorem dX9_file_48 : jj_D cX9_file 48 (.iload_n 3) 1 49 := ⟨rfl, by decide +kernel⟩
theorem dX9_file_49 : jj_D cX9_file 49 (.aload_n 0) 1 50 := ⟨rfl, by decide +kernel⟩
theorem dX9_file_50 : jj_D cX9_file 50 (.aload_n 0) 1 51 := ⟨rfl, by decide +kernel⟩
theorem dX9_file_51 : jj_D cX9_file 51 (.iload_n 1) 1 52 := ⟨rfl, by decide +kernel⟩
theorem dX9_file_52 : jj_D cX9_file 52 (.iload_n 3) 1 53 := ⟨rfl, by decide +kernel⟩
theorem dX9_file_53 : jj_D cX9_file 53 (.invokevirtual 203) 3 56 := ⟨rfl, by decide +kernel⟩
theorem dX9_file_56 : jj_D cX9_file 56 (.iload_n 3) 1 57 := ⟨rfl, by decide +kernel⟩
theorem dX9_file_57 : jj_D cX9_file 57 (.invokevirtual 194) 3 60 := ⟨rfl, by decide +kernel⟩
theorem dX9_file_60 : jj_D cX9_file 60 (.iastore) 1 61 := ⟨rfl, by decide +kernel⟩
theorem dX9_file_61 : jj_D cX9_file 61 (.iload_n 2) 1 62 := ⟨rfl, by decide +kernel⟩
theorem dX9_file_62 : jj_D cX9_file 62 (.aload_n 0) 1 63 := ⟨rfl, by decide +kernel⟩
theorem dX9_file_63 : jj_D cX9_file 63 (.getfield 73) 3 66 := ⟨rfl, by decide +kernel⟩
theorem dX9_file_66 : jj_D cX9_file 66 (.iload_n 3) 1 67 := ⟨rfl, by decide +kernel⟩
theorem dX9_file_67 : jj_D cX9_file 67 (.iaload) 1 68 := ⟨rfl, by decide +kernel⟩
theorem dX9_file_68 : jj_D cX9_file 68 (.iadd) 1 69 := ⟨rfl, by decide +kernel⟩
theorem dX9_file_69 : jj_D cX9_file 69 (.istore_n 2) 1 70 := ⟨rfl, by decide +kernel⟩
theorem dX9_file_70 : jj_D cX9_file 70 (.iinc 3 1) 3 73 := ⟨rfl, by decide +kernel⟩
theorem dX9_file_73 : jj_D cX9_file 73 (.goto (-35)) 3 76 := ⟨rfl, by decide +kernel⟩
theorem dX9_file_76 : jj_D cX9_file 76 (.aload_n 0) 1 77 := ⟨rfl, by decide +kernel⟩
theorem dX9_file_77 : jj_D cX9_file 77 (.iconst 1) 1 78 := ⟨rfl, by decide +kernel⟩
theorem dX9_file_78 : jj_D cX9_file 78 (.putfield 206) 3 81 := ⟨rfl, by decide +kernel⟩
theorem dX9_file_81 : jj_D cX9_file 81 (.aload_n 0) 1 82 := ⟨rfl, by decide +kernel⟩
theorem dX9_file_82 : jj_D cX9_file 82 (.iconst 0) 1 83 := ⟨rfl, by decide +kernel⟩
theorem dX9_file_83 : jj_D cX9_file 83 (.putfield 210) 3 86 := ⟨rfl, by decide +kernel⟩
theorem dX9_file_86 : jj_D cX9_file 86 (.iload_n 2) 1 87 := ⟨rfl, by decide +kernel⟩
theorem dX9_file_87 : jj_D cX9_file 87 (.ireturn) 1 88 := ⟨rfl, by decide +kernel⟩
theorem dX9_repair_0 : jj_D cX9_repair 0 (.aload_n 0) 1 1 := ⟨rfl, by decide +kernel⟩
theorem dX9_repair_1 : jj_D cX9_repair 1 (.iload_n 1) 1 2 := ⟨rfl, by decide +kernel⟩
theorem dX9_repair_2 : jj_D cX9_repair 2 (.invokestatic 191) 3 5 := ⟨rfl, by decide +kernel⟩
theorem dX9_repair_5 : jj_D cX9_repair 5 (.ifCond .ne 7) 3 8 := ⟨rfl, by decide +kernel⟩
theorem dX9_repair_8 : jj_D cX9_repair 8 (.iconst 1) 1 9 := ⟨rfl, by decide +kernel⟩
theorem dX9_repair_9 : jj_D cX9_repair 9 (.goto 24) 3 12 := ⟨rfl, by decide +kernel⟩
theorem dX9_repair_12 : jj_D cX9_repair 12 (.aload_n 0) 1 13 := ⟨rfl, by decide +kernel⟩
theorem dX9_repair_13 : jj_D cX9_repair 13 (.getfield 206) 3 16 := ⟨rfl, by decide +kernel⟩
theorem dX9_repair_16 : jj_D cX9_repair 16 (.ifCond .eq 12) 3 19 := ⟨rfl, by decide +kernel⟩
theorem dX9_repair_19 : jj_D cX9_repair 19 (.aload_n 0) 1 20 := ⟨rfl, by decide +kernel⟩
theorem dX9_repair_20 : jj_D cX9_repair 20 (.getfield 210) 3 23 := ⟨rfl, by decide +kernel⟩
theorem dX9_repair_23 : jj_D cX9_repair 23 (.bipush 20) 2 25 := ⟨rfl, by decide +kernel⟩
theorem dX9_repair_25 : jj_D cX9_repair 25 (.if_icmp .ne 7) 3 28 := ⟨rfl, by decide +kernel⟩
theorem dX9_repair_28 : jj_D cX9_repair 28 (.iconst 2) 1 29 := ⟨rfl, by decide +kernel⟩
theorem dX9_repair_29 : jj_D cX9_repair 29 (.goto 4) 3 32 := ⟨rfl, by decide +kernel⟩
theorem dX9_repair_32 : jj_D cX9_repair 32 (.iconst 0) 1 33 := ⟨rfl, by decide +kernel⟩
theorem dX9_repair_33 : jj_D cX9_repair 33 (.invokevirtual 118) 3 36 := ⟨rfl, by decide +kernel⟩
theorem dX9_repair_36 : jj_D cX9_repair 36 (.ifCond .ne 5) 3 39 := ⟨rfl, by decide +kernel⟩
theorem dX9_repair_39 : jj_D cX9_repair 39 (.iconst 0) 1 40 := ⟨rfl, by decide +kernel⟩
theorem dX9_repair_40 : jj_D cX9_repair 40 (.ireturn) 1 41 := ⟨rfl, by decide +kernel⟩
theorem dX9_repair_41 : jj_D cX9_repair 41 (.aload_n 0) 1 42 := ⟨rfl, by decide +kernel⟩
theorem dX9_repair_42 : jj_D cX9_repair 42 (.getfield 76) 3 45 := ⟨rfl, by decide +kernel⟩
theorem dX9_repair_45 : jj_D cX9_repair 45 (.aload_n 0) 1 46 := ⟨rfl, by decide +kernel⟩
theorem dX9_repair_46 : jj_D cX9_repair 46 (.getfield 210) 3 49 := ⟨rfl, by decide +kernel⟩
theorem dX9_repair_49 : jj_D cX9_repair 49 (.iload_n 1) 1 50 := ⟨rfl, by decide +kernel⟩
theorem dX9_repair_50 : jj_D cX9_repair 50 (.iastore) 1 51 := ⟨rfl, by decide +kernel⟩
theorem dX9_repair_51 : jj_D cX9_repair 51 (.aload_n 0) 1 52 := ⟨rfl, by decide +kernel⟩
theorem dX9_repair_52 : jj_D cX9_repair 52 (.getfield 79) 3 55 := ⟨rfl, by decide +kernel⟩
theorem dX9_repair_55 : jj_D cX9_repair 55 (.aload_n 0) 1 56 := ⟨rfl, by decide +kernel⟩
theorem dX9_repair_56 : jj_D cX9_repair 56 (.getfield 210) 3 59 := ⟨rfl, by decide +kernel⟩
theorem dX9_repair_59 : jj_D cX9_repair 59 (.aload_n 0) 1 60 := ⟨rfl, by decide +kernel⟩
theorem dX9_repair_60 : jj_D cX9_repair 60 (.getfield 73) 3 63 := ⟨rfl, by decide +kernel⟩
theorem dX9_repair_63 : jj_D cX9_repair 63 (.iload_n 1) 1 64 := ⟨rfl, by decide +kernel⟩
theorem dX9_repair_64 : jj_D cX9_repair 64 (.iaload) 1 65 := ⟨rfl, by decide +kernel⟩
theorem dX9_repair_65 : jj_D cX9_repair 65 (.iastore) 1 66 := ⟨rfl, by decide +kernel⟩
theorem dX9_repair_66 : jj_D cX9_repair 66 (.aload_n 0) 1 67 := ⟨rfl, by decide +kernel⟩
theorem dX9_repair_67 : jj_D cX9_repair 67 (.dup) 1 68 := ⟨rfl, by decide +kernel⟩
theorem dX9_repair_68 : jj_D cX9_repair 68 (.getfield 210) 3 71 := ⟨rfl, by decide +kernel⟩
theorem dX9_repair_71 : jj_D cX9_repair 71 (.iconst 1) 1 72 := ⟨rfl, by decide +kernel⟩
theorem dX9_repair_72 : jj_D cX9_repair 72 (.iadd) 1 73 := ⟨rfl, by decide +kernel⟩
theorem dX9_repair_73 : jj_D cX9_repair 73 (.putfield 210) 3 76 := ⟨rfl, by decide +kernel⟩
theorem dX9_repair_76 : jj_D cX9_repair 76 (.aload_n 0) 1 77 := ⟨rfl, by decide +kernel⟩
theorem dX9_repair_77 : jj_D cX9_repair 77 (.getfield 73) 3 80 := ⟨rfl, by decide +kernel⟩
theorem dX9_repair_80 : jj_D cX9_repair 80 (.iload_n 1) 1 81 := ⟨rfl, by decide +kernel⟩
theorem dX9_repair_81 : jj_D cX9_repair 81 (.dup2) 1 82 := ⟨rfl, by decide +kernel⟩
theorem dX9_repair_82 : jj_D cX9_repair 82 (.iaload) 1 83 := ⟨rfl, by decide +kernel⟩
theorem dX9_repair_83 : jj_D cX9_repair 83 (.iconst 2) 1 84 := ⟨rfl, by decide +kernel⟩
theorem dX9_repair_84 : jj_D cX9_repair 84 (.idiv) 1 85 := ⟨rfl, by decide +kernel⟩
theorem dX9_repair_85 : jj_D cX9_repair 85 (.iastore) 1 86 := ⟨rfl, by decide +kernel⟩
theorem dX9_repair_86 : jj_D cX9_repair 86 (.aload_n 0) 1 87 := ⟨rfl, by decide +kernel⟩
theorem dX9_repair_87 : jj_D cX9_repair 87 (.getfield 73) 3 90 := ⟨rfl, by decide +kernel⟩
theorem dX9_repair_90 : jj_D cX9_repair 90 (.iload_n 1) 1 91 := ⟨rfl, by decide +kernel⟩
theorem dX9_repair_91 : jj_D cX9_repair 91 (.iaload) 1 92 := ⟨rfl, by decide +kernel⟩
theorem dX9_repair_92 : jj_D cX9_repair 92 (.ireturn) 1 93 := ⟨rfl, by decide +kernel⟩
theorem dX9_undo_0 : jj_D cX9_undo 0 (.aload_n 0) 1 1 := ⟨rfl, by decide +kernel⟩
theorem dX9_undo_1 : jj_D cX9_undo 1 (.aload_n 0) 1 2 := ⟨rfl, by decide +kernel⟩
theorem dX9_undo_2 : jj_D cX9_undo 2 (.getfield 210) 3 5 := ⟨rfl, by decide +kernel⟩
theorem dX9_undo_5 : jj_D cX9_undo 5 (.ifCond .ne 7) 3 8 := ⟨rfl, by decide +kernel⟩
theorem dX9_undo_8 : jj_D cX9_undo 8 (.iconst 1) 1 9 := ⟨rfl, by decide +kernel⟩
theorem dX9_undo_9 : jj_D cX9_undo 9 (.goto 4) 3 12 := ⟨rfl, by decide +kernel⟩
theorem dX9_undo_12 : jj_D cX9_undo 12 (.iconst 0) 1 13 := ⟨rfl, by decide +kernel⟩
theorem dX9_undo_13 : jj_D cX9_undo 13 (.invokevirtual 118) 3 16 := ⟨rfl, by decide +kernel⟩
theorem dX9_undo_16 : jj_D cX9_undo 16 (.ifCond .ne 5) 3 19 := ⟨rfl, by decide +kernel⟩
theorem dX9_undo_19 : jj_D cX9_undo 19 (.iconst 0) 1 20 := ⟨rfl, by decide +kernel⟩
theorem dX9_undo_20 : jj_D cX9_undo 20 (.ireturn) 1 21 := ⟨rfl, by decide +kernel⟩
theorem dX9_undo_21 : jj_D cX9_undo 21 (.aload_n 0) 1 22 := ⟨rfl, by decide +kernel⟩
theorem dX9_undo_22 : jj_D cX9_undo 22 (.dup) 1 23 := ⟨rfl, by decide +kernel⟩
theorem dX9_undo_23 : jj_D cX9_undo 23 (.getfield 210) 3 26 := ⟨rfl, by decide +kernel⟩
theorem dX9_undo_26 : jj_D cX9_undo 26 (.iconst 1) 1 27 := ⟨rfl, by decide +kernel⟩
theorem dX9_undo_27 : jj_D cX9_undo 27 (.isub) 1 28 := ⟨rfl, by decide +kernel⟩
theorem dX9_undo_28 : jj_D cX9_undo 28 (.putfield 210) 3 31 := ⟨rfl, by decide +kernel⟩
theorem dX9_undo_31 : jj_D cX9_undo 31 (.aload_n 0) 1 32 := ⟨rfl, by decide +kernel⟩
theorem dX9_undo_32 : jj_D cX9_undo 32 (.getfield 73) 3 35 := ⟨rfl, by decide +kernel⟩
theorem dX9_undo_35 : jj_D cX9_undo 35 (.aload_n 0) 1 36 := ⟨rfl, by decide +kernel⟩
theorem dX9_undo_36 : jj_D cX9_undo 36 (.getfield 76) 3 39 := ⟨rfl, by decide +kernel⟩
theorem dX9_undo_39 : jj_D cX9_undo 39 (.aload_n 0) 1 40 := ⟨rfl, by decide +kernel⟩
theorem dX9_undo_40 : jj_D cX9_undo 40 (.getfield 210) 3 43 := ⟨rfl, by decide +kernel⟩
theorem dX9_undo_43 : jj_D cX9_undo 43 (.iaload) 1 44 := ⟨rfl, by decide +kernel⟩
theorem dX9_undo_44 : jj_D cX9_undo 44 (.aload_n 0) 1 45 := ⟨rfl, by decide +kernel⟩
theorem dX9_undo_45 : jj_D cX9_undo 45 (.getfield 79) 3 48 := ⟨rfl, by decide +kernel⟩
theorem dX9_undo_48 : jj_D cX9_undo 48 (.aload_n 0) 1 49 := ⟨rfl, by decide +kernel⟩
theorem dX9_undo_49 : jj_D cX9_undo 49 (.getfield 210) 3 52 := ⟨rfl, by decide +kernel⟩
theorem dX9_undo_52 : jj_D cX9_undo 52 (.iaload) 1 53 := ⟨rfl, by decide +kernel⟩
theorem dX9_undo_53 : jj_D cX9_undo 53 (.iastore) 1 54 := ⟨rfl, by decide +kernel⟩
theorem dX9_undo_54 : jj_D cX9_undo 54 (.aload_n 0) 1 55 := ⟨rfl, by decide +kernel⟩
theorem dX9_undo_55 : jj_D cX9_undo 55 (.getfield 76) 3 58 := ⟨rfl, by decide +kernel⟩
theorem dX9_undo_58 : jj_D cX9_undo 58 (.aload_n 0) 1 59 := ⟨rfl, by decide +kernel⟩
theorem dX9_undo_59 : jj_D cX9_undo 59 (.getfield 210) 3 62 := ⟨rfl, by decide +kernel⟩
theorem dX9_undo_62 : jj_D cX9_undo 62 (.iaload) 1 63 := ⟨rfl, by decide +kernel⟩
theorem dX9_undo_63 : jj_D cX9_undo 63 (.ireturn) 1 64 := ⟨rfl, by decide +kernel⟩
theorem dX9_fileIs_0 : jj_D cX9_fileIs 0 (.aload_n 0) 1 1 := ⟨rfl, by decide +kernel⟩
theorem dX9_fileIs_1 : jj_D cX9_fileIs 1 (.iload_n 1) 1 2 := ⟨rfl, by decide +kernel⟩
theorem dX9_fileIs_2 : jj_D cX9_fileIs 2 (.invokestatic 191) 3 5 := ⟨rfl, by decide +kernel⟩
theorem dX9_fileIs_5 : jj_D cX9_fileIs 5 (.ifCond .eq 7) 3 8 := ⟨rfl, by decide +kernel⟩
theorem dX9_fileIs_8 : jj_D cX9_fileIs 8 (.iconst 0) 1 9 := ⟨rfl, by decide +kernel⟩
theorem dX9_fileIs_9 : jj_D cX9_fileIs 9 (.goto 4) 3 12 := ⟨rfl, by decide +kernel⟩
theorem dX9_fileIs_12 : jj_D cX9_fileIs 12 (.iconst 1) 1 13 := ⟨rfl, by decide +kernel⟩
theorem dX9_fileIs_13 : jj_D cX9_fileIs 13 (.invokevirtual 118) 3 16 := ⟨rfl, by decide +kernel⟩
theorem dX9_fileIs_16 : jj_D cX9_fileIs 16 (.ifCond .eq 23) 3 19 := ⟨rfl, by decide +kernel⟩
theorem dX9_fileIs_19 : jj_D cX9_fileIs 19 (.aload_n 0) 1 20 := ⟨rfl, by decide +kernel⟩
theorem dX9_fileIs_20 : jj_D cX9_fileIs 20 (.getfield 206) 3 23 := ⟨rfl, by decide +kernel⟩
theorem dX9_fileIs_23 : jj_D cX9_fileIs 23 (.ifCond .eq 12) 3 26 := ⟨rfl, by decide +kernel⟩
theorem dX9_fileIs_26 : jj_D cX9_fileIs 26 (.aload_n 0) 1 27 := ⟨rfl, by decide +kernel⟩
theorem dX9_fileIs_27 : jj_D cX9_fileIs 27 (.getfield 73) 3 30 := ⟨rfl, by decide +kernel⟩
theorem dX9_fileIs_30 : jj_D cX9_fileIs 30 (.iload_n 1) 1 31 := ⟨rfl, by decide +kernel⟩
theorem dX9_fileIs_31 : jj_D cX9_fileIs 31 (.iaload) 1 32 := ⟨rfl, by decide +kernel⟩
theorem dX9_fileIs_32 : jj_D cX9_fileIs 32 (.goto 8) 3 35 := ⟨rfl, by decide +kernel⟩
theorem dX9_fileIs_35 : jj_D cX9_fileIs 35 (.iconst (-1)) 1 36 := ⟨rfl, by decide +kernel⟩
theorem dX9_fileIs_36 : jj_D cX9_fileIs 36 (.goto 4) 3 39 := ⟨rfl, by decide +kernel⟩
theorem dX9_fileIs_39 : jj_D cX9_fileIs 39 (.iconst 0) 1 40 := ⟨rfl, by decide +kernel⟩
theorem dX9_fileIs_40 : jj_D cX9_fileIs 40 (.ireturn) 1 41 := ⟨rfl, by decide +kernel⟩
theorem dX9_contract_0 : jj_D cX9_contract 0 (.aload_n 0) 1 1 := ⟨rfl, by decide +kernel⟩
theorem dX9_contract_1 : jj_D cX9_contract 1 (.iload_n 1) 1 2 := ⟨rfl, by decide +kernel⟩
theorem dX9_contract_2 : jj_D cX9_contract 2 (.invokestatic 111) 3 5 := ⟨rfl, by decide +kernel⟩
theorem dX9_contract_5 : jj_D cX9_contract 5 (.ifCond .ne 7) 3 8 := ⟨rfl, by decide +kernel⟩
theorem dX9_contract_8 : jj_D cX9_contract 8 (.iconst 1) 1 9 := ⟨rfl, by decide +kernel⟩
theorem dX9_contract_9 : jj_D cX9_contract 9 (.goto 29) 3 12 := ⟨rfl, by decide +kernel⟩
theorem dX9_contract_12 : jj_D cX9_contract 12 (.iload_n 2) 1 13 := ⟨rfl, by decide +kernel⟩
theorem dX9_contract_13 : jj_D cX9_contract 13 (.iconst 0) 1 14 := ⟨rfl, by decide +kernel⟩
theorem dX9_contract_14 : jj_D cX9_contract 14 (.sipush 9999) 3 17 := ⟨rfl, by decide +kernel⟩
theorem dX9_contract_17 : jj_D cX9_contract 17 (.invokestatic 104) 3 20 := ⟨rfl, by decide +kernel⟩
theorem dX9_contract_20 : jj_D cX9_contract 20 (.ifCond .eq 17) 3 23 := ⟨rfl, by decide +kernel⟩
theorem dX9_contract_23 : jj_D cX9_contract 23 (.iload_n 3) 1 24 := ⟨rfl, by decide +kernel⟩
theorem dX9_contract_24 : jj_D cX9_contract 24 (.iconst 0) 1 25 := ⟨rfl, by decide +kernel⟩
theorem dX9_contract_25 : jj_D cX9_contract 25 (.ldc 213) 2 27 := ⟨rfl, by decide +kernel⟩
theorem dX9_contract_27 : jj_D cX9_contract 27 (.invokestatic 104) 3 30 := ⟨rfl, by decide +kernel⟩
theorem dX9_contract_30 : jj_D cX9_contract 30 (.ifCond .eq 7) 3 33 := ⟨rfl, by decide +kernel⟩
theorem dX9_contract_33 : jj_D cX9_contract 33 (.iconst 0) 1 34 := ⟨rfl, by decide +kernel⟩
theorem dX9_contract_34 : jj_D cX9_contract 34 (.goto 4) 3 37 := ⟨rfl, by decide +kernel⟩
theorem dX9_contract_37 : jj_D cX9_contract 37 (.iconst 2) 1 38 := ⟨rfl, by decide +kernel⟩
theorem dX9_contract_38 : jj_D cX9_contract 38 (.invokevirtual 118) 3 41 := ⟨rfl, by decide +kernel⟩
theorem dX9_contract_41 : jj_D cX9_contract 41 (.ifCond .ne 5) 3 44 := ⟨rfl, by decide +kernel⟩
theorem dX9_contract_44 : jj_D cX9_contract 44 (.iconst 0) 1 45 := ⟨rfl, by decide +kernel⟩
theorem dX9_contract_45 : jj_D cX9_contract 45 (.ireturn) 1 46 := ⟨rfl, by decide +kernel⟩
theorem dX9_contract_46 : jj_D cX9_contract 46 (.aload_n 0) 1 47 := ⟨rfl, by decide +kernel⟩
theorem dX9_contract_47 : jj_D cX9_contract 47 (.getfield 91) 3 50 := ⟨rfl, by decide +kernel⟩
theorem dX9_contract_50 : jj_D cX9_contract 50 (.iload_n 1) 1 51 := ⟨rfl, by decide +kernel⟩
theorem dX9_contract_51 : jj_D cX9_contract 51 (.iload_n 2) 1 52 := ⟨rfl, by decide +kernel⟩
theorem dX9_contract_52 : jj_D cX9_contract 52 (.iastore) 1 53 := ⟨rfl, by decide +kernel⟩
theorem dX9_contract_53 : jj_D cX9_contract 53 (.aload_n 0) 1 54 := ⟨rfl, by decide +kernel⟩
theorem dX9_contract_54 : jj_D cX9_contract 54 (.getfield 94) 3 57 := ⟨rfl, by decide +kernel⟩
theorem dX9_contract_57 : jj_D cX9_contract 57 (.iload_n 1) 1 58 := ⟨rfl, by decide +kernel⟩
theorem dX9_contract_58 : jj_D cX9_contract 58 (.dup2) 1 59 := ⟨rfl, by decide +kernel⟩
theorem dX9_contract_59 : jj_D cX9_contract 59 (.iaload) 1 60 := ⟨rfl, by decide +kernel⟩
theorem dX9_contract_60 : jj_D cX9_contract 60 (.iload_n 3) 1 61 := ⟨rfl, by decide +kernel⟩
theorem dX9_contract_61 : jj_D cX9_contract 61 (.isub) 1 62 := ⟨rfl, by decide +kernel⟩
theorem dX9_contract_62 : jj_D cX9_contract 62 (.iastore) 1 63 := ⟨rfl, by decide +kernel⟩
theorem dX9_contract_63 : jj_D cX9_contract 63 (.aload_n 0) 1 64 := ⟨rfl, by decide +kernel⟩
theorem dX9_contract_64 : jj_D cX9_contract 64 (.getfield 94) 3 67 := ⟨rfl, by decide +kernel⟩
theorem dX9_contract_67 : jj_D cX9_contract 67 (.iload_n 1) 1 68 := ⟨rfl, by decide +kernel⟩
theorem dX9_contract_68 : jj_D cX9_contract 68 (.iaload) 1 69 := ⟨rfl, by decide +kernel⟩
theorem dX9_contract_69 : jj_D cX9_contract 69 (.ireturn) 1 70 := ⟨rfl, by decide +kernel⟩
theorem dX9_account_0 : jj_D cX9_account 0 (.aload_n 0) 1 1 := ⟨rfl, by decide +kernel⟩
theorem dX9_account_1 : jj_D cX9_account 1 (.iload_n 1) 1 2 := ⟨rfl, by decide +kernel⟩
theorem dX9_account_2 : jj_D cX9_account 2 (.invokestatic 111) 3 5 := ⟨rfl, by decide +kernel⟩
theorem dX9_account_5 : jj_D cX9_account 5 (.ifCond .eq 7) 3 8 := ⟨rfl, by decide +kernel⟩
theorem dX9_account_8 : jj_D cX9_account 8 (.iconst 0) 1 9 := ⟨rfl, by decide +kernel⟩
theorem dX9_account_9 : jj_D cX9_account 9 (.goto 4) 3 12 := ⟨rfl, by decide +kernel⟩
theorem dX9_account_12 : jj_D cX9_account 12 (.iconst 1) 1 13 := ⟨rfl, by decide +kernel⟩
theorem dX9_account_13 : jj_D cX9_account 13 (.invokevirtual 118) 3 16 := ⟨rfl, by decide +kernel⟩
theorem dX9_account_16 : jj_D cX9_account 16 (.ifCond .eq 12) 3 19 := ⟨rfl, by decide +kernel⟩
theorem dX9_account_19 : jj_D cX9_account 19 (.aload_n 0) 1 20 := ⟨rfl, by decide +kernel⟩
theorem dX9_account_20 : jj_D cX9_account 20 (.getfield 94) 3 23 := ⟨rfl, by decide +kernel⟩
theorem dX9_account_23 : jj_D cX9_account 23 (.iload_n 1) 1 24 := ⟨rfl, by decide +kernel⟩
theorem dX9_account_24 : jj_D cX9_account 24 (.iaload) 1 25 := ⟨rfl, by decide +kernel⟩
theorem dX9_account_25 : jj_D cX9_account 25 (.goto 4) 3 28 := ⟨rfl, by decide +kernel⟩
theorem dX9_account_28 : jj_D cX9_account 28 (.iconst 0) 1 29 := ⟨rfl, by decide +kernel⟩
theorem dX9_account_29 : jj_D cX9_account 29 (.ireturn) 1 30 := ⟨rfl, by decide +kernel⟩
theorem dX9_accountAnew_0 : jj_D cX9_accountAnew 0 (.aload_n 0) 1 1 := ⟨rfl, by decide +kernel⟩
theorem dX9_accountAnew_1 : jj_D cX9_accountAnew 1 (.iload_n 1) 1 2 := ⟨rfl, by decide +kernel⟩
theorem dX9_accountAnew_2 : jj_D cX9_accountAnew 2 (.invokestatic 111) 3 5 := ⟨rfl, by decide +kernel⟩
theorem dX9_accountAnew_5 : jj_D cX9_accountAnew 5 (.ifCond .eq 7) 3 8 := ⟨rfl, by decide +kernel⟩
theorem dX9_accountAnew_8 : jj_D cX9_accountAnew 8 (.iconst 0) 1 9 := ⟨rfl, by decide +kernel⟩
theorem dX9_accountAnew_9 : jj_D cX9_accountAnew 9 (.goto 4) 3 12 := ⟨rfl, by decide +kernel⟩
theorem dX9_accountAnew_12 : jj_D cX9_accountAnew 12 (.iconst 1) 1 13 := ⟨rfl, by decide +kernel⟩
theorem dX9_accountAnew_13 : jj_D cX9_accountAnew 13 (.invokevirtual 118) 3 16 := ⟨rfl, by decide +kernel⟩
theorem dX9_accountAnew_16 : jj_D cX9_accountAnew 16 (.ifCond .eq 12) 3 19 := ⟨rfl, by decide +kernel⟩
theorem dX9_accountAnew_19 : jj_D cX9_accountAnew 19 (.aload_n 0) 1 20 := ⟨rfl, by decide +kernel⟩
theorem dX9_accountAnew_20 : jj_D cX9_accountAnew 20 (.getfield 94) 3 23 := ⟨rfl, by decide +kernel⟩
theorem dX9_accountAnew_23 : jj_D cX9_accountAnew 23 (.iload_n 1) 1 24 := ⟨rfl, by decide +kernel⟩
theorem dX9_accountAnew_24 : jj_D cX9_accountAnew 24 (.iaload) 1 25 := ⟨rfl, by decide +kernel⟩
theorem dX9_accountAnew_25 : jj_D cX9_accountAnew 25 (.goto 4) 3 28 := ⟨rfl, by decide +kernel⟩
theorem dX9_accountAnew_28 : jj_D cX9_accountAnew 28 (.iconst 0) 1 29 := ⟨rfl, by decide +kernel⟩
theorem dX9_accountAnew_29 : jj_D cX9_accountAnew 29 (.ireturn) 1 30 := ⟨rfl, by decide +kernel⟩
theorem dX9_payOut_0 : jj_D cX9_payOut 0 (.aload_n 0) 1 1 := ⟨rfl, by decide +kernel⟩
theorem dX9_payOut_1 : jj_D cX9_payOut 1 (.iload_n 1) 1 2 := ⟨rfl, by decide +kernel⟩
theorem dX9_payOut_2 : jj_D cX9_payOut 2 (.invokestatic 111) 3 5 := ⟨rfl, by decide +kernel⟩
theorem dX9_payOut_5 : jj_D cX9_payOut 5 (.ifCond .eq 7) 3 8 := ⟨rfl, by decide +kernel⟩
theorem dX9_payOut_8 : jj_D cX9_payOut 8 (.iconst 0) 1 9 := ⟨rfl, by decide +kernel⟩
theorem dX9_payOut_9 : jj_D cX9_payOut 9 (.goto 4) 3 12 := ⟨rfl, by decide +kernel⟩
theorem dX9_payOut_12 : jj_D cX9_payOut 12 (.iconst 1) 1 13 := ⟨rfl, by decide +kernel⟩
theorem dX9_payOut_13 : jj_D cX9_payOut 13 (.invokevirtual 118) 3 16 := ⟨rfl, by decide +kernel⟩
theorem dX9_payOut_16 : jj_D cX9_payOut 16 (.ifCond .ne 5) 3 19 := ⟨rfl, by decide +kernel⟩
theorem dX9_payOut_19 : jj_D cX9_payOut 19 (.iconst 0) 1 20 := ⟨rfl, by decide +kernel⟩
theorem dX9_payOut_20 : jj_D cX9_payOut 20 (.ireturn) 1 21 := ⟨rfl, by decide +kernel⟩
theorem dX9_payOut_21 : jj_D cX9_payOut 21 (.aload_n 0) 1 22 := ⟨rfl, by decide +kernel⟩
theorem dX9_payOut_22 : jj_D cX9_payOut 22 (.getfield 94) 3 25 := ⟨rfl, by decide +kernel⟩
theorem dX9_payOut_25 : jj_D cX9_payOut 25 (.iload_n 1) 1 26 := ⟨rfl, by decide +kernel⟩
theorem dX9_payOut_26 : jj_D cX9_payOut 26 (.iaload) 1 27 := ⟨rfl, by decide +kernel⟩
theorem dX9_payOut_27 : jj_D cX9_payOut 27 (.ifCond .le 12) 3 30 := ⟨rfl, by decide +kernel⟩
theorem dX9_payOut_30 : jj_D cX9_payOut 30 (.aload_n 0) 1 31 := ⟨rfl, by decide +kernel⟩
theorem dX9_payOut_31 : jj_D cX9_payOut 31 (.getfield 94) 3 34 := ⟨rfl, by decide +kernel⟩
theorem dX9_payOut_34 : jj_D cX9_payOut 34 (.iload_n 1) 1 35 := ⟨rfl, by decide +kernel⟩
theorem dX9_payOut_35 : jj_D cX9_payOut 35 (.iaload) 1 36 := ⟨rfl, by decide +kernel⟩
theorem dX9_payOut_36 : jj_D cX9_payOut 36 (.goto 4) 3 39 := ⟨rfl, by decide +kernel⟩
theorem dX9_payOut_39 : jj_D cX9_payOut 39 (.iconst 0) 1 40 := ⟨rfl, by decide +kernel⟩
theorem dX9_payOut_40 : jj_D cX9_payOut 40 (.istore_n 2) 1 41 := ⟨rfl, by decide +kernel⟩
theorem dX9_payOut_41 : jj_D cX9_payOut 41 (.aload_n 0) 1 42 := ⟨rfl, by decide +kernel⟩
theorem dX9_payOut_42 : jj_D cX9_payOut 42 (.getfield 94) 3 45 := ⟨rfl, by decide +kernel⟩
theorem dX9_payOut_45 : jj_D cX9_payOut 45 (.iload_n 1) 1 46 := ⟨rfl, by decide +kernel⟩
theorem dX9_payOut_46 : jj_D cX9_payOut 46 (.dup2) 1 47 := ⟨rfl, by decide +kernel⟩
theorem dX9_payOut_47 : jj_D cX9_payOut 47 (.iaload) 1 48 := ⟨rfl, by decide +kernel⟩
theorem dX9_payOut_48 : jj_D cX9_payOut 48 (.iload_n 2) 1 49 := ⟨rfl, by decide +kernel⟩
theorem dX9_payOut_49 : jj_D cX9_payOut 49 (.isub) 1 50 := ⟨rfl, by decide +kernel⟩
theorem dX9_payOut_50 : jj_D cX9_payOut 50 (.iastore) 1 51 := ⟨rfl, by decide +kernel⟩
theorem dX9_payOut_51 : jj_D cX9_payOut 51 (.iload_n 2) 1 52 := ⟨rfl, by decide +kernel⟩
theorem dX9_payOut_52 : jj_D cX9_payOut 52 (.ireturn) 1 53 := ⟨rfl, by decide +kernel⟩
theorem dX9_pass_0 : jj_D cX9_pass 0 (.iload_n 1) 1 1 := ⟨rfl, by decide +kernel⟩
theorem dX9_pass_1 : jj_D cX9_pass 1 (.iconst 1) 1 2 := ⟨rfl, by decide +kernel⟩
theorem dX9_pass_2 : jj_D cX9_pass 2 (.sipush 999) 3 5 := ⟨rfl, by decide +kernel⟩
theorem dX9_pass_5 : jj_D cX9_pass 5 (.invokestatic 104) 3 8 := ⟨rfl, by decide +kernel⟩
theorem dX9_pass_8 : jj_D cX9_pass 8 (.istore_n 2) 1 9 := ⟨rfl, by decide +kernel⟩
theorem dX9_pass_9 : jj_D cX9_pass 9 (.aload_n 0) 1 10 := ⟨rfl, by decide +kernel⟩
theorem dX9_pass_10 : jj_D cX9_pass 10 (.iload_n 2) 1 11 := ⟨rfl, by decide +kernel⟩
theorem dX9_pass_11 : jj_D cX9_pass 11 (.ifCond .ne 7) 3 14 := ⟨rfl, by decide +kernel⟩
theorem dX9_pass_14 : jj_D cX9_pass 14 (.iconst 1) 1 15 := ⟨rfl, by decide +kernel⟩
theorem dX9_pass_15 : jj_D cX9_pass 15 (.goto 20) 3 18 := ⟨rfl, by decide +kernel⟩
theorem dX9_pass_18 : jj_D cX9_pass 18 (.aload_n 0) 1 19 := ⟨rfl, by decide +kernel⟩
theorem dX9_pass_19 : jj_D cX9_pass 19 (.getfield 108) 3 22 := ⟨rfl, by decide +kernel⟩
theorem dX9_pass_22 : jj_D cX9_pass 22 (.iload_n 1) 1 23 := ⟨rfl, by decide +kernel⟩
theorem dX9_pass_23 : jj_D cX9_pass 23 (.iadd) 1 24 := ⟨rfl, by decide +kernel⟩
theorem dX9_pass_24 : jj_D cX9_pass 24 (.sipush 9999) 3 27 := ⟨rfl, by decide +kernel⟩
theorem dX9_pass_27 : jj_D cX9_pass 27 (.if_icmp .le 7) 3 30 := ⟨rfl, by decide +kernel⟩
theorem dX9_pass_30 : jj_D cX9_pass 30 (.iconst 2) 1 31 := ⟨rfl, by decide +kernel⟩
theorem dX9_pass_31 : jj_D cX9_pass 31 (.goto 4) 3 34 := ⟨rfl, by decide +kernel⟩
theorem dX9_pass_34 : jj_D cX9_pass 34 (.iconst 0) 1 35 := ⟨rfl, by decide +kernel⟩
theorem dX9_pass_35 : jj_D cX9_pass 35 (.invokevirtual 118) 3 38 := ⟨rfl, by decide +kernel⟩
theorem dX9_pass_38 : jj_D cX9_pass 38 (.ifCond .ne 5) 3 41 := ⟨rfl, by decide +kernel⟩
theorem dX9_pass_41 : jj_D cX9_pass 41 (.iconst 0) 1 42 := ⟨rfl, by decide +kernel⟩
theorem dX9_pass_42 : jj_D cX9_pass 42 (.ireturn) 1 43 := ⟨rfl, by decide +kernel⟩
theorem dX9_pass_43 : jj_D cX9_pass 43 (.aload_n 0) 1 44 := ⟨rfl, by decide +kernel⟩
theorem dX9_pass_44 : jj_D cX9_pass 44 (.dup) 1 45 := ⟨rfl, by decide +kernel⟩
theorem dX9_pass_45 : jj_D cX9_pass 45 (.getfield 108) 3 48 := ⟨rfl, by decide +kernel⟩
theorem dX9_pass_48 : jj_D cX9_pass 48 (.iload_n 1) 1 49 := ⟨rfl, by decide +kernel⟩
theorem dX9_pass_49 : jj_D cX9_pass 49 (.iadd) 1 50 := ⟨rfl, by decide +kernel⟩
theorem dX9_pass_50 : jj_D cX9_pass 50 (.putfield 108) 3 53 := ⟨rfl, by decide +kernel⟩
theorem dX9_pass_53 : jj_D cX9_pass 53 (.aload_n 0) 1 54 := ⟨rfl, by decide +kernel⟩
theorem dX9_pass_54 : jj_D cX9_pass 54 (.getfield 108) 3 57 := ⟨rfl, by decide +kernel⟩
theorem dX9_pass_57 : jj_D cX9_pass 57 (.ireturn) 1 58 := ⟨rfl, by decide +kernel⟩
end
section
theorem dL_session_0 : jj_D cL_session 0 (.aload 4) 2 2 := ⟨rfl, by decide +kernel⟩
theorem dL_session_2 : jj_D cL_session 2 (.iconst 0) 1 3 := ⟨rfl, by decide +kernel⟩
theorem dL_session_3 : jj_D cL_session 3 (.aload_n 0) 1 4 := ⟨rfl, by decide +kernel⟩
theorem dL_session_4 : jj_D cL_session 4 (.iload_n 1) 1 5 := ⟨rfl, by decide +kernel⟩
theorem dL_session_5 : jj_D cL_session 5 (.iload_n 2) 1 6 := ⟨rfl, by decide +kernel⟩
theorem dL_session_6 : jj_D cL_session 6 (.iload_n 3) 1 7 := ⟨rfl, by decide +kernel⟩
theorem dL_session_7 : jj_D cL_session 7 (.invokevirtual 7) 3 10 := ⟨rfl, by decide +kernel⟩
theorem dL_session_10 : jj_D cL_session 10 (.i2l) 1 11 := ⟨rfl, by decide +kernel⟩
theorem dL_session_11 : jj_D cL_session 11 (.lastore) 1 12 := ⟨rfl, by decide +kernel⟩
theorem dL_session_12 : jj_D cL_session 12 (.goto 15) 3 15 := ⟨rfl, by decide +kernel⟩
theorem dL_session_15 : jj_D cL_session 15 (.astore 5) 2 17 := ⟨rfl, by decide +kernel⟩
theorem dL_session_17 : jj_D cL_session 17 (.iconst 1) 1 18 := ⟨rfl, by decide +kernel⟩
theorem dL_session_18 : jj_D cL_session 18 (.ireturn) 1 19 := ⟨rfl, by decide +kernel⟩
theorem dL_session_19 : jj_D cL_session 19 (.astore 5) 2 21 := ⟨rfl, by decide +kernel⟩
theorem dL_session_21 : jj_D cL_session 21 (.iconst 2) 1 22 := ⟨rfl, by decide +kernel⟩
theorem dL_session_22 : jj_D cL_session 22 (.ireturn) 1 23 := ⟨rfl, by decide +kernel⟩
theorem dL_session_23 : jj_D cL_session 23 (.astore 5) 2 25 := ⟨rfl, by decide +kernel⟩
theorem dL_session_25 : jj_D cL_session 25 (.iconst 3) 1 26 := ⟨rfl, by decide +kernel⟩
theorem dL_session_26 : jj_D cL_session 26 (.ireturn) 1 27 := ⟨rfl, by decide +kernel⟩
theorem dL_session_27 : jj_D cL_session 27 (.iconst 0) 1 28 := ⟨rfl, by decide +kernel⟩
theorem dL_session_28 : jj_D cL_session 28 (.ireturn) 1 29 := ⟨rfl, by decide +kernel⟩
theorem dL_splice_0 : jj_D cL_splice 0 (.aload 6) 2 2 := ⟨rfl, by decide +kernel⟩
theorem dL_splice_2 : jj_D cL_splice 2 (.iconst 0) 1 3 := ⟨rfl, by decide +kernel⟩
theorem dL_splice_3 : jj_D cL_splice 3 (.aload_n 0) 1 4 := ⟨rfl, by decide +kernel⟩
theorem dL_splice_4 : jj_D cL_splice 4 (.iload_n 1) 1 5 := ⟨rfl, by decide +kernel⟩
theorem dL_splice_5 : jj_D cL_splice 5 (.iload_n 2) 1 6 := ⟨rfl, by decide +kernel⟩
theorem dL_splice_6 : jj_D cL_splice 6 (.iload_n 3) 1 7 := ⟨rfl, by decide +kernel⟩
theorem dL_splice_7 : jj_D cL_splice 7 (.iload 4) 2 9 := ⟨rfl, by decide +kernel⟩
theorem dL_splice_9 : jj_D cL_splice 9 (.iload 5) 2 11 := ⟨rfl, by decide +kernel⟩
theorem dL_splice_11 : jj_D cL_splice 11 (.invokevirtual 19) 3 14 := ⟨rfl, by decide +kernel⟩
theorem dL_splice_14 : jj_D cL_splice 14 (.i2l) 1 15 := ⟨rfl, by decide +kernel⟩
theorem dL_splice_15 : jj_D cL_splice 15 (.lastore) 1 16 := ⟨rfl, by decide +kernel⟩
theorem dL_splice_16 : jj_D cL_splice 16 (.goto 15) 3 19 := ⟨rfl, by decide +kernel⟩
theorem dL_splice_19 : jj_D cL_splice 19 (.astore 7) 2 21 := ⟨rfl, by decide +kernel⟩
theorem dL_splice_21 : jj_D cL_splice 21 (.iconst 1) 1 22 := ⟨rfl, by decide +kernel⟩
theorem dL_splice_22 : jj_D cL_splice 22 (.ireturn) 1 23 := ⟨rfl, by decide +kernel⟩
theorem dL_splice_23 : jj_D cL_splice 23 (.astore 7) 2 25 := ⟨rfl, by decide +kernel⟩
theorem dL_splice_25 : jj_D cL_splice 25 (.iconst 2) 1 26 := ⟨rfl, by decide +kernel⟩
theorem dL_splice_26 : jj_D cL_splice 26 (.ireturn) 1 27 := ⟨rfl, by decide +kernel⟩
theorem dL_splice_27 : jj_D cL_splice 27 (.astore 7) 2 29 := ⟨rfl, by decide +kernel⟩
theorem dL_splice_29 : jj_D cL_splice 29 (.iconst 3) 1 30 := ⟨rfl, by decide +kernel⟩
theorem dL_splice_30 : jj_D cL_splice 30 (.ireturn) 1 31 := ⟨rfl, by decide +kernel⟩
theorem dL_splice_31 : jj_D cL_splice 31 (.iconst 0) 1 32 := ⟨rfl, by decide +kernel⟩
theorem dL_splice_32 : jj_D cL_splice 32 (.ireturn) 1 33 := ⟨rfl, by decide +kernel⟩
theorem dL_shed_0 : jj_D cL_shed 0 (.aload_n 0) 1 1 := ⟨rfl, by decide +kernel⟩
theorem dL_shed_1 : jj_D cL_shed 1 (.iload_n 1) 1 2 := ⟨rfl, by decide +kernel⟩
theorem dL_shed_2 : jj_D cL_shed 2 (.invokevirtual 23) 3 5 := ⟨rfl, by decide +kernel⟩
theorem dL_shed_5 : jj_D cL_shed 5 (.goto 9) 3 8 := ⟨rfl, by decide +kernel⟩
theorem dL_shed_8 : jj_D cL_shed 8 (.astore_n 2) 1 9 := ⟨rfl, by decide +kernel⟩
theorem dL_shed_9 : jj_D cL_shed 9 (.iconst 1) 1 10 := ⟨rfl, by decide +kernel⟩
theorem dL_shed_10 : jj_D cL_shed 10 (.ireturn) 1 11 := ⟨rfl, by decide +kernel⟩
theorem dL_shed_11 : jj_D cL_shed 11 (.astore_n 2) 1 12 := ⟨rfl, by decide +kernel⟩
theorem dL_shed_12 : jj_D cL_shed 12 (.iconst 2) 1 13 := ⟨rfl, by decide +kernel⟩
theorem dL_shed_13 : jj_D cL_shed 13 (.ireturn) 1 14 := ⟨rfl, by decide +kernel⟩
theorem dL_shed_14 : jj_D cL_shed 14 (.iconst 0) 1 15 := ⟨rfl, by decide +kernel⟩
theorem dL_shed_15 : jj_D cL_shed 15 (.ireturn) 1 16 := ⟨rfl, by decide +kernel⟩
theorem dL_bake_0 : jj_D cL_bake 0 (.aload_n 2) 1 1 := ⟨rfl, by decide +kernel⟩
theorem dL_bake_1 : jj_D cL_bake 1 (.iconst 0) 1 2 := ⟨rfl, by decide +kernel⟩
theorem dL_bake_2 : jj_D cL_bake 2 (.aload_n 0) 1 3 := ⟨rfl, by decide +kernel⟩
theorem dL_bake_3 : jj_D cL_bake 3 (.iload_n 1) 1 4 := ⟨rfl, by decide +kernel⟩
theorem dL_bake_4 : jj_D cL_bake 4 (.invokevirtual 27) 3 7 := ⟨rfl, by decide +kernel⟩
theorem dL_bake_7 : jj_D cL_bake 7 (.i2l) 1 8 := ⟨rfl, by decide +kernel⟩
theorem dL_bake_8 : jj_D cL_bake 8 (.lastore) 1 9 := ⟨rfl, by decide +kernel⟩
theorem dL_bake_9 : jj_D cL_bake 9 (.goto 9) 3 12 := ⟨rfl, by decide +kernel⟩
theorem dL_bake_12 : jj_D cL_bake 12 (.astore_n 3) 1 13 := ⟨rfl, by decide +kernel⟩
theorem dL_bake_13 : jj_D cL_bake 13 (.iconst 1) 1 14 := ⟨rfl, by decide +kernel⟩
theorem dL_bake_14 : jj_D cL_bake 14 (.ireturn) 1 15 := ⟨rfl, by decide +kernel⟩
theorem dL_bake_15 : jj_D cL_bake 15 (.astore_n 3) 1 16 := ⟨rfl, by decide +kernel⟩
theorem dL_bake_16 : jj_D cL_bake 16 (.iconst 2) 1 17 := ⟨rfl, by decide +kernel⟩
theorem dL_bake_17 : jj_D cL_bake 17 (.ireturn) 1 18 := ⟨rfl, by decide +kernel⟩
theorem dL_bake_18 : jj_D cL_bake 18 (.iconst 0) 1 19 := ⟨rfl, by decide +kernel⟩
theorem dL_bake_19 : jj_D cL_bake 19 (.ireturn) 1 20 := ⟨rfl, by decide +kernel⟩
theorem dL_fire_0 : jj_D cL_fire 0 (.aload_n 2) 1 1 := ⟨rfl, by decide +kernel⟩
theorem dL_fire_1 : jj_D cL_fire 1 (.iconst 0) 1 2 := ⟨rfl, by decide +kernel⟩
theorem dL_fire_2 : jj_D cL_fire 2 (.aload_n 0) 1 3 := ⟨rfl, by decide +kernel⟩
theorem dL_fire_3 : jj_D cL_fire 3 (.iload_n 1) 1 4 := ⟨rfl, by decide +kernel⟩
theorem dL_fire_4 : jj_D cL_fire 4 (.invokevirtual 31) 3 7 := ⟨rfl, by decide +kernel⟩
theorem dL_fire_7 : jj_D cL_fire 7 (.i2l) 1 8 := ⟨rfl, by decide +kernel⟩
theorem dL_fire_8 : jj_D cL_fire 8 (.lastore) 1 9 := ⟨rfl, by decide +kernel⟩
theorem dL_fire_9 : jj_D cL_fire 9 (.goto 6) 3 12 := ⟨rfl, by decide +kernel⟩
theorem dL_fire_12 : jj_D cL_fire 12 (.astore_n 3) 1 13 := ⟨rfl, by decide +kernel⟩
theorem dL_fire_13 : jj_D cL_fire 13 (.iconst 1) 1 14 := ⟨rfl, by decide +kernel⟩
theorem dL_fire_14 : jj_D cL_fire 14 (.ireturn) 1 15 := ⟨rfl, by decide +kernel⟩
theorem dL_fire_15 : jj_D cL_fire 15 (.iconst 0) 1 16 := ⟨rfl, by decide +kernel⟩
theorem dL_fire_16 : jj_D cL_fire 16 (.ireturn) 1 17 := ⟨rfl, by decide +kernel⟩
theorem dL_tapeIs_0 : jj_D cL_tapeIs 0 (.aload_n 3) 1 1 := ⟨rfl, by decide +kernel⟩
theorem dL_tapeIs_1 : jj_D cL_tapeIs 1 (.iconst 0) 1 2 := ⟨rfl, by decide +kernel⟩
theorem dL_tapeIs_2 : jj_D cL_tapeIs 2 (.aload_n 0) 1 3 := ⟨rfl, by decide +kernel⟩
theorem dL_tapeIs_3 : jj_D cL_tapeIs 3 (.iload_n 1) 1 4 := ⟨rfl, by decide +kernel⟩
theorem dL_tapeIs_4 : jj_D cL_tapeIs 4 (.iload_n 2) 1 5 := ⟨rfl, by decide +kernel⟩
theorem dL_tapeIs_5 : jj_D cL_tapeIs 5 (.invokevirtual 34) 3 8 := ⟨rfl, by decide +kernel⟩
theorem dL_tapeIs_8 : jj_D cL_tapeIs 8 (.i2l) 1 9 := ⟨rfl, by decide +kernel⟩
theorem dL_tapeIs_9 : jj_D cL_tapeIs 9 (.lastore) 1 10 := ⟨rfl, by decide +kernel⟩
theorem dL_tapeIs_10 : jj_D cL_tapeIs 10 (.goto 11) 3 13 := ⟨rfl, by decide +kernel⟩
theorem dL_tapeIs_13 : jj_D cL_tapeIs 13 (.astore 4) 2 15 := ⟨rfl, by decide +kernel⟩
theorem dL_tapeIs_15 : jj_D cL_tapeIs 15 (.iconst 1) 1 16 := ⟨rfl, by decide +kernel⟩
theorem dL_tapeIs_16 : jj_D cL_tapeIs 16 (.ireturn) 1 17 := ⟨rfl, by decide +kernel⟩
theorem dL_tapeIs_17 : jj_D cL_tapeIs 17 (.astore 4) 2 19 := ⟨rfl, by decide +kernel⟩
theorem dL_tapeIs_19 : jj_D cL_tapeIs 19 (.iconst 2) 1 20 := ⟨rfl, by decide +kernel⟩
theorem dL_tapeIs_20 : jj_D cL_tapeIs 20 (.ireturn) 1 21 := ⟨rfl, by decide +kernel⟩
theorem dL_tapeIs_21 : jj_D cL_tapeIs 21 (.iconst 0) 1 22 := ⟨rfl, by decide +kernel⟩
theorem dL_tapeIs_22 : jj_D cL_tapeIs 22 (.ireturn) 1 23 := ⟨rfl, by decide +kernel⟩
theorem dL_heard_0 : jj_D cL_heard 0 (.aload_n 3) 1 1 := ⟨rfl, by decide +kernel⟩
theorem dL_heard_1 : jj_D cL_heard 1 (.iconst 0) 1 2 := ⟨rfl, by decide +kernel⟩
theorem dL_heard_2 : jj_D cL_heard 2 (.aload_n 0) 1 3 := ⟨rfl, by decide +kernel⟩
theorem dL_heard_3 : jj_D cL_heard 3 (.iload_n 1) 1 4 := ⟨rfl, by decide +kernel⟩
theorem dL_heard_4 : jj_D cL_heard 4 (.iload_n 2) 1 5 := ⟨rfl, by decide +kernel⟩
theorem dL_heard_5 : jj_D cL_heard 5 (.invokevirtual 38) 3 8 := ⟨rfl, by decide +kernel⟩
theorem dL_heard_8 : jj_D cL_heard 8 (.i2l) 1 9 := ⟨rfl, by decide +kernel⟩
theorem dL_heard_9 : jj_D cL_heard 9 (.lastore) 1 10 := ⟨rfl, by decide +kernel⟩
theorem dL_heard_10 : jj_D cL_heard 10 (.goto 11) 3 13 := ⟨rfl, by decide +kernel⟩
theorem dL_heard_13 : jj_D cL_heard 13 (.astore 4) 2 15 := ⟨rfl, by decide +kernel⟩
theorem dL_heard_15 : jj_D cL_heard 15 (.iconst 1) 1 16 := ⟨rfl, by decide +kernel⟩
theorem dL_heard_16 : jj_D cL_heard 16 (.ireturn) 1 17 := ⟨rfl, by decide +kernel⟩
theorem dL_heard_17 : jj_D cL_heard 17 (.astore 4) 2 19 := ⟨rfl, by decide +kernel⟩
theorem dL_heard_19 : jj_D cL_heard 19 (.iconst 2) 1 20 := ⟨rfl, by decide +kernel⟩
theorem dL_heard_20 : jj_D cL_heard 20 (.ireturn) 1 21 := ⟨rfl, by decide +kernel⟩
theorem dL_heard_21 : jj_D cL_heard 21 (.iconst 0) 1 22 := ⟨rfl, by decide +kernel⟩
theorem dL_heard_22 : jj_D cL_heard 22 (.ireturn) 1 23 := ⟨rfl, by decide +kernel⟩
theorem dL_takes_0 : jj_D cL_takes 0 (.aload_n 2) 1 1 := ⟨rfl, by decide +kernel⟩
theorem dL_takes_1 : jj_D cL_takes 1 (.iconst 0) 1 2 := ⟨rfl, by decide +kernel⟩
theorem dL_takes_2 : jj_D cL_takes 2 (.aload_n 0) 1 3 := ⟨rfl, by decide +kernel⟩
theorem dL_takes_3 : jj_D cL_takes 3 (.iload_n 1) 1 4 := ⟨rfl, by decide +kernel⟩
theorem dL_takes_4 : jj_D cL_takes 4 (.invokevirtual 41) 3 7 := ⟨rfl, by decide +kernel⟩
theorem dL_takes_7 : jj_D cL_takes 7 (.i2l) 1 8 := ⟨rfl, by decide +kernel⟩
theorem dL_takes_8 : jj_D cL_takes 8 (.lastore) 1 9 := ⟨rfl, by decide +kernel⟩
theorem dL_takes_9 : jj_D cL_takes 9 (.goto 6) 3 12 := ⟨rfl, by decide +kernel⟩
theorem dL_takes_12 : jj_D cL_takes 12 (.astore_n 3) 1 13 := ⟨rfl, by decide +kernel⟩
theorem dL_takes_13 : jj_D cL_takes 13 (.iconst 1) 1 14 := ⟨rfl, by decide +kernel⟩
theorem dL_takes_14 : jj_D cL_takes 14 (.ireturn) 1 15 := ⟨rfl, by decide +kernel⟩
theorem dL_takes_15 : jj_D cL_takes 15 (.iconst 0) 1 16 := ⟨rfl, by decide +kernel⟩
theorem dL_takes_16 : jj_D cL_takes 16 (.ireturn) 1 17 := ⟨rfl, by decide +kernel⟩
theorem dL_takesAnew_0 : jj_D cL_takesAnew 0 (.aload_n 2) 1 1 := ⟨rfl, by decide +kernel⟩
theorem dL_takesAnew_1 : jj_D cL_takesAnew 1 (.iconst 0) 1 2 := ⟨rfl, by decide +kernel⟩
theorem dL_takesAnew_2 : jj_D cL_takesAnew 2 (.aload_n 0) 1 3 := ⟨rfl, by decide +kernel⟩
theorem dL_takesAnew_3 : jj_D cL_takesAnew 3 (.iload_n 1) 1 4 := ⟨rfl, by decide +kernel⟩
theorem dL_takesAnew_4 : jj_D cL_takesAnew 4 (.invokevirtual 44) 3 7 := ⟨rfl, by decide +kernel⟩
theorem dL_takesAnew_7 : jj_D cL_takesAnew 7 (.i2l) 1 8 := ⟨rfl, by decide +kernel⟩
theorem dL_takesAnew_8 : jj_D cL_takesAnew 8 (.lastore) 1 9 := ⟨rfl, by decide +kernel⟩
theorem dL_takesAnew_9 : jj_D cL_takesAnew 9 (.goto 6) 3 12 := ⟨rfl, by decide +kernel⟩
theorem dL_takesAnew_12 : jj_D cL_takesAnew 12 (.astore_n 3) 1 13 := ⟨rfl, by decide +kernel⟩
theorem dL_takesAnew_13 : jj_D cL_takesAnew 13 (.iconst 1) 1 14 := ⟨rfl, by decide +kernel⟩
theorem dL_takesAnew_14 : jj_D cL_takesAnew 14 (.ireturn) 1 15 := ⟨rfl, by decide +kernel⟩
theorem dL_takesAnew_15 : jj_D cL_takesAnew 15 (.iconst 0) 1 16 := ⟨rfl, by decide +kernel⟩
theorem dL_takesAnew_16 : jj_D cL_takesAnew 16 (.ireturn) 1 17 := ⟨rfl, by decide +kernel⟩
theorem dL_isLost_0 : jj_D cL_isLost 0 (.aload_n 2) 1 1 := ⟨rfl, by decide +kernel⟩
theorem dL_isLost_1 : jj_D cL_isLost 1 (.iconst 0) 1 2 := ⟨rfl, by decide +kernel⟩
theorem dL_isLost_2 : jj_D cL_isLost 2 (.aload_n 0) 1 3 := ⟨rfl, by decide +kernel⟩
theorem dL_isLost_3 : jj_D cL_isLost 3 (.iload_n 1) 1 4 := ⟨rfl, by decide +kernel⟩
theorem dL_isLost_4 : jj_D cL_isLost 4 (.invokevirtual 47) 3 7 := ⟨rfl, by decide +kernel⟩
theorem dL_isLost_7 : jj_D cL_isLost 7 (.ifCond .eq 7) 3 10 := ⟨rfl, by decide +kernel⟩
theorem dL_isLost_10 : jj_D cL_isLost 10 (.lconst 1) 1 11 := ⟨rfl, by decide +kernel⟩
theorem dL_isLost_11 : jj_D cL_isLost 11 (.goto 4) 3 14 := ⟨rfl, by decide +kernel⟩
theorem dL_isLost_14 : jj_D cL_isLost 14 (.lconst 0) 1 15 := ⟨rfl, by decide +kernel⟩
theorem dL_isLost_15 : jj_D cL_isLost 15 (.lastore) 1 16 := ⟨rfl, by decide +kernel⟩
theorem dL_isLost_16 : jj_D cL_isLost 16 (.goto 6) 3 19 := ⟨rfl, by decide +kernel⟩
theorem dL_isLost_19 : jj_D cL_isLost 19 (.astore_n 3) 1 20 := ⟨rfl, by decide +kernel⟩
theorem dL_isLost_20 : jj_D cL_isLost 20 (.iconst 1) 1 21 := ⟨rfl, by decide +kernel⟩
theorem dL_isLost_21 : jj_D cL_isLost 21 (.ireturn) 1 22 := ⟨rfl, by decide +kernel⟩
theorem dL_isLost_22 : jj_D cL_isLost 22 (.iconst 0) 1 23 := ⟨rfl, by decide +kernel⟩
theorem dL_isLost_23 : jj_D cL_isLost 23 (.ireturn) 1 24 := ⟨rfl, by decide +kernel⟩
theorem dL_add_0 : jj_D cL_add 0 (.aload_n 2) 1 1 := ⟨rfl, by decide +kernel⟩
theorem dL_add_1 : jj_D cL_add 1 (.iconst 0) 1 2 := ⟨rfl, by decide +kernel⟩
theorem dL_add_2 : jj_D cL_add 2 (.aload_n 0) 1 3 := ⟨rfl, by decide +kernel⟩
theorem dL_add_3 : jj_D cL_add 3 (.iload_n 1) 1 4 := ⟨rfl, by decide +kernel⟩
theorem dL_add_4 : jj_D cL_add 4 (.invokevirtual 51) 3 7 := ⟨rfl, by decide +kernel⟩
theorem dL_add_7 : jj_D cL_add 7 (.i2l) 1 8 := ⟨rfl, by decide +kernel⟩
theorem dL_add_8 : jj_D cL_add 8 (.lastore) 1 9 := ⟨rfl, by decide +kernel⟩
theorem dL_add_9 : jj_D cL_add 9 (.goto 9) 3 12 := ⟨rfl, by decide +kernel⟩
theorem dL_add_12 : jj_D cL_add 12 (.astore_n 3) 1 13 := ⟨rfl, by decide +kernel⟩
theorem dL_add_13 : jj_D cL_add 13 (.iconst 1) 1 14 := ⟨rfl, by decide +kernel⟩
theorem dL_add_14 : jj_D cL_add 14 (.ireturn) 1 15 := ⟨rfl, by decide +kernel⟩
theorem dL_add_15 : jj_D cL_add 15 (.astore_n 3) 1 16 := ⟨rfl, by decide +kernel⟩
theorem dL_add_16 : jj_D cL_add 16 (.iconst 2) 1 17 := ⟨rfl, by decide +kernel⟩
theorem dL_add_17 : jj_D cL_add 17 (.ireturn) 1 18 := ⟨rfl, by decide +kernel⟩
theorem dL_add_18 : jj_D cL_add 18 (.iconst 0) 1 19 := ⟨rfl, by decide +kernel⟩
theorem dL_add_19 : jj_D cL_add 19 (.ireturn) 1 20 := ⟨rfl, by decide +kernel⟩
theorem dL_cut_0 : jj_D cL_cut 0 (.aload_n 2) 1 1 := ⟨rfl, by decide +kernel⟩
theorem dL_cut_1 : jj_D cL_cut 1 (.iconst 0) 1 2 := ⟨rfl, by decide +kernel⟩
theorem dL_cut_2 : jj_D cL_cut 2 (.aload_n 0) 1 3 := ⟨rfl, by decide +kernel⟩
theorem dL_cut_3 : jj_D cL_cut 3 (.iload_n 1) 1 4 := ⟨rfl, by decide +kernel⟩
theorem dL_cut_4 : jj_D cL_cut 4 (.invokevirtual 54) 3 7 := ⟨rfl, by decide +kernel⟩
theorem dL_cut_7 : jj_D cL_cut 7 (.i2l) 1 8 := ⟨rfl, by decide +kernel⟩
theorem dL_cut_8 : jj_D cL_cut 8 (.lastore) 1 9 := ⟨rfl, by decide +kernel⟩
theorem dL_cut_9 : jj_D cL_cut 9 (.goto 9) 3 12 := ⟨rfl, by decide +kernel⟩
theorem dL_cut_12 : jj_D cL_cut 12 (.astore_n 3) 1 13 := ⟨rfl, by decide +kernel⟩
theorem dL_cut_13 : jj_D cL_cut 13 (.iconst 1) 1 14 := ⟨rfl, by decide +kernel⟩
theorem dL_cut_14 : jj_D cL_cut 14 (.ireturn) 1 15 := ⟨rfl, by decide +kernel⟩
theorem dL_cut_15 : jj_D cL_cut 15 (.astore_n 3) 1 16 := ⟨rfl, by decide +kernel⟩
theorem dL_cut_16 : jj_D cL_cut 16 (.iconst 2) 1 17 := ⟨rfl, by decide +kernel⟩
theorem dL_cut_17 : jj_D cL_cut 17 (.ireturn) 1 18 := ⟨rfl, by decide +kernel⟩
theorem dL_cut_18 : jj_D cL_cut 18 (.iconst 0) 1 19 := ⟨rfl, by decide +kernel⟩
theorem dL_cut_19 : jj_D cL_cut 19 (.ireturn) 1 20 := ⟨rfl, by decide +kernel⟩
theorem dL_seconds_0 : jj_D cL_seconds 0 (.aload_n 3) 1 1 := ⟨rfl, by decide +kernel⟩
theorem dL_seconds_1 : jj_D cL_seconds 1 (.iconst 0) 1 2 := ⟨rfl, by decide +kernel⟩
theorem dL_seconds_2 : jj_D cL_seconds 2 (.aload_n 0) 1 3 := ⟨rfl, by decide +kernel⟩
theorem dL_seconds_3 : jj_D cL_seconds 3 (.iload_n 1) 1 4 := ⟨rfl, by decide +kernel⟩
theorem dL_seconds_4 : jj_D cL_seconds 4 (.iload_n 2) 1 5 := ⟨rfl, by decide +kernel⟩
theorem dL_seconds_5 : jj_D cL_seconds 5 (.invokevirtual 57) 3 8 := ⟨rfl, by decide +kernel⟩
theorem dL_seconds_8 : jj_D cL_seconds 8 (.i2l) 1 9 := ⟨rfl, by decide +kernel⟩
theorem dL_seconds_9 : jj_D cL_seconds 9 (.lastore) 1 10 := ⟨rfl, by decide +kernel⟩
theorem dL_seconds_10 : jj_D cL_seconds 10 (.goto 7) 3 13 := ⟨rfl, by decide +kernel⟩
theorem dL_seconds_13 : jj_D cL_seconds 13 (.astore 4) 2 15 := ⟨rfl, by decide +kernel⟩
theorem dL_seconds_15 : jj_D cL_seconds 15 (.iconst 1) 1 16 := ⟨rfl, by decide +kernel⟩
theorem dL_seconds_16 : jj_D cL_seconds 16 (.ireturn) 1 17 := ⟨rfl, by decide +kernel⟩
theorem dL_seconds_17 : jj_D cL_seconds 17 (.iconst 0) 1 18 := ⟨rfl, by decide +kernel⟩
theorem dL_seconds_18 : jj_D cL_seconds 18 (.ireturn) 1 19 := ⟨rfl, by decide +kernel⟩
theorem dL_stamper_0 : jj_D cL_stamper 0 (.aload 4) 2 2 := ⟨rfl, by decide +kernel⟩
theorem dL_stamper_2 : jj_D cL_stamper 2 (.iconst 0) 1 3 := ⟨rfl, by decide +kernel⟩
theorem dL_stamper_3 : jj_D cL_stamper 3 (.aload_n 0) 1 4 := ⟨rfl, by decide +kernel⟩
theorem dL_stamper_4 : jj_D cL_stamper 4 (.iload_n 1) 1 5 := ⟨rfl, by decide +kernel⟩
theorem dL_stamper_5 : jj_D cL_stamper 5 (.iload_n 2) 1 6 := ⟨rfl, by decide +kernel⟩
theorem dL_stamper_6 : jj_D cL_stamper 6 (.iload_n 3) 1 7 := ⟨rfl, by decide +kernel⟩
theorem dL_stamper_7 : jj_D cL_stamper 7 (.invokevirtual 60) 3 10 := ⟨rfl, by decide +kernel⟩
theorem dL_stamper_10 : jj_D cL_stamper 10 (.i2l) 1 11 := ⟨rfl, by decide +kernel⟩
theorem dL_stamper_11 : jj_D cL_stamper 11 (.lastore) 1 12 := ⟨rfl, by decide +kernel⟩
theorem dL_stamper_12 : jj_D cL_stamper 12 (.goto 11) 3 15 := ⟨rfl, by decide +kernel⟩
theorem dL_stamper_15 : jj_D cL_stamper 15 (.astore 5) 2 17 := ⟨rfl, by decide +kernel⟩
theorem dL_stamper_17 : jj_D cL_stamper 17 (.iconst 1) 1 18 := ⟨rfl, by decide +kernel⟩
theorem dL_stamper_18 : jj_D cL_stamper 18 (.ireturn) 1 19 := ⟨rfl, by decide +kernel⟩
theorem dL_stamper_19 : jj_D cL_stamper 19 (.astore 5) 2 21 := ⟨rfl, by decide +kernel⟩
theorem dL_stamper_21 : jj_D cL_stamper 21 (.iconst 2) 1 22 := ⟨rfl, by decide +kernel⟩
theorem dL_stamper_22 : jj_D cL_stamper 22 (.ireturn) 1 23 := ⟨rfl, by decide +kernel⟩
theorem dL_stamper_23 : jj_D cL_stamper 23 (.iconst 0) 1 24 := ⟨rfl, by decide +kernel⟩
theorem dL_stamper_24 : jj_D cL_stamper 24 (.ireturn) 1 25 := ⟨rfl, by decide +kernel⟩
theorem dL_press_0 : jj_D cL_press 0 (.aload 5) 2 2 := ⟨rfl, by decide +kernel⟩
theorem dL_press_2 : jj_D cL_press 2 (.iconst 0) 1 3 := ⟨rfl, by decide +kernel⟩
theorem dL_press_3 : jj_D cL_press 3 (.aload_n 0) 1 4 := ⟨rfl, by decide +kernel⟩
theorem dL_press_4 : jj_D cL_press 4 (.iload_n 1) 1 5 := ⟨rfl, by decide +kernel⟩
theorem dL_press_5 : jj_D cL_press 5 (.iload_n 2) 1 6 := ⟨rfl, by decide +kernel⟩
theorem dL_press_6 : jj_D cL_press 6 (.iload_n 3) 1 7 := ⟨rfl, by decide +kernel⟩
theorem dL_press_7 : jj_D cL_press 7 (.iload 4) 2 9 := ⟨rfl, by decide +kernel⟩
theorem dL_press_9 : jj_D cL_press 9 (.invokevirtual 63) 3 12 := ⟨rfl, by decide +kernel⟩
theorem dL_press_12 : jj_D cL_press 12 (.i2l) 1 13 := ⟨rfl, by decide +kernel⟩
theorem dL_press_13 : jj_D cL_press 13 (.lastore) 1 14 := ⟨rfl, by decide +kernel⟩
theorem dL_press_14 : jj_D cL_press 14 (.goto 15) 3 17 := ⟨rfl, by decide +kernel⟩
theorem dL_press_17 : jj_D cL_press 17 (.astore 6) 2 19 := ⟨rfl, by decide +kernel⟩
theorem dL_press_19 : jj_D cL_press 19 (.iconst 1) 1 20 := ⟨rfl, by decide +kernel⟩
theorem dL_press_20 : jj_D cL_press 20 (.ireturn) 1 21 := ⟨rfl, by decide +kernel⟩
theorem dL_press_21 : jj_D cL_press 21 (.astore 6) 2 23 := ⟨rfl, by decide +kernel⟩
theorem dL_press_23 : jj_D cL_press 23 (.iconst 2) 1 24 := ⟨rfl, by decide +kernel⟩
theorem dL_press_24 : jj_D cL_press 24 (.ireturn) 1 25 := ⟨rfl, by decide +kernel⟩
theorem dL_press_25 : jj_D cL_press 25 (.astore 6) 2 27 := ⟨rfl, by decide +kernel⟩
theorem dL_press_27 : jj_D cL_press 27 (.iconst 3) 1 28 := ⟨rfl, by decide +kernel⟩
theorem dL_press_28 : jj_D cL_press 28 (.ireturn) 1 29 := ⟨rfl, by decide +kernel⟩
theorem dL_press_29 : jj_D cL_press 29 (.iconst 0) 1 30 := ⟨rfl, by decide +kernel⟩
theorem dL_press_30 : jj_D cL_press 30 (.ireturn) 1 31 := ⟨rfl, by decide +kernel⟩
theorem dL_stamperIs_0 : jj_D cL_stamperIs 0 (.aload 5) 2 2 := ⟨rfl, by decide +kernel⟩
theorem dL_stamperIs_2 : jj_D cL_stamperIs 2 (.iconst 0) 1 3 := ⟨rfl, by decide +kernel⟩
theorem dL_stamperIs_3 : jj_D cL_stamperIs 3 (.aload_n 0) 1 4 := ⟨rfl, by decide +kernel⟩
theorem dL_stamperIs_4 : jj_D cL_stamperIs 4 (.iload_n 1) 1 5 := ⟨rfl, by decide +kernel⟩
theorem dL_stamperIs_5 : jj_D cL_stamperIs 5 (.iload_n 2) 1 6 := ⟨rfl, by decide +kernel⟩
theorem dL_stamperIs_6 : jj_D cL_stamperIs 6 (.iload_n 3) 1 7 := ⟨rfl, by decide +kernel⟩
theorem dL_stamperIs_7 : jj_D cL_stamperIs 7 (.iload 4) 2 9 := ⟨rfl, by decide +kernel⟩
theorem dL_stamperIs_9 : jj_D cL_stamperIs 9 (.invokevirtual 67) 3 12 := ⟨rfl, by decide +kernel⟩
theorem dL_stamperIs_12 : jj_D cL_stamperIs 12 (.i2l) 1 13 := ⟨rfl, by decide +kernel⟩
theorem dL_stamperIs_13 : jj_D cL_stamperIs 13 (.lastore) 1 14 := ⟨rfl, by decide +kernel⟩
theorem dL_stamperIs_14 : jj_D cL_stamperIs 14 (.goto 11) 3 17 := ⟨rfl, by decide +kernel⟩
theorem dL_stamperIs_17 : jj_D cL_stamperIs 17 (.astore 6) 2 19 := ⟨rfl, by decide +kernel⟩
theorem dL_stamperIs_19 : jj_D cL_stamperIs 19 (.iconst 1) 1 20 := ⟨rfl, by decide +kernel⟩
theorem dL_stamperIs_20 : jj_D cL_stamperIs 20 (.ireturn) 1 21 := ⟨rfl, by decide +kernel⟩
theorem dL_stamperIs_21 : jj_D cL_stamperIs 21 (.astore 6) 2 23 := ⟨rfl, by decide +kernel⟩
theorem dL_stamperIs_23 : jj_D cL_stamperIs 23 (.iconst 2) 1 24 := ⟨rfl, by decide +kernel⟩
theorem dL_stamperIs_24 : jj_D cL_stamperIs 24 (.ireturn) 1 25 := ⟨rfl, by decide +kernel⟩
theorem dL_stamperIs_25 : jj_D cL_stamperIs 25 (.iconst 0) 1 26 := ⟨rfl, by decide +kernel⟩
theorem dL_stamperIs_26 : jj_D cL_stamperIs 26 (.ireturn) 1 27 := ⟨rfl, by decide +kernel⟩
theorem dL_sell_0 : jj_D cL_sell 0 (.aload 5) 2 2 := ⟨rfl, by decide +kernel⟩
theorem dL_sell_2 : jj_D cL_sell 2 (.iconst 0) 1 3 := ⟨rfl, by decide +kernel⟩
theorem dL_sell_3 : jj_D cL_sell 3 (.aload_n 0) 1 4 := ⟨rfl, by decide +kernel⟩
theorem dL_sell_4 : jj_D cL_sell 4 (.iload_n 1) 1 5 := ⟨rfl, by decide +kernel⟩
theorem dL_sell_5 : jj_D cL_sell 5 (.iload_n 2) 1 6 := ⟨rfl, by decide +kernel⟩
theorem dL_sell_6 : jj_D cL_sell 6 (.iload_n 3) 1 7 := ⟨rfl, by decide +kernel⟩
theorem dL_sell_7 : jj_D cL_sell 7 (.iload 4) 2 9 := ⟨rfl, by decide +kernel⟩
theorem dL_sell_9 : jj_D cL_sell 9 (.invokevirtual 70) 3 12 := ⟨rfl, by decide +kernel⟩
theorem dL_sell_12 : jj_D cL_sell 12 (.i2l) 1 13 := ⟨rfl, by decide +kernel⟩
theorem dL_sell_13 : jj_D cL_sell 13 (.lastore) 1 14 := ⟨rfl, by decide +kernel⟩
theorem dL_sell_14 : jj_D cL_sell 14 (.goto 15) 3 17 := ⟨rfl, by decide +kernel⟩
theorem dL_sell_17 : jj_D cL_sell 17 (.astore 6) 2 19 := ⟨rfl, by decide +kernel⟩
theorem dL_sell_19 : jj_D cL_sell 19 (.iconst 1) 1 20 := ⟨rfl, by decide +kernel⟩
theorem dL_sell_20 : jj_D cL_sell 20 (.ireturn) 1 21 := ⟨rfl, by decide +kernel⟩
theorem dL_sell_21 : jj_D cL_sell 21 (.astore 6) 2 23 := ⟨rfl, by decide +kernel⟩
theorem dL_sell_23 : jj_D cL_sell 23 (.iconst 2) 1 24 := ⟨rfl, by decide +kernel⟩
theorem dL_sell_24 : jj_D cL_sell 24 (.ireturn) 1 25 := ⟨rfl, by decide +kernel⟩
theorem dL_sell_25 : jj_D cL_sell 25 (.astore 6) 2 27 := ⟨rfl, by decide +kernel⟩
theorem dL_sell_27 : jj_D cL_sell 27 (.iconst 3) 1 28 := ⟨rfl, by decide +kernel⟩
theorem dL_sell_28 : jj_D cL_sell 28 (.ireturn) 1 29 := ⟨rfl, by decide +kernel⟩
theorem dL_sell_29 : jj_D cL_sell 29 (.iconst 0) 1 30 := ⟨rfl, by decide +kernel⟩
theorem dL_sell_30 : jj_D cL_sell 30 (.ireturn) 1 31 := ⟨rfl, by decide +kernel⟩
theorem dL_back_0 : jj_D cL_back 0 (.aload 5) 2 2 := ⟨rfl, by decide +kernel⟩
theorem dL_back_2 : jj_D cL_back 2 (.iconst 0) 1 3 := ⟨rfl, by decide +kernel⟩
theorem dL_back_3 : jj_D cL_back 3 (.aload_n 0) 1 4 := ⟨rfl, by decide +kernel⟩
theorem dL_back_4 : jj_D cL_back 4 (.iload_n 1) 1 5 := ⟨rfl, by decide +kernel⟩
theorem dL_back_5 : jj_D cL_back 5 (.iload_n 2) 1 6 := ⟨rfl, by decide +kernel⟩
theorem dL_back_6 : jj_D cL_back 6 (.iload_n 3) 1 7 := ⟨rfl, by decide +kernel⟩
theorem dL_back_7 : jj_D cL_back 7 (.iload 4) 2 9 := ⟨rfl, by decide +kernel⟩
theorem dL_back_9 : jj_D cL_back 9 (.invokevirtual 73) 3 12 := ⟨rfl, by decide +kernel⟩
theorem dL_back_12 : jj_D cL_back 12 (.i2l) 1 13 := ⟨rfl, by decide +kernel⟩
theorem dL_back_13 : jj_D cL_back 13 (.lastore) 1 14 := ⟨rfl, by decide +kernel⟩
theorem dL_back_14 : jj_D cL_back 14 (.goto 15) 3 17 := ⟨rfl, by decide +kernel⟩
theorem dL_back_17 : jj_D cL_back 17 (.astore 6) 2 19 := ⟨rfl, by decide +kernel⟩
theorem dL_back_19 : jj_D cL_back 19 (.iconst 1) 1 20 := ⟨rfl, by decide +kernel⟩
theorem dL_back_20 : jj_D cL_back 20 (.ireturn) 1 21 := ⟨rfl, by decide +kernel⟩
theorem dL_back_21 : jj_D cL_back 21 (.astore 6) 2 23 := ⟨rfl, by decide +kernel⟩
theorem dL_back_23 : jj_D cL_back 23 (.iconst 2) 1 24 := ⟨rfl, by decide +kernel⟩
theorem dL_back_24 : jj_D cL_back 24 (.ireturn) 1 25 := ⟨rfl, by decide +kernel⟩
theorem dL_back_25 : jj_D cL_back 25 (.astore 6) 2 27 := ⟨rfl, by decide +kernel⟩
theorem dL_back_27 : jj_D cL_back 27 (.iconst 3) 1 28 := ⟨rfl, by decide +kernel⟩
theorem dL_back_28 : jj_D cL_back 28 (.ireturn) 1 29 := ⟨rfl, by decide +kernel⟩
theorem dL_back_29 : jj_D cL_back 29 (.iconst 0) 1 30 := ⟨rfl, by decide +kernel⟩
theorem dL_back_30 : jj_D cL_back 30 (.ireturn) 1 31 := ⟨rfl, by decide +kernel⟩
theorem dL_disc_0 : jj_D cL_disc 0 (.aload 4) 2 2 := ⟨rfl, by decide +kernel⟩
theorem dL_disc_2 : jj_D cL_disc 2 (.iconst 0) 1 3 := ⟨rfl, by decide +kernel⟩
theorem dL_disc_3 : jj_D cL_disc 3 (.aload_n 0) 1 4 := ⟨rfl, by decide +kernel⟩
theorem dL_disc_4 : jj_D cL_disc 4 (.iload_n 1) 1 5 := ⟨rfl, by decide +kernel⟩
theorem dL_disc_5 : jj_D cL_disc 5 (.iload_n 2) 1 6 := ⟨rfl, by decide +kernel⟩
theorem dL_disc_6 : jj_D cL_disc 6 (.iload_n 3) 1 7 := ⟨rfl, by decide +kernel⟩
theorem dL_disc_7 : jj_D cL_disc 7 (.invokevirtual 76) 3 10 := ⟨rfl, by decide +kernel⟩
theorem dL_disc_10 : jj_D cL_disc 10 (.i2l) 1 11 := ⟨rfl, by decide +kernel⟩
theorem dL_disc_11 : jj_D cL_disc 11 (.lastore) 1 12 := ⟨rfl, by decide +kernel⟩
theorem dL_disc_12 : jj_D cL_disc 12 (.goto 11) 3 15 := ⟨rfl, by decide +kernel⟩
theorem dL_disc_15 : jj_D cL_disc 15 (.astore 5) 2 17 := ⟨rfl, by decide +kernel⟩
theorem dL_disc_17 : jj_D cL_disc 17 (.iconst 1) 1 18 := ⟨rfl, by decide +kernel⟩
theorem dL_disc_18 : jj_D cL_disc 18 (.ireturn) 1 19 := ⟨rfl, by decide +kernel⟩
theorem dL_disc_19 : jj_D cL_disc 19 (.astore 5) 2 21 := ⟨rfl, by decide +kernel⟩
theorem dL_disc_21 : jj_D cL_disc 21 (.iconst 2) 1 22 := ⟨rfl, by decide +kernel⟩
theorem dL_disc_22 : jj_D cL_disc 22 (.ireturn) 1 23 := ⟨rfl, by decide +kernel⟩
theorem dL_disc_23 : jj_D cL_disc 23 (.iconst 0) 1 24 := ⟨rfl, by decide +kernel⟩
theorem dL_disc_24 : jj_D cL_disc 24 (.ireturn) 1 25 := ⟨rfl, by decide +kernel⟩
theorem dL_play_0 : jj_D cL_play 0 (.aload 4) 2 2 := ⟨rfl, by decide +kernel⟩
theorem dL_play_2 : jj_D cL_play 2 (.iconst 0) 1 3 := ⟨rfl, by decide +kernel⟩
theorem dL_play_3 : jj_D cL_play 3 (.aload_n 0) 1 4 := ⟨rfl, by decide +kernel⟩
theorem dL_play_4 : jj_D cL_play 4 (.iload_n 1) 1 5 := ⟨rfl, by decide +kernel⟩
theorem dL_play_5 : jj_D cL_play 5 (.iload_n 2) 1 6 := ⟨rfl, by decide +kernel⟩
theorem dL_play_6 : jj_D cL_play 6 (.iload_n 3) 1 7 := ⟨rfl, by decide +kernel⟩
theorem dL_play_7 : jj_D cL_play 7 (.invokevirtual 79) 3 10 := ⟨rfl, by decide +kernel⟩
theorem dL_play_10 : jj_D cL_play 10 (.i2l) 1 11 := ⟨rfl, by decide +kernel⟩
theorem dL_play_11 : jj_D cL_play 11 (.lastore) 1 12 := ⟨rfl, by decide +kernel⟩
theorem dL_play_12 : jj_D cL_play 12 (.goto 11) 3 15 := ⟨rfl, by decide +kernel⟩
theorem dL_play_15 : jj_D cL_play 15 (.astore 5) 2 17 := ⟨rfl, by decide +kernel⟩
theorem dL_play_17 : jj_D cL_play 17 (.iconst 1) 1 18 := ⟨rfl, by decide +kernel⟩
theorem dL_play_18 : jj_D cL_play 18 (.ireturn) 1 19 := ⟨rfl, by decide +kernel⟩
theorem dL_play_19 : jj_D cL_play 19 (.astore 5) 2 21 := ⟨rfl, by decide +kernel⟩
theorem dL_play_21 : jj_D cL_play 21 (.iconst 2) 1 22 := ⟨rfl, by decide +kernel⟩
theorem dL_play_22 : jj_D cL_play 22 (.ireturn) 1 23 := ⟨rfl, by decide +kernel⟩
theorem dL_play_23 : jj_D cL_play 23 (.iconst 0) 1 24 := ⟨rfl, by decide +kernel⟩
theorem dL_play_24 : jj_D cL_play 24 (.ireturn) 1 25 := ⟨rfl, by decide +kernel⟩
theorem dL_scratch_0 : jj_D cL_scratch 0 (.aload_n 3) 1 1 := ⟨rfl, by decide +kernel⟩
theorem dL_scratch_1 : jj_D cL_scratch 1 (.iconst 0) 1 2 := ⟨rfl, by decide +kernel⟩
theorem dL_scratch_2 : jj_D cL_scratch 2 (.aload_n 0) 1 3 := ⟨rfl, by decide +kernel⟩
theorem dL_scratch_3 : jj_D cL_scratch 3 (.iload_n 1) 1 4 := ⟨rfl, by decide +kernel⟩
theorem dL_scratch_4 : jj_D cL_scratch 4 (.iload_n 2) 1 5 := ⟨rfl, by decide +kernel⟩
theorem dL_scratch_5 : jj_D cL_scratch 5 (.invokevirtual 82) 3 8 := ⟨rfl, by decide +kernel⟩
theorem dL_scratch_8 : jj_D cL_scratch 8 (.i2l) 1 9 := ⟨rfl, by decide +kernel⟩
theorem dL_scratch_9 : jj_D cL_scratch 9 (.lastore) 1 10 := ⟨rfl, by decide +kernel⟩
theorem dL_scratch_10 : jj_D cL_scratch 10 (.goto 7) 3 13 := ⟨rfl, by decide +kernel⟩
theorem dL_scratch_13 : jj_D cL_scratch 13 (.astore 4) 2 15 := ⟨rfl, by decide +kernel⟩
theorem dL_scratch_15 : jj_D cL_scratch 15 (.iconst 1) 1 16 := ⟨rfl, by decide +kernel⟩
theorem dL_scratch_16 : jj_D cL_scratch 16 (.ireturn) 1 17 := ⟨rfl, by decide +kernel⟩
theorem dL_scratch_17 : jj_D cL_scratch 17 (.iconst 0) 1 18 := ⟨rfl, by decide +kernel⟩
theorem dL_scratch_18 : jj_D cL_scratch 18 (.ireturn) 1 19 := ⟨rfl, by decide +kernel⟩
theorem dL_noise_0 : jj_D cL_noise 0 (.aload_n 3) 1 1 := ⟨rfl, by decide +kernel⟩
theorem dL_noise_1 : jj_D cL_noise 1 (.iconst 0) 1 2 := ⟨rfl, by decide +kernel⟩
theorem dL_noise_2 : jj_D cL_noise 2 (.aload_n 0) 1 3 := ⟨rfl, by decide +kernel⟩
theorem dL_noise_3 : jj_D cL_noise 3 (.iload_n 1) 1 4 := ⟨rfl, by decide +kernel⟩
theorem dL_noise_4 : jj_D cL_noise 4 (.iload_n 2) 1 5 := ⟨rfl, by decide +kernel⟩
theorem dL_noise_5 : jj_D cL_noise 5 (.invokevirtual 85) 3 8 := ⟨rfl, by decide +kernel⟩
theorem dL_noise_8 : jj_D cL_noise 8 (.i2l) 1 9 := ⟨rfl, by decide +kernel⟩
theorem dL_noise_9 : jj_D cL_noise 9 (.lastore) 1 10 := ⟨rfl, by decide +kernel⟩
theorem dL_noise_10 : jj_D cL_noise 10 (.goto 7) 3 13 := ⟨rfl, by decide +kernel⟩
theorem dL_noise_13 : jj_D cL_noise 13 (.astore 4) 2 15 := ⟨rfl, by decide +kernel⟩
theorem dL_noise_15 : jj_D cL_noise 15 (.iconst 1) 1 16 := ⟨rfl, by decide +kernel⟩
theorem dL_noise_16 : jj_D cL_noise 16 (.ireturn) 1 17 := ⟨rfl, by decide +kernel⟩
theorem dL_noise_17 : jj_D cL_noise 17 (.iconst 0) 1 18 := ⟨rfl, by decide +kernel⟩
theorem dL_noise_18 : jj_D cL_noise 18 (.ireturn) 1 19 := ⟨rfl, by decide +kernel⟩
theorem dL_grade_0 : jj_D cL_grade 0 (.aload_n 2) 1 1 := ⟨rfl, by decide +kernel⟩
theorem dL_grade_1 : jj_D cL_grade 1 (.iconst 0) 1 2 := ⟨rfl, by decide +kernel⟩
theorem dL_grade_2 : jj_D cL_grade 2 (.aload_n 0) 1 3 := ⟨rfl, by decide +kernel⟩
theorem dL_grade_3 : jj_D cL_grade 3 (.iload_n 1) 1 4 := ⟨rfl, by decide +kernel⟩
theorem dL_grade_4 : jj_D cL_grade 4 (.invokevirtual 88) 3 7 := ⟨rfl, by decide +kernel⟩
theorem dL_grade_7 : jj_D cL_grade 7 (.i2l) 1 8 := ⟨rfl, by decide +kernel⟩
theorem dL_grade_8 : jj_D cL_grade 8 (.lastore) 1 9 := ⟨rfl, by decide +kernel⟩
theorem dL_grade_9 : jj_D cL_grade 9 (.goto 6) 3 12 := ⟨rfl, by decide +kernel⟩
theorem dL_grade_12 : jj_D cL_grade 12 (.astore_n 3) 1 13 := ⟨rfl, by decide +kernel⟩
theorem dL_grade_13 : jj_D cL_grade 13 (.iconst 1) 1 14 := ⟨rfl, by decide +kernel⟩
theorem dL_grade_14 : jj_D cL_grade 14 (.ireturn) 1 15 := ⟨rfl, by decide +kernel⟩
theorem dL_grade_15 : jj_D cL_grade 15 (.iconst 0) 1 16 := ⟨rfl, by decide +kernel⟩
theorem dL_grade_16 : jj_D cL_grade 16 (.ireturn) 1 17 := ⟨rfl, by decide +kernel⟩
theorem dL_join_0 : jj_D cL_join 0 (.aload_n 3) 1 1 := ⟨rfl, by decide +kernel⟩
theorem dL_join_1 : jj_D cL_join 1 (.iconst 0) 1 2 := ⟨rfl, by decide +kernel⟩
theorem dL_join_2 : jj_D cL_join 2 (.aload_n 0) 1 3 := ⟨rfl, by decide +kernel⟩
theorem dL_join_3 : jj_D cL_join 3 (.iload_n 1) 1 4 := ⟨rfl, by decide +kernel⟩
theorem dL_join_4 : jj_D cL_join 4 (.iload_n 2) 1 5 := ⟨rfl, by decide +kernel⟩
theorem dL_join_5 : jj_D cL_join 5 (.invokevirtual 91) 3 8 := ⟨rfl, by decide +kernel⟩
theorem dL_join_8 : jj_D cL_join 8 (.i2l) 1 9 := ⟨rfl, by decide +kernel⟩
theorem dL_join_9 : jj_D cL_join 9 (.lastore) 1 10 := ⟨rfl, by decide +kernel⟩
theorem dL_join_10 : jj_D cL_join 10 (.goto 15) 3 13 := ⟨rfl, by decide +kernel⟩
theorem dL_join_13 : jj_D cL_join 13 (.astore 4) 2 15 := ⟨rfl, by decide +kernel⟩
theorem dL_join_15 : jj_D cL_join 15 (.iconst 1) 1 16 := ⟨rfl, by decide +kernel⟩
theorem dL_join_16 : jj_D cL_join 16 (.ireturn) 1 17 := ⟨rfl, by decide +kernel⟩
theorem dL_join_17 : jj_D cL_join 17 (.astore 4) 2 19 := ⟨rfl, by decide +kernel⟩
theorem dL_join_19 : jj_D cL_join 19 (.iconst 2) 1 20 := ⟨rfl, by decide +kernel⟩
theorem dL_join_20 : jj_D cL_join 20 (.ireturn) 1 21 := ⟨rfl, by decide +kernel⟩
theorem dL_join_21 : jj_D cL_join 21 (.astore 4) 2 23 := ⟨rfl, by decide +kernel⟩
theorem dL_join_23 : jj_D cL_join 23 (.iconst 3) 1 24 := ⟨rfl, by decide +kernel⟩
theorem dL_join_24 : jj_D cL_join 24 (.ireturn) 1 25 := ⟨rfl, by decide +kernel⟩
theorem dL_join_25 : jj_D cL_join 25 (.iconst 0) 1 26 := ⟨rfl, by decide +kernel⟩
theorem dL_join_26 : jj_D cL_join 26 (.ireturn) 1 27 := ⟨rfl, by decide +kernel⟩
theorem dL_file_0 : jj_D cL_file 0 (.aload_n 2) 1 1 := ⟨rfl, by decide +kernel⟩
theorem dL_file_1 : jj_D cL_file 1 (.iconst 0) 1 2 := ⟨rfl, by decide +kernel⟩
theorem dL_file_2 : jj_D cL_file 2 (.aload_n 0) 1 3 := ⟨rfl, by decide +kernel⟩
theorem dL_file_3 : jj_D cL_file 3 (.iload_n 1) 1 4 := ⟨rfl, by decide +kernel⟩
theorem dL_file_4 : jj_D cL_file 4 (.invokevirtual 94) 3 7 := ⟨rfl, by decide +kernel⟩
theorem dL_file_7 : jj_D cL_file 7 (.i2l) 1 8 := ⟨rfl, by decide +kernel⟩
theorem dL_file_8 : jj_D cL_file 8 (.lastore) 1 9 := ⟨rfl, by decide +kernel⟩
theorem dL_file_9 : jj_D cL_file 9 (.goto 9) 3 12 := ⟨rfl, by decide +kernel⟩
theorem dL_file_12 : jj_D cL_file 12 (.astore_n 3) 1 13 := ⟨rfl, by decide +kernel⟩
theorem dL_file_13 : jj_D cL_file 13 (.iconst 1) 1 14 := ⟨rfl, by decide +kernel⟩
theorem dL_file_14 : jj_D cL_file 14 (.ireturn) 1 15 := ⟨rfl, by decide +kernel⟩
theorem dL_file_15 : jj_D cL_file 15 (.astore_n 3) 1 16 := ⟨rfl, by decide +kernel⟩
theorem dL_file_16 : jj_D cL_file 16 (.iconst 2) 1 17 := ⟨rfl, by decide +kernel⟩
theorem dL_file_17 : jj_D cL_file 17 (.ireturn) 1 18 := ⟨rfl, by decide +kernel⟩
theorem dL_file_18 : jj_D cL_file 18 (.iconst 0) 1 19 := ⟨rfl, by decide +kernel⟩
theorem dL_file_19 : jj_D cL_file 19 (.ireturn) 1 20 := ⟨rfl, by decide +kernel⟩
theorem dL_repair_0 : jj_D cL_repair 0 (.aload_n 2) 1 1 := ⟨rfl, by decide +kernel⟩
theorem dL_repair_1 : jj_D cL_repair 1 (.iconst 0) 1 2 := ⟨rfl, by decide +kernel⟩
theorem dL_repair_2 : jj_D cL_repair 2 (.aload_n 0) 1 3 := ⟨rfl, by decide +kernel⟩
theorem dL_repair_3 : jj_D cL_repair 3 (.iload_n 1) 1 4 := ⟨rfl, by decide +kernel⟩
theorem dL_repair_4 : jj_D cL_repair 4 (.invokevirtual 97) 3 7 := ⟨rfl, by decide +kernel⟩
theorem dL_repair_7 : jj_D cL_repair 7 (.i2l) 1 8 := ⟨rfl, by decide +kernel⟩
theorem dL_repair_8 : jj_D cL_repair 8 (.lastore) 1 9 := ⟨rfl, by decide +kernel⟩
theorem dL_repair_9 : jj_D cL_repair 9 (.goto 9) 3 12 := ⟨rfl, by decide +kernel⟩
theorem dL_repair_12 : jj_D cL_repair 12 (.astore_n 3) 1 13 := ⟨rfl, by decide +kernel⟩
theorem dL_repair_13 : jj_D cL_repair 13 (.iconst 1) 1 14 := ⟨rfl, by decide +kernel⟩
theorem dL_repair_14 : jj_D cL_repair 14 (.ireturn) 1 15 := ⟨rfl, by decide +kernel⟩
theorem dL_repair_15 : jj_D cL_repair 15 (.astore_n 3) 1 16 := ⟨rfl, by decide +kernel⟩
theorem dL_repair_16 : jj_D cL_repair 16 (.iconst 2) 1 17 := ⟨rfl, by decide +kernel⟩
theorem dL_repair_17 : jj_D cL_repair 17 (.ireturn) 1 18 := ⟨rfl, by decide +kernel⟩
theorem dL_repair_18 : jj_D cL_repair 18 (.iconst 0) 1 19 := ⟨rfl, by decide +kernel⟩
theorem dL_repair_19 : jj_D cL_repair 19 (.ireturn) 1 20 := ⟨rfl, by decide +kernel⟩
theorem dL_undo_0 : jj_D cL_undo 0 (.aload_n 1) 1 1 := ⟨rfl, by decide +kernel⟩
theorem dL_undo_1 : jj_D cL_undo 1 (.iconst 0) 1 2 := ⟨rfl, by decide +kernel⟩
theorem dL_undo_2 : jj_D cL_undo 2 (.aload_n 0) 1 3 := ⟨rfl, by decide +kernel⟩
theorem dL_undo_3 : jj_D cL_undo 3 (.invokevirtual 100) 3 6 := ⟨rfl, by decide +kernel⟩
theorem dL_undo_6 : jj_D cL_undo 6 (.i2l) 1 7 := ⟨rfl, by decide +kernel⟩
theorem dL_undo_7 : jj_D cL_undo 7 (.lastore) 1 8 := ⟨rfl, by decide +kernel⟩
theorem dL_undo_8 : jj_D cL_undo 8 (.goto 6) 3 11 := ⟨rfl, by decide +kernel⟩
theorem dL_undo_11 : jj_D cL_undo 11 (.astore_n 2) 1 12 := ⟨rfl, by decide +kernel⟩
theorem dL_undo_12 : jj_D cL_undo 12 (.iconst 1) 1 13 := ⟨rfl, by decide +kernel⟩
theorem dL_undo_13 : jj_D cL_undo 13 (.ireturn) 1 14 := ⟨rfl, by decide +kernel⟩
theorem dL_undo_14 : jj_D cL_undo 14 (.iconst 0) 1 15 := ⟨rfl, by decide +kernel⟩
theorem dL_undo_15 : jj_D cL_undo 15 (.ireturn) 1 16 := ⟨rfl, by decide +kernel⟩
theorem dL_fileIs_0 : jj_D cL_fileIs 0 (.aload_n 2) 1 1 := ⟨rfl, by decide +kernel⟩
theorem dL_fileIs_1 : jj_D cL_fileIs 1 (.iconst 0) 1 2 := ⟨rfl, by decide +kernel⟩
theorem dL_fileIs_2 : jj_D cL_fileIs 2 (.aload_n 0) 1 3 := ⟨rfl, by decide +kernel⟩
theorem dL_fileIs_3 : jj_D cL_fileIs 3 (.iload_n 1) 1 4 := ⟨rfl, by decide +kernel⟩
theorem dL_fileIs_4 : jj_D cL_fileIs 4 (.invokevirtual 104) 3 7 := ⟨rfl, by decide +kernel⟩
theorem dL_fileIs_7 : jj_D cL_fileIs 7 (.i2l) 1 8 := ⟨rfl, by decide +kernel⟩
theorem dL_fileIs_8 : jj_D cL_fileIs 8 (.lastore) 1 9 := ⟨rfl, by decide +kernel⟩
theorem dL_fileIs_9 : jj_D cL_fileIs 9 (.goto 6) 3 12 := ⟨rfl, by decide +kernel⟩
theorem dL_fileIs_12 : jj_D cL_fileIs 12 (.astore_n 3) 1 13 := ⟨rfl, by decide +kernel⟩
theorem dL_fileIs_13 : jj_D cL_fileIs 13 (.iconst 1) 1 14 := ⟨rfl, by decide +kernel⟩
theorem dL_fileIs_14 : jj_D cL_fileIs 14 (.ireturn) 1 15 := ⟨rfl, by decide +kernel⟩
theorem dL_fileIs_15 : jj_D cL_fileIs 15 (.iconst 0) 1 16 := ⟨rfl, by decide +kernel⟩
theorem dL_fileIs_16 : jj_D cL_fileIs 16 (.ireturn) 1 17 := ⟨rfl, by decide +kernel⟩
theorem dL_contract_0 : jj_D cL_contract 0 (.aload 4) 2 2 := ⟨rfl, by decide +kernel⟩
theorem dL_contract_2 : jj_D cL_contract 2 (.iconst 0) 1 3 := ⟨rfl, by decide +kernel⟩
theorem dL_contract_3 : jj_D cL_contract 3 (.aload_n 0) 1 4 := ⟨rfl, by decide +kernel⟩
theorem dL_contract_4 : jj_D cL_contract 4 (.iload_n 1) 1 5 := ⟨rfl, by decide +kernel⟩
theorem dL_contract_5 : jj_D cL_contract 5 (.iload_n 2) 1 6 := ⟨rfl, by decide +kernel⟩
theorem dL_contract_6 : jj_D cL_contract 6 (.iload_n 3) 1 7 := ⟨rfl, by decide +kernel⟩
theorem dL_contract_7 : jj_D cL_contract 7 (.invokevirtual 107) 3 10 := ⟨rfl, by decide +kernel⟩
theorem dL_contract_10 : jj_D cL_contract 10 (.i2l) 1 11 := ⟨rfl, by decide +kernel⟩
theorem dL_contract_11 : jj_D cL_contract 11 (.lastore) 1 12 := ⟨rfl, by decide +kernel⟩
theorem dL_contract_12 : jj_D cL_contract 12 (.goto 11) 3 15 := ⟨rfl, by decide +kernel⟩
theorem dL_contract_15 : jj_D cL_contract 15 (.astore 5) 2 17 := ⟨rfl, by decide +kernel⟩
theorem dL_contract_17 : jj_D cL_contract 17 (.iconst 1) 1 18 := ⟨rfl, by decide +kernel⟩
theorem dL_contract_18 : jj_D cL_contract 18 (.ireturn) 1 19 := ⟨rfl, by decide +kernel⟩
theorem dL_contract_19 : jj_D cL_contract 19 (.astore 5) 2 21 := ⟨rfl, by decide +kernel⟩
theorem dL_contract_21 : jj_D cL_contract 21 (.iconst 2) 1 22 := ⟨rfl, by decide +kernel⟩
theorem dL_contract_22 : jj_D cL_contract 22 (.ireturn) 1 23 := ⟨rfl, by decide +kernel⟩
theorem dL_contract_23 : jj_D cL_contract 23 (.iconst 0) 1 24 := ⟨rfl, by decide +kernel⟩
theorem dL_contract_24 : jj_D cL_contract 24 (.ireturn) 1 25 := ⟨rfl, by decide +kernel⟩
theorem dL_account_0 : jj_D cL_account 0 (.aload_n 2) 1 1 := ⟨rfl, by decide +kernel⟩
theorem dL_account_1 : jj_D cL_account 1 (.iconst 0) 1 2 := ⟨rfl, by decide +kernel⟩
theorem dL_account_2 : jj_D cL_account 2 (.aload_n 0) 1 3 := ⟨rfl, by decide +kernel⟩
theorem dL_account_3 : jj_D cL_account 3 (.iload_n 1) 1 4 := ⟨rfl, by decide +kernel⟩
theorem dL_account_4 : jj_D cL_account 4 (.invokevirtual 110) 3 7 := ⟨rfl, by decide +kernel⟩
theorem dL_account_7 : jj_D cL_account 7 (.i2l) 1 8 := ⟨rfl, by decide +kernel⟩
theorem dL_account_8 : jj_D cL_account 8 (.lastore) 1 9 := ⟨rfl, by decide +kernel⟩
theorem dL_account_9 : jj_D cL_account 9 (.goto 6) 3 12 := ⟨rfl, by decide +kernel⟩
theorem dL_account_12 : jj_D cL_account 12 (.astore_n 3) 1 13 := ⟨rfl, by decide +kernel⟩
theorem dL_account_13 : jj_D cL_account 13 (.iconst 1) 1 14 := ⟨rfl, by decide +kernel⟩
theorem dL_account_14 : jj_D cL_account 14 (.ireturn) 1 15 := ⟨rfl, by decide +kernel⟩
theorem dL_account_15 : jj_D cL_account 15 (.iconst 0) 1 16 := ⟨rfl, by decide +kernel⟩
theorem dL_account_16 : jj_D cL_account 16 (.ireturn) 1 17 := ⟨rfl, by decide +kernel⟩
theorem dL_accountAnew_0 : jj_D cL_accountAnew 0 (.aload_n 2) 1 1 := ⟨rfl, by decide +kernel⟩
theorem dL_accountAnew_1 : jj_D cL_accountAnew 1 (.iconst 0) 1 2 := ⟨rfl, by decide +kernel⟩
theorem dL_accountAnew_2 : jj_D cL_accountAnew 2 (.aload_n 0) 1 3 := ⟨rfl, by decide +kernel⟩
theorem dL_accountAnew_3 : jj_D cL_accountAnew 3 (.iload_n 1) 1 4 := ⟨rfl, by decide +kernel⟩
theorem dL_accountAnew_4 : jj_D cL_accountAnew 4 (.invokevirtual 113) 3 7 := ⟨rfl, by decide +kernel⟩
theorem dL_accountAnew_7 : jj_D cL_accountAnew 7 (.i2l) 1 8 := ⟨rfl, by decide +kernel⟩
theorem dL_accountAnew_8 : jj_D cL_accountAnew 8 (.lastore) 1 9 := ⟨rfl, by decide +kernel⟩
theorem dL_accountAnew_9 : jj_D cL_accountAnew 9 (.goto 6) 3 12 := ⟨rfl, by decide +kernel⟩
theorem dL_accountAnew_12 : jj_D cL_accountAnew 12 (.astore_n 3) 1 13 := ⟨rfl, by decide +kernel⟩
theorem dL_accountAnew_13 : jj_D cL_accountAnew 13 (.iconst 1) 1 14 := ⟨rfl, by decide +kernel⟩
theorem dL_accountAnew_14 : jj_D cL_accountAnew 14 (.ireturn) 1 15 := ⟨rfl, by decide +kernel⟩
theorem dL_accountAnew_15 : jj_D cL_accountAnew 15 (.iconst 0) 1 16 := ⟨rfl, by decide +kernel⟩
theorem dL_accountAnew_16 : jj_D cL_accountAnew 16 (.ireturn) 1 17 := ⟨rfl, by decide +kernel⟩
theorem dL_payOut_0 : jj_D cL_payOut 0 (.aload_n 2) 1 1 := ⟨rfl, by decide +kernel⟩
theorem dL_payOut_1 : jj_D cL_payOut 1 (.iconst 0) 1 2 := ⟨rfl, by decide +kernel⟩
theorem dL_payOut_2 : jj_D cL_payOut 2 (.aload_n 0) 1 3 := ⟨rfl, by decide +kernel⟩
theorem dL_payOut_3 : jj_D cL_payOut 3 (.iload_n 1) 1 4 := ⟨rfl, by decide +kernel⟩
theorem dL_payOut_4 : jj_D cL_payOut 4 (.invokevirtual 116) 3 7 := ⟨rfl, by decide +kernel⟩
theorem dL_payOut_7 : jj_D cL_payOut 7 (.i2l) 1 8 := ⟨rfl, by decide +kernel⟩
theorem dL_payOut_8 : jj_D cL_payOut 8 (.lastore) 1 9 := ⟨rfl, by decide +kernel⟩
theorem dL_payOut_9 : jj_D cL_payOut 9 (.goto 6) 3 12 := ⟨rfl, by decide +kernel⟩
theorem dL_payOut_12 : jj_D cL_payOut 12 (.astore_n 3) 1 13 := ⟨rfl, by decide +kernel⟩
theorem dL_payOut_13 : jj_D cL_payOut 13 (.iconst 1) 1 14 := ⟨rfl, by decide +kernel⟩
theorem dL_payOut_14 : jj_D cL_payOut 14 (.ireturn) 1 15 := ⟨rfl, by decide +kernel⟩
theorem dL_payOut_15 : jj_D cL_payOut 15 (.iconst 0) 1 16 := ⟨rfl, by decide +kernel⟩
theorem dL_payOut_16 : jj_D cL_payOut 16 (.ireturn) 1 17 := ⟨rfl, by decide +kernel⟩
theorem dL_pass_0 : jj_D cL_pass 0 (.aload_n 2) 1 1 := ⟨rfl, by decide +kernel⟩
theorem dL_pass_1 : jj_D cL_pass 1 (.iconst 0) 1 2 := ⟨rfl, by decide +kernel⟩
theorem dL_pass_2 : jj_D cL_pass 2 (.aload_n 0) 1 3 := ⟨rfl, by decide +kernel⟩
theorem dL_pass_3 : jj_D cL_pass 3 (.iload_n 1) 1 4 := ⟨rfl, by decide +kernel⟩
theorem dL_pass_4 : jj_D cL_pass 4 (.invokevirtual 119) 3 7 := ⟨rfl, by decide +kernel⟩
theorem dL_pass_7 : jj_D cL_pass 7 (.i2l) 1 8 := ⟨rfl, by decide +kernel⟩
theorem dL_pass_8 : jj_D cL_pass 8 (.lastore) 1 9 := ⟨rfl, by decide +kernel⟩
theorem dL_pass_9 : jj_D cL_pass 9 (.goto 9) 3 12 := ⟨rfl, by decide +kernel⟩
theorem dL_pass_12 : jj_D cL_pass 12 (.astore_n 3) 1 13 := ⟨rfl, by decide +kernel⟩
theorem dL_pass_13 : jj_D cL_pass 13 (.iconst 1) 1 14 := ⟨rfl, by decide +kernel⟩
theorem dL_pass_14 : jj_D cL_pass 14 (.ireturn) 1 15 := ⟨rfl, by decide +kernel⟩
theorem dL_pass_15 : jj_D cL_pass 15 (.astore_n 3) 1 16 := ⟨rfl, by decide +kernel⟩
theorem dL_pass_16 : jj_D cL_pass 16 (.iconst 2) 1 17 := ⟨rfl, by decide +kernel⟩
theorem dL_pass_17 : jj_D cL_pass 17 (.ireturn) 1 18 := ⟨rfl, by decide +kernel⟩
theorem dL_pass_18 : jj_D cL_pass 18 (.iconst 0) 1 19 := ⟨rfl, by decide +kernel⟩
theorem dL_pass_19 : jj_D cL_pass 19 (.ireturn) 1 20 := ⟨rfl, by decide +kernel⟩
end
section
theorem jj_nm_of {y : MethodName} {n : Nat} (h : y.cls ≠ "java/lang/invoke/MethodHandle" ∧ y.cls ≠ "java/lang/invoke/VarHandle" ∧ (parseMethodDescriptor y.desc).map (fun d => d.parameters.length) = some n) : jj_nm y n := h
theorem cs_0 : jj_cls 0 RX0 TX0 3 tyX0 := ⟨rfl, by decide +kernel, tyX0_ok, nmX0⟩
theorem ins_0 : Cond.instantiable RX0 3 ∈ jj_GW := jj_gw 743 (by decide +kernel) rfl
theorem ini_0 : Cond.initialized RX0 ∈ jj_GW := jj_gw 49 (by decide +kernel) rfl
theorem cs_1 : jj_cls 1 RX1 TX1 2 tyX1 := ⟨rfl, by decide +kernel, tyX1_ok, nmX1⟩
theorem ins_1 : Cond.instantiable RX1 2 ∈ jj_GW := jj_gw 61 (by decide +kernel) rfl
theorem ini_1 : Cond.initialized RX1 ∈ jj_GW := jj_gw 34 (by decide +kernel) rfl
theorem cs_2 : jj_cls 2 RX2 TX2 6 tyX2 := ⟨rfl, by decide +kernel, tyX2_ok, nmX2⟩
theorem ins_2 : Cond.instantiable RX2 6 ∈ jj_GW := jj_gw 106 (by decide +kernel) rfl
theorem ini_2 : Cond.initialized RX2 ∈ jj_GW := jj_gw 36 (by decide +kernel) rfl
theorem cs_3 : jj_cls 3 RX3 TX3 4 tyX3 := ⟨rfl, by decide +kernel, tyX3_ok, nmX3⟩
theorem ins_3 : Cond.instantiable RX3 4 ∈ jj_GW := jj_gw 675 (by decide +kernel) rfl
theorem ini_3 : Cond.initialized RX3 ∈ jj_GW := jj_gw 48 (by decide +kernel) rfl
theorem cs_4 : jj_cls 4 RX4 TX4 5 tyX4 := ⟨rfl, by decide +kernel, tyX4_ok, nmX4⟩
theorem ins_4 : Cond.instantiable RX4 5 ∈ jj_GW := jj_gw 531 (by decide +kernel) rfl
theorem ini_4 : Cond.initialized RX4 ∈ jj_GW := jj_gw 46 (by decide +kernel) rfl
theorem cs_5 : jj_cls 5 RX5 TX5 5 tyX5 := ⟨rfl, by decide +kernel, tyX5_ok, nmX5⟩
theorem ins_5 : Cond.instantiable RX5 5 ∈ jj_GW := jj_gw 81 (by decide +kernel) rfl
theorem ini_5 : Cond.initialized RX5 ∈ jj_GW := jj_gw 35 (by decide +kernel) rfl
theorem cs_6 : jj_cls 6 RX6 TX6 7 tyX6 := ⟨rfl, by decide +kernel, tyX6_ok, nmX6⟩
theorem ins_6 : Cond.instantiable RX6 7 ∈ jj_GW := jj_gw 603 (by decide +kernel) rfl
theorem ini_6 : Cond.initialized RX6 ∈ jj_GW := jj_gw 47 (by decide +kernel) rfl
theorem cs_7 : jj_cls 7 RX7 TX7 15 tyX7 := ⟨rfl, by decide +kernel, tyX7_ok, nmX7⟩
theorem ins_7 : Cond.instantiable RX7 15 ∈ jj_GW := jj_gw 296 (by decide +kernel) rfl
theorem ini_7 : Cond.initialized RX7 ∈ jj_GW := jj_gw 44 (by decide +kernel) rfl
theorem cs_8 : jj_cls 8 RX8 TX8 10 tyX8 := ⟨rfl, by decide +kernel, tyX8_ok, nmX8⟩
theorem ins_8 : Cond.instantiable RX8 10 ∈ jj_GW := jj_gw 51 (by decide +kernel) rfl
theorem ini_8 : Cond.initialized RX8 ∈ jj_GW := jj_gw 33 (by decide +kernel) rfl
theorem cs_9 : jj_cls 9 RX9 TX9 38 tyX9 := ⟨rfl, by decide +kernel, tyX9_ok, nmX9⟩
theorem ins_9 : Cond.instantiable RX9 38 ∈ jj_GW := jj_gw 924 (by decide +kernel) rfl
theorem ini_9 : Cond.initialized RX9 ∈ jj_GW := jj_gw 37 (by decide +kernel) rfl
theorem fd_X8_11 : jj_fld RX8 11 TX8 1 := jj_gw 137 (by decide +kernel) rfl
theorem fd_X8_18 : jj_fld RX8 18 TX8 3 := jj_gw 139 (by decide +kernel) rfl
theorem fd_X8_24 : jj_fld RX8 24 TX8 4 := jj_gw 140 (by decide +kernel) rfl
theorem fd_X8_30 : jj_fld RX8 30 TX8 6 := jj_gw 142 (by decide +kernel) rfl
theorem fd_X8_37 : jj_fld RX8 37 TX8 8 := jj_gw 144 (by decide +kernel) rfl
theorem fd_X8_44 : jj_fld RX8 44 TX8 9 := jj_gw 145 (by decide +kernel) rfl
theorem fd_X8_69 : jj_fld RX8 69 TX8 2 := jj_gw 138 (by decide +kernel) rfl
theorem fd_X8_77 : jj_fld RX8 77 TX7 12 := jj_gw 328 (by decide +kernel) rfl
theorem fd_X8_90 : jj_fld RX8 90 TX7 11 := jj_gw 325 (by decide +kernel) rfl
theorem fd_X8_101 : jj_fld RX8 101 TX7 13 := jj_gw 331 (by decide +kernel) rfl
theorem fd_X8_108 : jj_fld RX8 108 TX8 0 := jj_gw 136 (by decide +kernel) rfl
theorem fd_X8_111 : jj_fld RX8 111 TX7 14 := jj_gw 333 (by decide +kernel) rfl
theorem fd_X8_114 : jj_fld RX8 114 TX7 1 := jj_gw 308 (by decide +kernel) rfl
theorem fd_X8_121 : jj_fld RX8 121 TX7 2 := jj_gw 310 (by decide +kernel) rfl
theorem fd_X8_139 : jj_fld RX8 139 TX7 4 := jj_gw 314 (by decide +kernel) rfl
theorem fd_X8_152 : jj_fld RX8 152 TX4 4 := jj_gw 546 (by decide +kernel) rfl
theorem fd_X8_158 : jj_fld RX8 158 TX1 1 := jj_gw 70 (by decide +kernel) rfl
theorem fd_X8_178 : jj_fld RX8 178 TX8 5 := jj_gw 141 (by decide +kernel) rfl
theorem fd_X8_191 : jj_fld RX8 191 TX4 3 := jj_gw 544 (by decide +kernel) rfl
theorem fd_X8_216 : jj_fld RX8 216 TX4 2 := jj_gw 541 (by decide +kernel) rfl
theorem fd_X8_222 : jj_fld RX8 222 TX6 1 := jj_gw 611 (by decide +kernel) rfl
theorem fd_X8_229 : jj_fld RX8 229 TX6 2 := jj_gw 613 (by decide +kernel) rfl
theorem fd_X8_232 : jj_fld RX8 232 TX6 3 := jj_gw 615 (by decide +kernel) rfl
theorem fd_X8_235 : jj_fld RX8 235 TX6 0 := jj_gw 609 (by decide +kernel) rfl
theorem fd_X8_251 : jj_fld RX8 251 TX6 4 := jj_gw 617 (by decide +kernel) rfl
theorem fd_X8_256 : jj_fld RX8 256 TX2 0 := jj_gw 114 (by decide +kernel) rfl
theorem fd_X8_277 : jj_fld RX8 277 TX6 5 := jj_gw 619 (by decide +kernel) rfl
theorem fd_X8_286 : jj_fld RX8 286 TX8 7 := jj_gw 143 (by decide +kernel) rfl
theorem fd_X8_294 : jj_fld RX8 294 TX6 6 := jj_gw 621 (by decide +kernel) rfl
theorem fd_X8_303 : jj_fld RX8 303 TX0 2 := jj_gw 752 (by decide +kernel) rfl
theorem fd_X8_330 : jj_fld RX8 330 TX5 0 := jj_gw 87 (by decide +kernel) rfl
theorem fd_X8_334 : jj_fld RX8 334 TX5 4 := jj_gw 92 (by decide +kernel) rfl
theorem fd_X8_351 : jj_fld RX8 351 TX2 1 := jj_gw 116 (by decide +kernel) rfl
theorem fd_X8_354 : jj_fld RX8 354 TX2 3 := jj_gw 120 (by decide +kernel) rfl
theorem fd_X8_360 : jj_fld RX8 360 TX2 2 := jj_gw 118 (by decide +kernel) rfl
theorem fd_X8_390 : jj_fld RX8 390 TX7 6 := jj_gw 318 (by decide +kernel) rfl
theorem fd_X8_393 : jj_fld RX8 393 TX7 5 := jj_gw 316 (by decide +kernel) rfl
theorem fd_X8_399 : jj_fld RX8 399 TX7 7 := jj_gw 320 (by decide +kernel) rfl
theorem fd_X8_402 : jj_fld RX8 402 TX7 0 := jj_gw 306 (by decide +kernel) rfl
theorem fd_X8_406 : jj_fld RX8 406 TX1 0 := jj_gw 68 (by decide +kernel) rfl
theorem fd_X8_409 : jj_fld RX8 409 TX7 8 := jj_gw 322 (by decide +kernel) rfl
theorem fd_X8_412 : jj_fld RX8 412 TX7 3 := jj_gw 312 (by decide +kernel) rfl
theorem fd_X8_426 : jj_fld RX8 426 TX0 0 := jj_gw 749 (by decide +kernel) rfl
theorem fd_X0_9 : jj_fld RX0 9 TX0 1 := jj_gw 750 (by decide +kernel) rfl
theorem fd_X0_15 : jj_fld RX0 15 TX0 0 := jj_gw 748 (by decide +kernel) rfl
theorem fd_X0_19 : jj_fld RX0 19 TX0 2 := jj_gw 751 (by decide +kernel) rfl
theorem fd_X1_11 : jj_fld RX1 11 TX1 0 := jj_gw 67 (by decide +kernel) rfl
theorem fd_X1_17 : jj_fld RX1 17 TX1 1 := jj_gw 69 (by decide +kernel) rfl
theorem fd_X1_25 : jj_fld RX1 25 TX7 12 := jj_gw 329 (by decide +kernel) rfl
theorem fd_X2_9 : jj_fld RX2 9 TX2 0 := jj_gw 113 (by decide +kernel) rfl
theorem fd_X2_15 : jj_fld RX2 15 TX2 1 := jj_gw 115 (by decide +kernel) rfl
theorem fd_X2_18 : jj_fld RX2 18 TX2 2 := jj_gw 117 (by decide +kernel) rfl
theorem fd_X2_21 : jj_fld RX2 21 TX2 3 := jj_gw 119 (by decide +kernel) rfl
theorem fd_X2_26 : jj_fld RX2 26 TX2 4 := jj_gw 121 (by decide +kernel) rfl
theorem fd_X2_30 : jj_fld RX2 30 TX2 5 := jj_gw 122 (by decide +kernel) rfl
theorem fd_X2_38 : jj_fld RX2 38 TX3 1 := jj_gw 689 (by decide +kernel) rfl
theorem fd_X2_42 : jj_fld RX2 42 TX3 3 := jj_gw 692 (by decide +kernel) rfl
theorem fd_X3_9 : jj_fld RX3 9 TX3 0 := jj_gw 687 (by decide +kernel) rfl
theorem fd_X3_15 : jj_fld RX3 15 TX3 1 := jj_gw 688 (by decide +kernel) rfl
theorem fd_X3_19 : jj_fld RX3 19 TX3 2 := jj_gw 690 (by decide +kernel) rfl
theorem fd_X3_23 : jj_fld RX3 23 TX3 3 := jj_gw 691 (by decide +kernel) rfl
theorem fd_X3_29 : jj_fld RX3 29 TX4 3 := jj_gw 542 (by decide +kernel) rfl
theorem fd_X4_9 : jj_fld RX4 9 TX4 0 := jj_gw 538 (by decide +kernel) rfl
theorem fd_X4_17 : jj_fld RX4 17 TX4 1 := jj_gw 539 (by decide +kernel) rfl
theorem fd_X4_21 : jj_fld RX4 21 TX4 3 := jj_gw 543 (by decide +kernel) rfl
theorem fd_X4_25 : jj_fld RX4 25 TX4 4 := jj_gw 545 (by decide +kernel) rfl
theorem fd_X4_31 : jj_fld RX4 31 TX4 2 := jj_gw 540 (by decide +kernel) rfl
theorem fd_X5_9 : jj_fld RX5 9 TX5 1 := jj_gw 88 (by decide +kernel) rfl
theorem fd_X5_15 : jj_fld RX5 15 TX5 2 := jj_gw 89 (by decide +kernel) rfl
theorem fd_X5_18 : jj_fld RX5 18 TX5 3 := jj_gw 90 (by decide +kernel) rfl
theorem fd_X5_21 : jj_fld RX5 21 TX5 0 := jj_gw 86 (by decide +kernel) rfl
theorem fd_X5_25 : jj_fld RX5 25 TX5 4 := jj_gw 91 (by decide +kernel) rfl
theorem fd_X6_9 : jj_fld RX6 9 TX6 2 := jj_gw 612 (by decide +kernel) rfl
theorem fd_X6_15 : jj_fld RX6 15 TX6 3 := jj_gw 614 (by decide +kernel) rfl
theorem fd_X6_18 : jj_fld RX6 18 TX6 0 := jj_gw 608 (by decide +kernel) rfl
theorem fd_X6_21 : jj_fld RX6 21 TX6 1 := jj_gw 610 (by decide +kernel) rfl
theorem fd_X6_24 : jj_fld RX6 24 TX6 4 := jj_gw 616 (by decide +kernel) rfl
theorem fd_X6_27 : jj_fld RX6 27 TX6 5 := jj_gw 618 (by decide +kernel) rfl
theorem fd_X6_34 : jj_fld RX6 34 TX6 6 := jj_gw 620 (by decide +kernel) rfl
theorem fd_X7_9 : jj_fld RX7 9 TX7 8 := jj_gw 321 (by decide +kernel) rfl
theorem fd_X7_15 : jj_fld RX7 15 TX7 9 := jj_gw 323 (by decide +kernel) rfl
theorem fd_X7_18 : jj_fld RX7 18 TX7 10 := jj_gw 324 (by decide +kernel) rfl
theorem fd_X7_21 : jj_fld RX7 21 TX7 13 := jj_gw 330 (by decide +kernel) rfl
theorem fd_X7_25 : jj_fld RX7 25 TX7 0 := jj_gw 305 (by decide +kernel) rfl
theorem fd_X7_28 : jj_fld RX7 28 TX7 1 := jj_gw 307 (by decide +kernel) rfl
theorem fd_X7_31 : jj_fld RX7 31 TX7 3 := jj_gw 311 (by decide +kernel) rfl
theorem fd_X7_34 : jj_fld RX7 34 TX7 2 := jj_gw 309 (by decide +kernel) rfl
theorem fd_X7_37 : jj_fld RX7 37 TX7 4 := jj_gw 313 (by decide +kernel) rfl
theorem fd_X7_41 : jj_fld RX7 41 TX7 5 := jj_gw 315 (by decide +kernel) rfl
theorem fd_X7_44 : jj_fld RX7 44 TX7 6 := jj_gw 317 (by decide +kernel) rfl
theorem fd_X7_47 : jj_fld RX7 47 TX7 7 := jj_gw 319 (by decide +kernel) rfl
theorem fd_X7_64 : jj_fld RX7 64 TX7 12 := jj_gw 327 (by decide +kernel) rfl
theorem fd_X7_67 : jj_fld RX7 67 TX7 14 := jj_gw 332 (by decide +kernel) rfl
theorem fd_X7_70 : jj_fld RX7 70 TX7 11 := jj_gw 326 (by decide +kernel) rfl
theorem fd_X9_7 : jj_fld RX9 7 TX9 2 := jj_gw 931 (by decide +kernel) rfl
theorem fd_X9_13 : jj_fld RX9 13 TX9 3 := jj_gw 932 (by decide +kernel) rfl
theorem fd_X9_16 : jj_fld RX9 16 TX9 4 := jj_gw 933 (by decide +kernel) rfl
theorem fd_X9_19 : jj_fld RX9 19 TX9 5 := jj_gw 934 (by decide +kernel) rfl
theorem fd_X9_22 : jj_fld RX9 22 TX9 6 := jj_gw 935 (by decide +kernel) rfl
theorem fd_X9_25 : jj_fld RX9 25 TX9 7 := jj_gw 936 (by decide +kernel) rfl
theorem fd_X9_28 : jj_fld RX9 28 TX9 8 := jj_gw 937 (by decide +kernel) rfl
theorem fd_X9_31 : jj_fld RX9 31 TX9 9 := jj_gw 938 (by decide +kernel) rfl
theorem fd_X9_34 : jj_fld RX9 34 TX9 10 := jj_gw 939 (by decide +kernel) rfl
theorem fd_X9_37 : jj_fld RX9 37 TX9 12 := jj_gw 941 (by decide +kernel) rfl
theorem fd_X9_40 : jj_fld RX9 40 TX9 14 := jj_gw 943 (by decide +kernel) rfl
theorem fd_X9_43 : jj_fld RX9 43 TX9 15 := jj_gw 944 (by decide +kernel) rfl
theorem fd_X9_46 : jj_fld RX9 46 TX9 16 := jj_gw 945 (by decide +kernel) rfl
theorem fd_X9_49 : jj_fld RX9 49 TX9 17 := jj_gw 946 (by decide +kernel) rfl
theorem fd_X9_52 : jj_fld RX9 52 TX9 18 := jj_gw 947 (by decide +kernel) rfl
theorem fd_X9_55 : jj_fld RX9 55 TX9 19 := jj_gw 948 (by decide +kernel) rfl
theorem fd_X9_58 : jj_fld RX9 58 TX9 20 := jj_gw 949 (by decide +kernel) rfl
theorem fd_X9_61 : jj_fld RX9 61 TX9 21 := jj_gw 950 (by decide +kernel) rfl
theorem fd_X9_64 : jj_fld RX9 64 TX9 23 := jj_gw 952 (by decide +kernel) rfl
theorem fd_X9_67 : jj_fld RX9 67 TX9 24 := jj_gw 953 (by decide +kernel) rfl
theorem fd_X9_70 : jj_fld RX9 70 TX9 25 := jj_gw 954 (by decide +kernel) rfl
theorem fd_X9_73 : jj_fld RX9 73 TX9 27 := jj_gw 956 (by decide +kernel) rfl
theorem fd_X9_76 : jj_fld RX9 76 TX9 29 := jj_gw 958 (by decide +kernel) rfl
theorem fd_X9_79 : jj_fld RX9 79 TX9 30 := jj_gw 959 (by decide +kernel) rfl
theorem fd_X9_82 : jj_fld RX9 82 TX9 32 := jj_gw 961 (by decide +kernel) rfl
theorem fd_X9_85 : jj_fld RX9 85 TX9 33 := jj_gw 962 (by decide +kernel) rfl
theorem fd_X9_88 : jj_fld RX9 88 TX9 34 := jj_gw 963 (by decide +kernel) rfl
theorem fd_X9_91 : jj_fld RX9 91 TX9 35 := jj_gw 964 (by decide +kernel) rfl
theorem fd_X9_94 : jj_fld RX9 94 TX9 36 := jj_gw 965 (by decide +kernel) rfl
theorem fd_X9_97 : jj_fld RX9 97 TX9 37 := jj_gw 966 (by decide +kernel) rfl
theorem fd_X9_101 : jj_fld RX9 101 TX9 1 := jj_gw 930 (by decide +kernel) rfl
theorem fd_X9_108 : jj_fld RX9 108 TX9 0 := jj_gw 929 (by decide +kernel) rfl
theorem fd_X9_149 : jj_fld RX9 149 TX9 13 := jj_gw 942 (by decide +kernel) rfl
theorem fd_X9_152 : jj_fld RX9 152 TX9 11 := jj_gw 940 (by decide +kernel) rfl
theorem fd_X9_172 : jj_fld RX9 172 TX9 31 := jj_gw 960 (by decide +kernel) rfl
theorem fd_X9_178 : jj_fld RX9 178 TX9 22 := jj_gw 951 (by decide +kernel) rfl
theorem fd_X9_206 : jj_fld RX9 206 TX9 26 := jj_gw 955 (by decide +kernel) rfl
theorem fd_X9_210 : jj_fld RX9 210 TX9 28 := jj_gw 957 (by decide +kernel) rfl
theorem cl_X8_9 : Cond.classLink RX8 9 "MatrixHouse$Tape" ∈ jj_GW := jj_gw 58 (by decide +kernel) rfl
theorem cl_X8_15 : Cond.classLink RX8 15 "MatrixHouse$Program" ∈ jj_GW := jj_gw 60 (by decide +kernel) rfl
theorem cl_X8_22 : Cond.classLink RX8 22 "MatrixHouse$Side" ∈ jj_GW := jj_gw 76 (by decide +kernel) rfl
theorem cl_X8_28 : Cond.classLink RX8 28 "MatrixHouse$Disc" ∈ jj_GW := jj_gw 78 (by decide +kernel) rfl
theorem cl_X8_34 : Cond.classLink RX8 34 "MatrixHouse$SoundFile" ∈ jj_GW := jj_gw 80 (by decide +kernel) rfl
theorem cl_X8_41 : Cond.classLink RX8 41 "MatrixHouse$Royalties" ∈ jj_GW := jj_gw 105 (by decide +kernel) rfl
theorem cl_X8_55 : Cond.classLink RX8 55 "java/lang/IllegalArgumentException" ∈ jj_GW := jj_gw 260 (by decide +kernel) rfl
theorem cl_X8_93 : Cond.classLink RX8 93 "java/lang/IllegalStateException" ∈ jj_GW := jj_gw 280 (by decide +kernel) rfl
theorem cl_X8_143 : Cond.classLink RX8 143 "java/lang/IndexOutOfBoundsException" ∈ jj_GW := jj_gw 188 (by decide +kernel) rfl
theorem cl_X8_254 : Cond.classLink RX8 254 "MatrixHouse$Sale" ∈ jj_GW := jj_gw 674 (by decide +kernel) rfl
theorem cl_X8_261 : Cond.classLink RX8 261 "[I" ∈ jj_GW := jj_gw 682 (by decide +kernel) rfl
theorem cl_X1_9 : Cond.classLink RX1 9 "MatrixHouse$Tape" ∈ jj_GW := jj_gw 66 (by decide +kernel) rfl
theorem cl_X2_24 : Cond.classLink RX2 24 "MatrixHouse$Sale" ∈ jj_GW := jj_gw 111 (by decide +kernel) rfl
theorem cl_X4_15 : Cond.classLink RX4 15 "MatrixHouse$Stamper" ∈ jj_GW := jj_gw 536 (by decide +kernel) rfl
theorem cl_L_8 : Cond.classLink RL 8 "MatrixHouse" ∈ jj_GW := jj_gw 50 (by decide +kernel) rfl
theorem cl_L_13 : Cond.classLink RL 13 "java/lang/IndexOutOfBoundsException" ∈ jj_GW := jj_gw 178 (by decide +kernel) rfl
theorem cl_L_15 : Cond.classLink RL 15 "java/lang/IllegalArgumentException" ∈ jj_GW := jj_gw 179 (by decide +kernel) rfl
theorem cl_L_17 : Cond.classLink RL 17 "java/lang/IllegalStateException" ∈ jj_GW := jj_gw 180 (by decide +kernel) rfl
theorem cl_L_123 : Cond.classLink RL 123 "MatrixHouseModel" ∈ jj_GW := jj_gw 923 (by decide +kernel) rfl
theorem cn_X8_348 : Cond.constant RX8 348 999999 ∈ jj_GW := jj_gw 887 (by decide +kernel) rfl
theorem cn_X3_27 : Cond.constantLong RX3 27 100 ∈ jj_GW := jj_gw 710 (by decide +kernel) rfl
theorem cn_X9_170 : Cond.constantLong RX9 170 100 ∈ jj_GW := jj_gw 1187 (by decide +kernel) rfl
theorem cn_X9_213 : Cond.constant RX9 213 999999 ∈ jj_GW := jj_gw 1267 (by decide +kernel) rfl
theorem aw_int : Cond.arrayClass .int ∈ jj_GW := jj_gw 104 (by decide +kernel) rfl
theorem aw_long : Cond.arrayClass .long ∈ jj_GW := jj_gw 1284 (by decide +kernel) rfl
theorem oi_i : Cond.instanceMethod Lib.objectInit ∈ jj_GW := jj_gw 56 (by decide +kernel) rfl
theorem oi_c : Cond.code Lib.objectInit ⟨#[0xb1]⟩ 1 none ∈ jj_GW := jj_gw 57 (by decide +kernel) rfl
theorem mmax_s : Cond.static Lib.Math.max.name ∈ jj_GW := jj_gw 400 (by decide +kernel) rfl
theorem mmax_c : Cond.code Lib.Math.max.name Lib.Math.max.code 2 (some .int) ∈ jj_GW := jj_gw 401 (by decide +kernel) rfl
theorem mmin_s : Cond.static Lib.Math.min.name ∈ jj_GW := jj_gw 407 (by decide +kernel) rfl
theorem mmin_c : Cond.code Lib.Math.min.name Lib.Math.min.code 2 (some .int) ∈ jj_GW := jj_gw 408 (by decide +kernel) rfl
theorem m_i : Cond.initialized "java/lang/Math" ∈ jj_GW := jj_gw 45 (by decide +kernel) rfl
theorem ml_X8_1 : Cond.methodLink RX8 1 Lib.objectInit ∈ jj_GW := jj_gw 55 (by decide +kernel) rfl
theorem lk_X8_48 : jj_lkS RX8 48 yX8_requireArtist cX8_requireArtist 1 none 1 := ⟨jj_nm_of (by decide +kernel), jj_gw 185 (by decide +kernel) rfl, jj_gw 186 (by decide +kernel) rfl, jj_gw 33 (by decide +kernel) rfl, jj_gw 187 (by decide +kernel) rfl⟩
theorem lk_X8_52 : jj_lkS RX8 52 yX8_requireVault cX8_requireVault 1 none 1 := ⟨jj_nm_of (by decide +kernel), jj_gw 256 (by decide +kernel) rfl, jj_gw 257 (by decide +kernel) rfl, jj_gw 33 (by decide +kernel) rfl, jj_gw 258 (by decide +kernel) rfl⟩
theorem lk_X8_62 : jj_lkV RX8 62 yX8_nextTape cX8_nextTape 1 (some .int) 0 := ⟨jj_nm_of (by decide +kernel), jj_gw 276 (by decide +kernel) rfl, jj_gw 278 (by decide +kernel) rfl, jj_gw 1 (by decide +kernel) rfl, jj_gw 33 (by decide +kernel) rfl, jj_gw 279 (by decide +kernel) rfl⟩
theorem lk_X8_66 : jj_lkI RX8 66 yX7_init cX7_init 5 4 := ⟨jj_nm_of (by decide +kernel), rfl, jj_gw 297 (by decide +kernel) rfl, jj_gw 298 (by decide +kernel) rfl, jj_gw 44 (by decide +kernel) rfl, jj_gw 299 (by decide +kernel) rfl⟩
theorem lk_X8_73 : jj_lkV RX8 73 yX8_tapeAt cX8_tapeAt 3 (some (.object "MatrixHouse$Tape")) 1 := ⟨jj_nm_of (by decide +kernel), jj_gw 372 (by decide +kernel) rfl, jj_gw 374 (by decide +kernel) rfl, jj_gw 3 (by decide +kernel) rfl, jj_gw 33 (by decide +kernel) rfl, jj_gw 375 (by decide +kernel) rfl⟩
theorem lk_X8_82 : jj_lkV RX8 82 yX8_requirePlayable cX8_requirePlayable 2 none 1 := ⟨jj_nm_of (by decide +kernel), jj_gw 378 (by decide +kernel) rfl, jj_gw 380 (by decide +kernel) rfl, jj_gw 4 (by decide +kernel) rfl, jj_gw 33 (by decide +kernel) rfl, jj_gw 381 (by decide +kernel) rfl⟩
theorem lk_X8_86 : jj_lkV RX8 86 yX7_spansBetween cX7_spansBetween 7 (some .int) 2 := ⟨jj_nm_of (by decide +kernel), jj_gw 387 (by decide +kernel) rfl, jj_gw 388 (by decide +kernel) rfl, jj_gw 389 (by decide +kernel) rfl, jj_gw 44 (by decide +kernel) rfl, jj_gw 390 (by decide +kernel) rfl⟩
theorem lk_X8_98 : jj_lkI RX8 98 yX7_init_ cX7_init_ 8 6 := ⟨jj_nm_of (by decide +kernel), rfl, jj_gw 396 (by decide +kernel) rfl, jj_gw 397 (by decide +kernel) rfl, jj_gw 44 (by decide +kernel) rfl, jj_gw 398 (by decide +kernel) rfl⟩
theorem lk_X8_117 : jj_lkV RX8 117 yX7_isPlayable cX7_isPlayable 2 (some .boolean) 1 := ⟨jj_nm_of (by decide +kernel), jj_gw 382 (by decide +kernel) rfl, jj_gw 383 (by decide +kernel) rfl, jj_gw 384 (by decide +kernel) rfl, jj_gw 44 (by decide +kernel) rfl, jj_gw 385 (by decide +kernel) rfl⟩
theorem lk_X8_128 : jj_lkV RX8 128 yX7_heardAt cX7_heardAt 5 (some .int) 1 := ⟨jj_nm_of (by decide +kernel), jj_gw 448 (by decide +kernel) rfl, jj_gw 449 (by decide +kernel) rfl, jj_gw 450 (by decide +kernel) rfl, jj_gw 44 (by decide +kernel) rfl, jj_gw 451 (by decide +kernel) rfl⟩
theorem lk_X8_132 : jj_lkV RX8 132 yX7_takeSet cX7_takeSet 3 (some .int) 0 := ⟨jj_nm_of (by decide +kernel), jj_gw 459 (by decide +kernel) rfl, jj_gw 460 (by decide +kernel) rfl, jj_gw 461 (by decide +kernel) rfl, jj_gw 44 (by decide +kernel) rfl, jj_gw 462 (by decide +kernel) rfl⟩
theorem lk_X8_135 : jj_lkS RX8 135 yX8_takesByMaking cX8_takesByMaking 8 (some .int) 1 := ⟨jj_nm_of (by decide +kernel), jj_gw 470 (by decide +kernel) rfl, jj_gw 471 (by decide +kernel) rfl, jj_gw 33 (by decide +kernel) rfl, jj_gw 472 (by decide +kernel) rfl⟩
theorem lk_X8_148 : jj_lkS RX8 148 yX8_has cX8_has 2 (some .boolean) 2 := ⟨jj_nm_of (by decide +kernel), jj_gw 483 (by decide +kernel) rfl, jj_gw 484 (by decide +kernel) rfl, jj_gw 33 (by decide +kernel) rfl, jj_gw 485 (by decide +kernel) rfl⟩
theorem lk_X8_154 : jj_lkV RX8 154 yX4_isAnySold cX4_isAnySold 5 (some .boolean) 0 := ⟨jj_nm_of (by decide +kernel), jj_gw 486 (by decide +kernel) rfl, jj_gw 487 (by decide +kernel) rfl, jj_gw 488 (by decide +kernel) rfl, jj_gw 46 (by decide +kernel) rfl, jj_gw 489 (by decide +kernel) rfl⟩
theorem lk_X8_163 : jj_lkV RX8 163 yX1_append cX1_append 2 none 1 := ⟨jj_nm_of (by decide +kernel), jj_gw 502 (by decide +kernel) rfl, jj_gw 503 (by decide +kernel) rfl, jj_gw 504 (by decide +kernel) rfl, jj_gw 34 (by decide +kernel) rfl, jj_gw 505 (by decide +kernel) rfl⟩
theorem lk_X8_166 : jj_lkV RX8 166 yX1_empty cX1_empty 2 none 0 := ⟨jj_nm_of (by decide +kernel), jj_gw 171 (by decide +kernel) rfl, jj_gw 172 (by decide +kernel) rfl, jj_gw 173 (by decide +kernel) rfl, jj_gw 34 (by decide +kernel) rfl, jj_gw 174 (by decide +kernel) rfl⟩
theorem lk_X8_171 : jj_lkV RX8 171 yX1_isPlayable cX1_isPlayable 6 (some .boolean) 1 := ⟨jj_nm_of (by decide +kernel), jj_gw 514 (by decide +kernel) rfl, jj_gw 515 (by decide +kernel) rfl, jj_gw 516 (by decide +kernel) rfl, jj_gw 34 (by decide +kernel) rfl, jj_gw 517 (by decide +kernel) rfl⟩
theorem lk_X8_174 : jj_lkV RX8 174 yX1_length cX1_length 6 (some .int) 0 := ⟨jj_nm_of (by decide +kernel), jj_gw 520 (by decide +kernel) rfl, jj_gw 521 (by decide +kernel) rfl, jj_gw 522 (by decide +kernel) rfl, jj_gw 34 (by decide +kernel) rfl, jj_gw 523 (by decide +kernel) rfl⟩
theorem lk_X8_183 : jj_lkV RX8 183 yX8_sideOfProgram cX8_sideOfProgram 8 (some (.object "MatrixHouse$Side")) 0 := ⟨jj_nm_of (by decide +kernel), jj_gw 527 (by decide +kernel) rfl, jj_gw 529 (by decide +kernel) rfl, jj_gw 6 (by decide +kernel) rfl, jj_gw 33 (by decide +kernel) rfl, jj_gw 530 (by decide +kernel) rfl⟩
theorem lk_X8_187 : jj_lkV RX8 187 yX8_sideAt cX8_sideAt 3 (some (.object "MatrixHouse$Side")) 1 := ⟨jj_nm_of (by decide +kernel), jj_gw 570 (by decide +kernel) rfl, jj_gw 572 (by decide +kernel) rfl, jj_gw 7 (by decide +kernel) rfl, jj_gw 33 (by decide +kernel) rfl, jj_gw 573 (by decide +kernel) rfl⟩
theorem lk_X8_194 : jj_lkV RX8 194 yX4_secondsOf cX4_secondsOf 2 (some .int) 1 := ⟨jj_nm_of (by decide +kernel), jj_gw 575 (by decide +kernel) rfl, jj_gw 576 (by decide +kernel) rfl, jj_gw 577 (by decide +kernel) rfl, jj_gw 46 (by decide +kernel) rfl, jj_gw 578 (by decide +kernel) rfl⟩
theorem lk_X8_197 : jj_lkS RX8 197 yX8_placeOf cX8_placeOf 2 (some .int) 2 := ⟨jj_nm_of (by decide +kernel), jj_gw 586 (by decide +kernel) rfl, jj_gw 587 (by decide +kernel) rfl, jj_gw 33 (by decide +kernel) rfl, jj_gw 588 (by decide +kernel) rfl⟩
theorem lk_X8_200 : jj_lkV RX8 200 yX4_stamperAt cX4_stamperAt 2 (some (.object "MatrixHouse$Stamper")) 1 := ⟨jj_nm_of (by decide +kernel), jj_gw 590 (by decide +kernel) rfl, jj_gw 591 (by decide +kernel) rfl, jj_gw 592 (by decide +kernel) rfl, jj_gw 46 (by decide +kernel) rfl, jj_gw 593 (by decide +kernel) rfl⟩
theorem lk_X8_206 : jj_lkS RX8 206 yX8_hasWhatItNeeds cX8_hasWhatItNeeds 4 (some .boolean) 2 := ⟨jj_nm_of (by decide +kernel), jj_gw 595 (by decide +kernel) rfl, jj_gw 596 (by decide +kernel) rfl, jj_gw 33 (by decide +kernel) rfl, jj_gw 597 (by decide +kernel) rfl⟩
theorem lk_X8_212 : jj_lkV RX8 212 yX4_make cX4_make 3 none 2 := ⟨jj_nm_of (by decide +kernel), jj_gw 599 (by decide +kernel) rfl, jj_gw 600 (by decide +kernel) rfl, jj_gw 601 (by decide +kernel) rfl, jj_gw 46 (by decide +kernel) rfl, jj_gw 602 (by decide +kernel) rfl⟩
theorem lk_X8_219 : jj_lkS RX8 219 yX8_requireDiscCount cX8_requireDiscCount 1 none 1 := ⟨jj_nm_of (by decide +kernel), jj_gw 644 (by decide +kernel) rfl, jj_gw 645 (by decide +kernel) rfl, jj_gw 33 (by decide +kernel) rfl, jj_gw 646 (by decide +kernel) rfl⟩
theorem lk_X8_238 : jj_lkV RX8 238 yX6_stillSold cX6_stillSold 1 (some .int) 0 := ⟨jj_nm_of (by decide +kernel), jj_gw 656 (by decide +kernel) rfl, jj_gw 491 (by decide +kernel) rfl, jj_gw 492 (by decide +kernel) rfl, jj_gw 47 (by decide +kernel) rfl, jj_gw 493 (by decide +kernel) rfl⟩
theorem lk_X8_241 : jj_lkV RX8 241 yX6_neverSold cX6_neverSold 1 (some .int) 0 := ⟨jj_nm_of (by decide +kernel), jj_gw 664 (by decide +kernel) rfl, jj_gw 665 (by decide +kernel) rfl, jj_gw 666 (by decide +kernel) rfl, jj_gw 47 (by decide +kernel) rfl, jj_gw 667 (by decide +kernel) rfl⟩
theorem lk_X8_246 : jj_lkV RX8 246 yX2_isFull cX2_isFull 1 (some .boolean) 0 := ⟨jj_nm_of (by decide +kernel), jj_gw 669 (by decide +kernel) rfl, jj_gw 670 (by decide +kernel) rfl, jj_gw 671 (by decide +kernel) rfl, jj_gw 36 (by decide +kernel) rfl, jj_gw 672 (by decide +kernel) rfl⟩
theorem lk_X8_265 : jj_lkI RX8 265 yX3_init cX3_init 5 4 := ⟨jj_nm_of (by decide +kernel), rfl, jj_gw 683 (by decide +kernel) rfl, jj_gw 684 (by decide +kernel) rfl, jj_gw 48 (by decide +kernel) rfl, jj_gw 685 (by decide +kernel) rfl⟩
theorem lk_X8_268 : jj_lkV RX8 268 yX2_book cX2_book 3 none 1 := ⟨jj_nm_of (by decide +kernel), jj_gw 702 (by decide +kernel) rfl, jj_gw 703 (by decide +kernel) rfl, jj_gw 704 (by decide +kernel) rfl, jj_gw 36 (by decide +kernel) rfl, jj_gw 705 (by decide +kernel) rfl⟩
theorem lk_X8_272 : jj_lkV RX8 272 yX6_unnamed cX6_unnamed 1 (some .int) 0 := ⟨jj_nm_of (by decide +kernel), jj_gw 719 (by decide +kernel) rfl, jj_gw 720 (by decide +kernel) rfl, jj_gw 721 (by decide +kernel) rfl, jj_gw 47 (by decide +kernel) rfl, jj_gw 722 (by decide +kernel) rfl⟩
theorem lk_X8_280 : jj_lkV RX8 280 yX2_takeBack cX2_takeBack 7 none 2 := ⟨jj_nm_of (by decide +kernel), jj_gw 725 (by decide +kernel) rfl, jj_gw 726 (by decide +kernel) rfl, jj_gw 727 (by decide +kernel) rfl, jj_gw 36 (by decide +kernel) rfl, jj_gw 728 (by decide +kernel) rfl⟩
theorem lk_X8_291 : jj_lkI RX8 291 yX0_init cX0_init 2 1 := ⟨jj_nm_of (by decide +kernel), rfl, jj_gw 744 (by decide +kernel) rfl, jj_gw 745 (by decide +kernel) rfl, jj_gw 49 (by decide +kernel) rfl, jj_gw 746 (by decide +kernel) rfl⟩
theorem lk_X8_297 : jj_lkV RX8 297 yX8_discAt cX8_discAt 3 (some (.object "MatrixHouse$Disc")) 1 := ⟨jj_nm_of (by decide +kernel), jj_gw 767 (by decide +kernel) rfl, jj_gw 769 (by decide +kernel) rfl, jj_gw 9 (by decide +kernel) rfl, jj_gw 33 (by decide +kernel) rfl, jj_gw 770 (by decide +kernel) rfl⟩
theorem lk_X8_306 : jj_lkS RX8 306 yX8_requirePart cX8_requirePart 1 none 1 := ⟨jj_nm_of (by decide +kernel), jj_gw 780 (by decide +kernel) rfl, jj_gw 781 (by decide +kernel) rfl, jj_gw 33 (by decide +kernel) rfl, jj_gw 782 (by decide +kernel) rfl⟩
theorem lk_X8_309 : jj_lkV RX8 309 yX0_addScratch cX0_addScratch 2 none 1 := ⟨jj_nm_of (by decide +kernel), jj_gw 784 (by decide +kernel) rfl, jj_gw 785 (by decide +kernel) rfl, jj_gw 786 (by decide +kernel) rfl, jj_gw 49 (by decide +kernel) rfl, jj_gw 787 (by decide +kernel) rfl⟩
theorem lk_X8_312 : jj_lkV RX8 312 yX0_noiseOf cX0_noiseOf 3 (some .int) 1 := ⟨jj_nm_of (by decide +kernel), jj_gw 788 (by decide +kernel) rfl, jj_gw 789 (by decide +kernel) rfl, jj_gw 790 (by decide +kernel) rfl, jj_gw 49 (by decide +kernel) rfl, jj_gw 791 (by decide +kernel) rfl⟩
theorem lk_X8_315 : jj_lkV RX8 315 yX0_noiseOfAll cX0_noiseOfAll 3 (some .int) 0 := ⟨jj_nm_of (by decide +kernel), jj_gw 806 (by decide +kernel) rfl, jj_gw 807 (by decide +kernel) rfl, jj_gw 808 (by decide +kernel) rfl, jj_gw 49 (by decide +kernel) rfl, jj_gw 809 (by decide +kernel) rfl⟩
theorem lk_X8_318 : jj_lkV RX8 318 yX8_requireJoinable cX8_requireJoinable 6 none 1 := ⟨jj_nm_of (by decide +kernel), jj_gw 818 (by decide +kernel) rfl, jj_gw 820 (by decide +kernel) rfl, jj_gw 10 (by decide +kernel) rfl, jj_gw 33 (by decide +kernel) rfl, jj_gw 821 (by decide +kernel) rfl⟩
theorem lk_X8_321 : jj_lkV RX8 321 yX8_leastNoisy cX8_leastNoisy 7 (some .int) 2 := ⟨jj_nm_of (by decide +kernel), jj_gw 824 (by decide +kernel) rfl, jj_gw 826 (by decide +kernel) rfl, jj_gw 11 (by decide +kernel) rfl, jj_gw 33 (by decide +kernel) rfl, jj_gw 827 (by decide +kernel) rfl⟩
theorem lk_X8_324 : jj_lkV RX8 324 yX5_begin cX5_begin 1 none 0 := ⟨jj_nm_of (by decide +kernel), jj_gw 835 (by decide +kernel) rfl, jj_gw 836 (by decide +kernel) rfl, jj_gw 837 (by decide +kernel) rfl, jj_gw 35 (by decide +kernel) rfl, jj_gw 838 (by decide +kernel) rfl⟩
theorem lk_X8_327 : jj_lkV RX8 327 yX5_write cX5_write 3 none 2 := ⟨jj_nm_of (by decide +kernel), jj_gw 839 (by decide +kernel) rfl, jj_gw 840 (by decide +kernel) rfl, jj_gw 841 (by decide +kernel) rfl, jj_gw 35 (by decide +kernel) rfl, jj_gw 842 (by decide +kernel) rfl⟩
theorem lk_X8_339 : jj_lkV RX8 339 yX5_halve cX5_halve 3 (some .int) 1 := ⟨jj_nm_of (by decide +kernel), jj_gw 851 (by decide +kernel) rfl, jj_gw 852 (by decide +kernel) rfl, jj_gw 853 (by decide +kernel) rfl, jj_gw 35 (by decide +kernel) rfl, jj_gw 854 (by decide +kernel) rfl⟩
theorem lk_X8_344 : jj_lkV RX8 344 yX5_takeBackLatest cX5_takeBackLatest 2 (some .int) 0 := ⟨jj_nm_of (by decide +kernel), jj_gw 868 (by decide +kernel) rfl, jj_gw 869 (by decide +kernel) rfl, jj_gw 870 (by decide +kernel) rfl, jj_gw 35 (by decide +kernel) rfl, jj_gw 871 (by decide +kernel) rfl⟩
theorem lk_X8_347 : jj_lkV RX8 347 yX5_noiseOf cX5_noiseOf 2 (some .int) 1 := ⟨jj_nm_of (by decide +kernel), jj_gw 879 (by decide +kernel) rfl, jj_gw 856 (by decide +kernel) rfl, jj_gw 857 (by decide +kernel) rfl, jj_gw 35 (by decide +kernel) rfl, jj_gw 858 (by decide +kernel) rfl⟩
theorem lk_X8_357 : jj_lkV RX8 357 yX2_dueOfAllSales cX2_dueOfAllSales 7 (some .int) 1 := ⟨jj_nm_of (by decide +kernel), jj_gw 903 (by decide +kernel) rfl, jj_gw 904 (by decide +kernel) rfl, jj_gw 905 (by decide +kernel) rfl, jj_gw 36 (by decide +kernel) rfl, jj_gw 906 (by decide +kernel) rfl⟩
theorem ml_X8_363 : Cond.methodLink RX8 363 Lib.Math.max.name ∈ jj_GW := jj_gw 474 (by decide +kernel) rfl
theorem ml_X8_396 : Cond.methodLink RX8 396 Lib.Math.min.name ∈ jj_GW := jj_gw 473 (by decide +kernel) rfl
theorem lk_X8_415 : jj_lkV RX8 415 yX7_spanLength cX7_spanLength 2 (some .int) 1 := ⟨jj_nm_of (by decide +kernel), jj_gw 558 (by decide +kernel) rfl, jj_gw 392 (by decide +kernel) rfl, jj_gw 393 (by decide +kernel) rfl, jj_gw 44 (by decide +kernel) rfl, jj_gw 394 (by decide +kernel) rfl⟩
theorem lk_X8_418 : jj_lkV RX8 418 yX4_addSpan cX4_addSpan 4 none 3 := ⟨jj_nm_of (by decide +kernel), jj_gw 559 (by decide +kernel) rfl, jj_gw 560 (by decide +kernel) rfl, jj_gw 561 (by decide +kernel) rfl, jj_gw 46 (by decide +kernel) rfl, jj_gw 562 (by decide +kernel) rfl⟩
theorem ml_X0_3 : Cond.methodLink RX0 3 Lib.objectInit ∈ jj_GW := jj_gw 747 (by decide +kernel) rfl
theorem lk_X0_23 : jj_lkV RX0 23 yX0_noiseOf cX0_noiseOf 3 (some .int) 1 := ⟨jj_nm_of (by decide +kernel), jj_gw 810 (by decide +kernel) rfl, jj_gw 789 (by decide +kernel) rfl, jj_gw 790 (by decide +kernel) rfl, jj_gw 49 (by decide +kernel) rfl, jj_gw 791 (by decide +kernel) rfl⟩
theorem ml_X1_3 : Cond.methodLink RX1 3 Lib.objectInit ∈ jj_GW := jj_gw 65 (by decide +kernel) rfl
theorem lk_X1_21 : jj_lkV RX1 21 yX7_isPlayable cX7_isPlayable 2 (some .boolean) 1 := ⟨jj_nm_of (by decide +kernel), jj_gw 518 (by decide +kernel) rfl, jj_gw 383 (by decide +kernel) rfl, jj_gw 384 (by decide +kernel) rfl, jj_gw 44 (by decide +kernel) rfl, jj_gw 385 (by decide +kernel) rfl⟩
theorem ml_X1_28 : Cond.methodLink RX1 28 Lib.Math.max.name ∈ jj_GW := jj_gw 524 (by decide +kernel) rfl
theorem ml_X2_3 : Cond.methodLink RX2 3 Lib.objectInit ∈ jj_GW := jj_gw 110 (by decide +kernel) rfl
theorem lk_X2_34 : jj_lkV RX2 34 yX3_dueTo cX3_dueTo 4 (some .int) 1 := ⟨jj_nm_of (by decide +kernel), jj_gw 706 (by decide +kernel) rfl, jj_gw 707 (by decide +kernel) rfl, jj_gw 708 (by decide +kernel) rfl, jj_gw 48 (by decide +kernel) rfl, jj_gw 709 (by decide +kernel) rfl⟩
theorem ml_X2_45 : Cond.methodLink RX2 45 Lib.Math.min.name ∈ jj_GW := jj_gw 729 (by decide +kernel) rfl
theorem lk_X2_51 : jj_lkV RX2 51 yX2_lessen cX2_lessen 4 none 2 := ⟨jj_nm_of (by decide +kernel), jj_gw 730 (by decide +kernel) rfl, jj_gw 732 (by decide +kernel) rfl, jj_gw 8 (by decide +kernel) rfl, jj_gw 36 (by decide +kernel) rfl, jj_gw 733 (by decide +kernel) rfl⟩
theorem ml_X3_3 : Cond.methodLink RX3 3 Lib.objectInit ∈ jj_GW := jj_gw 686 (by decide +kernel) rfl
theorem lk_X3_34 : jj_lkV RX3 34 yX4_secondsOf cX4_secondsOf 2 (some .int) 1 := ⟨jj_nm_of (by decide +kernel), jj_gw 711 (by decide +kernel) rfl, jj_gw 576 (by decide +kernel) rfl, jj_gw 577 (by decide +kernel) rfl, jj_gw 46 (by decide +kernel) rfl, jj_gw 578 (by decide +kernel) rfl⟩
theorem ml_X4_3 : Cond.methodLink RX4 3 Lib.objectInit ∈ jj_GW := jj_gw 535 (by decide +kernel) rfl
theorem lk_X4_28 : jj_lkI RX4 28 yX6_init cX6_init 2 1 := ⟨jj_nm_of (by decide +kernel), rfl, jj_gw 604 (by decide +kernel) rfl, jj_gw 605 (by decide +kernel) rfl, jj_gw 47 (by decide +kernel) rfl, jj_gw 606 (by decide +kernel) rfl⟩
theorem lk_X4_34 : jj_lkV RX4 34 yX6_stillSold cX6_stillSold 1 (some .int) 0 := ⟨jj_nm_of (by decide +kernel), jj_gw 490 (by decide +kernel) rfl, jj_gw 491 (by decide +kernel) rfl, jj_gw 492 (by decide +kernel) rfl, jj_gw 47 (by decide +kernel) rfl, jj_gw 493 (by decide +kernel) rfl⟩
theorem ml_X5_3 : Cond.methodLink RX5 3 Lib.objectInit ∈ jj_GW := jj_gw 85 (by decide +kernel) rfl
theorem lk_X5_29 : jj_lkV RX5 29 yX5_noiseOf cX5_noiseOf 2 (some .int) 1 := ⟨jj_nm_of (by decide +kernel), jj_gw 855 (by decide +kernel) rfl, jj_gw 856 (by decide +kernel) rfl, jj_gw 857 (by decide +kernel) rfl, jj_gw 35 (by decide +kernel) rfl, jj_gw 858 (by decide +kernel) rfl⟩
theorem lk_X5_33 : jj_lkV RX5 33 yX5_write cX5_write 3 none 2 := ⟨jj_nm_of (by decide +kernel), jj_gw 859 (by decide +kernel) rfl, jj_gw 840 (by decide +kernel) rfl, jj_gw 841 (by decide +kernel) rfl, jj_gw 35 (by decide +kernel) rfl, jj_gw 842 (by decide +kernel) rfl⟩
theorem ml_X6_3 : Cond.methodLink RX6 3 Lib.objectInit ∈ jj_GW := jj_gw 607 (by decide +kernel) rfl
theorem lk_X6_30 : jj_lkV RX6 30 yX6_stillSold cX6_stillSold 1 (some .int) 0 := ⟨jj_nm_of (by decide +kernel), jj_gw 723 (by decide +kernel) rfl, jj_gw 491 (by decide +kernel) rfl, jj_gw 492 (by decide +kernel) rfl, jj_gw 47 (by decide +kernel) rfl, jj_gw 493 (by decide +kernel) rfl⟩
theorem ml_X7_3 : Cond.methodLink RX7 3 Lib.objectInit ∈ jj_GW := jj_gw 300 (by decide +kernel) rfl
theorem lk_X7_50 : jj_lkV RX7 50 yX7_append cX7_append 4 none 3 := ⟨jj_nm_of (by decide +kernel), jj_gw 301 (by decide +kernel) rfl, jj_gw 303 (by decide +kernel) rfl, jj_gw 2 (by decide +kernel) rfl, jj_gw 44 (by decide +kernel) rfl, jj_gw 304 (by decide +kernel) rfl⟩
theorem ml_X7_54 : Cond.methodLink RX7 54 Lib.Math.max.name ∈ jj_GW := jj_gw 399 (by decide +kernel) rfl
theorem lk_X7_60 : jj_lkV RX7 60 yX7_copy cX7_copy 8 none 3 := ⟨jj_nm_of (by decide +kernel), jj_gw 402 (by decide +kernel) rfl, jj_gw 404 (by decide +kernel) rfl, jj_gw 5 (by decide +kernel) rfl, jj_gw 44 (by decide +kernel) rfl, jj_gw 405 (by decide +kernel) rfl⟩
theorem lk_X7_73 : jj_lkV RX7 73 yX7_spanLength cX7_spanLength 2 (some .int) 1 := ⟨jj_nm_of (by decide +kernel), jj_gw 391 (by decide +kernel) rfl, jj_gw 392 (by decide +kernel) rfl, jj_gw 393 (by decide +kernel) rfl, jj_gw 44 (by decide +kernel) rfl, jj_gw 394 (by decide +kernel) rfl⟩
theorem ml_X7_77 : Cond.methodLink RX7 77 Lib.Math.min.name ∈ jj_GW := jj_gw 406 (by decide +kernel) rfl
theorem lk_L_7 : jj_lkV RL 7 yX8_session cX8_session 5 (some .int) 3 := ⟨jj_nm_of (by decide +kernel), jj_gw 181 (by decide +kernel) rfl, jj_gw 182 (by decide +kernel) rfl, jj_gw 183 (by decide +kernel) rfl, jj_gw 33 (by decide +kernel) rfl, jj_gw 184 (by decide +kernel) rfl⟩
theorem lk_L_19 : jj_lkV RL 19 yX8_splice cX8_splice 10 (some .int) 5 := ⟨jj_nm_of (by decide +kernel), jj_gw 368 (by decide +kernel) rfl, jj_gw 369 (by decide +kernel) rfl, jj_gw 370 (by decide +kernel) rfl, jj_gw 33 (by decide +kernel) rfl, jj_gw 371 (by decide +kernel) rfl⟩
theorem lk_L_23 : jj_lkV RL 23 yX8_shed cX8_shed 3 none 1 := ⟨jj_nm_of (by decide +kernel), jj_gw 412 (by decide +kernel) rfl, jj_gw 413 (by decide +kernel) rfl, jj_gw 414 (by decide +kernel) rfl, jj_gw 33 (by decide +kernel) rfl, jj_gw 415 (by decide +kernel) rfl⟩
theorem lk_L_27 : jj_lkV RL 27 yX8_bake cX8_bake 3 (some .int) 1 := ⟨jj_nm_of (by decide +kernel), jj_gw 420 (by decide +kernel) rfl, jj_gw 421 (by decide +kernel) rfl, jj_gw 422 (by decide +kernel) rfl, jj_gw 33 (by decide +kernel) rfl, jj_gw 423 (by decide +kernel) rfl⟩
theorem lk_L_31 : jj_lkV RL 31 yX8_fire cX8_fire 7 (some .int) 1 := ⟨jj_nm_of (by decide +kernel), jj_gw 428 (by decide +kernel) rfl, jj_gw 429 (by decide +kernel) rfl, jj_gw 430 (by decide +kernel) rfl, jj_gw 33 (by decide +kernel) rfl, jj_gw 431 (by decide +kernel) rfl⟩
theorem lk_L_34 : jj_lkV RL 34 yX8_tapeIs cX8_tapeIs 4 (some .int) 2 := ⟨jj_nm_of (by decide +kernel), jj_gw 435 (by decide +kernel) rfl, jj_gw 436 (by decide +kernel) rfl, jj_gw 437 (by decide +kernel) rfl, jj_gw 33 (by decide +kernel) rfl, jj_gw 438 (by decide +kernel) rfl⟩
theorem lk_L_38 : jj_lkV RL 38 yX8_heard cX8_heard 4 (some .int) 2 := ⟨jj_nm_of (by decide +kernel), jj_gw 443 (by decide +kernel) rfl, jj_gw 444 (by decide +kernel) rfl, jj_gw 445 (by decide +kernel) rfl, jj_gw 33 (by decide +kernel) rfl, jj_gw 446 (by decide +kernel) rfl⟩
theorem lk_L_41 : jj_lkV RL 41 yX8_takes cX8_takes 2 (some .int) 1 := ⟨jj_nm_of (by decide +kernel), jj_gw 455 (by decide +kernel) rfl, jj_gw 456 (by decide +kernel) rfl, jj_gw 457 (by decide +kernel) rfl, jj_gw 33 (by decide +kernel) rfl, jj_gw 458 (by decide +kernel) rfl⟩
theorem lk_L_44 : jj_lkV RL 44 yX8_takesAnew cX8_takesAnew 2 (some .int) 1 := ⟨jj_nm_of (by decide +kernel), jj_gw 466 (by decide +kernel) rfl, jj_gw 467 (by decide +kernel) rfl, jj_gw 468 (by decide +kernel) rfl, jj_gw 33 (by decide +kernel) rfl, jj_gw 469 (by decide +kernel) rfl⟩
theorem lk_L_47 : jj_lkV RL 47 yX8_isLost cX8_isLost 6 (some .boolean) 1 := ⟨jj_nm_of (by decide +kernel), jj_gw 478 (by decide +kernel) rfl, jj_gw 479 (by decide +kernel) rfl, jj_gw 480 (by decide +kernel) rfl, jj_gw 33 (by decide +kernel) rfl, jj_gw 481 (by decide +kernel) rfl⟩
theorem lk_L_51 : jj_lkV RL 51 yX8_add cX8_add 3 (some .int) 1 := ⟨jj_nm_of (by decide +kernel), jj_gw 497 (by decide +kernel) rfl, jj_gw 498 (by decide +kernel) rfl, jj_gw 499 (by decide +kernel) rfl, jj_gw 33 (by decide +kernel) rfl, jj_gw 500 (by decide +kernel) rfl⟩
theorem lk_L_54 : jj_lkV RL 54 yX8_cut cX8_cut 3 (some .int) 1 := ⟨jj_nm_of (by decide +kernel), jj_gw 509 (by decide +kernel) rfl, jj_gw 510 (by decide +kernel) rfl, jj_gw 511 (by decide +kernel) rfl, jj_gw 33 (by decide +kernel) rfl, jj_gw 512 (by decide +kernel) rfl⟩
theorem lk_L_57 : jj_lkV RL 57 yX8_seconds cX8_seconds 4 (some .int) 2 := ⟨jj_nm_of (by decide +kernel), jj_gw 566 (by decide +kernel) rfl, jj_gw 567 (by decide +kernel) rfl, jj_gw 568 (by decide +kernel) rfl, jj_gw 33 (by decide +kernel) rfl, jj_gw 569 (by decide +kernel) rfl⟩
theorem lk_L_60 : jj_lkV RL 60 yX8_stamper cX8_stamper 6 (some .int) 3 := ⟨jj_nm_of (by decide +kernel), jj_gw 582 (by decide +kernel) rfl, jj_gw 583 (by decide +kernel) rfl, jj_gw 584 (by decide +kernel) rfl, jj_gw 33 (by decide +kernel) rfl, jj_gw 585 (by decide +kernel) rfl⟩
theorem lk_L_63 : jj_lkV RL 63 yX8_press cX8_press 6 (some .int) 4 := ⟨jj_nm_of (by decide +kernel), jj_gw 640 (by decide +kernel) rfl, jj_gw 641 (by decide +kernel) rfl, jj_gw 642 (by decide +kernel) rfl, jj_gw 33 (by decide +kernel) rfl, jj_gw 643 (by decide +kernel) rfl⟩
theorem lk_L_67 : jj_lkV RL 67 yX8_stamperIs cX8_stamperIs 6 (some .int) 4 := ⟨jj_nm_of (by decide +kernel), jj_gw 652 (by decide +kernel) rfl, jj_gw 653 (by decide +kernel) rfl, jj_gw 654 (by decide +kernel) rfl, jj_gw 33 (by decide +kernel) rfl, jj_gw 655 (by decide +kernel) rfl⟩
theorem lk_L_70 : jj_lkV RL 70 yX8_sell cX8_sell 7 (some .int) 4 := ⟨jj_nm_of (by decide +kernel), jj_gw 660 (by decide +kernel) rfl, jj_gw 661 (by decide +kernel) rfl, jj_gw 662 (by decide +kernel) rfl, jj_gw 33 (by decide +kernel) rfl, jj_gw 663 (by decide +kernel) rfl⟩
theorem lk_L_73 : jj_lkV RL 73 yX8_back cX8_back 6 (some .int) 4 := ⟨jj_nm_of (by decide +kernel), jj_gw 715 (by decide +kernel) rfl, jj_gw 716 (by decide +kernel) rfl, jj_gw 717 (by decide +kernel) rfl, jj_gw 33 (by decide +kernel) rfl, jj_gw 718 (by decide +kernel) rfl⟩
theorem lk_L_76 : jj_lkV RL 76 yX8_disc cX8_disc 7 (some .int) 3 := ⟨jj_nm_of (by decide +kernel), jj_gw 737 (by decide +kernel) rfl, jj_gw 738 (by decide +kernel) rfl, jj_gw 739 (by decide +kernel) rfl, jj_gw 33 (by decide +kernel) rfl, jj_gw 740 (by decide +kernel) rfl⟩
theorem lk_L_79 : jj_lkV RL 79 yX8_play cX8_play 5 (some .int) 3 := ⟨jj_nm_of (by decide +kernel), jj_gw 763 (by decide +kernel) rfl, jj_gw 764 (by decide +kernel) rfl, jj_gw 765 (by decide +kernel) rfl, jj_gw 33 (by decide +kernel) rfl, jj_gw 766 (by decide +kernel) rfl⟩
theorem lk_L_82 : jj_lkV RL 82 yX8_scratch cX8_scratch 4 (some .int) 2 := ⟨jj_nm_of (by decide +kernel), jj_gw 776 (by decide +kernel) rfl, jj_gw 777 (by decide +kernel) rfl, jj_gw 778 (by decide +kernel) rfl, jj_gw 33 (by decide +kernel) rfl, jj_gw 779 (by decide +kernel) rfl⟩
theorem lk_L_85 : jj_lkV RL 85 yX8_noise cX8_noise 4 (some .int) 2 := ⟨jj_nm_of (by decide +kernel), jj_gw 795 (by decide +kernel) rfl, jj_gw 796 (by decide +kernel) rfl, jj_gw 797 (by decide +kernel) rfl, jj_gw 33 (by decide +kernel) rfl, jj_gw 798 (by decide +kernel) rfl⟩
theorem lk_L_88 : jj_lkV RL 88 yX8_grade cX8_grade 3 (some .int) 1 := ⟨jj_nm_of (by decide +kernel), jj_gw 802 (by decide +kernel) rfl, jj_gw 803 (by decide +kernel) rfl, jj_gw 804 (by decide +kernel) rfl, jj_gw 33 (by decide +kernel) rfl, jj_gw 805 (by decide +kernel) rfl⟩
theorem lk_L_91 : jj_lkV RL 91 yX8_join cX8_join 3 (some .int) 2 := ⟨jj_nm_of (by decide +kernel), jj_gw 814 (by decide +kernel) rfl, jj_gw 815 (by decide +kernel) rfl, jj_gw 816 (by decide +kernel) rfl, jj_gw 33 (by decide +kernel) rfl, jj_gw 817 (by decide +kernel) rfl⟩
theorem lk_L_94 : jj_lkV RL 94 yX8_file cX8_file 5 (some .int) 1 := ⟨jj_nm_of (by decide +kernel), jj_gw 831 (by decide +kernel) rfl, jj_gw 832 (by decide +kernel) rfl, jj_gw 833 (by decide +kernel) rfl, jj_gw 33 (by decide +kernel) rfl, jj_gw 834 (by decide +kernel) rfl⟩
theorem lk_L_97 : jj_lkV RL 97 yX8_repair cX8_repair 2 (some .int) 1 := ⟨jj_nm_of (by decide +kernel), jj_gw 846 (by decide +kernel) rfl, jj_gw 847 (by decide +kernel) rfl, jj_gw 848 (by decide +kernel) rfl, jj_gw 33 (by decide +kernel) rfl, jj_gw 849 (by decide +kernel) rfl⟩
theorem lk_L_100 : jj_lkV RL 100 yX8_undo cX8_undo 1 (some .int) 0 := ⟨jj_nm_of (by decide +kernel), jj_gw 863 (by decide +kernel) rfl, jj_gw 864 (by decide +kernel) rfl, jj_gw 865 (by decide +kernel) rfl, jj_gw 33 (by decide +kernel) rfl, jj_gw 866 (by decide +kernel) rfl⟩
theorem lk_L_104 : jj_lkV RL 104 yX8_fileIs cX8_fileIs 2 (some .int) 1 := ⟨jj_nm_of (by decide +kernel), jj_gw 875 (by decide +kernel) rfl, jj_gw 876 (by decide +kernel) rfl, jj_gw 877 (by decide +kernel) rfl, jj_gw 33 (by decide +kernel) rfl, jj_gw 878 (by decide +kernel) rfl⟩
theorem lk_L_107 : jj_lkV RL 107 yX8_contract cX8_contract 4 (some .int) 3 := ⟨jj_nm_of (by decide +kernel), jj_gw 883 (by decide +kernel) rfl, jj_gw 884 (by decide +kernel) rfl, jj_gw 885 (by decide +kernel) rfl, jj_gw 33 (by decide +kernel) rfl, jj_gw 886 (by decide +kernel) rfl⟩
theorem lk_L_110 : jj_lkV RL 110 yX8_account cX8_account 2 (some .int) 1 := ⟨jj_nm_of (by decide +kernel), jj_gw 892 (by decide +kernel) rfl, jj_gw 893 (by decide +kernel) rfl, jj_gw 894 (by decide +kernel) rfl, jj_gw 33 (by decide +kernel) rfl, jj_gw 895 (by decide +kernel) rfl⟩
theorem lk_L_113 : jj_lkV RL 113 yX8_accountAnew cX8_accountAnew 2 (some .int) 1 := ⟨jj_nm_of (by decide +kernel), jj_gw 899 (by decide +kernel) rfl, jj_gw 900 (by decide +kernel) rfl, jj_gw 901 (by decide +kernel) rfl, jj_gw 33 (by decide +kernel) rfl, jj_gw 902 (by decide +kernel) rfl⟩
theorem lk_L_116 : jj_lkV RL 116 yX8_payOut cX8_payOut 3 (some .int) 1 := ⟨jj_nm_of (by decide +kernel), jj_gw 910 (by decide +kernel) rfl, jj_gw 911 (by decide +kernel) rfl, jj_gw 912 (by decide +kernel) rfl, jj_gw 33 (by decide +kernel) rfl, jj_gw 913 (by decide +kernel) rfl⟩
theorem lk_L_119 : jj_lkV RL 119 yX8_pass cX8_pass 2 (some .int) 1 := ⟨jj_nm_of (by decide +kernel), jj_gw 917 (by decide +kernel) rfl, jj_gw 918 (by decide +kernel) rfl, jj_gw 919 (by decide +kernel) rfl, jj_gw 33 (by decide +kernel) rfl, jj_gw 920 (by decide +kernel) rfl⟩
theorem lk_L_122 : jj_lkI RL 122 yX8_init cX8_init 1 0 := ⟨jj_nm_of (by decide +kernel), rfl, jj_gw 52 (by decide +kernel) rfl, jj_gw 53 (by decide +kernel) rfl, jj_gw 33 (by decide +kernel) rfl, jj_gw 54 (by decide +kernel) rfl⟩
theorem lk_L_125 : jj_lkI RL 125 yX9_init cX9_init 2 0 := ⟨jj_nm_of (by decide +kernel), rfl, jj_gw 925 (by decide +kernel) rfl, jj_gw 926 (by decide +kernel) rfl, jj_gw 37 (by decide +kernel) rfl, jj_gw 927 (by decide +kernel) rfl⟩
theorem lk_L_131 : jj_lkV RL 131 yX9_session cX9_session 5 (some .int) 3 := ⟨jj_nm_of (by decide +kernel), jj_gw 1048 (by decide +kernel) rfl, jj_gw 1049 (by decide +kernel) rfl, jj_gw 1050 (by decide +kernel) rfl, jj_gw 37 (by decide +kernel) rfl, jj_gw 1051 (by decide +kernel) rfl⟩
theorem lk_L_132 : jj_lkV RL 132 yX9_thrown cX9_thrown 1 (some .int) 0 := ⟨jj_nm_of (by decide +kernel), jj_gw 1044 (by decide +kernel) rfl, jj_gw 1045 (by decide +kernel) rfl, jj_gw 1046 (by decide +kernel) rfl, jj_gw 37 (by decide +kernel) rfl, jj_gw 1047 (by decide +kernel) rfl⟩
theorem lk_L_138 : jj_lkV RL 138 yX9_splice cX9_splice 11 (some .int) 5 := ⟨jj_nm_of (by decide +kernel), jj_gw 1073 (by decide +kernel) rfl, jj_gw 1074 (by decide +kernel) rfl, jj_gw 1075 (by decide +kernel) rfl, jj_gw 37 (by decide +kernel) rfl, jj_gw 1076 (by decide +kernel) rfl⟩
theorem lk_L_142 : jj_lkV RL 142 yX9_shed cX9_shed 3 none 1 := ⟨jj_nm_of (by decide +kernel), jj_gw 1097 (by decide +kernel) rfl, jj_gw 1098 (by decide +kernel) rfl, jj_gw 1099 (by decide +kernel) rfl, jj_gw 37 (by decide +kernel) rfl, jj_gw 1100 (by decide +kernel) rfl⟩
theorem lk_L_146 : jj_lkV RL 146 yX9_bake cX9_bake 3 (some .int) 1 := ⟨jj_nm_of (by decide +kernel), jj_gw 1101 (by decide +kernel) rfl, jj_gw 1102 (by decide +kernel) rfl, jj_gw 1103 (by decide +kernel) rfl, jj_gw 37 (by decide +kernel) rfl, jj_gw 1104 (by decide +kernel) rfl⟩
theorem lk_L_149 : jj_lkV RL 149 yX9_fire cX9_fire 4 (some .int) 1 := ⟨jj_nm_of (by decide +kernel), jj_gw 1105 (by decide +kernel) rfl, jj_gw 1106 (by decide +kernel) rfl, jj_gw 1107 (by decide +kernel) rfl, jj_gw 37 (by decide +kernel) rfl, jj_gw 1108 (by decide +kernel) rfl⟩
theorem lk_L_153 : jj_lkV RL 153 yX9_tapeIs cX9_tapeIs 3 (some .int) 2 := ⟨jj_nm_of (by decide +kernel), jj_gw 1109 (by decide +kernel) rfl, jj_gw 1110 (by decide +kernel) rfl, jj_gw 1111 (by decide +kernel) rfl, jj_gw 37 (by decide +kernel) rfl, jj_gw 1112 (by decide +kernel) rfl⟩
theorem lk_L_156 : jj_lkV RL 156 yX9_heard cX9_heard 6 (some .int) 2 := ⟨jj_nm_of (by decide +kernel), jj_gw 1113 (by decide +kernel) rfl, jj_gw 1114 (by decide +kernel) rfl, jj_gw 1115 (by decide +kernel) rfl, jj_gw 37 (by decide +kernel) rfl, jj_gw 1116 (by decide +kernel) rfl⟩
theorem lk_L_159 : jj_lkV RL 159 yX9_takes cX9_takes 2 (some .int) 1 := ⟨jj_nm_of (by decide +kernel), jj_gw 1117 (by decide +kernel) rfl, jj_gw 1118 (by decide +kernel) rfl, jj_gw 1119 (by decide +kernel) rfl, jj_gw 37 (by decide +kernel) rfl, jj_gw 1120 (by decide +kernel) rfl⟩
theorem lk_L_162 : jj_lkV RL 162 yX9_takesAnew cX9_takesAnew 2 (some .int) 1 := ⟨jj_nm_of (by decide +kernel), jj_gw 1125 (by decide +kernel) rfl, jj_gw 1126 (by decide +kernel) rfl, jj_gw 1127 (by decide +kernel) rfl, jj_gw 37 (by decide +kernel) rfl, jj_gw 1128 (by decide +kernel) rfl⟩
theorem lk_L_165 : jj_lkV RL 165 yX9_isLost cX9_isLost 4 (some .boolean) 1 := ⟨jj_nm_of (by decide +kernel), jj_gw 1129 (by decide +kernel) rfl, jj_gw 1130 (by decide +kernel) rfl, jj_gw 1131 (by decide +kernel) rfl, jj_gw 37 (by decide +kernel) rfl, jj_gw 1132 (by decide +kernel) rfl⟩
theorem lk_L_168 : jj_lkV RL 168 yX9_add cX9_add 3 (some .int) 1 := ⟨jj_nm_of (by decide +kernel), jj_gw 1133 (by decide +kernel) rfl, jj_gw 1134 (by decide +kernel) rfl, jj_gw 1135 (by decide +kernel) rfl, jj_gw 37 (by decide +kernel) rfl, jj_gw 1136 (by decide +kernel) rfl⟩
theorem lk_L_169 : jj_lkV RL 169 yX8_clear cX8_clear 2 (some .int) 0 := ⟨jj_nm_of (by decide +kernel), jj_gw 167 (by decide +kernel) rfl, jj_gw 168 (by decide +kernel) rfl, jj_gw 169 (by decide +kernel) rfl, jj_gw 33 (by decide +kernel) rfl, jj_gw 170 (by decide +kernel) rfl⟩
theorem lk_L_172 : jj_lkV RL 172 yX9_clear cX9_clear 2 (some .int) 0 := ⟨jj_nm_of (by decide +kernel), jj_gw 1137 (by decide +kernel) rfl, jj_gw 1138 (by decide +kernel) rfl, jj_gw 1139 (by decide +kernel) rfl, jj_gw 37 (by decide +kernel) rfl, jj_gw 1140 (by decide +kernel) rfl⟩
theorem lk_L_175 : jj_lkV RL 175 yX9_cut cX9_cut 5 (some .int) 1 := ⟨jj_nm_of (by decide +kernel), jj_gw 1141 (by decide +kernel) rfl, jj_gw 1142 (by decide +kernel) rfl, jj_gw 1143 (by decide +kernel) rfl, jj_gw 37 (by decide +kernel) rfl, jj_gw 1144 (by decide +kernel) rfl⟩
theorem lk_L_178 : jj_lkV RL 178 yX9_seconds cX9_seconds 3 (some .int) 2 := ⟨jj_nm_of (by decide +kernel), jj_gw 1149 (by decide +kernel) rfl, jj_gw 1150 (by decide +kernel) rfl, jj_gw 1151 (by decide +kernel) rfl, jj_gw 37 (by decide +kernel) rfl, jj_gw 1152 (by decide +kernel) rfl⟩
theorem lk_L_181 : jj_lkV RL 181 yX9_stamper cX9_stamper 9 (some .int) 3 := ⟨jj_nm_of (by decide +kernel), jj_gw 1157 (by decide +kernel) rfl, jj_gw 1158 (by decide +kernel) rfl, jj_gw 1159 (by decide +kernel) rfl, jj_gw 37 (by decide +kernel) rfl, jj_gw 1160 (by decide +kernel) rfl⟩
theorem lk_L_185 : jj_lkV RL 185 yX9_press cX9_press 7 (some .int) 4 := ⟨jj_nm_of (by decide +kernel), jj_gw 1171 (by decide +kernel) rfl, jj_gw 1172 (by decide +kernel) rfl, jj_gw 1173 (by decide +kernel) rfl, jj_gw 37 (by decide +kernel) rfl, jj_gw 1174 (by decide +kernel) rfl⟩
theorem lk_L_188 : jj_lkV RL 188 yX9_stamperIs cX9_stamperIs 7 (some .int) 4 := ⟨jj_nm_of (by decide +kernel), jj_gw 1175 (by decide +kernel) rfl, jj_gw 1176 (by decide +kernel) rfl, jj_gw 1177 (by decide +kernel) rfl, jj_gw 37 (by decide +kernel) rfl, jj_gw 1178 (by decide +kernel) rfl⟩
theorem lk_L_191 : jj_lkV RL 191 yX9_sell cX9_sell 8 (some .int) 4 := ⟨jj_nm_of (by decide +kernel), jj_gw 1179 (by decide +kernel) rfl, jj_gw 1180 (by decide +kernel) rfl, jj_gw 1181 (by decide +kernel) rfl, jj_gw 37 (by decide +kernel) rfl, jj_gw 1182 (by decide +kernel) rfl⟩
theorem lk_L_194 : jj_lkV RL 194 yX9_back cX9_back 10 (some .int) 4 := ⟨jj_nm_of (by decide +kernel), jj_gw 1188 (by decide +kernel) rfl, jj_gw 1189 (by decide +kernel) rfl, jj_gw 1190 (by decide +kernel) rfl, jj_gw 37 (by decide +kernel) rfl, jj_gw 1191 (by decide +kernel) rfl⟩
theorem lk_L_197 : jj_lkV RL 197 yX9_disc cX9_disc 6 (some .int) 3 := ⟨jj_nm_of (by decide +kernel), jj_gw 1200 (by decide +kernel) rfl, jj_gw 1201 (by decide +kernel) rfl, jj_gw 1202 (by decide +kernel) rfl, jj_gw 37 (by decide +kernel) rfl, jj_gw 1203 (by decide +kernel) rfl⟩
theorem lk_L_200 : jj_lkV RL 200 yX9_play cX9_play 4 (some .int) 3 := ⟨jj_nm_of (by decide +kernel), jj_gw 1204 (by decide +kernel) rfl, jj_gw 1205 (by decide +kernel) rfl, jj_gw 1206 (by decide +kernel) rfl, jj_gw 37 (by decide +kernel) rfl, jj_gw 1207 (by decide +kernel) rfl⟩
theorem lk_L_203 : jj_lkV RL 203 yX9_scratch cX9_scratch 3 (some .int) 2 := ⟨jj_nm_of (by decide +kernel), jj_gw 1212 (by decide +kernel) rfl, jj_gw 1213 (by decide +kernel) rfl, jj_gw 1214 (by decide +kernel) rfl, jj_gw 37 (by decide +kernel) rfl, jj_gw 1215 (by decide +kernel) rfl⟩
theorem lk_L_206 : jj_lkV RL 206 yX9_noise cX9_noise 3 (some .int) 2 := ⟨jj_nm_of (by decide +kernel), jj_gw 1223 (by decide +kernel) rfl, jj_gw 1224 (by decide +kernel) rfl, jj_gw 1225 (by decide +kernel) rfl, jj_gw 37 (by decide +kernel) rfl, jj_gw 1226 (by decide +kernel) rfl⟩
theorem lk_L_209 : jj_lkV RL 209 yX9_grade cX9_grade 4 (some .int) 1 := ⟨jj_nm_of (by decide +kernel), jj_gw 1227 (by decide +kernel) rfl, jj_gw 1228 (by decide +kernel) rfl, jj_gw 1229 (by decide +kernel) rfl, jj_gw 37 (by decide +kernel) rfl, jj_gw 1230 (by decide +kernel) rfl⟩
theorem lk_L_212 : jj_lkV RL 212 yX9_join cX9_join 3 (some .int) 2 := ⟨jj_nm_of (by decide +kernel), jj_gw 1231 (by decide +kernel) rfl, jj_gw 1232 (by decide +kernel) rfl, jj_gw 1233 (by decide +kernel) rfl, jj_gw 37 (by decide +kernel) rfl, jj_gw 1234 (by decide +kernel) rfl⟩
theorem lk_L_215 : jj_lkV RL 215 yX9_file cX9_file 4 (some .int) 1 := ⟨jj_nm_of (by decide +kernel), jj_gw 1247 (by decide +kernel) rfl, jj_gw 1248 (by decide +kernel) rfl, jj_gw 1249 (by decide +kernel) rfl, jj_gw 37 (by decide +kernel) rfl, jj_gw 1250 (by decide +kernel) rfl⟩
theorem lk_L_218 : jj_lkV RL 218 yX9_repair cX9_repair 2 (some .int) 1 := ⟨jj_nm_of (by decide +kernel), jj_gw 1251 (by decide +kernel) rfl, jj_gw 1252 (by decide +kernel) rfl, jj_gw 1253 (by decide +kernel) rfl, jj_gw 37 (by decide +kernel) rfl, jj_gw 1254 (by decide +kernel) rfl⟩
theorem lk_L_222 : jj_lkV RL 222 yX9_undo cX9_undo 1 (some .int) 0 := ⟨jj_nm_of (by decide +kernel), jj_gw 1255 (by decide +kernel) rfl, jj_gw 1256 (by decide +kernel) rfl, jj_gw 1257 (by decide +kernel) rfl, jj_gw 37 (by decide +kernel) rfl, jj_gw 1258 (by decide +kernel) rfl⟩
theorem lk_L_225 : jj_lkV RL 225 yX9_fileIs cX9_fileIs 2 (some .int) 1 := ⟨jj_nm_of (by decide +kernel), jj_gw 1259 (by decide +kernel) rfl, jj_gw 1260 (by decide +kernel) rfl, jj_gw 1261 (by decide +kernel) rfl, jj_gw 37 (by decide +kernel) rfl, jj_gw 1262 (by decide +kernel) rfl⟩
theorem lk_L_228 : jj_lkV RL 228 yX9_contract cX9_contract 4 (some .int) 3 := ⟨jj_nm_of (by decide +kernel), jj_gw 1263 (by decide +kernel) rfl, jj_gw 1264 (by decide +kernel) rfl, jj_gw 1265 (by decide +kernel) rfl, jj_gw 37 (by decide +kernel) rfl, jj_gw 1266 (by decide +kernel) rfl⟩
theorem lk_L_231 : jj_lkV RL 231 yX9_account cX9_account 2 (some .int) 1 := ⟨jj_nm_of (by decide +kernel), jj_gw 1268 (by decide +kernel) rfl, jj_gw 1269 (by decide +kernel) rfl, jj_gw 1270 (by decide +kernel) rfl, jj_gw 37 (by decide +kernel) rfl, jj_gw 1271 (by decide +kernel) rfl⟩
theorem lk_L_234 : jj_lkV RL 234 yX9_accountAnew cX9_accountAnew 2 (some .int) 1 := ⟨jj_nm_of (by decide +kernel), jj_gw 1272 (by decide +kernel) rfl, jj_gw 1273 (by decide +kernel) rfl, jj_gw 1274 (by decide +kernel) rfl, jj_gw 37 (by decide +kernel) rfl, jj_gw 1275 (by decide +kernel) rfl⟩
theorem lk_L_237 : jj_lkV RL 237 yX9_payOut cX9_payOut 3 (some .int) 1 := ⟨jj_nm_of (by decide +kernel), jj_gw 1276 (by decide +kernel) rfl, jj_gw 1277 (by decide +kernel) rfl, jj_gw 1278 (by decide +kernel) rfl, jj_gw 37 (by decide +kernel) rfl, jj_gw 1279 (by decide +kernel) rfl⟩
theorem lk_L_240 : jj_lkV RL 240 yX9_pass cX9_pass 3 (some .int) 1 := ⟨jj_nm_of (by decide +kernel), jj_gw 1280 (by decide +kernel) rfl, jj_gw 1281 (by decide +kernel) rfl, jj_gw 1282 (by decide +kernel) rfl, jj_gw 37 (by decide +kernel) rfl, jj_gw 1283 (by decide +kernel) rfl⟩
theorem ml_X9_1 : Cond.methodLink RX9 1 Lib.objectInit ∈ jj_GW := jj_gw 928 (by decide +kernel) rfl
theorem lk_X9_104 : jj_lkS RX9 104 yX9_isIn cX9_isIn 3 (some .boolean) 3 := ⟨jj_nm_of (by decide +kernel), jj_gw 1055 (by decide +kernel) rfl, jj_gw 1056 (by decide +kernel) rfl, jj_gw 37 (by decide +kernel) rfl, jj_gw 1057 (by decide +kernel) rfl⟩
theorem lk_X9_111 : jj_lkS RX9 111 yX9_isArtist cX9_isArtist 1 (some .boolean) 1 := ⟨jj_nm_of (by decide +kernel), jj_gw 1052 (by decide +kernel) rfl, jj_gw 1053 (by decide +kernel) rfl, jj_gw 37 (by decide +kernel) rfl, jj_gw 1054 (by decide +kernel) rfl⟩
theorem lk_X9_115 : jj_lkS RX9 115 yX9_isVault cX9_isVault 1 (some .boolean) 1 := ⟨jj_nm_of (by decide +kernel), jj_gw 1058 (by decide +kernel) rfl, jj_gw 1059 (by decide +kernel) rfl, jj_gw 37 (by decide +kernel) rfl, jj_gw 1060 (by decide +kernel) rfl⟩
theorem lk_X9_118 : jj_lkV RX9 118 yX9_goes cX9_goes 2 (some .boolean) 1 := ⟨jj_nm_of (by decide +kernel), jj_gw 1061 (by decide +kernel) rfl, jj_gw 1063 (by decide +kernel) rfl, jj_gw 12 (by decide +kernel) rfl, jj_gw 37 (by decide +kernel) rfl, jj_gw 1064 (by decide +kernel) rfl⟩
theorem lk_X9_121 : jj_lkV RX9 121 yX9_puts cX9_puts 5 none 3 := ⟨jj_nm_of (by decide +kernel), jj_gw 1065 (by decide +kernel) rfl, jj_gw 1067 (by decide +kernel) rfl, jj_gw 13 (by decide +kernel) rfl, jj_gw 37 (by decide +kernel) rfl, jj_gw 1068 (by decide +kernel) rfl⟩
theorem lk_X9_125 : jj_lkV RX9 125 yX9_makes cX9_makes 3 (some .int) 2 := ⟨jj_nm_of (by decide +kernel), jj_gw 1069 (by decide +kernel) rfl, jj_gw 1071 (by decide +kernel) rfl, jj_gw 14 (by decide +kernel) rfl, jj_gw 37 (by decide +kernel) rfl, jj_gw 1072 (by decide +kernel) rfl⟩
theorem lk_X9_129 : jj_lkV RX9 129 yX9_isTape cX9_isTape 2 (some .boolean) 1 := ⟨jj_nm_of (by decide +kernel), jj_gw 1077 (by decide +kernel) rfl, jj_gw 1079 (by decide +kernel) rfl, jj_gw 15 (by decide +kernel) rfl, jj_gw 37 (by decide +kernel) rfl, jj_gw 1080 (by decide +kernel) rfl⟩
theorem lk_X9_132 : jj_lkV RX9 132 yX9_length cX9_length 4 (some .int) 1 := ⟨jj_nm_of (by decide +kernel), jj_gw 1081 (by decide +kernel) rfl, jj_gw 1083 (by decide +kernel) rfl, jj_gw 16 (by decide +kernel) rfl, jj_gw 37 (by decide +kernel) rfl, jj_gw 1084 (by decide +kernel) rfl⟩
theorem lk_X9_136 : jj_lkV RX9 136 yX9_isPlayable cX9_isPlayable 2 (some .boolean) 1 := ⟨jj_nm_of (by decide +kernel), jj_gw 1085 (by decide +kernel) rfl, jj_gw 1087 (by decide +kernel) rfl, jj_gw 17 (by decide +kernel) rfl, jj_gw 37 (by decide +kernel) rfl, jj_gw 1088 (by decide +kernel) rfl⟩
theorem lk_X9_139 : jj_lkV RX9 139 yX9_spansIn cX9_spansIn 8 (some .int) 3 := ⟨jj_nm_of (by decide +kernel), jj_gw 1089 (by decide +kernel) rfl, jj_gw 1091 (by decide +kernel) rfl, jj_gw 18 (by decide +kernel) rfl, jj_gw 37 (by decide +kernel) rfl, jj_gw 1092 (by decide +kernel) rfl⟩
theorem lk_X9_143 : jj_lkV RX9 143 yX9_copies cX9_copies 9 none 3 := ⟨jj_nm_of (by decide +kernel), jj_gw 1093 (by decide +kernel) rfl, jj_gw 1095 (by decide +kernel) rfl, jj_gw 19 (by decide +kernel) rfl, jj_gw 37 (by decide +kernel) rfl, jj_gw 1096 (by decide +kernel) rfl⟩
theorem lk_X9_146 : jj_lkV RX9 146 yX9_takesOf cX9_takesOf 4 (some .int) 1 := ⟨jj_nm_of (by decide +kernel), jj_gw 1121 (by decide +kernel) rfl, jj_gw 1123 (by decide +kernel) rfl, jj_gw 20 (by decide +kernel) rfl, jj_gw 37 (by decide +kernel) rfl, jj_gw 1124 (by decide +kernel) rfl⟩
theorem lk_X9_155 : jj_lkV RX9 155 yX9_canCut cX9_canCut 5 (some .boolean) 1 := ⟨jj_nm_of (by decide +kernel), jj_gw 1145 (by decide +kernel) rfl, jj_gw 1147 (by decide +kernel) rfl, jj_gw 21 (by decide +kernel) rfl, jj_gw 37 (by decide +kernel) rfl, jj_gw 1148 (by decide +kernel) rfl⟩
theorem lk_X9_158 : jj_lkV RX9 158 yX9_secondsOf cX9_secondsOf 5 (some .int) 2 := ⟨jj_nm_of (by decide +kernel), jj_gw 1153 (by decide +kernel) rfl, jj_gw 1155 (by decide +kernel) rfl, jj_gw 22 (by decide +kernel) rfl, jj_gw 37 (by decide +kernel) rfl, jj_gw 1156 (by decide +kernel) rfl⟩
theorem lk_X9_161 : jj_lkV RX9 161 yX9_isNamed cX9_isNamed 4 (some .boolean) 3 := ⟨jj_nm_of (by decide +kernel), jj_gw 1161 (by decide +kernel) rfl, jj_gw 1163 (by decide +kernel) rfl, jj_gw 23 (by decide +kernel) rfl, jj_gw 37 (by decide +kernel) rfl, jj_gw 1164 (by decide +kernel) rfl⟩
theorem lk_X9_164 : jj_lkS RX9 164 yX9_stamperOf cX9_stamperOf 3 (some .int) 3 := ⟨jj_nm_of (by decide +kernel), jj_gw 1165 (by decide +kernel) rfl, jj_gw 1166 (by decide +kernel) rfl, jj_gw 37 (by decide +kernel) rfl, jj_gw 1167 (by decide +kernel) rfl⟩
theorem lk_X9_167 : jj_lkS RX9 167 yX9_needed cX9_needed 2 (some .int) 1 := ⟨jj_nm_of (by decide +kernel), jj_gw 1168 (by decide +kernel) rfl, jj_gw 1169 (by decide +kernel) rfl, jj_gw 37 (by decide +kernel) rfl, jj_gw 1170 (by decide +kernel) rfl⟩
theorem lk_X9_175 : jj_lkV RX9 175 yX9_dueOf cX9_dueOf 7 (some .int) 3 := ⟨jj_nm_of (by decide +kernel), jj_gw 1183 (by decide +kernel) rfl, jj_gw 1185 (by decide +kernel) rfl, jj_gw 24 (by decide +kernel) rfl, jj_gw 37 (by decide +kernel) rfl, jj_gw 1186 (by decide +kernel) rfl⟩
theorem lk_X9_181 : jj_lkV RX9 181 yX9_discsOf cX9_discsOf 4 (some .int) 1 := ⟨jj_nm_of (by decide +kernel), jj_gw 1192 (by decide +kernel) rfl, jj_gw 1194 (by decide +kernel) rfl, jj_gw 25 (by decide +kernel) rfl, jj_gw 37 (by decide +kernel) rfl, jj_gw 1195 (by decide +kernel) rfl⟩
theorem lk_X9_184 : jj_lkV RX9 184 yX9_takesOff cX9_takesOff 4 none 2 := ⟨jj_nm_of (by decide +kernel), jj_gw 1196 (by decide +kernel) rfl, jj_gw 1198 (by decide +kernel) rfl, jj_gw 26 (by decide +kernel) rfl, jj_gw 37 (by decide +kernel) rfl, jj_gw 1199 (by decide +kernel) rfl⟩
theorem lk_X9_188 : jj_lkV RX9 188 yX9_isDisc cX9_isDisc 2 (some .boolean) 1 := ⟨jj_nm_of (by decide +kernel), jj_gw 1208 (by decide +kernel) rfl, jj_gw 1210 (by decide +kernel) rfl, jj_gw 27 (by decide +kernel) rfl, jj_gw 37 (by decide +kernel) rfl, jj_gw 1211 (by decide +kernel) rfl⟩
theorem lk_X9_191 : jj_lkS RX9 191 yX9_isPart cX9_isPart 1 (some .boolean) 1 := ⟨jj_nm_of (by decide +kernel), jj_gw 1216 (by decide +kernel) rfl, jj_gw 1217 (by decide +kernel) rfl, jj_gw 37 (by decide +kernel) rfl, jj_gw 1218 (by decide +kernel) rfl⟩
theorem lk_X9_194 : jj_lkV RX9 194 yX9_noiseOf cX9_noiseOf 3 (some .int) 2 := ⟨jj_nm_of (by decide +kernel), jj_gw 1219 (by decide +kernel) rfl, jj_gw 1221 (by decide +kernel) rfl, jj_gw 28 (by decide +kernel) rfl, jj_gw 37 (by decide +kernel) rfl, jj_gw 1222 (by decide +kernel) rfl⟩
theorem lk_X9_197 : jj_lkV RX9 197 yX9_areDiscs cX9_areDiscs 2 (some .boolean) 1 := ⟨jj_nm_of (by decide +kernel), jj_gw 1235 (by decide +kernel) rfl, jj_gw 1237 (by decide +kernel) rfl, jj_gw 29 (by decide +kernel) rfl, jj_gw 37 (by decide +kernel) rfl, jj_gw 1238 (by decide +kernel) rfl⟩
theorem lk_X9_200 : jj_lkV RX9 200 yX9_areOfOneSide cX9_areOfOneSide 5 (some .boolean) 1 := ⟨jj_nm_of (by decide +kernel), jj_gw 1239 (by decide +kernel) rfl, jj_gw 1241 (by decide +kernel) rfl, jj_gw 30 (by decide +kernel) rfl, jj_gw 37 (by decide +kernel) rfl, jj_gw 1242 (by decide +kernel) rfl⟩
theorem lk_X9_203 : jj_lkV RX9 203 yX9_joinOf cX9_joinOf 6 (some .int) 2 := ⟨jj_nm_of (by decide +kernel), jj_gw 1243 (by decide +kernel) rfl, jj_gw 1245 (by decide +kernel) rfl, jj_gw 31 (by decide +kernel) rfl, jj_gw 37 (by decide +kernel) rfl, jj_gw 1246 (by decide +kernel) rfl⟩
theorem lk_X8_17 : jj_lkN RX8 17 yX1_init "MatrixHouse" cX1_init 1 0 := ⟨jj_nm_of (by decide +kernel), rfl, jj_tw_mem 62 (by decide +kernel) rfl, jj_gw 63 (by decide +kernel) rfl, jj_gw 34 (by decide +kernel) rfl, jj_gw 64 (by decide +kernel) rfl⟩
theorem lk_X8_36 : jj_lkN RX8 36 yX5_init "MatrixHouse" cX5_init 1 0 := ⟨jj_nm_of (by decide +kernel), rfl, jj_tw_mem 82 (by decide +kernel) rfl, jj_gw 83 (by decide +kernel) rfl, jj_gw 35 (by decide +kernel) rfl, jj_gw 84 (by decide +kernel) rfl⟩
theorem lk_X8_43 : jj_lkN RX8 43 yX2_init "MatrixHouse" cX2_init 1 0 := ⟨jj_nm_of (by decide +kernel), rfl, jj_tw_mem 107 (by decide +kernel) rfl, jj_gw 108 (by decide +kernel) rfl, jj_gw 36 (by decide +kernel) rfl, jj_gw 109 (by decide +kernel) rfl⟩
theorem lk_X8_405 : jj_lkN RX8 405 yX4_init "MatrixHouse" cX4_init 1 0 := ⟨jj_nm_of (by decide +kernel), rfl, jj_tw_mem 532 (by decide +kernel) rfl, jj_gw 533 (by decide +kernel) rfl, jj_gw 46 (by decide +kernel) rfl, jj_gw 534 (by decide +kernel) rfl⟩
theorem th_2 : jj_thr RX8 55 59 "java/lang/IllegalArgumentException" := ⟨by decide +kernel, cl_X8_55, jj_gw 42 (by decide +kernel) rfl, by decide +kernel, by decide +kernel⟩
theorem th_3 : jj_thr RX8 93 97 "java/lang/IllegalStateException" := ⟨by decide +kernel, cl_X8_93, jj_gw 43 (by decide +kernel) rfl, by decide +kernel, by decide +kernel⟩
theorem th_1 : jj_thr RX8 143 147 "java/lang/IndexOutOfBoundsException" := ⟨by decide +kernel, cl_X8_143, jj_gw 41 (by decide +kernel) rfl, by decide +kernel, by decide +kernel⟩
theorem sr_X8_57 : (RX8, 57, "seconds out of range") ∈ jj_S := List.mem_filterMap.mpr ⟨_, List.mem_of_getElem? (i := 269) (a := Cond.stringRef RX8 57 "seconds out of range") (by decide +kernel), rfl⟩
theorem sr_X8_80 : (RX8, 80, "no such part of the tape") ∈ jj_S := List.mem_filterMap.mpr ⟨_, List.mem_of_getElem? (i := 377) (a := Cond.stringRef RX8 80 "no such part of the tape") (by decide +kernel), rfl⟩
theorem sr_X8_95 : (RX8, 95, "too many spans") ∈ jj_S := List.mem_filterMap.mpr ⟨_, List.mem_of_getElem? (i := 395) (a := Cond.stringRef RX8 95 "too many spans") (by decide +kernel), rfl⟩
theorem sr_X8_104 : (RX8, 104, "the tape is not good") ∈ jj_S := List.mem_filterMap.mpr ⟨_, List.mem_of_getElem? (i := 416) (a := Cond.stringRef RX8 104 "the tape is not good") (by decide +kernel), rfl⟩
theorem sr_X8_106 : (RX8, 106, "the tape is not one that sheds") ∈ jj_S := List.mem_filterMap.mpr ⟨_, List.mem_of_getElem? (i := 424) (a := Cond.stringRef RX8 106 "the tape is not one that sheds") (by decide +kernel), rfl⟩
theorem sr_X8_124 : (RX8, 124, "what out of range") ∈ jj_S := List.mem_filterMap.mpr ⟨_, List.mem_of_getElem? (i := 439) (a := Cond.stringRef RX8 124 "what out of range") (by decide +kernel), rfl⟩
theorem sr_X8_126 : (RX8, 126, "second below 0") ∈ jj_S := List.mem_filterMap.mpr ⟨_, List.mem_of_getElem? (i := 447) (a := Cond.stringRef RX8 126 "second below 0") (by decide +kernel), rfl⟩
theorem sr_X8_145 : (RX8, 145, "no such take: the tape is a splice") ∈ jj_S := List.mem_filterMap.mpr ⟨_, List.mem_of_getElem? (i := 482) (a := Cond.stringRef RX8 145 "no such take: the tape is a splice") (by decide +kernel), rfl⟩
theorem sr_X8_161 : (RX8, 161, "the program is full") ∈ jj_S := List.mem_filterMap.mpr ⟨_, List.mem_of_getElem? (i := 501) (a := Cond.stringRef RX8 161 "the program is full") (by decide +kernel), rfl⟩
theorem sr_X8_169 : (RX8, 169, "level out of range") ∈ jj_S := List.mem_filterMap.mpr ⟨_, List.mem_of_getElem? (i := 513) (a := Cond.stringRef RX8 169 "level out of range") (by decide +kernel), rfl⟩
theorem sr_X8_172 : (RX8, 172, "the program is empty or not playable") ∈ jj_S := List.mem_filterMap.mpr ⟨_, List.mem_of_getElem? (i := 519) (a := Cond.stringRef RX8 172 "the program is empty or not playable") (by decide +kernel), rfl⟩
theorem sr_X8_176 : (RX8, 176, "the program is too long") ∈ jj_S := List.mem_filterMap.mpr ⟨_, List.mem_of_getElem? (i := 525) (a := Cond.stringRef RX8 176 "the program is too long") (by decide +kernel), rfl⟩
theorem sr_X8_181 : (RX8, 181, "there are all sides") ∈ jj_S := List.mem_filterMap.mpr ⟨_, List.mem_of_getElem? (i := 526) (a := Cond.stringRef RX8 181 "there are all sides") (by decide +kernel), rfl⟩
theorem sr_X8_204 : (RX8, 204, "the stamper is made") ∈ jj_S := List.mem_filterMap.mpr ⟨_, List.mem_of_getElem? (i := 594) (a := Cond.stringRef RX8 204 "the stamper is made") (by decide +kernel), rfl⟩
theorem sr_X8_210 : (RX8, 210, "the one ahead is not made") ∈ jj_S := List.mem_filterMap.mpr ⟨_, List.mem_of_getElem? (i := 598) (a := Cond.stringRef RX8 210 "the one ahead is not made") (by decide +kernel), rfl⟩
theorem sr_X8_227 : (RX8, 227, "the stamper is not good for so many") ∈ jj_S := List.mem_filterMap.mpr ⟨_, List.mem_of_getElem? (i := 648) (a := Cond.stringRef RX8 227 "the stamper is not good for so many") (by decide +kernel), rfl⟩
theorem sr_X8_244 : (RX8, 244, "there are not so many to be sold") ∈ jj_S := List.mem_filterMap.mpr ⟨_, List.mem_of_getElem? (i := 668) (a := Cond.stringRef RX8 244 "there are not so many to be sold") (by decide +kernel), rfl⟩
theorem sr_X8_249 : (RX8, 249, "there were all sales") ∈ jj_S := List.mem_filterMap.mpr ⟨_, List.mem_of_getElem? (i := 673) (a := Cond.stringRef RX8 249 "there were all sales") (by decide +kernel), rfl⟩
theorem sr_X8_275 : (RX8, 275, "there are not so many that can come back") ∈ jj_S := List.mem_filterMap.mpr ⟨_, List.mem_of_getElem? (i := 724) (a := Cond.stringRef RX8 275 "there are not so many that can come back") (by decide +kernel), rfl⟩
theorem sr_X8_284 : (RX8, 284, "all that are sold are named") ∈ jj_S := List.mem_filterMap.mpr ⟨_, List.mem_of_getElem? (i := 741) (a := Cond.stringRef RX8 284 "all that are sold are named") (by decide +kernel), rfl⟩
theorem sr_X8_289 : (RX8, 289, "there are all discs") ∈ jj_S := List.mem_filterMap.mpr ⟨_, List.mem_of_getElem? (i := 742) (a := Cond.stringRef RX8 289 "there are all discs") (by decide +kernel), rfl⟩
theorem sr_X8_301 : (RX8, 301, "needle or times out of range") ∈ jj_S := List.mem_filterMap.mpr ⟨_, List.mem_of_getElem? (i := 772) (a := Cond.stringRef RX8 301 "needle or times out of range") (by decide +kernel), rfl⟩
theorem sr_X8_337 : (RX8, 337, "the file is empty or has all repairs") ∈ jj_S := List.mem_filterMap.mpr ⟨_, List.mem_of_getElem? (i := 850) (a := Cond.stringRef RX8 337 "the file is empty or has all repairs") (by decide +kernel), rfl⟩
theorem sr_X8_342 : (RX8, 342, "there is no repair") ∈ jj_S := List.mem_filterMap.mpr ⟨_, List.mem_of_getElem? (i := 867) (a := Cond.stringRef RX8 342 "there is no repair") (by decide +kernel), rfl⟩
theorem sr_X8_349 : (RX8, 349, "rate or advance out of range") ∈ jj_S := List.mem_filterMap.mpr ⟨_, List.mem_of_getElem? (i := 888) (a := Cond.stringRef RX8 349 "rate or advance out of range") (by decide +kernel), rfl⟩
theorem sr_X8_368 : (RX8, 368, "days out of range") ∈ jj_S := List.mem_filterMap.mpr ⟨_, List.mem_of_getElem? (i := 921) (a := Cond.stringRef RX8 368 "days out of range") (by decide +kernel), rfl⟩
theorem sr_X8_370 : (RX8, 370, "time ends ahead of that") ∈ jj_S := List.mem_filterMap.mpr ⟨_, List.mem_of_getElem? (i := 922) (a := Cond.stringRef RX8 370 "time ends ahead of that") (by decide +kernel), rfl⟩
theorem sr_X8_372 : (RX8, 372, "no such artist") ∈ jj_S := List.mem_filterMap.mpr ⟨_, List.mem_of_getElem? (i := 229) (a := Cond.stringRef RX8 372 "no such artist") (by decide +kernel), rfl⟩
theorem sr_X8_374 : (RX8, 374, "no such vault") ∈ jj_S := List.mem_filterMap.mpr ⟨_, List.mem_of_getElem? (i := 259) (a := Cond.stringRef RX8 374 "no such vault") (by decide +kernel), rfl⟩
theorem sr_X8_376 : (RX8, 376, "no such part") ∈ jj_S := List.mem_filterMap.mpr ⟨_, List.mem_of_getElem? (i := 783) (a := Cond.stringRef RX8 376 "no such part") (by decide +kernel), rfl⟩
theorem sr_X8_378 : (RX8, 378, "discs out of range") ∈ jj_S := List.mem_filterMap.mpr ⟨_, List.mem_of_getElem? (i := 647) (a := Cond.stringRef RX8 378 "discs out of range") (by decide +kernel), rfl⟩
theorem sr_X8_380 : (RX8, 380, "the tape is not playable") ∈ jj_S := List.mem_filterMap.mpr ⟨_, List.mem_of_getElem? (i := 386) (a := Cond.stringRef RX8 380 "the tape is not playable") (by decide +kernel), rfl⟩
theorem sr_X8_382 : (RX8, 382, "no such tape") ∈ jj_S := List.mem_filterMap.mpr ⟨_, List.mem_of_getElem? (i := 376) (a := Cond.stringRef RX8 382 "no such tape") (by decide +kernel), rfl⟩
theorem sr_X8_384 : (RX8, 384, "no such side") ∈ jj_S := List.mem_filterMap.mpr ⟨_, List.mem_of_getElem? (i := 574) (a := Cond.stringRef RX8 384 "no such side") (by decide +kernel), rfl⟩
theorem sr_X8_386 : (RX8, 386, "no such disc") ∈ jj_S := List.mem_filterMap.mpr ⟨_, List.mem_of_getElem? (i := 771) (a := Cond.stringRef RX8 386 "no such disc") (by decide +kernel), rfl⟩
theorem sr_X8_388 : (RX8, 388, "there are all tapes") ∈ jj_S := List.mem_filterMap.mpr ⟨_, List.mem_of_getElem? (i := 289) (a := Cond.stringRef RX8 388 "there are all tapes") (by decide +kernel), rfl⟩
theorem sr_X8_422 : (RX8, 422, "no such stamper") ∈ jj_S := List.mem_filterMap.mpr ⟨_, List.mem_of_getElem? (i := 589) (a := Cond.stringRef RX8 422 "no such stamper") (by decide +kernel), rfl⟩
theorem sr_X8_424 : (RX8, 424, "not a set of discs") ∈ jj_S := List.mem_filterMap.mpr ⟨_, List.mem_of_getElem? (i := 822) (a := Cond.stringRef RX8 424 "not a set of discs") (by decide +kernel), rfl⟩
theorem sr_X8_430 : (RX8, 430, "discs of several sides") ∈ jj_S := List.mem_filterMap.mpr ⟨_, List.mem_of_getElem? (i := 823) (a := Cond.stringRef RX8 430 "discs of several sides") (by decide +kernel), rfl⟩
end
section
/-! a body's start, with all that its rows want -/
theorem jj_ofx {l : Launch} {D : va_G} {ac : Nat → ClassId} {y : MethodName} {own : String} {bytes : ByteArray} {maxL : Nat} {ret : Option FieldType} {rm : Room} {av : List Value} {G : jj_G} {post : Option Value → jj_G → Prop} {px : String → Prop} {lv0 : List (Option Value)}
    (hl : l.stackTraces = false) (hy : plainName y.cls = true) (ho : y.cls = own) (hc : av.all (fun v => v.category == 1) = true) (hlen : (lg_sl av).length ≤ maxL) (hlv : jj_en av maxL = lv0)
    (body : ∀ X : jj_X, jj_B X own bytes rm ret G post px → (∀ k, k < maxL → k < jj_nL X) → jj_l0 X = l → jj_dg X = D → jj_ac X = ac → (y.name = "<init>" → jj_isInit X) → jj_J X G 0 0 0 lv0 []) : jj_C l D ac y (.code y bytes maxL ret) rm av G post px := by
  intro sz
  refine vx_ofW (cc := bytes) (maxL := maxL) (ret := ret) hy rfl ?_
  intro p e s m args below meth c s₁ B hml hno hv
  obtain ⟨rfl, rfl, hW, hE⟩ := hv
  subst ho
  have hE' : ∀ w ∈ jj_GW, w.before av.toArray s = true := fun w hw => word_at (State.WarmedH.refl s) (good_of_word (jj_gw_good hw)) (hE.1 w hw)
  have h0 := body (p, l, e, (headSpec [Cond.code y bytes maxL ret] rm).room, s, m, av.toArray, below, meth, c, maxL, jj_A G s.heap.size, D, ac, vx_MQ below (jj_Qc D G s.heap.size post) (jj_XC D G s.heap.size px) av.toArray s rm.cells rm.slots (jj_A G s.heap.size))
    ⟨⟨B.exec, B.bytes, hml, findClass_of_methodNamed B.named, rfl, fun q h => Or.inr h, hE, hl, B.notSynchronized, hE', fun _ _ _ => trivial⟩, B.returns, rfl, rfl, hno⟩ (fun k hk => hk) rfl rfl rfl (fun hn => (name_of_methodNamed B.named B.method).1.trans hn)
  have hl1 := lv_entry av (n := maxL) hlen
  rw [lg_entry_eq]
  subst hlv
  exact h0 s.heap [] _ hW va_S.rf (jj_l.of hl1 (jj_en_mem hc))
theorem jj_F.tr {X : jj_X} {own : String} {cc : ByteArray} {rm : Room} (F : jj_F X own cc rm) : (jj_l0 X).stackTraces = false := by
  obtain ⟨p, l, e, R, s, m, args, below, meth, c, nL, A, D, ac, Q⟩ := X
  exact F.2.2.2.2.2.2.2.1
/-! ===== the reference's cells: one object, its rows; sg k i: row k (the field's number) at i; a number at 0 ===== -/
abbrev Sg : Type := Nat → Int → Int
def sU (s : Sg) (k : Nat) (i x : Int) : Sg := fun k' => if k' = k then ju (s k) i x else s k'
theorem sU_k {s : Sg} {k : Nat} {i x : Int} : sU s k i x k = ju (s k) i x := by simp [sU]
theorem sU_n {s : Sg} {k k' : Nat} {i x : Int} (h : k' ≠ k) : sU s k i x k' = s k' := by simp [sU, h]
theorem sU_s {s : Sg} {k : Nat} {i x : Int} : sU s k i x k i = x := by simp [sU, ju]
theorem sU_i {s : Sg} {k : Nat} {i j x : Int} (h : j ≠ i) : sU s k i x k j = s k j := by simp [sU, ju, h]
def rm_len (k : Nat) : Nat := match k with
  | 2 => 30 | 3 => 30 | 4 => 30 | 5 => 30 | 6 => 30 | 7 => 30 | 8 => 600 | 9 => 600 | 10 => 600 | 12 => 6 | 14 => 60 | 15 => 10
  | 16 => 120 | 17 => 120 | 18 => 120 | 19 => 120 | 20 => 120 | 21 => 120 | 23 => 20 | 24 => 20 | 25 => 160 | 27 => 8 | 29 => 20 | 30 => 20
  | 32 => 100 | 33 => 100 | 34 => 600 | 35 => 6 | 36 => 6 | _ => 0
def rm_fv (s : Sg) (a : Nat → Nat) (k : Nat) : Value := if rm_len k = 0 then .int (jI (s k 0)) else .ref (a k)
def rm_fs (s : Sg) (a : Nat → Nat) : List Value := [.int (jI (s 0 0)), .int (jI (s 1 0)), .ref (a 2), .ref (a 3), .ref (a 4), .ref (a 5), .ref (a 6), .ref (a 7), .ref (a 8), .ref (a 9), .ref (a 10), .int (jI (s 11 0)), .ref (a 12), .int (jI (s 13 0)), .ref (a 14), .ref (a 15), .ref (a 16), .ref (a 17), .ref (a 18), .ref (a 19), .ref (a 20), .ref (a 21), .int (jI (s 22 0)), .ref (a 23), .ref (a 24), .ref (a 25), .int (jI (s 26 0)), .ref (a 27), .int (jI (s 28 0)), .ref (a 29), .ref (a 30), .int (jI (s 31 0)), .ref (a 32), .ref (a 33), .ref (a 34), .ref (a 35), .ref (a 36), .int (jI (s 37 0))]
abbrev jR (x : Int) : Prop := -2147483648 ≤ x ∧ x ≤ 2147483647
def RM (cI : ClassId) (o : Nat) (a : Nat → Nat) (s : Sg) (G : jj_G) : Prop :=
  G o = some (jj_o 9 (rm_fs s a)) ∧ (∀ k, rm_len k ≠ 0 → G (a k) = some (jj_ai cI (rm_len k) (s k))) ∧ (∀ k k', rm_len k ≠ 0 → rm_len k' ≠ 0 → a k = a k' → k = k') ∧ (∀ k, rm_len k ≠ 0 → a k ≠ o) ∧ (∀ k i, -2147483648 ≤ s k i ∧ s k i ≤ 2147483647)
theorem RM.rng {cI : ClassId} {o : Nat} {a : Nat → Nat} {s : Sg} {G : jj_G} (h : RM cI o a s G) (k : Nat) (i : Int) : -2147483648 ≤ s k i ∧ s k i ≤ 2147483647 := h.2.2.2.2 k i
theorem sU_rng {s : Sg} {k : Nat} {i x : Int} (h : ∀ k i, -2147483648 ≤ s k i ∧ s k i ≤ 2147483647) (hx : -2147483648 ≤ x ∧ x ≤ 2147483647) : ∀ k' j, -2147483648 ≤ sU s k i x k' j ∧ sU s k i x k' j ≤ 2147483647 := by
  intro k' j
  unfold sU ju
  by_cases h1 : k' = k
  · rw [if_pos h1]
    by_cases h2 : j = i
    · simp only [if_pos h2]; exact hx
    · simp only [if_neg h2]; exact h k j
  · rw [if_neg h1]; exact h k' j
def rm_sc (k : Nat) : Bool := k == 0 || k == 1 || k == 11 || k == 13 || k == 22 || k == 26 || k == 28 || k == 31 || k == 37
theorem RM.fld {cI : ClassId} {o : Nat} {a : Nat → Nat} {s : Sg} {G : jj_G} (h : RM cI o a s G) (k : Nat) (hk : rm_sc k = true) {x : Int} (hx : -2147483648 ≤ x ∧ x ≤ 2147483647) : RM cI o a (sU s k 0 x) (jj_u G o (jj_o 9 ((rm_fs s a).set k (.int (jI x))))) := by
  obtain ⟨h1, h2, h3, h4, h5⟩ := h
  refine ⟨?_, fun k' hk' => ?_, h3, h4, sU_rng h5 hx⟩
  · rw [jj_us]
    congr 2
    have hk2 : k = 0 ∨ k = 1 ∨ k = 11 ∨ k = 13 ∨ k = 22 ∨ k = 26 ∨ k = 28 ∨ k = 31 ∨ k = 37 := by
      simp only [rm_sc, Bool.or_eq_true, beq_iff_eq] at hk; omega
    rcases hk2 with rfl | rfl | rfl | rfl | rfl | rfl | rfl | rfl | rfl <;> rfl
  · rw [jj_un (h4 k' hk'), h2 k' hk']
    have : k' ≠ k := by
      intro e; subst e
      have hk2 : k' = 0 ∨ k' = 1 ∨ k' = 11 ∨ k' = 13 ∨ k' = 22 ∨ k' = 26 ∨ k' = 28 ∨ k' = 31 ∨ k' = 37 := by
        simp only [rm_sc, Bool.or_eq_true, beq_iff_eq] at hk; omega
      rcases hk2 with rfl | rfl | rfl | rfl | rfl | rfl | rfl | rfl | rfl <;> exact hk' rfl
    rw [sU_n this]
theorem RM.row {cI : ClassId} {o : Nat} {a : Nat → Nat} {s : Sg} {G : jj_G} (h : RM cI o a s G) (k : Nat) (hk : rm_len k ≠ 0) {i x : Int} (hx : -2147483648 ≤ x ∧ x ≤ 2147483647) : RM cI o a (sU s k i x) (jj_u G (a k) (jj_ai cI (rm_len k) (ju (s k) i x))) := by
  obtain ⟨h1, h2, h3, h4, h5⟩ := h
  refine ⟨?_, fun k' hk' => ?_, h3, h4, sU_rng h5 hx⟩
  · rw [jj_un (Ne.symm (h4 k hk)), h1]
    have e : ∀ k', rm_len k' = 0 → sU s k i x k' = s k' := fun k' hk' => sU_n (fun q => hk (by rw [← q]; exact hk'))
    simp only [rm_fs, e 0 rfl, e 1 rfl, e 11 rfl, e 13 rfl, e 22 rfl, e 26 rfl, e 28 rfl, e 31 rfl, e 37 rfl]
  · by_cases hkk : k' = k
    · subst hkk
      rw [jj_us, sU_k]
    · rw [jj_un (fun q => hkk (h3 k' k hk' hk q)), h2 k' hk', sU_n hkk]
section J9
variable {X : jj_X} {own : String} {cc : ByteArray} {rm : Room} {G : jj_G} {kc kn pc nx : Nat} {lv lr : List (Option Value)} {st : List Value} {o : Nat} {a : Nat → Nat} {s : Sg}
theorem m9_get (F : jj_F X RX9 cc rm) (hR : RM (jj_ac X 0) o a s G) {index k : Nat} {v : Value} (hw : jj_fld RX9 index TX9 k) (hk : k < 38) (hv : (rm_fs s a)[k]? = some v) (d : jj_D cc pc (.getfield index) 3 nx) (kk : jj_J X G kc kn nx lv (v :: st)) : jj_J X G kc kn pc lv (.ref o :: st) := jj_get F hR.1 cs_9 hk hw hv d kk
theorem m9_ald (F : jj_F X RX9 cc rm) (hR : RM (jj_ac X 0) o a s G) {k n : Nat} {i : Int} (hn : rm_len k = n) (hi : 0 ≤ i ∧ i < n) (hn2 : 0 < n ∧ n ≤ 100000) (d : jj_D cc pc .iaload 1 nx) (kk : (-2147483648 ≤ s k i ∧ s k i ≤ 2147483647) → jj_J X G kc kn nx lv (.int (jI (s k i)) :: st)) : jj_J X G kc kn pc lv (.int (jI i) :: .ref (a k) :: st) := by
  subst hn
  exact jj_iald F (hR.2.1 k (by omega)) hi hn2.2 d (kk (hR.rng k i))
theorem m9_ast (F : jj_F X RX9 cc rm) (hR : RM (jj_ac X 0) o a s G) {k n : Nat} {i x : Int} (hn : rm_len k = n) (hi : 0 ≤ i ∧ i < n) (hn2 : 0 < n ∧ n ≤ 100000) (hx : -2147483648 ≤ x ∧ x ≤ 2147483647) (d : jj_D cc pc .iastore 1 nx) (kk : ∀ G', RM (jj_ac X 0) o a (sU s k i x) G' → jj_J X G' kc kn nx lv st) : jj_J X G kc kn pc lv (.int (jI x) :: .int (jI i) :: .ref (a k) :: st) := by
  subst hn
  exact jj_iast F (hR.2.1 k (by omega)) hi hn2.2 d (kk _ (hR.row k (by omega) hx))
theorem m9_put (F : jj_F X RX9 cc rm) (hR : RM (jj_ac X 0) o a s G) {index k : Nat} {x : Int} (hw : jj_fld RX9 index TX9 k) (hk : rm_sc k = true) (hx : -2147483648 ≤ x ∧ x ≤ 2147483647) (hk2 : k < 38) (hfin : (TX9 k).2.2.2 = false) (hn : narrow (tyX9 k) (.int (jI x)) = .int (jI x)) (hf : fits (tyX9 k) (.int (jI x)) = true) (d : jj_D cc pc (.putfield index) 3 nx) (kk : ∀ G', RM (jj_ac X 0) o a (sU s k 0 x) G' → jj_J X G' kc kn nx lv st) : jj_J X G kc kn pc lv (.int (jI x) :: .ref o :: st) :=
  jj_put F hR.1 cs_9 hk2 hw hfin hn hf hk2 d (kk _ (hR.fld k hk hx))
end J9
theorem jj_jw {X : jj_X} {G : jj_G} {kc kn pc : Nat} {lv : List (Option Value)} {st : List Value} {a : Int} (kk : jj_J X G kc kn pc lv (.int (jI (jI a).toInt) :: st)) : jj_J X G kc kn pc lv (.int (jI a) :: st) := by
  rw [← jI_of] at kk
  exact kk
/-! calls that only read: one answer, the heap as it was -/
def jj_ri (f : Int) (G : jj_G) : Option Value → jj_G → Prop := jj_pi (fun r G' => r = f ∧ G' = G)
section JR2
variable {X : jj_X} {own : String} {cc : ByteArray} {rm : Room} {G G0 : jj_G} {kc kn pc nx : Nat} {lv lr : List (Option Value)} {st rest : List Value} {ret : Option FieldType} {post : Option Value → jj_G → Prop} {px : String → Prop}
theorem jj_callVr (B : jj_B X own cc rm ret G0 post px) {index b ci N maxL k n : Nat} {y : MethodName} {bytes : ByteArray} {rt : Option FieldType} {rmy : Room} {As : List Value} {fs : List Value} {C : String} {T : u_T} {ty : Nat → FieldType} {f : Int} {px' : String → Prop} (hC : jj_C (jj_l0 X) (jj_dg X) (jj_ac X) y (.code y bytes maxL rt) rmy (.ref b :: As) G (jj_ri f G) px') (hk : jj_lkV own index y bytes maxL rt As.length) (hb : G b = some (jj_o ci fs)) (hc : jj_cls ci C T N ty) (hyc : y.cls = C) (hst : st = As.reverse ++ .ref b :: rest) (hr : rmy.frames + 1 ≤ rm.frames ∧ 8 + (maxL + 11) + rmy.locals ≤ rm.locals ∧ kc + rmy.cells ≤ rm.cells ∧ kn + rmy.slots ≤ rm.slots ∧ (rest.map fun v => v.category).sum ≤ 8) (hkn : kc + rmy.cells ≤ k ∧ kn + rmy.slots ≤ n ∧ k ≤ rm.cells ∧ n ≤ rm.slots) (hx : jj_tx px' G G0 px) (d : jj_D cc pc (.invokevirtual index) 3 nx) (kk : jj_J X G k n nx lv (.int (jI f) :: rest)) : jj_J X G kc kn pc lv st :=
  jj_callVi B (P := fun r G' => r = f ∧ G' = G) hC hk hb hc hyc hst hr hkn hx d (fun r G1 h => by obtain ⟨rfl, rfl⟩ := h; exact kk)
theorem jj_callSr (B : jj_B X own cc rm ret G0 post px) {index maxL k n : Nat} {y : MethodName} {bytes : ByteArray} {rt : Option FieldType} {rmy : Room} {As : List Value} {f : Int} {px' : String → Prop} (hC : jj_C (jj_l0 X) (jj_dg X) (jj_ac X) y (.code y bytes maxL rt) rmy As G (jj_ri f G) px') (hk : jj_lkS own index y bytes maxL rt As.length) (hst : st = As.reverse ++ rest) (hr : rmy.frames + 1 ≤ rm.frames ∧ 8 + (maxL + 11) + rmy.locals ≤ rm.locals ∧ kc + rmy.cells ≤ rm.cells ∧ kn + rmy.slots ≤ rm.slots ∧ (rest.map fun v => v.category).sum ≤ 8) (hkn : kc + rmy.cells ≤ k ∧ kn + rmy.slots ≤ n ∧ k ≤ rm.cells ∧ n ≤ rm.slots) (hx : jj_tx px' G G0 px) (d : jj_D cc pc (.invokestatic index) 3 nx) (kk : jj_J X G k n nx lv (.int (jI f) :: rest)) : jj_J X G kc kn pc lv st :=
  jj_callSi B (P := fun r G' => r = f ∧ G' = G) hC hk hst hr hkn hx d (fun r G1 h => by obtain ⟨rfl, rfl⟩ := h; exact kk)
theorem jj_iretr {f e : Int} (B : jj_B X own cc rm (some .int) G (jj_ri f G) px) (d : jj_D cc pc .ireturn 1 nx) (hr : kc ≤ rm.cells ∧ kn ≤ rm.slots) (h : e = f) : jj_J X G kc kn pc lv [.int (jI e)] := jj_iret B d hr ⟨e, rfl, h, rfl⟩
theorem jj_zretr {f e : Int} (B : jj_B X own cc rm (some .boolean) G (jj_ri f G) px) (d : jj_D cc pc .ireturn 1 nx) (hr : kc ≤ rm.cells ∧ kn ≤ rm.slots) (h1 : e = 0 ∨ e = 1) (h : e = f) : jj_J X G kc kn pc lv [.int (jI e)] := jj_zret B d hr h1 ⟨e, rfl, h, rfl⟩
end JR2
section JB2
variable {X : jj_X} {own : String} {cc : ByteArray} {rm : Room} {G : jj_G} {kc kn pc nx : Nat} {lv lr : List (Option Value)} {st : List Value}
/-- a test of an answer that is 1 where p holds, else 0 -/
theorem jj_ifb_eq (F : jj_F X own cc rm) {off : Int} {tgt : Nat} {p : Prop} {i : Decidable p} (d : jj_D cc pc (.ifCond .eq off) 3 nx) (ht : (pc : Int) + off = (tgt : Int)) (kt : ¬ p → jj_J X G kc kn tgt lv st) (kf : p → jj_J X G kc kn nx lv st) : jj_J X G kc kn pc lv (.int (jI (@ite Int p i 1 0)) :: st) := by
  refine jj_if_eq F d ht (by split <;> omega) (fun h => kt (fun hp => ?_)) (fun h => kf ?_)
  · rw [if_pos hp] at h; omega
  · exact Decidable.byContradiction (fun hp => by rw [if_neg hp] at h; omega)
theorem jj_ifb_ne (F : jj_F X own cc rm) {off : Int} {tgt : Nat} {p : Prop} {i : Decidable p} (d : jj_D cc pc (.ifCond .ne off) 3 nx) (ht : (pc : Int) + off = (tgt : Int)) (kt : p → jj_J X G kc kn tgt lv st) (kf : ¬ p → jj_J X G kc kn nx lv st) : jj_J X G kc kn pc lv (.int (jI (@ite Int p i 1 0)) :: st) := by
  refine jj_if_ne F d ht (by split <;> omega) (fun h => kt ?_) (fun h => kf (fun hp => ?_))
  · exact Decidable.byContradiction (fun hp => by rw [if_neg hp] at h; omega)
  · rw [if_pos hp] at h; omega
theorem jj_lve {lv' : List (Option Value)} (h : lv' = lv) (kk : jj_J X G kc kn pc lv' st) : jj_J X G kc kn pc lv st := by rw [← h]; exact kk
end JB2
end
section
/-! ===== the house as numbers: what each call answers (t: which exception, 0 none; r: the answer; n: the state behind it) ===== -/
def sIn (v l m : Int) : Int := if l ≤ v ∧ v ≤ m then 1 else 0
theorem sIn_01 (v l m : Int) : sIn v l m = 0 ∨ sIn v l m = 1 := by unfold sIn; split; exact Or.inr rfl; exact Or.inl rfl
theorem sIn_1 {v l m : Int} (h : l ≤ v ∧ v ≤ m) : sIn v l m = 1 := if_pos h
theorem sIn_0 {v l m : Int} (h : ¬ (l ≤ v ∧ v ≤ m)) : sIn v l m = 0 := if_neg h
def sOr (x y : Int) : Int := (jI x ||| jI y).toInt
def sBit (t : Int) : Int := (jI 1 <<< (jI t &&& 31)).toInt
/-- 1 if the set has the member k -/
def sHas (set k : Int) : Int := if (jI set >>> (jI k &&& 31)) &&& jI 1 = jI 1 then 1 else 0
def sPlay (s : Sg) (t : Int) : Int := if s 2 t = 0 then 1 else if s 2 t = 2 ∧ s 0 0 - s 3 t < 30 then 1 else 0
/-- the seconds of the first n spans of a tape -/
def sLenTo (s : Sg) (t : Int) : Nat → Int
  | 0 => 0
  | n + 1 => sLenTo s t n + (s 10 (20 * t + n) - s 9 (20 * t + n))
def sLen (s : Sg) (t : Int) : Int := sLenTo s t (s 7 t).toNat
def sTakesTo (s : Sg) (t : Int) : Nat → Int
  | 0 => 0
  | n + 1 => sOr (sTakesTo s t n) (sBit (s 8 (20 * t + n)))
def sTakes (s : Sg) (t : Int) : Int := sTakesTo s t (s 7 t).toNat
/-- how many of the first n spans have a second from f to u -/
def sSpansTo (s : Sg) (t f u : Int) : Nat → Int
  | 0 => 0
  | n + 1 => sSpansTo s t f u n + (if sLenTo s t n < u ∧ f < sLenTo s t (n + 1) then 1 else 0)
def sSpans (s : Sg) (t f u : Int) : Int := sSpansTo s t f u (s 7 t).toNat
/-- a span at the end of the tape that is made -/
def sPuts (s : Sg) (take f u : Int) : Sg :=
  let T := s 1 0
  let p := 20 * T + s 7 T
  sU (sU (sU (sU s 8 p take) 9 p f) 10 p u) 7 T (s 7 T + 1)
def sSecTo (s : Sg) (side artist : Int) : Nat → Int
  | 0 => 0
  | n + 1 => sSecTo s side artist n + (if artist = -1 ∨ artist = n then s 14 (6 * side + n) else 0)
/-- the seconds of an artist on a side, -1: of all -/
def sSec (s : Sg) (side artist : Int) : Int := sSecTo s side artist 6
def sDue (s : Sg) (sale artist many : Int) : Int := many * s 34 (6 * sale + artist) * sSec s (s 32 sale / 12) artist / (100 * sSec s (s 32 sale / 12) (-1))
def sDiscsTo (s : Sg) (st : Int) : Nat → Int
  | 0 => 0
  | n + 1 => sDiscsTo s st n + (if s 23 n = st then 1 else 0)
/-- how many discs a stamper's are -/
def sDiscs (s : Sg) (st : Int) : Int := sDiscsTo s st (s 22 0).toNat
def sNoise (s : Sg) (d p : Int) : Int := 5 * s 25 (8 * d + p) + s 24 d * (p + 1) / 16
def sNeed (st : Int) : Int := if st % 12 = 0 then -1 else if st % 12 % 4 = 0 then st - 4 else st - 1
def sNamed (s : Sg) (side mother number : Int) : Int := if (0 ≤ side ∧ side ≤ s 13 0 - 1) ∧ (0 ≤ mother ∧ mother ≤ 2) ∧ (0 ≤ number ∧ number ≤ 3) then 1 else 0
def sSt (side mother number : Int) : Int := 12 * side + 4 * mother + number
/-- the set has members, and none but discs that there are -/
def sAre (s : Sg) (set : Int) : Int := if ¬ set = 0 ∧ jI set &&& (jI (sBit (s 22 0) - 1) ^^^ jI (-1)) = 0 then 1 else 0
/-- the side of the last member below n, -1 without -/
def sSideTo (s : Sg) (set : Int) : Nat → Int
  | 0 => -1
  | n + 1 => if sHas set n = 1 then s 23 n / 12 else sSideTo s set n
/-- 1 as long as the members below n are of one side -/
def sOneTo (s : Sg) (set : Int) : Nat → Int
  | 0 => 1
  | n + 1 => if sHas set n = 1 then (if sOneTo s set n = 0 then 0 else if sSideTo s set n = -1 ∨ sSideTo s set n = s 23 n / 12 then 1 else 0) else sOneTo s set n
def sOne (s : Sg) (set : Int) : Int := sOneTo s set (s 22 0).toNat
theorem sOneTo_01 (s : Sg) (set : Int) (n : Nat) : sOneTo s set n = 0 ∨ sOneTo s set n = 1 := by
  induction n with
  | zero => exact Or.inr rfl
  | succ n ih => unfold sOneTo; split; split; exact Or.inl rfl; split; exact Or.inr rfl; exact Or.inl rfl; exact ih
/-- the member below n with the least noise, the lowest of several; -1 without -/
def sJoinTo (s : Sg) (set p : Int) : Nat → Int
  | 0 => -1
  | n + 1 => if sHas set n = 1 ∧ (sJoinTo s set p n = -1 ∨ sNoise s n p < sNoise s (sJoinTo s set p n) p) then (n : Int) else sJoinTo s set p n
def sJoin (s : Sg) (set p : Int) : Int := sJoinTo s set p (s 22 0).toNat
theorem sJoinTo_in (s : Sg) (set p : Int) (n : Nat) : -1 ≤ sJoinTo s set p n ∧ sJoinTo s set p n < n ∨ (n = 0 ∧ sJoinTo s set p n = -1) := by
  induction n with
  | zero => exact Or.inr ⟨rfl, rfl⟩
  | succ n ih => left; unfold sJoinTo; split <;> omega
def sProgTo (s : Sg) : Nat → Int
  | 0 => 3 * (s 11 0 - 1)
  | n + 1 => sProgTo s n + sLen s (s 12 n)
def sPlaysTo (s : Sg) : Nat → Int
  | 0 => 1
  | n + 1 => if sPlaysTo s n = 0 then 0 else sPlay s (s 12 n)
theorem sPlay_01 (s : Sg) (t : Int) : sPlay s t = 0 ∨ sPlay s t = 1 := by
  unfold sPlay; split; exact Or.inr rfl; split; exact Or.inr rfl; exact Or.inl rfl
theorem sPlaysTo_01 (s : Sg) (n : Nat) : sPlaysTo s n = 0 ∨ sPlaysTo s n = 1 := by
  induction n with
  | zero => exact Or.inr rfl
  | succ n ih => unfold sPlaysTo; split; exact Or.inl rfl; exact sPlay_01 _ _
def sCanCut (s : Sg) (level : Int) : Int := if 0 < s 11 0 ∧ sPlaysTo s (s 11 0).toNat = 1 ∧ sProgTo s (s 11 0).toNat ≤ 1500 - 150 * level ∧ s 13 0 < 10 then 1 else 0
def sMakes (s : Sg) (g v : Int) : Sg := sU (sU (sU (sU s 2 (s 1 0) 0) 4 (s 1 0) g) 5 (s 1 0) v) 1 0 (s 1 0 + 1)
def jW (x : Int) : Int := (jI x).toInt
theorem jW_eq (x : Int) : jI (jW x) = jI x := (jI_of (jI x)).symm
theorem jW_rng (x : Int) : -2147483648 ≤ jW x ∧ jW x ≤ 2147483647 := jI_rng _
/-- an account's change as discs are taken off a sale -/
def sOffTo (s : Sg) (sale many : Int) : Nat → Sg
  | 0 => s
  | n + 1 => sU (sOffTo s sale many n) 36 n (jW (s 36 n + (sDue s sale n (s 33 sale - many) - sDue s sale n (s 33 sale))))
def sOff (s : Sg) (sale many : Int) : Sg := sU (sOffTo s sale many 6) 33 sale (s 33 sale - many)
theorem sHas_1 {set k : Int} (h : (jI set >>> (jI k &&& 31)) &&& jI 1 = jI 1) : sHas set k = 1 := if_pos h
theorem sHas_0 {set k : Int} (h : ¬ (jI set >>> (jI k &&& 31)) &&& jI 1 = jI 1) : ¬ sHas set k = 1 := by unfold sHas; rw [if_neg h]; decide
theorem sOffTo_n {s : Sg} {sale many : Int} {k : Nat} (hk : k ≠ 36) (n : Nat) : sOffTo s sale many n k = s k := by
  induction n with
  | zero => rfl
  | succ n ih => unfold sOffTo; rw [sU_n hk, ih]
theorem sOffTo_i {s : Sg} {sale many i : Int} (n : Nat) (hi : (n : Int) ≤ i) : sOffTo s sale many n 36 i = s 36 i := by
  induction n with
  | zero => rfl
  | succ n ih => unfold sOffTo; rw [sU_i (by omega), ih (by omega)]
theorem sSec_c {s s' : Sg} (h : s' 14 = s 14) : sSec s' = sSec s := by
  funext d q
  have key : ∀ n, sSecTo s' d q n = sSecTo s d q n := by
    intro n
    induction n with
    | zero => rfl
    | succ n ih => unfold sSecTo; rw [ih, h]
  exact key 6
theorem sDue_c {s s' : Sg} (h : s' 14 = s 14) (h2 : s' 34 = s 34) (h3 : s' 32 = s 32) : sDue s' = sDue s := by
  funext d q m
  unfold sDue
  rw [sSec_c h, h2, h3]
end
section
abbrev rm_X9_isIn : Room := { frames := 0, cells := 0, slots := 0, locals := 0 }
set_option maxRecDepth 100000 in
set_option maxHeartbeats 4000000 in
theorem k9_isIn {l : Launch} {D : va_G} {ac : Nat → ClassId} (hl : l.stackTraces = false) {v q z : Int} {G : jj_G} (hv : jR v) (hq : jR q) (hz : jR z) : jj_C l D ac yX9_isIn (.code yX9_isIn cX9_isIn 3 (some .boolean)) rm_X9_isIn [.int (jI v), .int (jI q), .int (jI z)] G (jj_ri (sIn v q z) G) (jj_nx) := by
  refine jj_ofx (own := RX9) (lv0 := [some (.int (jI v)), some (.int (jI q)), some (.int (jI z))]) hl (by decide +kernel) rfl rfl (Nat.le_of_ble_eq_true rfl) rfl ?_
  intro X B hN hl0 hdg hac hin
  subst hl0; subst hdg; subst hac
  have F := B.F

  refine jj_iload0 F dX9_isIn_0 ?_
  refine jj_iload1 F dX9_isIn_1 ?_
  refine jj_icmp_lt F (tgt := 14) dX9_isIn_2 rfl (by omega) (fun c2 => ?_) (fun c2 => ?_)
  · skip
    refine jj_iconst F dX9_isIn_14 ?_
    exact jj_zretr B dX9_isIn_15 ⟨Nat.le_of_ble_eq_true rfl, Nat.le_of_ble_eq_true rfl⟩ (by omega) (by unfold sIn; first | rw [if_pos (by omega)] | rw [if_neg (by omega)])
  · skip
    refine jj_iload0 F dX9_isIn_5 ?_
    refine jj_iload2 F dX9_isIn_6 ?_
    refine jj_icmp_gt F (tgt := 14) dX9_isIn_7 rfl (by omega) (fun c7 => ?_) (fun c7 => ?_)
    · skip
      refine jj_iconst F dX9_isIn_14 ?_
      exact jj_zretr B dX9_isIn_15 ⟨Nat.le_of_ble_eq_true rfl, Nat.le_of_ble_eq_true rfl⟩ (by omega) (by unfold sIn; first | rw [if_pos (by omega)] | rw [if_neg (by omega)])
    · skip
      refine jj_iconst F dX9_isIn_10 ?_
      refine jj_goto F (tgt := 15) dX9_isIn_11 rfl ?_
      exact jj_zretr B dX9_isIn_15 ⟨Nat.le_of_ble_eq_true rfl, Nat.le_of_ble_eq_true rfl⟩ (by omega) (by unfold sIn; first | rw [if_pos (by omega)] | rw [if_neg (by omega)])
abbrev rm_X9_isTape : Room := { frames := 1, cells := 0, slots := 0, locals := 22 }
set_option maxRecDepth 100000 in
set_option maxHeartbeats 4000000 in
theorem k9_isTape {l : Launch} {D : va_G} {ac : Nat → ClassId} (hl : l.stackTraces = false) {o : Nat} {a : Nat → Nat} {s : Sg} {t : Int} {G : jj_G} (hR : RM (ac 0) o a s G) (ht : jR t) (h1 : 0 ≤ s 1 0) : jj_C l D ac yX9_isTape (.code yX9_isTape cX9_isTape 2 (some .boolean)) rm_X9_isTape [.ref o, .int (jI t)] G (jj_ri (sIn t 0 (s 1 0 - 1)) G) (jj_nx) := by
  refine jj_ofx (own := RX9) (lv0 := [some (.ref o), some (.int (jI t))]) hl (by decide +kernel) rfl rfl (Nat.le_of_ble_eq_true rfl) rfl ?_
  intro X B hN hl0 hdg hac hin
  subst hl0; subst hdg; subst hac
  have F := B.F

  have r1 := hR.rng 1 0
  skip
  refine jj_iload1 F dX9_isTape_0 ?_
  refine jj_iconst F dX9_isTape_1 ?_
  refine jj_aload0 F dX9_isTape_2 ?_
  refine m9_get F hR fd_X9_101 (by decide) rfl dX9_isTape_3 ?_
  refine jj_iconst F dX9_isTape_6 ?_
  refine jj_isub F dX9_isTape_7 ?_
  refine jj_callSr B (k := 0) (n := 0) (k9_isIn F.tr (by omega) (by omega) (by omega)) lk_X9_104 rfl ⟨Nat.le_of_ble_eq_true rfl, Nat.le_of_ble_eq_true rfl, Nat.le_of_ble_eq_true rfl, Nat.le_of_ble_eq_true rfl, Nat.le_of_ble_eq_true rfl⟩ ⟨Nat.le_of_ble_eq_true rfl, Nat.le_of_ble_eq_true rfl, Nat.le_of_ble_eq_true rfl, Nat.le_of_ble_eq_true rfl⟩ jj_tx0 dX9_isTape_8 ?_
  exact jj_zretr B dX9_isTape_11 ⟨Nat.le_of_ble_eq_true rfl, Nat.le_of_ble_eq_true rfl⟩ (sIn_01 _ _ _) (rfl)
abbrev rm_X9_isArtist : Room := { frames := 1, cells := 0, slots := 0, locals := 22 }
set_option maxRecDepth 100000 in
set_option maxHeartbeats 4000000 in
theorem k9_isArtist {l : Launch} {D : va_G} {ac : Nat → ClassId} (hl : l.stackTraces = false) {t : Int} {G : jj_G} (ht : jR t) : jj_C l D ac yX9_isArtist (.code yX9_isArtist cX9_isArtist 1 (some .boolean)) rm_X9_isArtist [.int (jI t)] G (jj_ri (sIn t 0 5) G) (jj_nx) := by
  refine jj_ofx (own := RX9) (lv0 := [some (.int (jI t))]) hl (by decide +kernel) rfl rfl (Nat.le_of_ble_eq_true rfl) rfl ?_
  intro X B hN hl0 hdg hac hin
  subst hl0; subst hdg; subst hac
  have F := B.F

  skip
  refine jj_iload0 F dX9_isArtist_0 ?_
  refine jj_iconst F dX9_isArtist_1 ?_
  refine jj_iconst F dX9_isArtist_2 ?_
  refine jj_callSr B (k := 0) (n := 0) (k9_isIn F.tr (by omega) (by omega) (by omega)) lk_X9_104 rfl ⟨Nat.le_of_ble_eq_true rfl, Nat.le_of_ble_eq_true rfl, Nat.le_of_ble_eq_true rfl, Nat.le_of_ble_eq_true rfl, Nat.le_of_ble_eq_true rfl⟩ ⟨Nat.le_of_ble_eq_true rfl, Nat.le_of_ble_eq_true rfl, Nat.le_of_ble_eq_true rfl, Nat.le_of_ble_eq_true rfl⟩ jj_tx0 dX9_isArtist_3 ?_
  exact jj_zretr B dX9_isArtist_6 ⟨Nat.le_of_ble_eq_true rfl, Nat.le_of_ble_eq_true rfl⟩ (sIn_01 _ _ _) (rfl)
abbrev rm_X9_isVault : Room := { frames := 1, cells := 0, slots := 0, locals := 22 }
set_option maxRecDepth 100000 in
set_option maxHeartbeats 4000000 in
theorem k9_isVault {l : Launch} {D : va_G} {ac : Nat → ClassId} (hl : l.stackTraces = false) {t : Int} {G : jj_G} (ht : jR t) : jj_C l D ac yX9_isVault (.code yX9_isVault cX9_isVault 1 (some .boolean)) rm_X9_isVault [.int (jI t)] G (jj_ri (sIn t 0 3) G) (jj_nx) := by
  refine jj_ofx (own := RX9) (lv0 := [some (.int (jI t))]) hl (by decide +kernel) rfl rfl (Nat.le_of_ble_eq_true rfl) rfl ?_
  intro X B hN hl0 hdg hac hin
  subst hl0; subst hdg; subst hac
  have F := B.F

  skip
  refine jj_iload0 F dX9_isVault_0 ?_
  refine jj_iconst F dX9_isVault_1 ?_
  refine jj_iconst F dX9_isVault_2 ?_
  refine jj_callSr B (k := 0) (n := 0) (k9_isIn F.tr (by omega) (by omega) (by omega)) lk_X9_104 rfl ⟨Nat.le_of_ble_eq_true rfl, Nat.le_of_ble_eq_true rfl, Nat.le_of_ble_eq_true rfl, Nat.le_of_ble_eq_true rfl, Nat.le_of_ble_eq_true rfl⟩ ⟨Nat.le_of_ble_eq_true rfl, Nat.le_of_ble_eq_true rfl, Nat.le_of_ble_eq_true rfl, Nat.le_of_ble_eq_true rfl⟩ jj_tx0 dX9_isVault_3 ?_
  exact jj_zretr B dX9_isVault_6 ⟨Nat.le_of_ble_eq_true rfl, Nat.le_of_ble_eq_true rfl⟩ (sIn_01 _ _ _) (rfl)
abbrev rm_X9_isPart : Room := { frames := 1, cells := 0, slots := 0, locals := 22 }
set_option maxRecDepth 100000 in
set_option maxHeartbeats 4000000 in
theorem k9_isPart {l : Launch} {D : va_G} {ac : Nat → ClassId} (hl : l.stackTraces = false) {t : Int} {G : jj_G} (ht : jR t) : jj_C l D ac yX9_isPart (.code yX9_isPart cX9_isPart 1 (some .boolean)) rm_X9_isPart [.int (jI t)] G (jj_ri (sIn t 0 7) G) (jj_nx) := by
  refine jj_ofx (own := RX9) (lv0 := [some (.int (jI t))]) hl (by decide +kernel) rfl rfl (Nat.le_of_ble_eq_true rfl) rfl ?_
  intro X B hN hl0 hdg hac hin
  subst hl0; subst hdg; subst hac
  have F := B.F

  skip
  refine jj_iload0 F dX9_isPart_0 ?_
  refine jj_iconst F dX9_isPart_1 ?_
  refine jj_bipush F (by decide) dX9_isPart_2 ?_
  refine jj_callSr B (k := 0) (n := 0) (k9_isIn F.tr (by omega) (by omega) (by omega)) lk_X9_104 rfl ⟨Nat.le_of_ble_eq_true rfl, Nat.le_of_ble_eq_true rfl, Nat.le_of_ble_eq_true rfl, Nat.le_of_ble_eq_true rfl, Nat.le_of_ble_eq_true rfl⟩ ⟨Nat.le_of_ble_eq_true rfl, Nat.le_of_ble_eq_true rfl, Nat.le_of_ble_eq_true rfl, Nat.le_of_ble_eq_true rfl⟩ jj_tx0 dX9_isPart_4 ?_
  exact jj_zretr B dX9_isPart_7 ⟨Nat.le_of_ble_eq_true rfl, Nat.le_of_ble_eq_true rfl⟩ (sIn_01 _ _ _) (rfl)
abbrev rm_X9_isDisc : Room := { frames := 1, cells := 0, slots := 0, locals := 22 }
set_option maxRecDepth 100000 in
set_option maxHeartbeats 4000000 in
theorem k9_isDisc {l : Launch} {D : va_G} {ac : Nat → ClassId} (hl : l.stackTraces = false) {o : Nat} {a : Nat → Nat} {s : Sg} {t : Int} {G : jj_G} (hR : RM (ac 0) o a s G) (ht : jR t) (h1 : 0 ≤ s 22 0) : jj_C l D ac yX9_isDisc (.code yX9_isDisc cX9_isDisc 2 (some .boolean)) rm_X9_isDisc [.ref o, .int (jI t)] G (jj_ri (sIn t 0 (s 22 0 - 1)) G) (jj_nx) := by
  refine jj_ofx (own := RX9) (lv0 := [some (.ref o), some (.int (jI t))]) hl (by decide +kernel) rfl rfl (Nat.le_of_ble_eq_true rfl) rfl ?_
  intro X B hN hl0 hdg hac hin
  subst hl0; subst hdg; subst hac
  have F := B.F

  have r22 := hR.rng 22 0
  skip
  refine jj_iload1 F dX9_isDisc_0 ?_
  refine jj_iconst F dX9_isDisc_1 ?_
  refine jj_aload0 F dX9_isDisc_2 ?_
  refine m9_get F hR fd_X9_178 (by decide) rfl dX9_isDisc_3 ?_
  refine jj_iconst F dX9_isDisc_6 ?_
  refine jj_isub F dX9_isDisc_7 ?_
  refine jj_callSr B (k := 0) (n := 0) (k9_isIn F.tr (by omega) (by omega) (by omega)) lk_X9_104 rfl ⟨Nat.le_of_ble_eq_true rfl, Nat.le_of_ble_eq_true rfl, Nat.le_of_ble_eq_true rfl, Nat.le_of_ble_eq_true rfl, Nat.le_of_ble_eq_true rfl⟩ ⟨Nat.le_of_ble_eq_true rfl, Nat.le_of_ble_eq_true rfl, Nat.le_of_ble_eq_true rfl, Nat.le_of_ble_eq_true rfl⟩ jj_tx0 dX9_isDisc_8 ?_
  exact jj_zretr B dX9_isDisc_11 ⟨Nat.le_of_ble_eq_true rfl, Nat.le_of_ble_eq_true rfl⟩ (sIn_01 _ _ _) (rfl)
abbrev rm_X9_isPlayable : Room := { frames := 0, cells := 0, slots := 0, locals := 0 }
set_option maxRecDepth 100000 in
set_option maxHeartbeats 4000000 in
theorem k9_isPlayable {l : Launch} {D : va_G} {ac : Nat → ClassId} (hl : l.stackTraces = false) {o : Nat} {a : Nat → Nat} {s : Sg} {t : Int} {G : jj_G} (hR : RM (ac 0) o a s G) (ht : 0 ≤ t ∧ t < 30) (hd : 0 ≤ s 0 0 ∧ s 0 0 ≤ 9999) (hb : 0 ≤ s 3 t ∧ s 3 t ≤ 9999) : jj_C l D ac yX9_isPlayable (.code yX9_isPlayable cX9_isPlayable 2 (some .boolean)) rm_X9_isPlayable [.ref o, .int (jI t)] G (jj_ri (sPlay s t) G) (jj_nx) := by
  refine jj_ofx (own := RX9) (lv0 := [some (.ref o), some (.int (jI t))]) hl (by decide +kernel) rfl rfl (Nat.le_of_ble_eq_true rfl) rfl ?_
  intro X B hN hl0 hdg hac hin
  subst hl0; subst hdg; subst hac
  have F := B.F

  have r0 := hR.rng 0 0
  have r3 := hR.rng 3 t
  refine jj_aload0 F dX9_isPlayable_0 ?_
  refine m9_get F hR fd_X9_7 (by decide) rfl dX9_isPlayable_1 ?_
  refine jj_iload1 F dX9_isPlayable_4 ?_
  refine m9_ald F hR (n := 30) rfl (by omega) (by decide) dX9_isPlayable_5 (fun r_5 => ?_)
  refine jj_if_eq F (tgt := 35) dX9_isPlayable_6 rfl (by omega) (fun c6 => ?_) (fun c6 => ?_)
  · skip
    refine jj_iconst F dX9_isPlayable_35 ?_
    refine jj_goto F (tgt := 40) dX9_isPlayable_36 rfl ?_
    exact jj_zretr B dX9_isPlayable_40 ⟨Nat.le_of_ble_eq_true rfl, Nat.le_of_ble_eq_true rfl⟩ (by omega) (by unfold sPlay; first | rw [if_pos (by omega)] | (rw [if_neg (by omega)]; first | rw [if_pos (by omega)] | rw [if_neg (by omega)]))
  · skip
    refine jj_aload0 F dX9_isPlayable_9 ?_
    refine m9_get F hR fd_X9_7 (by decide) rfl dX9_isPlayable_10 ?_
    refine jj_iload1 F dX9_isPlayable_13 ?_
    refine m9_ald F hR (n := 30) rfl (by omega) (by decide) dX9_isPlayable_14 (fun r_14 => ?_)
    refine jj_iconst F dX9_isPlayable_15 ?_
    refine jj_icmp_ne F (tgt := 39) dX9_isPlayable_16 rfl (by omega) (fun c16 => ?_) (fun c16 => ?_)
    · skip
      refine jj_iconst F dX9_isPlayable_39 ?_
      exact jj_zretr B dX9_isPlayable_40 ⟨Nat.le_of_ble_eq_true rfl, Nat.le_of_ble_eq_true rfl⟩ (by omega) (by unfold sPlay; first | rw [if_pos (by omega)] | (rw [if_neg (by omega)]; first | rw [if_pos (by omega)] | rw [if_neg (by omega)]))
    · skip
      refine jj_aload0 F dX9_isPlayable_19 ?_
      refine m9_get F hR fd_X9_108 (by decide) rfl dX9_isPlayable_20 ?_
      refine jj_aload0 F dX9_isPlayable_23 ?_
      refine m9_get F hR fd_X9_13 (by decide) rfl dX9_isPlayable_24 ?_
      refine jj_iload1 F dX9_isPlayable_27 ?_
      refine m9_ald F hR (n := 30) rfl (by omega) (by decide) dX9_isPlayable_28 (fun r_28 => ?_)
      refine jj_isub F dX9_isPlayable_29 ?_
      refine jj_bipush F (by decide) dX9_isPlayable_30 ?_
      refine jj_icmp_ge F (tgt := 39) dX9_isPlayable_32 rfl (by omega) (fun c32 => ?_) (fun c32 => ?_)
      · skip
        refine jj_iconst F dX9_isPlayable_39 ?_
        exact jj_zretr B dX9_isPlayable_40 ⟨Nat.le_of_ble_eq_true rfl, Nat.le_of_ble_eq_true rfl⟩ (by omega) (by unfold sPlay; first | rw [if_pos (by omega)] | (rw [if_neg (by omega)]; first | rw [if_pos (by omega)] | rw [if_neg (by omega)]))
      · skip
        refine jj_iconst F dX9_isPlayable_35 ?_
        refine jj_goto F (tgt := 40) dX9_isPlayable_36 rfl ?_
        exact jj_zretr B dX9_isPlayable_40 ⟨Nat.le_of_ble_eq_true rfl, Nat.le_of_ble_eq_true rfl⟩ (by omega) (by unfold sPlay; first | rw [if_pos (by omega)] | (rw [if_neg (by omega)]; first | rw [if_pos (by omega)] | rw [if_neg (by omega)]))
abbrev rm_X9_length : Room := { frames := 0, cells := 0, slots := 0, locals := 0 }
set_option maxRecDepth 100000 in
set_option maxHeartbeats 4000000 in
theorem k9_length {l : Launch} {D : va_G} {ac : Nat → ClassId} (hl : l.stackTraces = false) {o : Nat} {a : Nat → Nat} {s : Sg} {t : Int} {G : jj_G} (hR : RM (ac 0) o a s G) (ht : 0 ≤ t ∧ t < 30) (hs : 0 ≤ s 7 t ∧ s 7 t ≤ 20) : jj_C l D ac yX9_length (.code yX9_length cX9_length 4 (some .int)) rm_X9_length [.ref o, .int (jI t)] G (jj_ri (sLen s t) G) (jj_nx) := by
  refine jj_ofx (own := RX9) (lv0 := [some (.ref o), some (.int (jI t)), none, none]) hl (by decide +kernel) rfl rfl (Nat.le_of_ble_eq_true rfl) rfl ?_
  intro X B hN hl0 hdg hac hin
  subst hl0; subst hdg; subst hac
  have F := B.F

  refine jj_iconst F dX9_length_0 ?_
  refine jj_istore2 F dX9_length_1 (hN _ (by decide)) rfl ?_
  refine jj_bipush F (by decide) dX9_length_2 ?_
  refine jj_iload1 F dX9_length_4 ?_
  refine jj_imul F dX9_length_5 ?_
  refine jj_istore3 F dX9_length_6 (hN _ (by decide)) rfl ?_
  have loop : ∀ (n j : Nat), n + j = (s 7 t).toNat → jj_J X G 0 0 7 [some (.ref o), some (.int (jI t)), some (.int (jI (sLenTo s t j))), some (.int (jI (20 * t + j)))] [] := by
    intro n
    induction n with
    | zero =>
      intro j hj
      have e1 : (j : Int) = s 7 t := by omega
      refine jj_iload3 F dX9_length_7 ?_
      refine jj_bipush F (by decide) dX9_length_8 ?_
      refine jj_iload1 F dX9_length_10 ?_
      refine jj_imul F dX9_length_11 ?_
      refine jj_aload0 F dX9_length_12 ?_
      refine m9_get F hR fd_X9_25 (by decide) rfl dX9_length_13 ?_
      refine jj_iload1 F dX9_length_16 ?_
      refine m9_ald F hR (n := 30) rfl (by omega) (by decide) dX9_length_17 (fun r_17 => ?_)
      refine jj_iadd F dX9_length_18 ?_
      refine jj_icmp_ge F (tgt := 44) dX9_length_19 rfl (by omega) (fun c19 => ?_) (fun c19 => by exfalso; omega)
      refine jj_iload2 F dX9_length_44 ?_
      exact jj_iretr B dX9_length_45 ⟨Nat.le_of_ble_eq_true rfl, Nat.le_of_ble_eq_true rfl⟩ (by unfold sLen; rw [show (s 7 t).toNat = j by omega])
    | succ n ih =>
      intro j hj
      have e1 : (j : Int) < s 7 t := by omega
      refine jj_iload3 F dX9_length_7 ?_
      refine jj_bipush F (by decide) dX9_length_8 ?_
      refine jj_iload1 F dX9_length_10 ?_
      refine jj_imul F dX9_length_11 ?_
      refine jj_aload0 F dX9_length_12 ?_
      refine m9_get F hR fd_X9_25 (by decide) rfl dX9_length_13 ?_
      refine jj_iload1 F dX9_length_16 ?_
      refine m9_ald F hR (n := 30) rfl (by omega) (by decide) dX9_length_17 (fun r_17 => ?_)
      refine jj_iadd F dX9_length_18 ?_
      refine jj_icmp_ge F (tgt := 44) dX9_length_19 rfl (by omega) (fun c19 => by exfalso; omega) (fun c19 => ?_)
      refine jj_iload2 F dX9_length_22 ?_
      refine jj_aload0 F dX9_length_23 ?_
      refine m9_get F hR fd_X9_34 (by decide) rfl dX9_length_24 ?_
      refine jj_iload3 F dX9_length_27 ?_
      refine m9_ald F hR (n := 600) rfl (by omega) (by decide) dX9_length_28 (fun r_28 => ?_)
      refine jj_aload0 F dX9_length_29 ?_
      refine m9_get F hR fd_X9_31 (by decide) rfl dX9_length_30 ?_
      refine jj_iload3 F dX9_length_33 ?_
      refine m9_ald F hR (n := 600) rfl (by omega) (by decide) dX9_length_34 (fun r_34 => ?_)
      refine jj_isub F dX9_length_35 ?_
      refine jj_iadd F dX9_length_36 ?_
      refine jj_istore2 F dX9_length_37 (hN _ (by decide)) rfl ?_
      refine jj_iinc3 F dX9_length_38 (hN _ (by decide)) rfl ?_
      refine jj_goto F (tgt := 7) dX9_length_41 rfl ?_
      have ih1 := ih (j + 1) (by omega)
      have e2 : (20 * t + ((j + 1 : Nat) : Int)) = 20 * t + (j : Int) + 1 := by omega
      rw [e2] at ih1
      exact ih1
  have l0 := loop (s 7 t).toNat 0 (by omega)
  rw [show (20 * t + ((0 : Nat) : Int)) = 20 * t by omega] at l0
  exact l0
abbrev rm_X9_takesOf : Room := { frames := 0, cells := 0, slots := 0, locals := 0 }
set_option maxRecDepth 100000 in
set_option maxHeartbeats 4000000 in
theorem k9_takesOf {l : Launch} {D : va_G} {ac : Nat → ClassId} (hl : l.stackTraces = false) {o : Nat} {a : Nat → Nat} {s : Sg} {t : Int} {G : jj_G} (hR : RM (ac 0) o a s G) (ht : 0 ≤ t ∧ t < 30) (hs : 0 ≤ s 7 t ∧ s 7 t ≤ 20) : jj_C l D ac yX9_takesOf (.code yX9_takesOf cX9_takesOf 4 (some .int)) rm_X9_takesOf [.ref o, .int (jI t)] G (jj_ri (sTakes s t) G) (jj_nx) := by
  refine jj_ofx (own := RX9) (lv0 := [some (.ref o), some (.int (jI t)), none, none]) hl (by decide +kernel) rfl rfl (Nat.le_of_ble_eq_true rfl) rfl ?_
  intro X B hN hl0 hdg hac hin
  subst hl0; subst hdg; subst hac
  have F := B.F

  refine jj_iconst F dX9_takesOf_0 ?_
  refine jj_istore2 F dX9_takesOf_1 (hN _ (by decide)) rfl ?_
  refine jj_bipush F (by decide) dX9_takesOf_2 ?_
  refine jj_iload1 F dX9_takesOf_4 ?_
  refine jj_imul F dX9_takesOf_5 ?_
  refine jj_istore3 F dX9_takesOf_6 (hN _ (by decide)) rfl ?_
  have loop : ∀ (n j : Nat), n + j = (s 7 t).toNat → jj_J X G 0 0 7 [some (.ref o), some (.int (jI t)), some (.int (jI (sTakesTo s t j))), some (.int (jI (20 * t + j)))] [] := by
    intro n
    induction n with
    | zero =>
      intro j hj
      have e1 : (j : Int) = s 7 t := by omega
      refine jj_iload3 F dX9_takesOf_7 ?_
      refine jj_bipush F (by decide) dX9_takesOf_8 ?_
      refine jj_iload1 F dX9_takesOf_10 ?_
      refine jj_imul F dX9_takesOf_11 ?_
      refine jj_aload0 F dX9_takesOf_12 ?_
      refine m9_get F hR fd_X9_25 (by decide) rfl dX9_takesOf_13 ?_
      refine jj_iload1 F dX9_takesOf_16 ?_
      refine m9_ald F hR (n := 30) rfl (by omega) (by decide) dX9_takesOf_17 (fun r_17 => ?_)
      refine jj_iadd F dX9_takesOf_18 ?_
      refine jj_icmp_ge F (tgt := 39) dX9_takesOf_19 rfl (by omega) (fun c19 => ?_) (fun c19 => by exfalso; omega)
      refine jj_iload2 F dX9_takesOf_39 ?_
      exact jj_iretr B dX9_takesOf_40 ⟨Nat.le_of_ble_eq_true rfl, Nat.le_of_ble_eq_true rfl⟩ (by unfold sTakes; rw [show (s 7 t).toNat = j by omega])
    | succ n ih =>
      intro j hj
      have e1 : (j : Int) < s 7 t := by omega
      refine jj_iload3 F dX9_takesOf_7 ?_
      refine jj_bipush F (by decide) dX9_takesOf_8 ?_
      refine jj_iload1 F dX9_takesOf_10 ?_
      refine jj_imul F dX9_takesOf_11 ?_
      refine jj_aload0 F dX9_takesOf_12 ?_
      refine m9_get F hR fd_X9_25 (by decide) rfl dX9_takesOf_13 ?_
      refine jj_iload1 F dX9_takesOf_16 ?_
      refine m9_ald F hR (n := 30) rfl (by omega) (by decide) dX9_takesOf_17 (fun r_17 => ?_)
      refine jj_iadd F dX9_takesOf_18 ?_
      refine jj_icmp_ge F (tgt := 39) dX9_takesOf_19 rfl (by omega) (fun c19 => by exfalso; omega) (fun c19 => ?_)
      refine jj_iload2 F dX9_takesOf_22 ?_
      refine jj_iconst F dX9_takesOf_23 ?_
      refine jj_aload0 F dX9_takesOf_24 ?_
      refine m9_get F hR fd_X9_28 (by decide) rfl dX9_takesOf_25 ?_
      refine jj_iload3 F dX9_takesOf_28 ?_
      refine m9_ald F hR (n := 600) rfl (by omega) (by decide) dX9_takesOf_29 (fun r_29 => ?_)
      refine jj_ishl F dX9_takesOf_30 ?_
      refine jj_topi (jI_of _) ?_
      refine jj_ior F dX9_takesOf_31 ?_
      refine jj_topi (jI_of _) ?_
      refine jj_istore2 F dX9_takesOf_32 (hN _ (by decide)) rfl ?_
      refine jj_iinc3 F dX9_takesOf_33 (hN _ (by decide)) rfl ?_
      refine jj_goto F (tgt := 7) dX9_takesOf_36 rfl ?_
      have ih1 := ih (j + 1) (by omega)
      rw [show (((j + 1 : Nat)) : Int) = (j : Int) + 1 from rfl] at ih1
      rw [show 20 * t + ((j : Int) + 1) = 20 * t + (j : Int) + 1 by omega] at ih1
      exact ih1
  have l0 := loop (s 7 t).toNat 0 (by omega)
  rw [show (20 * t + ((0 : Nat) : Int)) = 20 * t by omega] at l0
  exact l0
abbrev rm_X9_spansIn : Room := { frames := 0, cells := 0, slots := 0, locals := 0 }
set_option maxRecDepth 100000 in
set_option maxHeartbeats 4000000 in
theorem k9_spansIn {l : Launch} {D : va_G} {ac : Nat → ClassId} (hl : l.stackTraces = false) {o : Nat} {a : Nat → Nat} {s : Sg} {t f u : Int} {G : jj_G} (hR : RM (ac 0) o a s G) (ht : 0 ≤ t ∧ t < 30) (hs : 0 ≤ s 7 t ∧ s 7 t ≤ 20) (hf : jR f) (hu : jR u) (hle : ∀ j : Nat, j ≤ (s 7 t).toNat → 0 ≤ sLenTo s t j ∧ sLenTo s t j ≤ 100000) : jj_C l D ac yX9_spansIn (.code yX9_spansIn cX9_spansIn 8 (some .int)) rm_X9_spansIn [.ref o, .int (jI t), .int (jI f), .int (jI u)] G (jj_ri (sSpans s t f u) G) (jj_nx) := by
  refine jj_ofx (own := RX9) (lv0 := [some (.ref o), some (.int (jI t)), some (.int (jI f)), some (.int (jI u)), none, none, none, none]) hl (by decide +kernel) rfl rfl (Nat.le_of_ble_eq_true rfl) rfl ?_
  intro X B hN hl0 hdg hac hin
  subst hl0; subst hdg; subst hac
  have F := B.F

  refine jj_iconst F dX9_spansIn_0 ?_
  refine jj_istore4 F dX9_spansIn_1 (hN _ (by decide)) rfl ?_
  refine jj_iconst F dX9_spansIn_3 ?_
  refine jj_istore5 F dX9_spansIn_4 (hN _ (by decide)) rfl ?_
  refine jj_bipush F (by decide) dX9_spansIn_6 ?_
  refine jj_iload1 F dX9_spansIn_8 ?_
  refine jj_imul F dX9_spansIn_9 ?_
  refine jj_istore6 F dX9_spansIn_10 (hN _ (by decide)) rfl ?_
  have loop : ∀ (n j : Nat) (x7 : Option Value), n + j = (s 7 t).toNat → jj_J X G 0 0 12 [some (.ref o), some (.int (jI t)), some (.int (jI f)), some (.int (jI u)), some (.int (jI (sSpansTo s t f u j))), some (.int (jI (sLenTo s t j))), some (.int (jI (20 * t + j))), x7] [] := by
    intro n
    induction n with
    | zero =>
      intro j x7 hj
      have e1 : (j : Int) = s 7 t := by omega
      refine jj_iload6 F dX9_spansIn_12 ?_
      refine jj_bipush F (by decide) dX9_spansIn_14 ?_
      refine jj_iload1 F dX9_spansIn_16 ?_
      refine jj_imul F dX9_spansIn_17 ?_
      refine jj_aload0 F dX9_spansIn_18 ?_
      refine m9_get F hR fd_X9_25 (by decide) rfl dX9_spansIn_19 ?_
      refine jj_iload1 F dX9_spansIn_22 ?_
      refine m9_ald F hR (n := 30) rfl (by omega) (by decide) dX9_spansIn_23 (fun r_23 => ?_)
      refine jj_iadd F dX9_spansIn_24 ?_
      refine jj_icmp_ge F (tgt := 80) dX9_spansIn_25 rfl (by omega) (fun c25 => ?_) (fun c25 => by exfalso; omega)
      refine jj_iload4 F dX9_spansIn_80 ?_
      exact jj_iretr B dX9_spansIn_82 ⟨Nat.le_of_ble_eq_true rfl, Nat.le_of_ble_eq_true rfl⟩ (by unfold sSpans; rw [show (s 7 t).toNat = j by omega])
    | succ n ih =>
      intro j x7 hj
      have e1 : (j : Int) < s 7 t := by omega
      have e2 : sLenTo s t (j + 1) = sLenTo s t j + (s 10 (20 * t + j) - s 9 (20 * t + j)) := rfl
      have e3 := hle j (by omega)
      have e4 := hle (j + 1) (by omega)
      refine jj_iload6 F dX9_spansIn_12 ?_
      refine jj_bipush F (by decide) dX9_spansIn_14 ?_
      refine jj_iload1 F dX9_spansIn_16 ?_
      refine jj_imul F dX9_spansIn_17 ?_
      refine jj_aload0 F dX9_spansIn_18 ?_
      refine m9_get F hR fd_X9_25 (by decide) rfl dX9_spansIn_19 ?_
      refine jj_iload1 F dX9_spansIn_22 ?_
      refine m9_ald F hR (n := 30) rfl (by omega) (by decide) dX9_spansIn_23 (fun r_23 => ?_)
      refine jj_iadd F dX9_spansIn_24 ?_
      refine jj_icmp_ge F (tgt := 80) dX9_spansIn_25 rfl (by omega) (fun c25 => by exfalso; omega) (fun c25 => ?_)
      refine jj_iload5 F dX9_spansIn_28 ?_
      refine jj_aload0 F dX9_spansIn_30 ?_
      refine m9_get F hR fd_X9_34 (by decide) rfl dX9_spansIn_31 ?_
      refine jj_iload6 F dX9_spansIn_34 ?_
      refine m9_ald F hR (n := 600) rfl (by omega) (by decide) dX9_spansIn_36 (fun r_36 => ?_)
      refine jj_iadd F dX9_spansIn_37 ?_
      refine jj_aload0 F dX9_spansIn_38 ?_
      refine m9_get F hR fd_X9_31 (by decide) rfl dX9_spansIn_39 ?_
      refine jj_iload6 F dX9_spansIn_42 ?_
      refine m9_ald F hR (n := 600) rfl (by omega) (by decide) dX9_spansIn_44 (fun r_44 => ?_)
      refine jj_isub F dX9_spansIn_45 ?_
      refine jj_istore7 F dX9_spansIn_46 (hN _ (by decide)) rfl ?_
      refine jj_iload4 F dX9_spansIn_48 ?_
      refine jj_iload5 F dX9_spansIn_50 ?_
      refine jj_iload3 F dX9_spansIn_52 ?_
      refine jj_icmp_ge F (tgt := 66) dX9_spansIn_53 rfl (by have := hle j (by omega); omega) (fun c53 => ?_) (fun c53 => ?_)
      · skip
        refine jj_iconst F dX9_spansIn_66 ?_
        refine jj_iadd F dX9_spansIn_67 ?_
        refine jj_istore4 F dX9_spansIn_68 (hN _ (by decide)) rfl ?_
        refine jj_iload7 F dX9_spansIn_70 ?_
        refine jj_istore5 F dX9_spansIn_72 (hN _ (by decide)) rfl ?_
        refine jj_iinc6 F dX9_spansIn_74 (hN _ (by decide)) rfl ?_
        refine jj_goto F (tgt := 12) dX9_spansIn_77 rfl ?_
        have ih1 := ih (j + 1) (some (.int (jI (sLenTo s t j + s 10 (20 * t + j) - s 9 (20 * t + j))))) (by omega)
        rw [show (((j + 1 : Nat)) : Int) = (j : Int) + 1 from rfl] at ih1
        rw [show 20 * t + ((j : Int) + 1) = 20 * t + (j : Int) + 1 by omega] at ih1
        simp only [sSpansTo] at ih1
        first | rw [if_pos (by omega)] at ih1 | rw [if_neg (by omega)] at ih1
        rw [e2, ← Int.add_sub_assoc] at ih1
        exact ih1
      · skip
        refine jj_iload7 F dX9_spansIn_56 ?_
        refine jj_iload2 F dX9_spansIn_58 ?_
        refine jj_icmp_le F (tgt := 66) dX9_spansIn_59 rfl (by have := hle (j + 1) (by omega); simp only [sLenTo] at this; omega) (fun c59 => ?_) (fun c59 => ?_)
        · skip
          refine jj_iconst F dX9_spansIn_66 ?_
          refine jj_iadd F dX9_spansIn_67 ?_
          refine jj_istore4 F dX9_spansIn_68 (hN _ (by decide)) rfl ?_
          refine jj_iload7 F dX9_spansIn_70 ?_
          refine jj_istore5 F dX9_spansIn_72 (hN _ (by decide)) rfl ?_
          refine jj_iinc6 F dX9_spansIn_74 (hN _ (by decide)) rfl ?_
          refine jj_goto F (tgt := 12) dX9_spansIn_77 rfl ?_
          have ih1 := ih (j + 1) (some (.int (jI (sLenTo s t j + s 10 (20 * t + j) - s 9 (20 * t + j))))) (by omega)
          rw [show (((j + 1 : Nat)) : Int) = (j : Int) + 1 from rfl] at ih1
          rw [show 20 * t + ((j : Int) + 1) = 20 * t + (j : Int) + 1 by omega] at ih1
          simp only [sSpansTo] at ih1
          first | rw [if_pos (by omega)] at ih1 | rw [if_neg (by omega)] at ih1
          rw [e2, ← Int.add_sub_assoc] at ih1
          exact ih1
        · skip
          refine jj_iconst F dX9_spansIn_62 ?_
          refine jj_goto F (tgt := 67) dX9_spansIn_63 rfl ?_
          refine jj_iadd F dX9_spansIn_67 ?_
          refine jj_istore4 F dX9_spansIn_68 (hN _ (by decide)) rfl ?_
          refine jj_iload7 F dX9_spansIn_70 ?_
          refine jj_istore5 F dX9_spansIn_72 (hN _ (by decide)) rfl ?_
          refine jj_iinc6 F dX9_spansIn_74 (hN _ (by decide)) rfl ?_
          refine jj_goto F (tgt := 12) dX9_spansIn_77 rfl ?_
          have ih1 := ih (j + 1) (some (.int (jI (sLenTo s t j + s 10 (20 * t + j) - s 9 (20 * t + j))))) (by omega)
          rw [show (((j + 1 : Nat)) : Int) = (j : Int) + 1 from rfl] at ih1
          rw [show 20 * t + ((j : Int) + 1) = 20 * t + (j : Int) + 1 by omega] at ih1
          simp only [sSpansTo] at ih1
          first | rw [if_pos (by omega)] at ih1 | rw [if_neg (by omega)] at ih1
          rw [e2, ← Int.add_sub_assoc] at ih1
          exact ih1
  have l0 := loop (s 7 t).toNat 0 none (by omega)
  rw [show (20 * t + ((0 : Nat) : Int)) = 20 * t by omega] at l0
  exact l0
abbrev rm_X9_secondsOf : Room := { frames := 0, cells := 0, slots := 0, locals := 0 }
set_option maxRecDepth 100000 in
set_option maxHeartbeats 4000000 in
theorem k9_secondsOf {l : Launch} {D : va_G} {ac : Nat → ClassId} (hl : l.stackTraces = false) {o : Nat} {a : Nat → Nat} {s : Sg} {d q : Int} {G : jj_G} (hR : RM (ac 0) o a s G) (hd : 0 ≤ d ∧ d < 10) (hq : jR q) : jj_C l D ac yX9_secondsOf (.code yX9_secondsOf cX9_secondsOf 5 (some .int)) rm_X9_secondsOf [.ref o, .int (jI d), .int (jI q)] G (jj_ri (sSec s d q) G) (jj_nx) := by
  refine jj_ofx (own := RX9) (lv0 := [some (.ref o), some (.int (jI d)), some (.int (jI q)), none, none]) hl (by decide +kernel) rfl rfl (Nat.le_of_ble_eq_true rfl) rfl ?_
  intro X B hN hl0 hdg hac hin
  subst hl0; subst hdg; subst hac
  have F := B.F

  refine jj_iconst F dX9_secondsOf_0 ?_
  refine jj_istore3 F dX9_secondsOf_1 (hN _ (by decide)) rfl ?_
  refine jj_iconst F dX9_secondsOf_2 ?_
  refine jj_istore4 F dX9_secondsOf_3 (hN _ (by decide)) rfl ?_
  have loop : ∀ (n j : Nat), n + j = 6 → jj_J X G 0 0 5 [some (.ref o), some (.int (jI d)), some (.int (jI q)), some (.int (jI (sSecTo s d q j))), some (.int (jI j))] [] := by
    intro n
    induction n with
    | zero =>
      intro j hj
      have e1 : (j : Int) = 6 := by omega
      refine jj_iload4 F dX9_secondsOf_5 ?_
      refine jj_bipush F (by decide) dX9_secondsOf_7 ?_
      refine jj_icmp_ge F (tgt := 48) dX9_secondsOf_9 rfl (by omega) (fun c9 => ?_) (fun c9 => by exfalso; omega)
      refine jj_iload3 F dX9_secondsOf_48 ?_
      exact jj_iretr B dX9_secondsOf_49 ⟨Nat.le_of_ble_eq_true rfl, Nat.le_of_ble_eq_true rfl⟩ (by unfold sSec; rw [show (6 : Nat) = j by omega])
    | succ n ih =>
      intro j hj
      have e1 : (j : Int) < 6 := by omega
      refine jj_iload4 F dX9_secondsOf_5 ?_
      refine jj_bipush F (by decide) dX9_secondsOf_7 ?_
      refine jj_icmp_ge F (tgt := 48) dX9_secondsOf_9 rfl (by omega) (fun c9 => by exfalso; omega) (fun c9 => ?_)
      refine jj_iload3 F dX9_secondsOf_12 ?_
      refine jj_iload2 F dX9_secondsOf_13 ?_
      refine jj_iconst F dX9_secondsOf_14 ?_
      refine jj_icmp_eq F (tgt := 24) dX9_secondsOf_15 rfl (by omega) (fun c15 => ?_) (fun c15 => ?_)
      · skip
        refine jj_aload0 F dX9_secondsOf_24 ?_
        refine m9_get F hR fd_X9_40 (by decide) rfl dX9_secondsOf_25 ?_
        refine jj_bipush F (by decide) dX9_secondsOf_28 ?_
        refine jj_iload1 F dX9_secondsOf_30 ?_
        refine jj_imul F dX9_secondsOf_31 ?_
        refine jj_iload4 F dX9_secondsOf_32 ?_
        refine jj_iadd F dX9_secondsOf_34 ?_
        refine m9_ald F hR (n := 60) rfl (by omega) (by decide) dX9_secondsOf_35 (fun r_35 => ?_)
        refine jj_goto F (tgt := 40) dX9_secondsOf_36 rfl ?_
        refine jj_iadd F dX9_secondsOf_40 ?_
        refine jj_istore3 F dX9_secondsOf_41 (hN _ (by decide)) rfl ?_
        refine jj_iinc4 F dX9_secondsOf_42 (hN _ (by decide)) rfl ?_
        refine jj_goto F (tgt := 5) dX9_secondsOf_45 rfl ?_
        have ih1 := ih (j + 1) (by omega)
        rw [show (((j + 1 : Nat)) : Int) = (j : Int) + 1 from rfl] at ih1
        simp only [sSecTo] at ih1
        first | rw [if_pos (by omega)] at ih1 | rw [if_neg (by omega)] at ih1
        exact ih1
      · skip
        refine jj_iload2 F dX9_secondsOf_18 ?_
        refine jj_iload4 F dX9_secondsOf_19 ?_
        refine jj_icmp_ne F (tgt := 39) dX9_secondsOf_21 rfl (by omega) (fun c21 => ?_) (fun c21 => ?_)
        · skip
          refine jj_iconst F dX9_secondsOf_39 ?_
          refine jj_iadd F dX9_secondsOf_40 ?_
          refine jj_istore3 F dX9_secondsOf_41 (hN _ (by decide)) rfl ?_
          refine jj_iinc4 F dX9_secondsOf_42 (hN _ (by decide)) rfl ?_
          refine jj_goto F (tgt := 5) dX9_secondsOf_45 rfl ?_
          have ih1 := ih (j + 1) (by omega)
          rw [show (((j + 1 : Nat)) : Int) = (j : Int) + 1 from rfl] at ih1
          simp only [sSecTo] at ih1
          first | rw [if_pos (by omega)] at ih1 | rw [if_neg (by omega)] at ih1
          exact ih1
        · skip
          refine jj_aload0 F dX9_secondsOf_24 ?_
          refine m9_get F hR fd_X9_40 (by decide) rfl dX9_secondsOf_25 ?_
          refine jj_bipush F (by decide) dX9_secondsOf_28 ?_
          refine jj_iload1 F dX9_secondsOf_30 ?_
          refine jj_imul F dX9_secondsOf_31 ?_
          refine jj_iload4 F dX9_secondsOf_32 ?_
          refine jj_iadd F dX9_secondsOf_34 ?_
          refine m9_ald F hR (n := 60) rfl (by omega) (by decide) dX9_secondsOf_35 (fun r_35 => ?_)
          refine jj_goto F (tgt := 40) dX9_secondsOf_36 rfl ?_
          refine jj_iadd F dX9_secondsOf_40 ?_
          refine jj_istore3 F dX9_secondsOf_41 (hN _ (by decide)) rfl ?_
          refine jj_iinc4 F dX9_secondsOf_42 (hN _ (by decide)) rfl ?_
          refine jj_goto F (tgt := 5) dX9_secondsOf_45 rfl ?_
          have ih1 := ih (j + 1) (by omega)
          rw [show (((j + 1 : Nat)) : Int) = (j : Int) + 1 from rfl] at ih1
          simp only [sSecTo] at ih1
          first | rw [if_pos (by omega)] at ih1 | rw [if_neg (by omega)] at ih1
          exact ih1
  exact loop 6 0 (by omega)
abbrev rm_X9_discsOf : Room := { frames := 0, cells := 0, slots := 0, locals := 0 }
set_option maxRecDepth 100000 in
set_option maxHeartbeats 4000000 in
theorem k9_discsOf {l : Launch} {D : va_G} {ac : Nat → ClassId} (hl : l.stackTraces = false) {o : Nat} {a : Nat → Nat} {s : Sg} {q : Int} {G : jj_G} (hR : RM (ac 0) o a s G) (hd : 0 ≤ s 22 0 ∧ s 22 0 ≤ 20) (hq : jR q) : jj_C l D ac yX9_discsOf (.code yX9_discsOf cX9_discsOf 4 (some .int)) rm_X9_discsOf [.ref o, .int (jI q)] G (jj_ri (sDiscs s q) G) (jj_nx) := by
  refine jj_ofx (own := RX9) (lv0 := [some (.ref o), some (.int (jI q)), none, none]) hl (by decide +kernel) rfl rfl (Nat.le_of_ble_eq_true rfl) rfl ?_
  intro X B hN hl0 hdg hac hin
  subst hl0; subst hdg; subst hac
  have F := B.F

  have r22 := hR.rng 22 0
  refine jj_iconst F dX9_discsOf_0 ?_
  refine jj_istore2 F dX9_discsOf_1 (hN _ (by decide)) rfl ?_
  refine jj_iconst F dX9_discsOf_2 ?_
  refine jj_istore3 F dX9_discsOf_3 (hN _ (by decide)) rfl ?_
  have loop : ∀ (n j : Nat), n + j = (s 22 0).toNat → jj_J X G 0 0 4 [some (.ref o), some (.int (jI q)), some (.int (jI (sDiscsTo s q j))), some (.int (jI j))] [] := by
    intro n
    induction n with
    | zero =>
      intro j hj
      have e1 : (j : Int) = s 22 0 := by omega
      refine jj_iload3 F dX9_discsOf_4 ?_
      refine jj_aload0 F dX9_discsOf_5 ?_
      refine m9_get F hR fd_X9_178 (by decide) rfl dX9_discsOf_6 ?_
      refine jj_icmp_ge F (tgt := 36) dX9_discsOf_9 rfl (by omega) (fun c9 => ?_) (fun c9 => by exfalso; omega)
      refine jj_iload2 F dX9_discsOf_36 ?_
      exact jj_iretr B dX9_discsOf_37 ⟨Nat.le_of_ble_eq_true rfl, Nat.le_of_ble_eq_true rfl⟩ (by unfold sDiscs; rw [show (s 22 0).toNat = j by omega])
    | succ n ih =>
      intro j hj
      have e1 : (j : Int) < s 22 0 := by omega
      refine jj_iload3 F dX9_discsOf_4 ?_
      refine jj_aload0 F dX9_discsOf_5 ?_
      refine m9_get F hR fd_X9_178 (by decide) rfl dX9_discsOf_6 ?_
      refine jj_icmp_ge F (tgt := 36) dX9_discsOf_9 rfl (by omega) (fun c9 => by exfalso; omega) (fun c9 => ?_)
      refine jj_iload2 F dX9_discsOf_12 ?_
      refine jj_aload0 F dX9_discsOf_13 ?_
      refine m9_get F hR fd_X9_64 (by decide) rfl dX9_discsOf_14 ?_
      refine jj_iload3 F dX9_discsOf_17 ?_
      refine m9_ald F hR (n := 20) rfl (by omega) (by decide) dX9_discsOf_18 (fun r_18 => ?_)
      refine jj_iload1 F dX9_discsOf_19 ?_
      refine jj_icmp_ne F (tgt := 27) dX9_discsOf_20 rfl (by omega) (fun c20 => ?_) (fun c20 => ?_)
      · skip
        refine jj_iconst F dX9_discsOf_27 ?_
        refine jj_iadd F dX9_discsOf_28 ?_
        refine jj_istore2 F dX9_discsOf_29 (hN _ (by decide)) rfl ?_
        refine jj_iinc3 F dX9_discsOf_30 (hN _ (by decide)) rfl ?_
        refine jj_goto F (tgt := 4) dX9_discsOf_33 rfl ?_
        have ih1 := ih (j + 1) (by omega)
        rw [show (((j + 1 : Nat)) : Int) = (j : Int) + 1 from rfl] at ih1
        simp only [sDiscsTo] at ih1
        first | rw [if_pos (by omega)] at ih1 | rw [if_neg (by omega)] at ih1
        exact ih1
      · skip
        refine jj_iconst F dX9_discsOf_23 ?_
        refine jj_goto F (tgt := 28) dX9_discsOf_24 rfl ?_
        refine jj_iadd F dX9_discsOf_28 ?_
        refine jj_istore2 F dX9_discsOf_29 (hN _ (by decide)) rfl ?_
        refine jj_iinc3 F dX9_discsOf_30 (hN _ (by decide)) rfl ?_
        refine jj_goto F (tgt := 4) dX9_discsOf_33 rfl ?_
        have ih1 := ih (j + 1) (by omega)
        rw [show (((j + 1 : Nat)) : Int) = (j : Int) + 1 from rfl] at ih1
        simp only [sDiscsTo] at ih1
        first | rw [if_pos (by omega)] at ih1 | rw [if_neg (by omega)] at ih1
        exact ih1
  exact loop (s 22 0).toNat 0 (by omega)
abbrev rm_X9_isNamed : Room := { frames := 1, cells := 0, slots := 0, locals := 22 }
set_option maxRecDepth 100000 in
set_option maxHeartbeats 4000000 in
theorem k9_isNamed {l : Launch} {D : va_G} {ac : Nat → ClassId} (hl : l.stackTraces = false) {o : Nat} {a : Nat → Nat} {s : Sg} {d q z : Int} {G : jj_G} (hR : RM (ac 0) o a s G) (hd : jR d) (hq : jR q) (hz : jR z) (h13 : 0 ≤ s 13 0) : jj_C l D ac yX9_isNamed (.code yX9_isNamed cX9_isNamed 4 (some .boolean)) rm_X9_isNamed [.ref o, .int (jI d), .int (jI q), .int (jI z)] G (jj_ri (sNamed s d q z) G) (jj_nx) := by
  refine jj_ofx (own := RX9) (lv0 := [some (.ref o), some (.int (jI d)), some (.int (jI q)), some (.int (jI z))]) hl (by decide +kernel) rfl rfl (Nat.le_of_ble_eq_true rfl) rfl ?_
  intro X B hN hl0 hdg hac hin
  subst hl0; subst hdg; subst hac
  have F := B.F

  have r13 := hR.rng 13 0
  refine jj_iload1 F dX9_isNamed_0 ?_
  refine jj_iconst F dX9_isNamed_1 ?_
  refine jj_aload0 F dX9_isNamed_2 ?_
  refine m9_get F hR fd_X9_149 (by decide) rfl dX9_isNamed_3 ?_
  refine jj_iconst F dX9_isNamed_6 ?_
  refine jj_isub F dX9_isNamed_7 ?_
  refine jj_callSr B (k := 0) (n := 0) (k9_isIn F.tr (by omega) (by omega) (by omega)) lk_X9_104 rfl ⟨Nat.le_of_ble_eq_true rfl, Nat.le_of_ble_eq_true rfl, Nat.le_of_ble_eq_true rfl, Nat.le_of_ble_eq_true rfl, Nat.le_of_ble_eq_true rfl⟩ ⟨Nat.le_of_ble_eq_true rfl, Nat.le_of_ble_eq_true rfl, Nat.le_of_ble_eq_true rfl, Nat.le_of_ble_eq_true rfl⟩ jj_tx0 dX9_isNamed_8 ?_
  refine jj_ifb_eq F (tgt := 36) dX9_isNamed_11 rfl (fun c11 => ?_) (fun c11 => ?_)
  · skip
    refine jj_iconst F dX9_isNamed_36 ?_
    exact jj_zretr B dX9_isNamed_37 ⟨Nat.le_of_ble_eq_true rfl, Nat.le_of_ble_eq_true rfl⟩ (by omega) (by unfold sNamed; first | rw [if_pos (by omega)] | rw [if_neg (by omega)])
  · skip
    refine jj_iload2 F dX9_isNamed_14 ?_
    refine jj_iconst F dX9_isNamed_15 ?_
    refine jj_iconst F dX9_isNamed_16 ?_
    refine jj_callSr B (k := 0) (n := 0) (k9_isIn F.tr (by omega) (by omega) (by omega)) lk_X9_104 rfl ⟨Nat.le_of_ble_eq_true rfl, Nat.le_of_ble_eq_true rfl, Nat.le_of_ble_eq_true rfl, Nat.le_of_ble_eq_true rfl, Nat.le_of_ble_eq_true rfl⟩ ⟨Nat.le_of_ble_eq_true rfl, Nat.le_of_ble_eq_true rfl, Nat.le_of_ble_eq_true rfl, Nat.le_of_ble_eq_true rfl⟩ jj_tx0 dX9_isNamed_17 ?_
    refine jj_ifb_eq F (tgt := 36) dX9_isNamed_20 rfl (fun c20 => ?_) (fun c20 => ?_)
    · skip
      refine jj_iconst F dX9_isNamed_36 ?_
      exact jj_zretr B dX9_isNamed_37 ⟨Nat.le_of_ble_eq_true rfl, Nat.le_of_ble_eq_true rfl⟩ (by omega) (by unfold sNamed; first | rw [if_pos (by omega)] | rw [if_neg (by omega)])
    · skip
      refine jj_iload3 F dX9_isNamed_23 ?_
      refine jj_iconst F dX9_isNamed_24 ?_
      refine jj_iconst F dX9_isNamed_25 ?_
      refine jj_callSr B (k := 0) (n := 0) (k9_isIn F.tr (by omega) (by omega) (by omega)) lk_X9_104 rfl ⟨Nat.le_of_ble_eq_true rfl, Nat.le_of_ble_eq_true rfl, Nat.le_of_ble_eq_true rfl, Nat.le_of_ble_eq_true rfl, Nat.le_of_ble_eq_true rfl⟩ ⟨Nat.le_of_ble_eq_true rfl, Nat.le_of_ble_eq_true rfl, Nat.le_of_ble_eq_true rfl, Nat.le_of_ble_eq_true rfl⟩ jj_tx0 dX9_isNamed_26 ?_
      refine jj_ifb_eq F (tgt := 36) dX9_isNamed_29 rfl (fun c29 => ?_) (fun c29 => ?_)
      · skip
        refine jj_iconst F dX9_isNamed_36 ?_
        exact jj_zretr B dX9_isNamed_37 ⟨Nat.le_of_ble_eq_true rfl, Nat.le_of_ble_eq_true rfl⟩ (by omega) (by unfold sNamed; first | rw [if_pos (by omega)] | rw [if_neg (by omega)])
      · skip
        refine jj_iconst F dX9_isNamed_32 ?_
        refine jj_goto F (tgt := 37) dX9_isNamed_33 rfl ?_
        exact jj_zretr B dX9_isNamed_37 ⟨Nat.le_of_ble_eq_true rfl, Nat.le_of_ble_eq_true rfl⟩ (by omega) (by unfold sNamed; first | rw [if_pos (by omega)] | rw [if_neg (by omega)])
abbrev rm_X9_stamperOf : Room := { frames := 0, cells := 0, slots := 0, locals := 0 }
set_option maxRecDepth 100000 in
set_option maxHeartbeats 4000000 in
theorem k9_stamperOf {l : Launch} {D : va_G} {ac : Nat → ClassId} (hl : l.stackTraces = false) {d q z : Int} {G : jj_G}  : jj_C l D ac yX9_stamperOf (.code yX9_stamperOf cX9_stamperOf 3 (some .int)) rm_X9_stamperOf [.int (jI d), .int (jI q), .int (jI z)] G (jj_ri (sSt d q z) G) (jj_nx) := by
  refine jj_ofx (own := RX9) (lv0 := [some (.int (jI d)), some (.int (jI q)), some (.int (jI z))]) hl (by decide +kernel) rfl rfl (Nat.le_of_ble_eq_true rfl) rfl ?_
  intro X B hN hl0 hdg hac hin
  subst hl0; subst hdg; subst hac
  have F := B.F

  refine jj_bipush F (by decide) dX9_stamperOf_0 ?_
  refine jj_iload0 F dX9_stamperOf_2 ?_
  refine jj_imul F dX9_stamperOf_3 ?_
  refine jj_iconst F dX9_stamperOf_4 ?_
  refine jj_iload1 F dX9_stamperOf_5 ?_
  refine jj_imul F dX9_stamperOf_6 ?_
  refine jj_iadd F dX9_stamperOf_7 ?_
  refine jj_iload2 F dX9_stamperOf_8 ?_
  refine jj_iadd F dX9_stamperOf_9 ?_
  exact jj_iretr B dX9_stamperOf_10 ⟨Nat.le_of_ble_eq_true rfl, Nat.le_of_ble_eq_true rfl⟩ (by unfold sSt; omega)
abbrev rm_X9_needed : Room := { frames := 0, cells := 0, slots := 0, locals := 0 }
set_option maxRecDepth 100000 in
set_option maxHeartbeats 4000000 in
theorem k9_needed {l : Launch} {D : va_G} {ac : Nat → ClassId} (hl : l.stackTraces = false) {q : Int} {G : jj_G} (hq : 0 ≤ q ∧ q < 120) : jj_C l D ac yX9_needed (.code yX9_needed cX9_needed 2 (some .int)) rm_X9_needed [.int (jI q)] G (jj_ri (sNeed q) G) (jj_nx) := by
  refine jj_ofx (own := RX9) (lv0 := [some (.int (jI q)), none]) hl (by decide +kernel) rfl rfl (Nat.le_of_ble_eq_true rfl) rfl ?_
  intro X B hN hl0 hdg hac hin
  subst hl0; subst hdg; subst hac
  have F := B.F

  refine jj_iload0 F dX9_needed_0 ?_
  refine jj_bipush F (by decide) dX9_needed_1 ?_
  refine jj_irem F (by omega) dX9_needed_3 ?_
  refine jj_istore1 F dX9_needed_4 (hN _ (by decide)) rfl ?_
  refine jj_iload1 F dX9_needed_5 ?_
  refine jj_if_ne F (tgt := 13) dX9_needed_6 rfl (by omega) (fun c6 => ?_) (fun c6 => ?_)
  · skip
    refine jj_iload1 F dX9_needed_13 ?_
    refine jj_iconst F dX9_needed_14 ?_
    refine jj_irem F (by omega) dX9_needed_15 ?_
    refine jj_if_ne F (tgt := 25) dX9_needed_16 rfl (by omega) (fun c16 => ?_) (fun c16 => ?_)
    · skip
      refine jj_iload0 F dX9_needed_25 ?_
      refine jj_iconst F dX9_needed_26 ?_
      refine jj_isub F dX9_needed_27 ?_
      exact jj_iretr B dX9_needed_28 ⟨Nat.le_of_ble_eq_true rfl, Nat.le_of_ble_eq_true rfl⟩ (by unfold sNeed; first | rw [if_pos (by omega)] | (rw [if_neg (by omega)]; first | rw [if_pos (by omega)] | rw [if_neg (by omega)]))
    · skip
      refine jj_iload0 F dX9_needed_19 ?_
      refine jj_iconst F dX9_needed_20 ?_
      refine jj_isub F dX9_needed_21 ?_
      refine jj_goto F (tgt := 28) dX9_needed_22 rfl ?_
      exact jj_iretr B dX9_needed_28 ⟨Nat.le_of_ble_eq_true rfl, Nat.le_of_ble_eq_true rfl⟩ (by unfold sNeed; first | rw [if_pos (by omega)] | (rw [if_neg (by omega)]; first | rw [if_pos (by omega)] | rw [if_neg (by omega)]))
  · skip
    refine jj_iconst F dX9_needed_9 ?_
    refine jj_goto F (tgt := 28) dX9_needed_10 rfl ?_
    exact jj_iretr B dX9_needed_28 ⟨Nat.le_of_ble_eq_true rfl, Nat.le_of_ble_eq_true rfl⟩ (by unfold sNeed; first | rw [if_pos (by omega)] | (rw [if_neg (by omega)]; first | rw [if_pos (by omega)] | rw [if_neg (by omega)]))
abbrev rm_X9_noiseOf : Room := { frames := 0, cells := 0, slots := 0, locals := 0 }
set_option maxRecDepth 100000 in
set_option maxHeartbeats 4000000 in
theorem k9_noiseOf {l : Launch} {D : va_G} {ac : Nat → ClassId} (hl : l.stackTraces = false) {o : Nat} {a : Nat → Nat} {s : Sg} {d p : Int} {G : jj_G} (hR : RM (ac 0) o a s G) (hd : 0 ≤ d ∧ d < 20) (hp : 0 ≤ p ∧ p < 8) (hw : 0 ≤ s 24 d ∧ s 24 d ≤ 100000) : jj_C l D ac yX9_noiseOf (.code yX9_noiseOf cX9_noiseOf 3 (some .int)) rm_X9_noiseOf [.ref o, .int (jI d), .int (jI p)] G (jj_ri (sNoise s d p) G) (jj_nx) := by
  refine jj_ofx (own := RX9) (lv0 := [some (.ref o), some (.int (jI d)), some (.int (jI p))]) hl (by decide +kernel) rfl rfl (Nat.le_of_ble_eq_true rfl) rfl ?_
  intro X B hN hl0 hdg hac hin
  subst hl0; subst hdg; subst hac
  have F := B.F

  have hm : 0 ≤ s 24 d * (p + 1) ∧ s 24 d * (p + 1) ≤ 800000 := by
    constructor
    · exact Int.mul_nonneg hw.1 (by omega)
    · have h1 : s 24 d * (p + 1) ≤ 100000 * (p + 1) := Int.mul_le_mul_of_nonneg_right hw.2 (by omega)
      omega
  refine jj_iconst F dX9_noiseOf_0 ?_
  refine jj_aload0 F dX9_noiseOf_1 ?_
  refine m9_get F hR fd_X9_70 (by decide) rfl dX9_noiseOf_2 ?_
  refine jj_bipush F (by decide) dX9_noiseOf_5 ?_
  refine jj_iload1 F dX9_noiseOf_7 ?_
  refine jj_imul F dX9_noiseOf_8 ?_
  refine jj_iload2 F dX9_noiseOf_9 ?_
  refine jj_iadd F dX9_noiseOf_10 ?_
  refine m9_ald F hR (n := 160) rfl (by omega) (by decide) dX9_noiseOf_11 (fun r_11 => ?_)
  refine jj_imul F dX9_noiseOf_12 ?_
  refine jj_aload0 F dX9_noiseOf_13 ?_
  refine m9_get F hR fd_X9_67 (by decide) rfl dX9_noiseOf_14 ?_
  refine jj_iload1 F dX9_noiseOf_17 ?_
  refine m9_ald F hR (n := 20) rfl (by omega) (by decide) dX9_noiseOf_18 (fun r_18 => ?_)
  refine jj_iload2 F dX9_noiseOf_19 ?_
  refine jj_iconst F dX9_noiseOf_20 ?_
  refine jj_iadd F dX9_noiseOf_21 ?_
  refine jj_imul F dX9_noiseOf_22 ?_
  refine jj_bipush F (by decide) dX9_noiseOf_23 ?_
  refine jj_idiv F ⟨hm.1, by omega, by omega, by omega⟩ dX9_noiseOf_25 ?_
  refine jj_iadd F dX9_noiseOf_26 ?_
  exact jj_iretr B dX9_noiseOf_27 ⟨Nat.le_of_ble_eq_true rfl, Nat.le_of_ble_eq_true rfl⟩ (rfl)
abbrev rm_X9_areDiscs : Room := { frames := 0, cells := 0, slots := 0, locals := 0 }
set_option maxRecDepth 100000 in
set_option maxHeartbeats 4000000 in
theorem k9_areDiscs {l : Launch} {D : va_G} {ac : Nat → ClassId} (hl : l.stackTraces = false) {o : Nat} {a : Nat → Nat} {s : Sg} {q : Int} {G : jj_G} (hR : RM (ac 0) o a s G) (hq : jR q) : jj_C l D ac yX9_areDiscs (.code yX9_areDiscs cX9_areDiscs 2 (some .boolean)) rm_X9_areDiscs [.ref o, .int (jI q)] G (jj_ri (sAre s q) G) (jj_nx) := by
  refine jj_ofx (own := RX9) (lv0 := [some (.ref o), some (.int (jI q))]) hl (by decide +kernel) rfl rfl (Nat.le_of_ble_eq_true rfl) rfl ?_
  intro X B hN hl0 hdg hac hin
  subst hl0; subst hdg; subst hac
  have F := B.F

  refine jj_iload1 F dX9_areDiscs_0 ?_
  refine jj_if_eq F (tgt := 23) dX9_areDiscs_1 rfl (by omega) (fun c1 => ?_) (fun c1 => ?_)
  · skip
    refine jj_iconst F dX9_areDiscs_23 ?_
    exact jj_zretr B dX9_areDiscs_24 ⟨Nat.le_of_ble_eq_true rfl, Nat.le_of_ble_eq_true rfl⟩ (by omega) (by unfold sAre; exact (if_neg (fun h => h.1 c1)).symm)
  · skip
    refine jj_iload1 F dX9_areDiscs_4 ?_
    refine jj_iconst F dX9_areDiscs_5 ?_
    refine jj_aload0 F dX9_areDiscs_6 ?_
    refine m9_get F hR fd_X9_178 (by decide) rfl dX9_areDiscs_7 ?_
    refine jj_ishl F dX9_areDiscs_10 ?_
    refine jj_topi (jI_of _) ?_
    refine jj_iconst F dX9_areDiscs_11 ?_
    refine jj_isub F dX9_areDiscs_12 ?_
    refine jj_iconst F dX9_areDiscs_13 ?_
    refine jj_ixor F dX9_areDiscs_14 ?_
    refine jj_iand F dX9_areDiscs_15 ?_
    refine jj_ifx_ne F (tgt := 23) dX9_areDiscs_16 rfl (fun c16 => ?_) (fun c16 => ?_)
    · skip
      refine jj_iconst F dX9_areDiscs_23 ?_
      exact jj_zretr B dX9_areDiscs_24 ⟨Nat.le_of_ble_eq_true rfl, Nat.le_of_ble_eq_true rfl⟩ (by omega) (by unfold sAre; exact (if_neg (fun h => c16 h.2)).symm)
    · skip
      refine jj_iconst F dX9_areDiscs_19 ?_
      refine jj_goto F (tgt := 24) dX9_areDiscs_20 rfl ?_
      exact jj_zretr B dX9_areDiscs_24 ⟨Nat.le_of_ble_eq_true rfl, Nat.le_of_ble_eq_true rfl⟩ (by omega) (by unfold sAre; exact (if_pos ⟨c1, c16⟩).symm)
abbrev rm_X9_areOfOneSide : Room := { frames := 0, cells := 0, slots := 0, locals := 0 }
set_option maxRecDepth 100000 in
set_option maxHeartbeats 4000000 in
theorem k9_areOfOneSide {l : Launch} {D : va_G} {ac : Nat → ClassId} (hl : l.stackTraces = false) {o : Nat} {a : Nat → Nat} {s : Sg} {q : Int} {G : jj_G} (hR : RM (ac 0) o a s G) (hd : 0 ≤ s 22 0 ∧ s 22 0 ≤ 20) (h23 : ∀ j : Nat, (j : Int) < s 22 0 → 0 ≤ s 23 j ∧ s 23 j < 120) (hsd : ∀ j : Nat, -1 ≤ sSideTo s q j ∧ sSideTo s q j ≤ 1000) : jj_C l D ac yX9_areOfOneSide (.code yX9_areOfOneSide cX9_areOfOneSide 5 (some .boolean)) rm_X9_areOfOneSide [.ref o, .int (jI q)] G (jj_ri (sOne s q) G) (jj_nx) := by
  refine jj_ofx (own := RX9) (lv0 := [some (.ref o), some (.int (jI q)), none, none, none]) hl (by decide +kernel) rfl rfl (Nat.le_of_ble_eq_true rfl) rfl ?_
  intro X B hN hl0 hdg hac hin
  subst hl0; subst hdg; subst hac
  have F := B.F

  have r22 := hR.rng 22 0
  refine jj_iconst F dX9_areOfOneSide_0 ?_
  refine jj_istore2 F dX9_areOfOneSide_1 (hN _ (by decide)) rfl ?_
  refine jj_iconst F dX9_areOfOneSide_2 ?_
  refine jj_istore3 F dX9_areOfOneSide_3 (hN _ (by decide)) rfl ?_
  refine jj_iconst F dX9_areOfOneSide_4 ?_
  refine jj_istore4 F dX9_areOfOneSide_5 (hN _ (by decide)) rfl ?_
  have loop : ∀ (n j : Nat), n + j = (s 22 0).toNat → jj_J X G 0 0 7 [some (.ref o), some (.int (jI q)), some (.int (jI (sSideTo s q j))), some (.int (jI (sOneTo s q j))), some (.int (jI j))] [] := by
    intro n
    induction n with
    | zero =>
      intro j hj
      have e1 : (j : Int) = s 22 0 := by omega
      refine jj_iload4 F dX9_areOfOneSide_7 ?_
      refine jj_aload0 F dX9_areOfOneSide_9 ?_
      refine m9_get F hR fd_X9_178 (by decide) rfl dX9_areOfOneSide_10 ?_
      refine jj_icmp_ge F (tgt := 72) dX9_areOfOneSide_13 rfl (by omega) (fun c13 => ?_) (fun c13 => by exfalso; omega)
      refine jj_iload3 F dX9_areOfOneSide_72 ?_
      exact jj_zretr B dX9_areOfOneSide_73 ⟨Nat.le_of_ble_eq_true rfl, Nat.le_of_ble_eq_true rfl⟩ (by have := sOneTo_01 s q j; omega) (by unfold sOne; rw [show (s 22 0).toNat = j by omega])
    | succ n ih =>
      intro j hj
      have e1 : (j : Int) < s 22 0 := by omega
      refine jj_iload4 F dX9_areOfOneSide_7 ?_
      refine jj_aload0 F dX9_areOfOneSide_9 ?_
      refine m9_get F hR fd_X9_178 (by decide) rfl dX9_areOfOneSide_10 ?_
      refine jj_icmp_ge F (tgt := 72) dX9_areOfOneSide_13 rfl (by omega) (fun c13 => by exfalso; omega) (fun c13 => ?_)
      refine jj_iload1 F dX9_areOfOneSide_16 ?_
      refine jj_iload4 F dX9_areOfOneSide_17 ?_
      refine jj_ishr F dX9_areOfOneSide_19 ?_
      refine jj_iconst F dX9_areOfOneSide_20 ?_
      refine jj_iand F dX9_areOfOneSide_21 ?_
      refine jj_iconst F dX9_areOfOneSide_22 ?_
      refine jj_icmpx_ne F (tgt := 66) dX9_areOfOneSide_23 rfl (fun c23 => ?_) (fun c23 => ?_)
      · skip
        have hH := sHas_0 c23
        refine jj_iinc4 F dX9_areOfOneSide_66 (hN _ (by decide)) rfl ?_
        refine jj_goto F (tgt := 7) dX9_areOfOneSide_69 rfl ?_
        have ih1 := ih (j + 1) (by omega)
        rw [show (((j + 1 : Nat)) : Int) = (j : Int) + 1 from rfl] at ih1
        simp only [sOneTo, sSideTo] at ih1
        rw [if_neg hH, if_neg hH] at ih1
        exact ih1
      · skip
        have hH := sHas_1 c23
        refine jj_iload3 F dX9_areOfOneSide_26 ?_
        refine jj_if_eq F (tgt := 53) dX9_areOfOneSide_27 rfl (by have := sOneTo_01 s q j; omega) (fun c27 => ?_) (fun c27 => ?_)
        · skip
          refine jj_iconst F dX9_areOfOneSide_53 ?_
          refine jj_istore3 F dX9_areOfOneSide_54 (hN _ (by decide)) rfl ?_
          refine jj_aload0 F dX9_areOfOneSide_55 ?_
          refine m9_get F hR fd_X9_64 (by decide) rfl dX9_areOfOneSide_56 ?_
          refine jj_iload4 F dX9_areOfOneSide_59 ?_
          refine m9_ald F hR (n := 20) rfl (by omega) (by decide) dX9_areOfOneSide_61 (fun r_61 => ?_)
          refine jj_bipush F (by decide) dX9_areOfOneSide_62 ?_
          refine jj_idiv F (by have := h23 j (by omega); omega) dX9_areOfOneSide_64 ?_
          refine jj_istore2 F dX9_areOfOneSide_65 (hN _ (by decide)) rfl ?_
          refine jj_iinc4 F dX9_areOfOneSide_66 (hN _ (by decide)) rfl ?_
          refine jj_goto F (tgt := 7) dX9_areOfOneSide_69 rfl ?_
          have ih1 := ih (j + 1) (by omega)
          rw [show (((j + 1 : Nat)) : Int) = (j : Int) + 1 from rfl] at ih1
          simp only [sOneTo, sSideTo] at ih1
          rw [if_pos hH, if_pos hH] at ih1
          first | rw [if_pos (by omega)] at ih1 | rw [if_neg (by omega)] at ih1
          try (first | rw [if_pos (by omega)] at ih1 | rw [if_neg (by omega)] at ih1)
          exact ih1
        · skip
          refine jj_iload2 F dX9_areOfOneSide_30 ?_
          refine jj_iconst F dX9_areOfOneSide_31 ?_
          refine jj_icmp_eq F (tgt := 49) dX9_areOfOneSide_32 rfl (by have := hsd j; omega) (fun c32 => ?_) (fun c32 => ?_)
          · skip
            refine jj_iconst F dX9_areOfOneSide_49 ?_
            refine jj_goto F (tgt := 54) dX9_areOfOneSide_50 rfl ?_
            refine jj_istore3 F dX9_areOfOneSide_54 (hN _ (by decide)) rfl ?_
            refine jj_aload0 F dX9_areOfOneSide_55 ?_
            refine m9_get F hR fd_X9_64 (by decide) rfl dX9_areOfOneSide_56 ?_
            refine jj_iload4 F dX9_areOfOneSide_59 ?_
            refine m9_ald F hR (n := 20) rfl (by omega) (by decide) dX9_areOfOneSide_61 (fun r_61 => ?_)
            refine jj_bipush F (by decide) dX9_areOfOneSide_62 ?_
            refine jj_idiv F (by have := h23 j (by omega); omega) dX9_areOfOneSide_64 ?_
            refine jj_istore2 F dX9_areOfOneSide_65 (hN _ (by decide)) rfl ?_
            refine jj_iinc4 F dX9_areOfOneSide_66 (hN _ (by decide)) rfl ?_
            refine jj_goto F (tgt := 7) dX9_areOfOneSide_69 rfl ?_
            have ih1 := ih (j + 1) (by omega)
            rw [show (((j + 1 : Nat)) : Int) = (j : Int) + 1 from rfl] at ih1
            simp only [sOneTo, sSideTo] at ih1
            rw [if_pos hH, if_pos hH] at ih1
            first | rw [if_pos (by omega)] at ih1 | rw [if_neg (by omega)] at ih1
            try (first | rw [if_pos (by omega)] at ih1 | rw [if_neg (by omega)] at ih1)
            exact ih1
          · skip
            refine jj_iload2 F dX9_areOfOneSide_35 ?_
            refine jj_aload0 F dX9_areOfOneSide_36 ?_
            refine m9_get F hR fd_X9_64 (by decide) rfl dX9_areOfOneSide_37 ?_
            refine jj_iload4 F dX9_areOfOneSide_40 ?_
            refine m9_ald F hR (n := 20) rfl (by omega) (by decide) dX9_areOfOneSide_42 (fun r_42 => ?_)
            refine jj_bipush F (by decide) dX9_areOfOneSide_43 ?_
            refine jj_idiv F (by have := h23 j (by omega); omega) dX9_areOfOneSide_45 ?_
            refine jj_icmp_ne F (tgt := 53) dX9_areOfOneSide_46 rfl (by have := hsd j; omega) (fun c46 => ?_) (fun c46 => ?_)
            · skip
              refine jj_iconst F dX9_areOfOneSide_53 ?_
              refine jj_istore3 F dX9_areOfOneSide_54 (hN _ (by decide)) rfl ?_
              refine jj_aload0 F dX9_areOfOneSide_55 ?_
              refine m9_get F hR fd_X9_64 (by decide) rfl dX9_areOfOneSide_56 ?_
              refine jj_iload4 F dX9_areOfOneSide_59 ?_
              refine m9_ald F hR (n := 20) rfl (by omega) (by decide) dX9_areOfOneSide_61 (fun r_61 => ?_)
              refine jj_bipush F (by decide) dX9_areOfOneSide_62 ?_
              refine jj_idiv F (by have := h23 j (by omega); omega) dX9_areOfOneSide_64 ?_
              refine jj_istore2 F dX9_areOfOneSide_65 (hN _ (by decide)) rfl ?_
              refine jj_iinc4 F dX9_areOfOneSide_66 (hN _ (by decide)) rfl ?_
              refine jj_goto F (tgt := 7) dX9_areOfOneSide_69 rfl ?_
              have ih1 := ih (j + 1) (by omega)
              rw [show (((j + 1 : Nat)) : Int) = (j : Int) + 1 from rfl] at ih1
              simp only [sOneTo, sSideTo] at ih1
              rw [if_pos hH, if_pos hH] at ih1
              first | rw [if_pos (by omega)] at ih1 | rw [if_neg (by omega)] at ih1
              try (first | rw [if_pos (by omega)] at ih1 | rw [if_neg (by omega)] at ih1)
              exact ih1
            · skip
              refine jj_iconst F dX9_areOfOneSide_49 ?_
              refine jj_goto F (tgt := 54) dX9_areOfOneSide_50 rfl ?_
              refine jj_istore3 F dX9_areOfOneSide_54 (hN _ (by decide)) rfl ?_
              refine jj_aload0 F dX9_areOfOneSide_55 ?_
              refine m9_get F hR fd_X9_64 (by decide) rfl dX9_areOfOneSide_56 ?_
              refine jj_iload4 F dX9_areOfOneSide_59 ?_
              refine m9_ald F hR (n := 20) rfl (by omega) (by decide) dX9_areOfOneSide_61 (fun r_61 => ?_)
              refine jj_bipush F (by decide) dX9_areOfOneSide_62 ?_
              refine jj_idiv F (by have := h23 j (by omega); omega) dX9_areOfOneSide_64 ?_
              refine jj_istore2 F dX9_areOfOneSide_65 (hN _ (by decide)) rfl ?_
              refine jj_iinc4 F dX9_areOfOneSide_66 (hN _ (by decide)) rfl ?_
              refine jj_goto F (tgt := 7) dX9_areOfOneSide_69 rfl ?_
              have ih1 := ih (j + 1) (by omega)
              rw [show (((j + 1 : Nat)) : Int) = (j : Int) + 1 from rfl] at ih1
              simp only [sOneTo, sSideTo] at ih1
              rw [if_pos hH, if_pos hH] at ih1
              first | rw [if_pos (by omega)] at ih1 | rw [if_neg (by omega)] at ih1
              try (first | rw [if_pos (by omega)] at ih1 | rw [if_neg (by omega)] at ih1)
              exact ih1
  exact loop (s 22 0).toNat 0 (by omega)
abbrev rm_X9_joinOf : Room := { frames := 1, cells := 0, slots := 0, locals := 22 }
set_option maxRecDepth 100000 in
set_option maxHeartbeats 4000000 in
theorem k9_joinOf {l : Launch} {D : va_G} {ac : Nat → ClassId} (hl : l.stackTraces = false) {o : Nat} {a : Nat → Nat} {s : Sg} {q p : Int} {G : jj_G} (hR : RM (ac 0) o a s G) (hd : 0 ≤ s 22 0 ∧ s 22 0 ≤ 20) (hp : 0 ≤ p ∧ p < 8) (h24 : ∀ d : Int, 0 ≤ d ∧ d < 20 → 0 ≤ s 24 d ∧ s 24 d ≤ 100000) (hno : ∀ d : Int, 0 ≤ d ∧ d < 20 → 0 ≤ sNoise s d p ∧ sNoise s d p ≤ 1000000) : jj_C l D ac yX9_joinOf (.code yX9_joinOf cX9_joinOf 6 (some .int)) rm_X9_joinOf [.ref o, .int (jI q), .int (jI p)] G (jj_ri (sJoin s q p) G) (jj_nx) := by
  refine jj_ofx (own := RX9) (lv0 := [some (.ref o), some (.int (jI q)), some (.int (jI p)), none, none, none]) hl (by decide +kernel) rfl rfl (Nat.le_of_ble_eq_true rfl) rfl ?_
  intro X B hN hl0 hdg hac hin
  subst hl0; subst hdg; subst hac
  have F := B.F

  have r22 := hR.rng 22 0
  refine jj_iconst F dX9_joinOf_0 ?_
  refine jj_istore3 F dX9_joinOf_1 (hN _ (by decide)) rfl ?_
  refine jj_iconst F dX9_joinOf_2 ?_
  refine jj_istore4 F dX9_joinOf_3 (hN _ (by decide)) rfl ?_
  have loop : ∀ (n j : Nat) (x5 : Option Value), n + j = (s 22 0).toNat → jj_J X G 0 0 5 [some (.ref o), some (.int (jI q)), some (.int (jI p)), some (.int (jI (sJoinTo s q p j))), some (.int (jI j)), x5] [] := by
    intro n
    induction n with
    | zero =>
      intro j x5 hj
      have e1 : (j : Int) = s 22 0 := by omega
      refine jj_iload4 F dX9_joinOf_5 ?_
      refine jj_aload0 F dX9_joinOf_7 ?_
      refine m9_get F hR fd_X9_178 (by decide) rfl dX9_joinOf_8 ?_
      refine jj_icmp_ge F (tgt := 70) dX9_joinOf_11 rfl (by omega) (fun c11 => ?_) (fun c11 => by exfalso; omega)
      refine jj_iload3 F dX9_joinOf_70 ?_
      exact jj_iretr B dX9_joinOf_71 ⟨Nat.le_of_ble_eq_true rfl, Nat.le_of_ble_eq_true rfl⟩ (by unfold sJoin; rw [show (s 22 0).toNat = j by omega])
    | succ n ih =>
      intro j x5 hj
      have e1 : (j : Int) < s 22 0 := by omega
      have e2 := sJoinTo_in s q p j
      refine jj_iload4 F dX9_joinOf_5 ?_
      refine jj_aload0 F dX9_joinOf_7 ?_
      refine m9_get F hR fd_X9_178 (by decide) rfl dX9_joinOf_8 ?_
      refine jj_icmp_ge F (tgt := 70) dX9_joinOf_11 rfl (by omega) (fun c11 => by exfalso; omega) (fun c11 => ?_)
      refine jj_iload1 F dX9_joinOf_14 ?_
      refine jj_iload4 F dX9_joinOf_15 ?_
      refine jj_ishr F dX9_joinOf_17 ?_
      refine jj_iconst F dX9_joinOf_18 ?_
      refine jj_iand F dX9_joinOf_19 ?_
      refine jj_iconst F dX9_joinOf_20 ?_
      refine jj_icmpx_ne F (tgt := 49) dX9_joinOf_21 rfl (fun c21 => ?_) (fun c21 => ?_)
      · skip
        have hH := sHas_0 c21
        refine jj_iconst F dX9_joinOf_49 ?_
        refine jj_istore5 F dX9_joinOf_50 (hN _ (by decide)) rfl ?_
        refine jj_iload5 F dX9_joinOf_52 ?_
        refine jj_if_eq F (tgt := 62) dX9_joinOf_54 rfl (by omega) (fun c54 => ?_) (fun c54 => by exfalso; omega)
        refine jj_iload3 F dX9_joinOf_62 ?_
        refine jj_istore3 F dX9_joinOf_63 (hN _ (by decide)) rfl ?_
        refine jj_iinc4 F dX9_joinOf_64 (hN _ (by decide)) rfl ?_
        refine jj_goto F (tgt := 5) dX9_joinOf_67 rfl ?_
        have ih1 := ih (j + 1) (some (.int (jI 0))) (by omega)
        rw [show (((j + 1 : Nat)) : Int) = (j : Int) + 1 from rfl] at ih1
        simp only [sJoinTo] at ih1
        rw [if_neg (fun h => by omega)] at ih1
        exact ih1
      · skip
        have hH := sHas_1 c21
        refine jj_iload3 F dX9_joinOf_24 ?_
        refine jj_iconst F dX9_joinOf_25 ?_
        refine jj_icmp_eq F (tgt := 45) dX9_joinOf_26 rfl (by omega) (fun c26 => ?_) (fun c26 => ?_)
        · skip
          refine jj_iconst F dX9_joinOf_45 ?_
          refine jj_goto F (tgt := 50) dX9_joinOf_46 rfl ?_
          refine jj_istore5 F dX9_joinOf_50 (hN _ (by decide)) rfl ?_
          refine jj_iload5 F dX9_joinOf_52 ?_
          refine jj_if_eq F (tgt := 62) dX9_joinOf_54 rfl (by omega) (fun c54 => by exfalso; omega) (fun c54 => ?_)
          refine jj_iload4 F dX9_joinOf_57 ?_
          refine jj_goto F (tgt := 63) dX9_joinOf_59 rfl ?_
          refine jj_istore3 F dX9_joinOf_63 (hN _ (by decide)) rfl ?_
          refine jj_iinc4 F dX9_joinOf_64 (hN _ (by decide)) rfl ?_
          refine jj_goto F (tgt := 5) dX9_joinOf_67 rfl ?_
          have ih1 := ih (j + 1) (some (.int (jI 1))) (by omega)
          rw [show (((j + 1 : Nat)) : Int) = (j : Int) + 1 from rfl] at ih1
          simp only [sJoinTo] at ih1
          rw [if_pos ⟨hH, by omega⟩] at ih1
          exact ih1
        · skip
          refine jj_aload0 F dX9_joinOf_29 ?_
          refine jj_iload4 F dX9_joinOf_30 ?_
          refine jj_iload2 F dX9_joinOf_32 ?_
          refine jj_callVr B (k := 0) (n := 0) (k9_noiseOf F.tr hR (by omega) hp (h24 _ (by omega))) lk_X9_194 hR.1 cs_9 rfl rfl ⟨Nat.le_of_ble_eq_true rfl, Nat.le_of_ble_eq_true rfl, Nat.le_of_ble_eq_true rfl, Nat.le_of_ble_eq_true rfl, Nat.le_of_ble_eq_true rfl⟩ ⟨Nat.le_of_ble_eq_true rfl, Nat.le_of_ble_eq_true rfl, Nat.le_of_ble_eq_true rfl, Nat.le_of_ble_eq_true rfl⟩ jj_tx0 dX9_joinOf_33 ?_
          refine jj_aload0 F dX9_joinOf_36 ?_
          refine jj_iload3 F dX9_joinOf_37 ?_
          refine jj_iload2 F dX9_joinOf_38 ?_
          refine jj_callVr B (k := 0) (n := 0) (k9_noiseOf F.tr hR (by omega) hp (h24 _ (by omega))) lk_X9_194 hR.1 cs_9 rfl rfl ⟨Nat.le_of_ble_eq_true rfl, Nat.le_of_ble_eq_true rfl, Nat.le_of_ble_eq_true rfl, Nat.le_of_ble_eq_true rfl, Nat.le_of_ble_eq_true rfl⟩ ⟨Nat.le_of_ble_eq_true rfl, Nat.le_of_ble_eq_true rfl, Nat.le_of_ble_eq_true rfl, Nat.le_of_ble_eq_true rfl⟩ jj_tx0 dX9_joinOf_39 ?_
          refine jj_icmp_ge F (tgt := 49) dX9_joinOf_42 rfl (by have e6 := hno _ (show 0 ≤ (j : Int) ∧ (j : Int) < 20 by omega); have e7 := hno (sJoinTo s q p j) (by omega); omega) (fun c42 => ?_) (fun c42 => ?_)
          · skip
            refine jj_iconst F dX9_joinOf_49 ?_
            refine jj_istore5 F dX9_joinOf_50 (hN _ (by decide)) rfl ?_
            refine jj_iload5 F dX9_joinOf_52 ?_
            refine jj_if_eq F (tgt := 62) dX9_joinOf_54 rfl (by omega) (fun c54 => ?_) (fun c54 => by exfalso; omega)
            refine jj_iload3 F dX9_joinOf_62 ?_
            refine jj_istore3 F dX9_joinOf_63 (hN _ (by decide)) rfl ?_
            refine jj_iinc4 F dX9_joinOf_64 (hN _ (by decide)) rfl ?_
            refine jj_goto F (tgt := 5) dX9_joinOf_67 rfl ?_
            have ih1 := ih (j + 1) (some (.int (jI 0))) (by omega)
            rw [show (((j + 1 : Nat)) : Int) = (j : Int) + 1 from rfl] at ih1
            simp only [sJoinTo] at ih1
            rw [if_neg (fun h => by omega)] at ih1
            exact ih1
          · skip
            refine jj_iconst F dX9_joinOf_45 ?_
            refine jj_goto F (tgt := 50) dX9_joinOf_46 rfl ?_
            refine jj_istore5 F dX9_joinOf_50 (hN _ (by decide)) rfl ?_
            refine jj_iload5 F dX9_joinOf_52 ?_
            refine jj_if_eq F (tgt := 62) dX9_joinOf_54 rfl (by omega) (fun c54 => by exfalso; omega) (fun c54 => ?_)
            refine jj_iload4 F dX9_joinOf_57 ?_
            refine jj_goto F (tgt := 63) dX9_joinOf_59 rfl ?_
            refine jj_istore3 F dX9_joinOf_63 (hN _ (by decide)) rfl ?_
            refine jj_iinc4 F dX9_joinOf_64 (hN _ (by decide)) rfl ?_
            refine jj_goto F (tgt := 5) dX9_joinOf_67 rfl ?_
            have ih1 := ih (j + 1) (some (.int (jI 1))) (by omega)
            rw [show (((j + 1 : Nat)) : Int) = (j : Int) + 1 from rfl] at ih1
            simp only [sJoinTo] at ih1
            rw [if_pos ⟨hH, by omega⟩] at ih1
            exact ih1
  exact loop (s 22 0).toNat 0 none (by omega)
abbrev rm_X9_canCut : Room := { frames := 1, cells := 0, slots := 0, locals := 23 }
set_option maxRecDepth 100000 in
set_option maxHeartbeats 4000000 in
theorem k9_canCut {l : Launch} {D : va_G} {ac : Nat → ClassId} (hl : l.stackTraces = false) {o : Nat} {a : Nat → Nat} {s : Sg} {q : Int} {G : jj_G} (hR : RM (ac 0) o a s G) (h11 : 0 ≤ s 11 0 ∧ s 11 0 ≤ 6) (hq : 1 ≤ q ∧ q ≤ 5) (hd : 0 ≤ s 0 0 ∧ s 0 0 ≤ 9999) (hp : ∀ j : Nat, (j : Int) < s 11 0 → (0 ≤ s 12 j ∧ s 12 j < 30) ∧ (0 ≤ s 7 (s 12 j) ∧ s 7 (s 12 j) ≤ 20) ∧ (0 ≤ s 3 (s 12 j) ∧ s 3 (s 12 j) ≤ 9999)) (hall : ∀ j : Nat, (j : Int) ≤ s 11 0 → jR (sProgTo s j)) : jj_C l D ac yX9_canCut (.code yX9_canCut cX9_canCut 5 (some .boolean)) rm_X9_canCut [.ref o, .int (jI q)] G (jj_ri (sCanCut s q) G) (jj_nx) := by
  refine jj_ofx (own := RX9) (lv0 := [some (.ref o), some (.int (jI q)), none, none, none]) hl (by decide +kernel) rfl rfl (Nat.le_of_ble_eq_true rfl) rfl ?_
  intro X B hN hl0 hdg hac hin
  subst hl0; subst hdg; subst hac
  have F := B.F

  have r11 := hR.rng 11 0
  have r13 := hR.rng 13 0
  refine jj_iconst F dX9_canCut_0 ?_
  refine jj_aload0 F dX9_canCut_1 ?_
  refine m9_get F hR fd_X9_152 (by decide) rfl dX9_canCut_2 ?_
  refine jj_iconst F dX9_canCut_5 ?_
  refine jj_isub F dX9_canCut_6 ?_
  refine jj_imul F dX9_canCut_7 ?_
  refine jj_istore2 F dX9_canCut_8 (hN _ (by decide)) rfl ?_
  refine jj_iconst F dX9_canCut_9 ?_
  refine jj_istore3 F dX9_canCut_10 (hN _ (by decide)) rfl ?_
  refine jj_iconst F dX9_canCut_11 ?_
  refine jj_istore4 F dX9_canCut_12 (hN _ (by decide)) rfl ?_
  have loop : ∀ (n j : Nat), n + j = (s 11 0).toNat → jj_J X G 0 0 14 [some (.ref o), some (.int (jI q)), some (.int (jI (sProgTo s j))), some (.int (jI (sPlaysTo s j))), some (.int (jI j))] [] := by
    intro n
    induction n with
    | zero =>
      intro j hj
      have e1 : (j : Int) = s 11 0 := by omega
      refine jj_iload4 F dX9_canCut_14 ?_
      refine jj_aload0 F dX9_canCut_16 ?_
      refine m9_get F hR fd_X9_152 (by decide) rfl dX9_canCut_17 ?_
      refine jj_icmp_ge F (tgt := 67) dX9_canCut_20 rfl (by omega) (fun c20 => ?_) (fun c20 => by exfalso; omega)
      refine jj_aload0 F dX9_canCut_67 ?_
      refine m9_get F hR fd_X9_152 (by decide) rfl dX9_canCut_68 ?_
      refine jj_if_le F (tgt := 104) dX9_canCut_71 rfl (by omega) (fun c71 => ?_) (fun c71 => ?_)
      · skip
        refine jj_iconst F dX9_canCut_104 ?_
        exact jj_zretr B dX9_canCut_105 ⟨Nat.le_of_ble_eq_true rfl, Nat.le_of_ble_eq_true rfl⟩ (by omega) (by unfold sCanCut; have := sPlaysTo_01 s j; rw [show (s 11 0).toNat = j by omega]; first | rw [if_pos (by omega)] | rw [if_neg (by omega)])
      · skip
        refine jj_iload3 F dX9_canCut_74 ?_
        refine jj_if_eq F (tgt := 104) dX9_canCut_75 rfl (by have := sPlaysTo_01 s j; omega) (fun c75 => ?_) (fun c75 => ?_)
        · skip
          refine jj_iconst F dX9_canCut_104 ?_
          exact jj_zretr B dX9_canCut_105 ⟨Nat.le_of_ble_eq_true rfl, Nat.le_of_ble_eq_true rfl⟩ (by omega) (by unfold sCanCut; have := sPlaysTo_01 s j; rw [show (s 11 0).toNat = j by omega]; first | rw [if_pos (by omega)] | rw [if_neg (by omega)])
        · skip
          refine jj_iload2 F dX9_canCut_78 ?_
          refine jj_sipush F (by decide) dX9_canCut_79 ?_
          refine jj_sipush F (by decide) dX9_canCut_82 ?_
          refine jj_iload1 F dX9_canCut_85 ?_
          refine jj_imul F dX9_canCut_86 ?_
          refine jj_isub F dX9_canCut_87 ?_
          refine jj_icmp_gt F (tgt := 104) dX9_canCut_88 rfl (by have := hall j (by omega); omega) (fun c88 => ?_) (fun c88 => ?_)
          · skip
            refine jj_iconst F dX9_canCut_104 ?_
            exact jj_zretr B dX9_canCut_105 ⟨Nat.le_of_ble_eq_true rfl, Nat.le_of_ble_eq_true rfl⟩ (by omega) (by unfold sCanCut; have := sPlaysTo_01 s j; rw [show (s 11 0).toNat = j by omega]; first | rw [if_pos (by omega)] | rw [if_neg (by omega)])
          · skip
            refine jj_aload0 F dX9_canCut_91 ?_
            refine m9_get F hR fd_X9_149 (by decide) rfl dX9_canCut_92 ?_
            refine jj_bipush F (by decide) dX9_canCut_95 ?_
            refine jj_icmp_ge F (tgt := 104) dX9_canCut_97 rfl (by omega) (fun c97 => ?_) (fun c97 => ?_)
            · skip
              refine jj_iconst F dX9_canCut_104 ?_
              exact jj_zretr B dX9_canCut_105 ⟨Nat.le_of_ble_eq_true rfl, Nat.le_of_ble_eq_true rfl⟩ (by omega) (by unfold sCanCut; have := sPlaysTo_01 s j; rw [show (s 11 0).toNat = j by omega]; first | rw [if_pos (by omega)] | rw [if_neg (by omega)])
            · skip
              refine jj_iconst F dX9_canCut_100 ?_
              refine jj_goto F (tgt := 105) dX9_canCut_101 rfl ?_
              exact jj_zretr B dX9_canCut_105 ⟨Nat.le_of_ble_eq_true rfl, Nat.le_of_ble_eq_true rfl⟩ (by omega) (by unfold sCanCut; have := sPlaysTo_01 s j; rw [show (s 11 0).toNat = j by omega]; first | rw [if_pos (by omega)] | rw [if_neg (by omega)])
    | succ n ih =>
      intro j hj
      have e1 : (j : Int) < s 11 0 := by omega
      refine jj_iload4 F dX9_canCut_14 ?_
      refine jj_aload0 F dX9_canCut_16 ?_
      refine m9_get F hR fd_X9_152 (by decide) rfl dX9_canCut_17 ?_
      refine jj_icmp_ge F (tgt := 67) dX9_canCut_20 rfl (by omega) (fun c20 => by exfalso; omega) (fun c20 => ?_)
      refine jj_iload2 F dX9_canCut_23 ?_
      refine jj_aload0 F dX9_canCut_24 ?_
      refine jj_aload0 F dX9_canCut_25 ?_
      refine m9_get F hR fd_X9_37 (by decide) rfl dX9_canCut_26 ?_
      refine jj_iload4 F dX9_canCut_29 ?_
      refine m9_ald F hR (n := 6) rfl (by omega) (by decide) dX9_canCut_31 (fun r_31 => ?_)
      refine jj_callVr B (k := 0) (n := 0) (k9_length F.tr hR (hp j (by omega)).1 (hp j (by omega)).2.1) lk_X9_132 hR.1 cs_9 rfl rfl ⟨Nat.le_of_ble_eq_true rfl, Nat.le_of_ble_eq_true rfl, Nat.le_of_ble_eq_true rfl, Nat.le_of_ble_eq_true rfl, Nat.le_of_ble_eq_true rfl⟩ ⟨Nat.le_of_ble_eq_true rfl, Nat.le_of_ble_eq_true rfl, Nat.le_of_ble_eq_true rfl, Nat.le_of_ble_eq_true rfl⟩ jj_tx0 dX9_canCut_32 ?_
      refine jj_iadd F dX9_canCut_35 ?_
      refine jj_istore2 F dX9_canCut_36 (hN _ (by decide)) rfl ?_
      refine jj_iload3 F dX9_canCut_37 ?_
      refine jj_if_eq F (tgt := 59) dX9_canCut_38 rfl (by have := sPlaysTo_01 s j; omega) (fun c38 => ?_) (fun c38 => ?_)
      · skip
        refine jj_iconst F dX9_canCut_59 ?_
        refine jj_istore3 F dX9_canCut_60 (hN _ (by decide)) rfl ?_
        refine jj_iinc4 F dX9_canCut_61 (hN _ (by decide)) rfl ?_
        refine jj_goto F (tgt := 14) dX9_canCut_64 rfl ?_
        have ih1 := ih (j + 1) (by omega)
        rw [show (((j + 1 : Nat)) : Int) = (j : Int) + 1 from rfl] at ih1
        simp only [sProgTo, sPlaysTo] at ih1
        have e5 := sPlay_01 s (s 12 j)
        have e6 := sPlaysTo_01 s j
        rw [if_pos (by omega)] at ih1
        exact ih1
      · skip
        refine jj_aload0 F dX9_canCut_41 ?_
        refine jj_aload0 F dX9_canCut_42 ?_
        refine m9_get F hR fd_X9_37 (by decide) rfl dX9_canCut_43 ?_
        refine jj_iload4 F dX9_canCut_46 ?_
        refine m9_ald F hR (n := 6) rfl (by omega) (by decide) dX9_canCut_48 (fun r_48 => ?_)
        refine jj_callVr B (k := 0) (n := 0) (k9_isPlayable F.tr hR (hp j (by omega)).1 hd (hp j (by omega)).2.2) lk_X9_136 hR.1 cs_9 rfl rfl ⟨Nat.le_of_ble_eq_true rfl, Nat.le_of_ble_eq_true rfl, Nat.le_of_ble_eq_true rfl, Nat.le_of_ble_eq_true rfl, Nat.le_of_ble_eq_true rfl⟩ ⟨Nat.le_of_ble_eq_true rfl, Nat.le_of_ble_eq_true rfl, Nat.le_of_ble_eq_true rfl, Nat.le_of_ble_eq_true rfl⟩ jj_tx0 dX9_canCut_49 ?_
        refine jj_if_eq F (tgt := 59) dX9_canCut_52 rfl (by have := sPlay_01 s (s 12 j); omega) (fun c52 => ?_) (fun c52 => ?_)
        · skip
          refine jj_iconst F dX9_canCut_59 ?_
          refine jj_istore3 F dX9_canCut_60 (hN _ (by decide)) rfl ?_
          refine jj_iinc4 F dX9_canCut_61 (hN _ (by decide)) rfl ?_
          refine jj_goto F (tgt := 14) dX9_canCut_64 rfl ?_
          have ih1 := ih (j + 1) (by omega)
          rw [show (((j + 1 : Nat)) : Int) = (j : Int) + 1 from rfl] at ih1
          simp only [sProgTo, sPlaysTo] at ih1
          have e5 := sPlay_01 s (s 12 j)
          have e6 := sPlaysTo_01 s j
          rw [if_neg (by omega)] at ih1
          first | rw [show sPlay s (s 12 j) = 1 by omega] at ih1 | rw [show sPlay s (s 12 j) = 0 by omega] at ih1
          exact ih1
        · skip
          refine jj_iconst F dX9_canCut_55 ?_
          refine jj_goto F (tgt := 60) dX9_canCut_56 rfl ?_
          refine jj_istore3 F dX9_canCut_60 (hN _ (by decide)) rfl ?_
          refine jj_iinc4 F dX9_canCut_61 (hN _ (by decide)) rfl ?_
          refine jj_goto F (tgt := 14) dX9_canCut_64 rfl ?_
          have ih1 := ih (j + 1) (by omega)
          rw [show (((j + 1 : Nat)) : Int) = (j : Int) + 1 from rfl] at ih1
          simp only [sProgTo, sPlaysTo] at ih1
          have e5 := sPlay_01 s (s 12 j)
          have e6 := sPlaysTo_01 s j
          rw [if_neg (by omega)] at ih1
          first | rw [show sPlay s (s 12 j) = 1 by omega] at ih1 | rw [show sPlay s (s 12 j) = 0 by omega] at ih1
          exact ih1
  exact loop (s 11 0).toNat 0 (by omega)
abbrev rm_X9_dueOf : Room := { frames := 1, cells := 0, slots := 0, locals := 24 }
set_option maxRecDepth 100000 in
set_option maxHeartbeats 4000000 in
theorem k9_dueOf {l : Launch} {D : va_G} {ac : Nat → ClassId} (hl : l.stackTraces = false) {o : Nat} {a : Nat → Nat} {s : Sg} {z q m : Int} {G : jj_G} (hR : RM (ac 0) o a s G) (hz : 0 ≤ z ∧ z < 100) (hq : 0 ≤ q ∧ q < 6) (hm0 : 0 ≤ m ∧ m ≤ 500) (h32 : 0 ≤ s 32 z ∧ s 32 z < 120) (hr : 0 ≤ s 34 (6 * z + q) ∧ s 34 (6 * z + q) ≤ 9999) (hse : ∀ q : Int, 0 ≤ sSec s (s 32 z / 12) q ∧ sSec s (s 32 z / 12) q ≤ 2000) (hal : 1 ≤ sSec s (s 32 z / 12) (-1) ∧ sSec s (s 32 z / 12) (-1) ≤ 2000) : jj_C l D ac yX9_dueOf (.code yX9_dueOf cX9_dueOf 7 (some .int)) rm_X9_dueOf [.ref o, .int (jI z), .int (jI q), .int (jI m)] G (jj_ri (sDue s z q m) G) (jj_nx) := by
  refine jj_ofx (own := RX9) (lv0 := [some (.ref o), some (.int (jI z)), some (.int (jI q)), some (.int (jI m)), none, none, none]) hl (by decide +kernel) rfl rfl (Nat.le_of_ble_eq_true rfl) rfl ?_
  intro X B hN hl0 hdg hac hin
  subst hl0; subst hdg; subst hac
  have F := B.F

  have hm : 0 ≤ m * s 34 (6 * z + q) * sSec s (s 32 z / 12) q ∧ m * s 34 (6 * z + q) * sSec s (s 32 z / 12) q ≤ 9223372036854775807 := by
    have g1 := hse q
    have g2 : 0 ≤ m * s 34 (6 * z + q) := Int.mul_nonneg hm0.1 hr.1
    have g3 : m * s 34 (6 * z + q) ≤ 500 * 9999 := Int.mul_le_mul hm0.2 hr.2 hr.1 (by omega)
    exact ⟨Int.mul_nonneg g2 g1.1, by have := Int.mul_le_mul g3 g1.2 g1.1 (by omega); omega⟩
  refine jj_aload0 F dX9_dueOf_0 ?_
  refine m9_get F hR fd_X9_82 (by decide) rfl dX9_dueOf_1 ?_
  refine jj_iload1 F dX9_dueOf_4 ?_
  refine m9_ald F hR (n := 100) rfl (by omega) (by decide) dX9_dueOf_5 (fun r_5 => ?_)
  refine jj_bipush F (by decide) dX9_dueOf_6 ?_
  refine jj_idiv F (by omega) dX9_dueOf_8 ?_
  refine jj_istore4 F dX9_dueOf_9 (hN _ (by decide)) rfl ?_
  refine jj_iload3 F dX9_dueOf_11 ?_
  refine jj_i2l F (by omega) dX9_dueOf_12 ?_
  refine jj_aload0 F dX9_dueOf_13 ?_
  refine m9_get F hR fd_X9_88 (by decide) rfl dX9_dueOf_14 ?_
  refine jj_bipush F (by decide) dX9_dueOf_17 ?_
  refine jj_iload1 F dX9_dueOf_19 ?_
  refine jj_imul F dX9_dueOf_20 ?_
  refine jj_iload2 F dX9_dueOf_21 ?_
  refine jj_iadd F dX9_dueOf_22 ?_
  refine m9_ald F hR (n := 600) rfl (by omega) (by decide) dX9_dueOf_23 (fun r_23 => ?_)
  refine jj_i2l F (by omega) dX9_dueOf_24 ?_
  refine jj_lmul F dX9_dueOf_25 ?_
  refine jj_aload0 F dX9_dueOf_26 ?_
  refine jj_iload4 F dX9_dueOf_27 ?_
  refine jj_iload2 F dX9_dueOf_29 ?_
  refine jj_callVr B (k := 0) (n := 0) (k9_secondsOf F.tr hR (by omega) (by omega)) lk_X9_158 hR.1 cs_9 rfl rfl ⟨Nat.le_of_ble_eq_true rfl, Nat.le_of_ble_eq_true rfl, Nat.le_of_ble_eq_true rfl, Nat.le_of_ble_eq_true rfl, Nat.le_of_ble_eq_true rfl⟩ ⟨Nat.le_of_ble_eq_true rfl, Nat.le_of_ble_eq_true rfl, Nat.le_of_ble_eq_true rfl, Nat.le_of_ble_eq_true rfl⟩ jj_tx0 dX9_dueOf_30 ?_
  refine jj_i2l F (by have := hse q; omega) dX9_dueOf_33 ?_
  refine jj_lmul F dX9_dueOf_34 ?_
  refine jj_lstoreB F dX9_dueOf_35 (hN _ (by decide)) rfl ?_
  refine jj_lload5 F dX9_dueOf_37 ?_
  refine jj_ldc2 F (v := 100) cn_X9_170 (by decide) dX9_dueOf_39 ?_
  refine jj_aload0 F dX9_dueOf_42 ?_
  refine jj_iload4 F dX9_dueOf_43 ?_
  refine jj_iconst F dX9_dueOf_45 ?_
  refine jj_callVr B (k := 0) (n := 0) (k9_secondsOf F.tr hR (by omega) (by omega)) lk_X9_158 hR.1 cs_9 rfl rfl ⟨Nat.le_of_ble_eq_true rfl, Nat.le_of_ble_eq_true rfl, Nat.le_of_ble_eq_true rfl, Nat.le_of_ble_eq_true rfl, Nat.le_of_ble_eq_true rfl⟩ ⟨Nat.le_of_ble_eq_true rfl, Nat.le_of_ble_eq_true rfl, Nat.le_of_ble_eq_true rfl, Nat.le_of_ble_eq_true rfl⟩ jj_tx0 dX9_dueOf_46 ?_
  refine jj_i2l F (by omega) dX9_dueOf_49 ?_
  refine jj_lmul F dX9_dueOf_50 ?_
  refine jj_ldiv F ⟨hm.1, hm.2, by omega, by omega⟩ dX9_dueOf_51 ?_
  refine jj_l2i F dX9_dueOf_52 ?_
  exact jj_iretr B dX9_dueOf_53 ⟨Nat.le_of_ble_eq_true rfl, Nat.le_of_ble_eq_true rfl⟩ (by unfold sDue; rfl)
end
