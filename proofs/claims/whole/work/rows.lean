section
-- ===== PART A: goes FIRST, ahead of the names: the tables' words, and 'selects' of the private methods out of them =====
/-- a private method of a class that the tables say can be made, by its rows of tables_1 -/
def lw_okq (q : MethodName × Nat) : Prop := (q.1.cls ≠ "java/lang/invoke/MethodHandle" ∧ q.1.cls ≠ "java/lang/invoke/VarHandle") ∧ Cond.instantiable q.1.cls q.2 ∈ tables_1 ∧ Cond.privateMethod q.1 ∈ tables_1 ∧ Cond.instanceMethod q.1 ∈ tables_1
theorem lw_p0 : lw_okq (⟨"java/lang/Throwable", "fillInStackTrace", "(I)Ljava/lang/Throwable;"⟩, 6) := ⟨⟨by decide +kernel, by decide +kernel⟩, List.mem_of_getElem? (i := 195) (by decide +kernel), List.mem_of_getElem? (i := 193) (by decide +kernel), List.mem_of_getElem? (i := 194) (by decide +kernel)⟩
theorem lw_p1 : lw_okq (⟨"MatrixHouse", "nextTape", "()I"⟩, 10) := ⟨⟨by decide +kernel, by decide +kernel⟩, List.mem_of_getElem? (i := 19) (by decide +kernel), List.mem_of_getElem? (i := 245) (by decide +kernel), List.mem_of_getElem? (i := 246) (by decide +kernel)⟩
theorem lw_p2 : lw_okq (⟨"MatrixHouse$Tape", "append", "(III)V"⟩, 15) := ⟨⟨by decide +kernel, by decide +kernel⟩, List.mem_of_getElem? (i := 264) (by decide +kernel), List.mem_of_getElem? (i := 270) (by decide +kernel), List.mem_of_getElem? (i := 271) (by decide +kernel)⟩
theorem lw_p3 : lw_okq (⟨"MatrixHouse", "tapeAt", "(I)LMatrixHouse$Tape;"⟩, 10) := ⟨⟨by decide +kernel, by decide +kernel⟩, List.mem_of_getElem? (i := 19) (by decide +kernel), List.mem_of_getElem? (i := 341) (by decide +kernel), List.mem_of_getElem? (i := 342) (by decide +kernel)⟩
theorem lw_p4 : lw_okq (⟨"MatrixHouse", "requirePlayable", "(LMatrixHouse$Tape;)V"⟩, 10) := ⟨⟨by decide +kernel, by decide +kernel⟩, List.mem_of_getElem? (i := 19) (by decide +kernel), List.mem_of_getElem? (i := 347) (by decide +kernel), List.mem_of_getElem? (i := 348) (by decide +kernel)⟩
theorem lw_p5 : lw_okq (⟨"MatrixHouse$Tape", "copy", "(LMatrixHouse$Tape;II)V"⟩, 15) := ⟨⟨by decide +kernel, by decide +kernel⟩, List.mem_of_getElem? (i := 264) (by decide +kernel), List.mem_of_getElem? (i := 371) (by decide +kernel), List.mem_of_getElem? (i := 372) (by decide +kernel)⟩
theorem lw_p6 : lw_okq (⟨"MatrixHouse", "sideOfProgram", "()LMatrixHouse$Side;"⟩, 10) := ⟨⟨by decide +kernel, by decide +kernel⟩, List.mem_of_getElem? (i := 19) (by decide +kernel), List.mem_of_getElem? (i := 496) (by decide +kernel), List.mem_of_getElem? (i := 497) (by decide +kernel)⟩
theorem lw_p7 : lw_okq (⟨"MatrixHouse", "sideAt", "(I)LMatrixHouse$Side;"⟩, 10) := ⟨⟨by decide +kernel, by decide +kernel⟩, List.mem_of_getElem? (i := 19) (by decide +kernel), List.mem_of_getElem? (i := 539) (by decide +kernel), List.mem_of_getElem? (i := 540) (by decide +kernel)⟩
theorem lw_p8 : lw_okq (⟨"MatrixHouse$Royalties", "lessen", "(LMatrixHouse$Sale;I)V"⟩, 6) := ⟨⟨by decide +kernel, by decide +kernel⟩, List.mem_of_getElem? (i := 74) (by decide +kernel), List.mem_of_getElem? (i := 699) (by decide +kernel), List.mem_of_getElem? (i := 700) (by decide +kernel)⟩
theorem lw_p9 : lw_okq (⟨"MatrixHouse", "discAt", "(I)LMatrixHouse$Disc;"⟩, 10) := ⟨⟨by decide +kernel, by decide +kernel⟩, List.mem_of_getElem? (i := 19) (by decide +kernel), List.mem_of_getElem? (i := 736) (by decide +kernel), List.mem_of_getElem? (i := 737) (by decide +kernel)⟩
theorem lw_p10 : lw_okq (⟨"MatrixHouse", "requireJoinable", "(I)V"⟩, 10) := ⟨⟨by decide +kernel, by decide +kernel⟩, List.mem_of_getElem? (i := 19) (by decide +kernel), List.mem_of_getElem? (i := 787) (by decide +kernel), List.mem_of_getElem? (i := 788) (by decide +kernel)⟩
theorem lw_p11 : lw_okq (⟨"MatrixHouse", "leastNoisy", "(II)I"⟩, 10) := ⟨⟨by decide +kernel, by decide +kernel⟩, List.mem_of_getElem? (i := 19) (by decide +kernel), List.mem_of_getElem? (i := 793) (by decide +kernel), List.mem_of_getElem? (i := 794) (by decide +kernel)⟩
theorem lw_p12 : lw_okq (⟨"MatrixHouseModel", "goes", "(I)Z"⟩, 38) := ⟨⟨by decide +kernel, by decide +kernel⟩, List.mem_of_getElem? (i := 892) (by decide +kernel), List.mem_of_getElem? (i := 1030) (by decide +kernel), List.mem_of_getElem? (i := 1031) (by decide +kernel)⟩
theorem lw_p13 : lw_okq (⟨"MatrixHouseModel", "puts", "(III)V"⟩, 38) := ⟨⟨by decide +kernel, by decide +kernel⟩, List.mem_of_getElem? (i := 892) (by decide +kernel), List.mem_of_getElem? (i := 1034) (by decide +kernel), List.mem_of_getElem? (i := 1035) (by decide +kernel)⟩
theorem lw_p14 : lw_okq (⟨"MatrixHouseModel", "makes", "(II)I"⟩, 38) := ⟨⟨by decide +kernel, by decide +kernel⟩, List.mem_of_getElem? (i := 892) (by decide +kernel), List.mem_of_getElem? (i := 1038) (by decide +kernel), List.mem_of_getElem? (i := 1039) (by decide +kernel)⟩
theorem lw_p15 : lw_okq (⟨"MatrixHouseModel", "isTape", "(I)Z"⟩, 38) := ⟨⟨by decide +kernel, by decide +kernel⟩, List.mem_of_getElem? (i := 892) (by decide +kernel), List.mem_of_getElem? (i := 1046) (by decide +kernel), List.mem_of_getElem? (i := 1047) (by decide +kernel)⟩
def lw_privs_1 : List (MethodName × Nat) := [(⟨"java/lang/Throwable", "fillInStackTrace", "(I)Ljava/lang/Throwable;"⟩, 6), (⟨"MatrixHouse", "nextTape", "()I"⟩, 10), (⟨"MatrixHouse$Tape", "append", "(III)V"⟩, 15), (⟨"MatrixHouse", "tapeAt", "(I)LMatrixHouse$Tape;"⟩, 10), (⟨"MatrixHouse", "requirePlayable", "(LMatrixHouse$Tape;)V"⟩, 10), (⟨"MatrixHouse$Tape", "copy", "(LMatrixHouse$Tape;II)V"⟩, 15), (⟨"MatrixHouse", "sideOfProgram", "()LMatrixHouse$Side;"⟩, 10), (⟨"MatrixHouse", "sideAt", "(I)LMatrixHouse$Side;"⟩, 10), (⟨"MatrixHouse$Royalties", "lessen", "(LMatrixHouse$Sale;I)V"⟩, 6), (⟨"MatrixHouse", "discAt", "(I)LMatrixHouse$Disc;"⟩, 10), (⟨"MatrixHouse", "requireJoinable", "(I)V"⟩, 10), (⟨"MatrixHouse", "leastNoisy", "(II)I"⟩, 10), (⟨"MatrixHouseModel", "goes", "(I)Z"⟩, 38), (⟨"MatrixHouseModel", "puts", "(III)V"⟩, 38), (⟨"MatrixHouseModel", "makes", "(II)I"⟩, 38), (⟨"MatrixHouseModel", "isTape", "(I)Z"⟩, 38)]
theorem lw_r1 : ∀ q ∈ lw_privs_1, lw_okq q := List.forall_mem_cons.mpr ⟨lw_p0, List.forall_mem_cons.mpr ⟨lw_p1, List.forall_mem_cons.mpr ⟨lw_p2, List.forall_mem_cons.mpr ⟨lw_p3, List.forall_mem_cons.mpr ⟨lw_p4, List.forall_mem_cons.mpr ⟨lw_p5, List.forall_mem_cons.mpr ⟨lw_p6, List.forall_mem_cons.mpr ⟨lw_p7, List.forall_mem_cons.mpr ⟨lw_p8, List.forall_mem_cons.mpr ⟨lw_p9, List.forall_mem_cons.mpr ⟨lw_p10, List.forall_mem_cons.mpr ⟨lw_p11, List.forall_mem_cons.mpr ⟨lw_p12, List.forall_mem_cons.mpr ⟨lw_p13, List.forall_mem_cons.mpr ⟨lw_p14, List.forall_mem_cons.mpr ⟨lw_p15, fun _ h => absurd h List.not_mem_nil⟩⟩⟩⟩⟩⟩⟩⟩⟩⟩⟩⟩⟩⟩⟩⟩
theorem lw_p16 : lw_okq (⟨"MatrixHouseModel", "length", "(I)I"⟩, 38) := ⟨⟨by decide +kernel, by decide +kernel⟩, List.mem_of_getElem? (i := 892) (by decide +kernel), List.mem_of_getElem? (i := 1050) (by decide +kernel), List.mem_of_getElem? (i := 1051) (by decide +kernel)⟩
theorem lw_p17 : lw_okq (⟨"MatrixHouseModel", "isPlayable", "(I)Z"⟩, 38) := ⟨⟨by decide +kernel, by decide +kernel⟩, List.mem_of_getElem? (i := 892) (by decide +kernel), List.mem_of_getElem? (i := 1054) (by decide +kernel), List.mem_of_getElem? (i := 1055) (by decide +kernel)⟩
theorem lw_p18 : lw_okq (⟨"MatrixHouseModel", "spansIn", "(III)I"⟩, 38) := ⟨⟨by decide +kernel, by decide +kernel⟩, List.mem_of_getElem? (i := 892) (by decide +kernel), List.mem_of_getElem? (i := 1058) (by decide +kernel), List.mem_of_getElem? (i := 1059) (by decide +kernel)⟩
theorem lw_p19 : lw_okq (⟨"MatrixHouseModel", "copies", "(III)V"⟩, 38) := ⟨⟨by decide +kernel, by decide +kernel⟩, List.mem_of_getElem? (i := 892) (by decide +kernel), List.mem_of_getElem? (i := 1062) (by decide +kernel), List.mem_of_getElem? (i := 1063) (by decide +kernel)⟩
theorem lw_p20 : lw_okq (⟨"MatrixHouseModel", "takesOf", "(I)I"⟩, 38) := ⟨⟨by decide +kernel, by decide +kernel⟩, List.mem_of_getElem? (i := 892) (by decide +kernel), List.mem_of_getElem? (i := 1090) (by decide +kernel), List.mem_of_getElem? (i := 1091) (by decide +kernel)⟩
theorem lw_p21 : lw_okq (⟨"MatrixHouseModel", "canCut", "(I)Z"⟩, 38) := ⟨⟨by decide +kernel, by decide +kernel⟩, List.mem_of_getElem? (i := 892) (by decide +kernel), List.mem_of_getElem? (i := 1114) (by decide +kernel), List.mem_of_getElem? (i := 1115) (by decide +kernel)⟩
theorem lw_p22 : lw_okq (⟨"MatrixHouseModel", "secondsOf", "(II)I"⟩, 38) := ⟨⟨by decide +kernel, by decide +kernel⟩, List.mem_of_getElem? (i := 892) (by decide +kernel), List.mem_of_getElem? (i := 1122) (by decide +kernel), List.mem_of_getElem? (i := 1123) (by decide +kernel)⟩
theorem lw_p23 : lw_okq (⟨"MatrixHouseModel", "isNamed", "(III)Z"⟩, 38) := ⟨⟨by decide +kernel, by decide +kernel⟩, List.mem_of_getElem? (i := 892) (by decide +kernel), List.mem_of_getElem? (i := 1130) (by decide +kernel), List.mem_of_getElem? (i := 1131) (by decide +kernel)⟩
theorem lw_p24 : lw_okq (⟨"MatrixHouseModel", "dueOf", "(III)I"⟩, 38) := ⟨⟨by decide +kernel, by decide +kernel⟩, List.mem_of_getElem? (i := 892) (by decide +kernel), List.mem_of_getElem? (i := 1152) (by decide +kernel), List.mem_of_getElem? (i := 1153) (by decide +kernel)⟩
theorem lw_p25 : lw_okq (⟨"MatrixHouseModel", "discsOf", "(I)I"⟩, 38) := ⟨⟨by decide +kernel, by decide +kernel⟩, List.mem_of_getElem? (i := 892) (by decide +kernel), List.mem_of_getElem? (i := 1161) (by decide +kernel), List.mem_of_getElem? (i := 1162) (by decide +kernel)⟩
theorem lw_p26 : lw_okq (⟨"MatrixHouseModel", "takesOff", "(II)V"⟩, 38) := ⟨⟨by decide +kernel, by decide +kernel⟩, List.mem_of_getElem? (i := 892) (by decide +kernel), List.mem_of_getElem? (i := 1165) (by decide +kernel), List.mem_of_getElem? (i := 1166) (by decide +kernel)⟩
theorem lw_p27 : lw_okq (⟨"MatrixHouseModel", "isDisc", "(I)Z"⟩, 38) := ⟨⟨by decide +kernel, by decide +kernel⟩, List.mem_of_getElem? (i := 892) (by decide +kernel), List.mem_of_getElem? (i := 1177) (by decide +kernel), List.mem_of_getElem? (i := 1178) (by decide +kernel)⟩
theorem lw_p28 : lw_okq (⟨"MatrixHouseModel", "noiseOf", "(II)I"⟩, 38) := ⟨⟨by decide +kernel, by decide +kernel⟩, List.mem_of_getElem? (i := 892) (by decide +kernel), List.mem_of_getElem? (i := 1188) (by decide +kernel), List.mem_of_getElem? (i := 1189) (by decide +kernel)⟩
theorem lw_p29 : lw_okq (⟨"MatrixHouseModel", "areDiscs", "(I)Z"⟩, 38) := ⟨⟨by decide +kernel, by decide +kernel⟩, List.mem_of_getElem? (i := 892) (by decide +kernel), List.mem_of_getElem? (i := 1204) (by decide +kernel), List.mem_of_getElem? (i := 1205) (by decide +kernel)⟩
theorem lw_p30 : lw_okq (⟨"MatrixHouseModel", "areOfOneSide", "(I)Z"⟩, 38) := ⟨⟨by decide +kernel, by decide +kernel⟩, List.mem_of_getElem? (i := 892) (by decide +kernel), List.mem_of_getElem? (i := 1208) (by decide +kernel), List.mem_of_getElem? (i := 1209) (by decide +kernel)⟩
theorem lw_p31 : lw_okq (⟨"MatrixHouseModel", "joinOf", "(II)I"⟩, 38) := ⟨⟨by decide +kernel, by decide +kernel⟩, List.mem_of_getElem? (i := 892) (by decide +kernel), List.mem_of_getElem? (i := 1212) (by decide +kernel), List.mem_of_getElem? (i := 1213) (by decide +kernel)⟩
def lw_privs_2 : List (MethodName × Nat) := [(⟨"MatrixHouseModel", "length", "(I)I"⟩, 38), (⟨"MatrixHouseModel", "isPlayable", "(I)Z"⟩, 38), (⟨"MatrixHouseModel", "spansIn", "(III)I"⟩, 38), (⟨"MatrixHouseModel", "copies", "(III)V"⟩, 38), (⟨"MatrixHouseModel", "takesOf", "(I)I"⟩, 38), (⟨"MatrixHouseModel", "canCut", "(I)Z"⟩, 38), (⟨"MatrixHouseModel", "secondsOf", "(II)I"⟩, 38), (⟨"MatrixHouseModel", "isNamed", "(III)Z"⟩, 38), (⟨"MatrixHouseModel", "dueOf", "(III)I"⟩, 38), (⟨"MatrixHouseModel", "discsOf", "(I)I"⟩, 38), (⟨"MatrixHouseModel", "takesOff", "(II)V"⟩, 38), (⟨"MatrixHouseModel", "isDisc", "(I)Z"⟩, 38), (⟨"MatrixHouseModel", "noiseOf", "(II)I"⟩, 38), (⟨"MatrixHouseModel", "areDiscs", "(I)Z"⟩, 38), (⟨"MatrixHouseModel", "areOfOneSide", "(I)Z"⟩, 38), (⟨"MatrixHouseModel", "joinOf", "(II)I"⟩, 38)]
theorem lw_r2 : ∀ q ∈ lw_privs_2, lw_okq q := List.forall_mem_cons.mpr ⟨lw_p16, List.forall_mem_cons.mpr ⟨lw_p17, List.forall_mem_cons.mpr ⟨lw_p18, List.forall_mem_cons.mpr ⟨lw_p19, List.forall_mem_cons.mpr ⟨lw_p20, List.forall_mem_cons.mpr ⟨lw_p21, List.forall_mem_cons.mpr ⟨lw_p22, List.forall_mem_cons.mpr ⟨lw_p23, List.forall_mem_cons.mpr ⟨lw_p24, List.forall_mem_cons.mpr ⟨lw_p25, List.forall_mem_cons.mpr ⟨lw_p26, List.forall_mem_cons.mpr ⟨lw_p27, List.forall_mem_cons.mpr ⟨lw_p28, List.forall_mem_cons.mpr ⟨lw_p29, List.forall_mem_cons.mpr ⟨lw_p30, List.forall_mem_cons.mpr ⟨lw_p31, fun _ h => absurd h List.not_mem_nil⟩⟩⟩⟩⟩⟩⟩⟩⟩⟩⟩⟩⟩⟩⟩⟩
def lw_privs : List (MethodName × Nat) := lw_privs_1 ++ (lw_privs_2)
def lw_tbl : List Cond := k2_sels lw_privs ++ tables_1
theorem lw_privs_ok : ∀ q ∈ lw_privs, lw_okq q := by
  show ∀ q ∈ lw_privs_1 ++ (lw_privs_2), lw_okq q
  exact List.forall_mem_append.mpr ⟨lw_r1, lw_r2⟩
-- ===== end of PART A; then your names; then what follows =====
end
section
/-! ===== BEGIN words of one list among another's, by their places ===== -/
theorem goodIn_r {big : List Cond} (ws : List Cond) (ps : List Nat) (hp : ws = ps.filterMap (fun i => big[i]?)) (h : ws.all goodWord = true) : GoodIn big ws := by
  intro w hw
  have h1 := List.all_eq_true.mp h w hw
  rw [hp] at hw
  obtain ⟨i, -, hi⟩ := List.mem_filterMap.mp hw
  have hm : w ∈ big := by first | exact List.mem_of_getElem? hi | exact List.getElem?_mem hi
  exact ⟨hm, good_of_word h1⟩
theorem goodIn_app {big a b : List Cond} (ha : GoodIn big a) (hb : GoodIn big b) : GoodIn big (a ++ b) := fun w h => (List.mem_append.mp h).elim (ha w) (hb w)
theorem goodIn_ca {big a b : List Cond} {c : Cond} (ha : GoodIn big (c :: a)) (hb : GoodIn big b) : GoodIn big (c :: (a ++ b)) := fun w h => (List.mem_cons.mp h).elim (fun e => ha w (List.mem_cons.mpr (Or.inl e))) (fun h => (List.mem_append.mp h).elim (fun h => ha w (List.mem_cons.mpr (Or.inr h))) (hb w))
theorem goodIn_sub {big ws : List Cond} (hm : ∀ w ∈ ws, w ∈ big) (h : ws.all goodWord = true) : GoodIn big ws := fun w hw => ⟨hm w hw, good_of_word (List.all_eq_true.mp h w hw)⟩
/-! ===== END ===== -/

/-! ===== BEGIN exceptions that leave a method, and their catching by the caller (launches without stack traces) ===== -/
section VXA
/-! The laws vx_back, vx_callV, vx_callS, vx_callSW, vx_throw0, vx_throwS follow proofs of the library, with one case more: JvmDerived/Free/Laws.lean (Back.of_free), Shelf42/LK1.lean (callV, callS), Shelf/KitTraced.lean (throwNew0V, throwNewS). -/
/-- where a method has thrown q: the class by its name, the cell, what was written, the world -/
def vx_T (XC : String → State → State → Prop) (st : State) (q : Addr) (t : State) (mc ms : Nat) (free : Addr → Prop) : Prop :=
  ∃ (E : String) (ce : Cell) (L : List Loc), XC E st t ∧ t.heap[q]? = some ce ∧ ce.vm = .none ∧ st.vm.findClass E = some ce.cls ∧ st.WarmedH t.vm ∧ st.sameButNew ({ t with vm := st.vm } : State) L mc ms ∧ ∀ z ∈ L, free z.base
def vx_Q (Qc : Array Value → State → Outcome → State → Prop) (XC : String → State → State → Prop) (mc ms : Nat) (free : Addr → Prop) : Array Value → State → Outcome → State → Prop := fun a st o t =>
  (Qc a st o t ∧ ∃ L, FrameEnd st o t L mc ms ∧ ∀ q ∈ L, free q.base) ∨ ∃ q, o = .threw q ∧ vx_T XC st q t mc ms free
/-- a callee that returns or throws -/
def vx_Met (l : Launch) (y : MethodName) (ws : List Cond) (rm : Room) (Pc : Array Value → State → Prop) (Qc : Array Value → State → Outcome → State → Prop) (XC : String → State → State → Prop) (mc ms : Nat) (free : Addr → Prop) : Prop :=
  MetFree l y (headSpec ws rm) Pc (fun _ _ _ _ _ => True) (vx_Q Qc XC mc ms free)
def vx_Post (XC : String → State → State → Prop) (mc ms : Nat) (free : Addr → Prop) : Pt → Array Value → Addr → Pt → Prop := fun A a q B =>
  ∃ (g : JFrame) (mk : MethodId) (t : State) (L : List Loc) (E : String) (ce : Cell), B.U.heap = t.heap ∧ B.U.vm = t.vm ∧ XC E (A.U.calling g mk a) t ∧ t.heap[q]? = some ce ∧ ce.vm = .none ∧ A.U.vm.findClass E = some ce.cls ∧ B.locs = A.locs ++ L ∧ (∀ z ∈ L, free z.base) ∧ B.cells = A.cells + mc ∧ B.slots = A.slots + ms
def vx_Back (l : Launch) (R : Room) (p : Program) (e : Env) (below : List Frame) (s : State) (sargs : Array Value) (y : MethodName) (len W9 : Nat)
    (Pre : Pt → Array Value → Prop) (Post : Pt → Array Value → Option Value → Pt → Prop) (PostX : Pt → Array Value → Addr → Pt → Prop) : Prop :=
  ∀ (m : MethodId) (meth : Method) (c : Code) (A : Pt) (g : JFrame) (ig : Instr) (mk : MethodId) (a : Array Value),
    Stand p l e R s m sargs below meth c A.U A.locs A.cells A.slots → g.method = m → g.locals.size = c.maxLocals → decode c.code g.pc = .ok (ig, len) →
    2 * g.monitorRoom + (g.stack.map fun v => v.category).sum ≤ W9 → A.U.methodNamed? y = some mk → Pre A a →
    (∃ (v : Option Value) (B : Pt), Stand p l e R s m sargs below meth c B.U B.locs B.cells B.slots ∧ Post A a v B ∧
      Steps p.tables e below (doInvoke e (A.U.setTop g) [] mk a).1 (B.U.setTop { g with pc := g.pc + len, stack := v.toList ++ g.stack })) ∨
    (∃ (q : Addr) (B : Pt), Stand p l e R s m sargs below meth c B.U B.locs B.cells B.slots ∧ PostX A a q B ∧
      Steps p.tables e below (doInvoke e (A.U.setTop g) [] mk a).1 ((B.U.setTop g).pushFrame (.throwing q)))
section Payer
variable {l : Launch} {R : Room} {p : Program} {e : Env} {below : List Frame} {s : State} {sargs : Array Value} {y : MethodName} {len W9 : Nat}
theorem vx_back {ws : List Cond} {rm : Room} {Pc : Array Value → State → Prop} {Qc : Array Value → State → Outcome → State → Prop} {XC : String → State → State → Prop} {mc ms : Nat} {free : Addr → Prop} {bytes : ByteArray} {maxL : Nat} {ret : Option FieldType}
    (hM : vx_Met l y ws rm Pc Qc XC mc ms free) (hblind : FrameBlind Pc) (hrc : rm.cells = mc) (hrs : rm.slots = ms)
    (hframes : rm.frames + 1 ≤ R.frames) (hlocals : W9 + (maxL + 11) + rm.locals ≤ R.locals)
    (hws : ∀ w ∈ ws, ∀ a' U, s.WarmedH U.vm → w.before a' U = true) (hcode : Cond.code y bytes maxL ret ∈ ws) (hinit : ∀ a' U, s.WarmedH U.vm → (Cond.initialized y.cls).before a' U = true) :
    vx_Back l R p e below s sargs y len W9 (PreOf R mc ms Pc) (PostOf Qc mc ms free) (vx_Post XC mc ms free) := by
  intro m meth c A g ig mk a X hg hsize hdg hW hn hp
  have h1 : (headSpec ws rm).pre.before a A.U = true := atoms_intro fun w hw => hws w hw _ _ X.warmed
  have h2 : (Cond.code y bytes maxL ret).before a A.U = true := hws _ hcode _ _ X.warmed
  have h3 : (Cond.initialized y.cls).before a A.U = true := hinit _ _ X.warmed
  have h4 : A.cells + (headSpec ws rm).room.cells ≤ R.cells := by rw [show (headSpec ws rm).room.cells = mc from hrc]; exact hp.1
  have h5 : A.slots + (headSpec ws rm).room.slots ≤ R.slots := by rw [show (headSpec ws rm).room.slots = ms from hrs]; exact hp.2.1
  have hPc : Pc a (A.U.calling g mk a) := hblind _ _ _ _ hp.2.2
  obtain ⟨U, Ls, c0, s0⟩ := A
  dsimp only [Pt.U, Pt.locs, Pt.cells, Pt.slots] at h1 h2 h3 h4 h5 X hn hPc ⊢
  obtain ⟨methY, cY, hmY, hcY, -, hlY, -, -, -, -⟩ := Cond.code_spec hn h2
  obtain ⟨kY, hkY, -⟩ := className_of_methodNamed hn
  have hinitY : kY.init = .initialized := Cond.initialized_spec (findClass_of_methodNamed hn) hkY h3
  have h : At U g.method c below := by rw [hg]; exact X.here
  have hlocals9 : W9 + (maxL + 11) + (headSpec ws rm).room.locals ≤ R.locals := hlocals
  have happ : (headSpec ws rm).appliesLoose y e.platform (U.calling g mk a) = true :=
    Spec.appliesLoose_calling (g := g) h hdg hn hkY hinitY
      (X.room_calling (g := g) (R' := (headSpec ws rm).room) hsize hmY hcY hframes (by rw [hlY]; omega) h4 h5) h1
  obtain ⟨mid, hmid⟩ := h.above
  have hfr : (U.setTop g).frames = (.java g :: mid) ++ below := by rw [State.frames_setTop' g h.top, hmid]; rfl
  obtain ⟨o, s₂, hsteps, -, hend, hq⟩ := Steps.callFree hM p X.admits X.cas X.clock (acts := []) hfr happ hPc trivial
  have hq' : vx_Q Qc XC mc ms free a (U.calling g mk a) o s₂ := hq
  rw [State.frames_setTop' g h.top] at hend
  obtain ⟨g₀, hg0⟩ := Option.isSome_iff_exists.mp h.top
  obtain ⟨r, hr⟩ := State.topJava?_eq_some.mp hg0
  have hr' : (({ U with heap := s₂.heap, slotsUsed := s₂.slotsUsed } : State).setVm s₂.vm).frames = .java g₀ :: r := hr
  rcases hq' with ⟨hqc, L, hfe, hL⟩ | ⟨q, rfl, E, ce, L, hx, hce, hcv, hcl, hW₂, hsm, hL⟩
  · obtain ⟨⟨v, rfl⟩, hW₂, e2, q2, q3, q4, q5, q6⟩ := id hfe
    have e3 : s₂ = ({ (U.calling g mk a).setFrames s₂.frames with heap := s₂.heap, slotsUsed := s₂.slotsUsed } : State).setVm s₂.vm := by
      have : s₂ = ({ s₂ with vm := (U.calling g mk a).vm } : State).setVm s₂.vm := rfl
      rw [e2] at this
      exact this
    obtain ⟨c₂, i₂, len₂, hc₂, hd₂, hf₂⟩ := hend
    have hW' : U.WarmedH s₂.vm := hW₂
    have hcc : c₂ = c := by
      have h1 : s₂.code? g.method = U.code? g.method := by
        rw [State.code?_eq, State.code?_eq, hW'.alike.method?]
      exact Option.some.inj (hc₂.symm.trans (h1.trans h.code))
    subst hcc
    have hlen : len₂ = len := by rw [hdg] at hd₂; cases hd₂; rfl
    subst hlen
    have hs₂ : s₂ = (({ U with heap := s₂.heap, slotsUsed := s₂.slotsUsed } : State).setVm s₂.vm).setTop { g with pc := g.pc + len₂, stack := v.toList ++ g.stack } := by
      refine e3.trans ?_
      rw [hf₂, State.calling_eq h.top, State.setFrames_setFrames, State.setTop_of_frames _ hr', hr]
      rfl
    have hsame : U.sameButNew ({ U with heap := s₂.heap, slotsUsed := s₂.slotsUsed } : State) L mc ms := by
      refine ⟨?_, q2, q3, q4, q5, q6⟩
      obtain ⟨t, ht, -⟩ := State.frames_cons hr
      show ({ U with heap := s₂.heap, slotsUsed := s₂.slotsUsed } : State) = { U.setFrames U.frames with heap := s₂.heap, slotsUsed := s₂.slotsUsed }
      rw [State.setFrames_self ht]
    subst hg
    refine Or.inl ⟨v, ⟨(({ U with heap := s₂.heap, slotsUsed := s₂.slotsUsed } : State).setVm s₂.vm), Ls ++ L, c0 + mc, s0 + ms⟩,
      ⟨X.admits, X.cas, X.clock, X.frames, X.room, X.hears, X.method, X.code, (X.here.setHeapUsed s₂.heap s₂.slotsUsed).setVm hW'.alike, X.tail, State.WarmedH.trans X.warmed hW', X.limits, X.bytes, X.same.trans (hsame.setVm s.vm)⟩,
      ⟨g, mk, s₂, L, rfl, rfl, hqc, rfl, hL, rfl, rfl⟩, ?_⟩
    show Steps p.tables e below _ ((({ U with heap := s₂.heap, slotsUsed := s₂.slotsUsed } : State).setVm s₂.vm).setTop { g with pc := g.pc + len₂, stack := v.toList ++ g.stack })
    rw [← hs₂]
    exact hsteps
  · obtain ⟨e2, q2, q3, q4, q5, q6⟩ := id hsm
    have e3 : s₂ = ({ (U.calling g mk a).setFrames s₂.frames with heap := s₂.heap, slotsUsed := s₂.slotsUsed } : State).setVm s₂.vm := by
      have : s₂ = ({ s₂ with vm := (U.calling g mk a).vm } : State).setVm s₂.vm := rfl
      rw [e2] at this
      exact this
    have hf₂ : s₂.frames = .throwing q :: .java g :: U.frames.tail := hend
    have hW' : U.WarmedH s₂.vm := hW₂
    have hs₂ : s₂ = ((({ U with heap := s₂.heap, slotsUsed := s₂.slotsUsed } : State).setVm s₂.vm).setTop g).pushFrame (.throwing q) := by
      refine e3.trans ?_
      rw [hf₂, State.calling_eq h.top, State.setFrames_setFrames, State.pushFrame, State.frames_setTop _ hr', State.setTop_of_frames _ hr', State.setFrames_setFrames, hr]
      rfl
    have hsame : U.sameButNew ({ U with heap := s₂.heap, slotsUsed := s₂.slotsUsed } : State) L mc ms := by
      refine ⟨?_, q2, q3, q4, q5, q6⟩
      obtain ⟨t, ht, -⟩ := State.frames_cons hr
      show ({ U with heap := s₂.heap, slotsUsed := s₂.slotsUsed } : State) = { U.setFrames U.frames with heap := s₂.heap, slotsUsed := s₂.slotsUsed }
      rw [State.setFrames_self ht]
    subst hg
    refine Or.inr ⟨q, ⟨(({ U with heap := s₂.heap, slotsUsed := s₂.slotsUsed } : State).setVm s₂.vm), Ls ++ L, c0 + mc, s0 + ms⟩,
      ⟨X.admits, X.cas, X.clock, X.frames, X.room, X.hears, X.method, X.code, (X.here.setHeapUsed s₂.heap s₂.slotsUsed).setVm hW'.alike, X.tail, State.WarmedH.trans X.warmed hW', X.limits, X.bytes, X.same.trans (hsame.setVm s.vm)⟩,
      ⟨g, mk, s₂, L, E, ce, rfl, rfl, hx, hce, hcv, hcl, rfl, hL, rfl, rfl⟩, ?_⟩
    show Steps p.tables e below _ (((({ U with heap := s₂.heap, slotsUsed := s₂.slotsUsed } : State).setVm s₂.vm).setTop g).pushFrame (.throwing q))
    rw [← hs₂]
    exact hsteps
end Payer
section Calls
variable {p : Program} {l : Launch} {e : Env} {R : Room} {s : State} {m : MethodId} {args : Array Value} {below : List Frame} {meth : Method} {c : Code} {T : State} {locs : List Loc} {cells slots : Nat}
theorem vx_callV (X : Stand p l e R s m args below meth c T locs cells slots) (hexec : p.tables.exec = Jvm.exec) {own C : String} {index : Nat} {y : MethodName} {bytes : ByteArray} {maxL : Nat} {ret : Option FieldType}
    (hown : s.vm.findClass own = some m.cls) (hlink : (Cond.methodLink own index y).before args s = true) (hinst : (Cond.instanceMethod y).before args s = true) (hsel : (Cond.selects C y y).before args s = true)
    (hcode : (Cond.code y bytes maxL ret).before args s = true) (hy : y.cls ≠ "java/lang/invoke/MethodHandle" ∧ y.cls ≠ "java/lang/invoke/VarHandle")
    {W9 : Nat} {Pre : Pt → Array Value → Prop} {Post : Pt → Array Value → Option Value → Pt → Prop} {PostX : Pt → Array Value → Addr → Pt → Prop} (hK : vx_Back l R p e below s args y 3 W9 Pre Post PostX)
    {b : Addr} {cellB : Cell} (hcell : T.heap[b]? = some cellB) (hobj : cellB.vm.isStatics = false) (hcls : s.vm.findClass C = some cellB.cls)
    {g : JFrame} (hg : g.method = m) (hsize : g.locals.size = c.maxLocals) {argsL rest : List Value} (hlen : ∀ sig, parseMethodDescriptor y.desc = some sig → argsL.length = sig.parameters.length)
    (hstack : g.stack = argsL.reverse ++ .ref b :: rest) (hW : 2 * g.monitorRoom + (rest.map fun v => v.category).sum ≤ W9) (hdg : decode c.code g.pc = .ok (.invokevirtual index, 3))
    (hpre : ∀ vm₁, s.WarmedH vm₁ → Pre ⟨T.setVm vm₁, locs, cells, slots⟩ (Value.ref b :: argsL).toArray) :
    (∃ (v : Option Value) (vm₁ : Vm) (B : Pt), s.WarmedH vm₁ ∧ Stand p l e R s m args below meth c B.U B.locs B.cells B.slots ∧ Post ⟨T.setVm vm₁, locs, cells, slots⟩ (Value.ref b :: argsL).toArray v B ∧
      ∀ target, Steps p.tables e below (B.U.setTop { g with pc := g.pc + 3, stack := v.toList ++ rest }) target → Steps p.tables e below (T.setTop g) target) ∨
    (∃ (q : Addr) (vm₁ : Vm) (B : Pt), s.WarmedH vm₁ ∧ Stand p l e R s m args below meth c B.U B.locs B.cells B.slots ∧ PostX ⟨T.setVm vm₁, locs, cells, slots⟩ (Value.ref b :: argsL).toArray q B ∧
      Steps p.tables e below (T.setTop g) ((B.U.setTop { g with stack := rest }).pushFrame (.throwing q))) := by
  obtain ⟨mk, methM, hnamed, hmethM, hstM, habM⟩ := Cond.instanceMethod_spec hinst
  obtain ⟨methM', cM, hmethM', -, -, -, -, -, -, hsigM⟩ := Cond.code_spec hnamed hcode
  cases hmethM.symm.trans hmethM'
  obtain ⟨c2, r2, m2, q1, q2, q3, q4, kP, hkP, hkPi⟩ := Cond.selects_spec hsel
  cases hcls.symm.trans q1
  cases (State.methodFound?_of_named hnamed hy).symm.trans q2
  cases hnamed.symm.trans q3
  have hselP : selectMethod e.platform s.vm cellB.cls mk = .method mk := by rw [Launch.admits_selectMethod X.admits]; exact q4
  obtain ⟨vm₁, X₁, hstep₁⟩ := X.invokevirtual hexec hown hlink hnamed hmethM hstM hkP hkPi hy (a := b) (cell := cellB) hcell
    (fun z h => by rw [h] at hobj; cases hobj) hselP hmethM habM hkP hkPi (g := g) hg (argsL := argsL) (rest := rest) (hlen _ hsigM) hstack hdg
  rcases hK m meth c ⟨T.setVm vm₁, locs, cells, slots⟩ { g with stack := rest } (.invokevirtual index) mk (Value.ref b :: argsL).toArray X₁ hg hsize hdg hW (X₁.named hnamed) (hpre vm₁ X₁.warmed) with ⟨v, B, X', hpost, hsteps⟩ | ⟨q, B, X', hpost, hsteps⟩
  · exact Or.inl ⟨v, vm₁, B, X₁.warmed, X', hpost, fun target h => hstep₁ _ fun acts => by rw [doInvoke_state]; exact hsteps.trans h⟩
  · exact Or.inr ⟨q, vm₁, B, X₁.warmed, X', hpost, hstep₁ _ fun acts => by rw [doInvoke_state]; exact hsteps⟩
theorem vx_callS (X : Stand p l e R s m args below meth c T locs cells slots) (hexec : p.tables.exec = Jvm.exec) {own : String} {index : Nat} {y : MethodName} {bytes : ByteArray} {maxL : Nat} {ret : Option FieldType}
    (hown : s.vm.findClass own = some m.cls) (hlink : (Cond.methodLink own index y).before args s = true) (hstat : (Cond.static y).before args s = true) (hinit : (Cond.initialized y.cls).before args s = true)
    (hcode : (Cond.code y bytes maxL ret).before args s = true) (hy : y.cls ≠ "java/lang/invoke/MethodHandle" ∧ y.cls ≠ "java/lang/invoke/VarHandle")
    {W9 : Nat} {Pre : Pt → Array Value → Prop} {Post : Pt → Array Value → Option Value → Pt → Prop} {PostX : Pt → Array Value → Addr → Pt → Prop} (hK : vx_Back l R p e below s args y 3 W9 Pre Post PostX)
    {g : JFrame} (hg : g.method = m) (hsize : g.locals.size = c.maxLocals) {argsL rest : List Value} (hlen : ∀ sig, parseMethodDescriptor y.desc = some sig → argsL.length = sig.parameters.length)
    (hstack : g.stack = argsL.reverse ++ rest) (hW : 2 * g.monitorRoom + (rest.map fun v => v.category).sum ≤ W9) (hdg : decode c.code g.pc = .ok (.invokestatic index, 3))
    (hpre : ∀ vm₁, s.WarmedH vm₁ → Pre ⟨T.setVm vm₁, locs, cells, slots⟩ argsL.toArray) :
    (∃ (v : Option Value) (vm₁ : Vm) (B : Pt), s.WarmedH vm₁ ∧ Stand p l e R s m args below meth c B.U B.locs B.cells B.slots ∧ Post ⟨T.setVm vm₁, locs, cells, slots⟩ argsL.toArray v B ∧
      ∀ target, Steps p.tables e below (B.U.setTop { g with pc := g.pc + 3, stack := v.toList ++ rest }) target → Steps p.tables e below (T.setTop g) target) ∨
    (∃ (q : Addr) (vm₁ : Vm) (B : Pt), s.WarmedH vm₁ ∧ Stand p l e R s m args below meth c B.U B.locs B.cells B.slots ∧ PostX ⟨T.setVm vm₁, locs, cells, slots⟩ argsL.toArray q B ∧
      Steps p.tables e below (T.setTop g) ((B.U.setTop { g with stack := rest }).pushFrame (.throwing q))) := by
  obtain ⟨mk, hnamed⟩ := Cond.code_named hcode
  obtain ⟨methM, cM, hmethM, -, -, -, -, -, -, hsigM⟩ := Cond.code_spec hnamed hcode
  have hstatic : methM.isStatic = true := Cond.static_spec hnamed hmethM hstat
  obtain ⟨kP, hkP, -⟩ := className_of_methodNamed hnamed
  have hinitP : kP.init = .initialized := Cond.initialized_spec (findClass_of_methodNamed hnamed) hkP hinit
  obtain ⟨vm₁, X₁, hstep₁⟩ := X.invokestatic hexec hown hlink hnamed hmethM hstatic hkP hinitP hy (g := g) hg (argsL := argsL) (rest := rest) (hlen _ hsigM) hstack hdg
  rcases hK m meth c ⟨T.setVm vm₁, locs, cells, slots⟩ { g with stack := rest } (.invokestatic index) mk argsL.toArray X₁ hg hsize hdg hW (X₁.named hnamed) (hpre vm₁ X₁.warmed) with ⟨v, B, X', hpost, hsteps⟩ | ⟨q, B, X', hpost, hsteps⟩
  · exact Or.inl ⟨v, vm₁, B, X₁.warmed, X', hpost, fun target h => hstep₁ _ fun acts => by rw [doInvoke_state]; exact hsteps.trans h⟩
  · exact Or.inr ⟨q, vm₁, B, X₁.warmed, X', hpost, hstep₁ _ fun acts => by rw [doInvoke_state]; exact hsteps⟩
end Calls
theorem vx_cls {s : State} {T : State} {vm₁ : Vm} {E : String} {k : ClassId} (hW : s.WarmedH vm₁) (h : (T.setVm vm₁).vm.findClass E = some k) : s.vm.findClass E = some k := by
  have h1 : vm₁.findClass E = some k := h
  rw [hW.alike.findClass] at h1
  exact h1
/-- the method's frame g, with q thrown over it -/
def vx_W (p : Program) (l : Launch) (e : Env) (R : Room) (s : State) (m : MethodId) (args : Array Value) (below : List Frame) (meth : Method) (c : Code) (H : Heap) (locs : List Loc) (cells slots : Nat) (Q : State → Prop) (g : JFrame) (q : Addr) : Prop :=
  ∀ T : State, T.heap = H → Stand p l e R s m args below meth c T locs cells slots → ∃ t, Steps p.tables e below ((T.setTop g).pushFrame (.throwing q)) t ∧ Q t
def vx_Run (p : Program) (l : Launch) (e : Env) (R : Room) (s : State) (m : MethodId) (args : Array Value) (below : List Frame) (meth : Method) (c : Code) (H : Heap) (locs : List Loc) (cells slots mc ms : Nat) (g : JFrame) (rest : List Value) (Qa : State → Outcome → State → Prop) (XC : String → State → State → Prop) (free : Addr → Prop) : Prop :=
  ∀ T : State, T.heap = H → Stand p l e R s m args below meth c T locs cells slots →
    (∃ (v : Option Value) (st₀ t T' : State) (L : List Loc), st₀.heap = H ∧ Stand p l e R s m args below meth c T' (locs ++ L) (cells + mc) (slots + ms) ∧ (∀ q ∈ L, free q.base) ∧ T'.heap = t.heap ∧ T'.vm = t.vm ∧ Qa st₀ (.returned v) t ∧
      Goes p e below T g T' { g with pc := g.pc + 3, stack := v.toList ++ rest }) ∨
    (∃ (q : Addr) (st₀ t T' : State) (L : List Loc) (E : String) (ce : Cell), st₀.heap = H ∧ Stand p l e R s m args below meth c T' (locs ++ L) (cells + mc) (slots + ms) ∧ (∀ z ∈ L, free z.base) ∧ T'.heap = t.heap ∧ T'.vm = t.vm ∧ XC E st₀ t ∧ t.heap[q]? = some ce ∧ ce.vm = .none ∧ s.vm.findClass E = some ce.cls ∧
      Steps p.tables e below (T.setTop g) ((T'.setTop { g with stack := rest }).pushFrame (.throwing q)))
def vx_X {S : Type} (px : S → Prop) (B : String → S → State → Prop) (A : Nat → Prop) : String → State → State → Prop := fun E st t => ∃ u : S, px u ∧ B E u t ∧ va_F A st t
section Runs
variable {p : Program} {l : Launch} {e : Env} {R : Room} {s : State} {m : MethodId} {args : Array Value} {below : List Frame} {meth : Method} {c : Code} {H : Heap} {locs : List Loc} {cells slots : Nat}
variable {y : MethodName} {bytes cc : ByteArray} {maxL nL mc ms n index : Nat} {ret : Option FieldType} {ws : List Cond} {rm : Room} {Pc : Array Value → State → Prop} {Qc : Array Value → State → Outcome → State → Prop} {XC : String → State → State → Prop} {free : Addr → Prop} {Ts : List Cond} {own C : String} {b : Addr} {As rest : List Value} {g : JFrame}
theorem vx_callBack (cb : CallB R s args own index y bytes maxL ret ws rm mc ms n) (hM : vx_Met l y ws rm Pc Qc XC mc ms free) (hbl : FrameBlind Pc) : vx_Back l R p e below s args y 3 8 (PreOf R mc ms Pc) (PostOf Qc mc ms free) (vx_Post XC mc ms free) := by
  obtain ⟨hrc, hrs, hfr, hlo, hws, hcw, -, hini, -⟩ := cb
  exact vx_back (bytes := bytes) (maxL := maxL) (ret := ret) hM hbl hrc hrs hfr hlo hws hcw (fun a' U hW => word_at hW (Or.inl (by first | rfl | simp [Cond.onTables, Cond.keeps, Cond.steady])) hini)
theorem vx_runV (S : CallFix p m c cc nL s args Ts own) (hM : vx_Met l y ws rm Pc Qc XC mc ms free) (cw : CallW R s args own C index y bytes maxL ret ws rm mc ms n) (hp : PreV s H C b Pc As)
    (hg : g.method = m) (hn : As.length = n) (hsize : g.locals.size = nL) (hstack : g.stack = As.reverse ++ .ref b :: rest) (hW : 2 * g.monitorRoom + (rest.map fun v => v.category).sum ≤ 8) (hdg : decode cc g.pc = .ok (.invokevirtual index, 3)) (hf : cells + mc ≤ R.cells ∧ slots + ms ≤ R.slots) :
    vx_Run p l e R s m args below meth c H locs cells slots mc ms g rest (Qc (Value.ref b :: As).toArray) XC free := by
  have hK : vx_Back l R p e below s args y 3 8 (PreOf R mc ms Pc) (PostOf Qc mc ms free) (vx_Post XC mc ms free) := vx_callBack cw.1 hM hp.1
  obtain ⟨⟨-, -, -, -, -, -, hcode, -, hy, hlen, hl⟩, hin, hse⟩ := cw
  obtain ⟨hx, hb, hml, ho, -⟩ := S
  obtain ⟨-, ⟨cellB, hcB, hoB, hclB⟩, hPc⟩ := hp
  intro T hT X
  rcases vx_callV X hx (C := C) (bytes := bytes) (maxL := maxL) (ret := ret) ho hl hin hse hcode hy hK (by rw [hT]; exact hcB) hoB hclB hg (hsize.trans hml.symm) (argsL := As) (rest := rest) (fun sig h => hn.trans (hlen sig h)) hstack hW (by rw [hb]; exact hdg)
    (fun vm₁ hW₁ => ⟨hf.1, hf.2, hPc (T.setVm vm₁) hT hW₁⟩) with ⟨v, vm₁, ⟨U', l2, c2, s2⟩, hW₁, X', ⟨g', mk, t, L, e1, e2, hq, h1, hL, h2, h3⟩, st⟩ | ⟨q, vm₁, ⟨U', l2, c2, s2⟩, hW₁, X', ⟨g', mk, t, L, E, ce, e1, e2, hq, hce, hcv, hcl, h1, hL, h2, h3⟩, st⟩
  · dsimp only [Pt.U, Pt.locs, Pt.cells, Pt.slots] at X' e1 e2 h1 h2 h3 st
    subst h1; subst h2; subst h3
    exact Or.inl ⟨v, (T.setVm vm₁).calling g' mk (Value.ref b :: As).toArray, t, U', L, hT, X', hL, e1, e2, hq, st⟩
  · dsimp only [Pt.U, Pt.locs, Pt.cells, Pt.slots] at X' e1 e2 h1 h2 h3 st hcl
    subst h1; subst h2; subst h3
    exact Or.inr ⟨q, (T.setVm vm₁).calling g' mk (Value.ref b :: As).toArray, t, U', L, E, ce, hT, X', hL, e1, e2, hq, hce, hcv, vx_cls hW₁ hcl, st⟩
theorem vx_runS (S : CallFix p m c cc nL s args Ts own) (hM : vx_Met l y ws rm Pc Qc XC mc ms free) (cw : CallB R s args own index y bytes maxL ret ws rm mc ms n ∧ (Cond.static y).before args s = true) (hp : PreS s H Pc As)
    (hg : g.method = m) (hn : As.length = n) (hsize : g.locals.size = nL) (hstack : g.stack = As.reverse ++ rest) (hW : 2 * g.monitorRoom + (rest.map fun v => v.category).sum ≤ 8) (hdg : decode cc g.pc = .ok (.invokestatic index, 3)) (hf : cells + mc ≤ R.cells ∧ slots + ms ≤ R.slots) :
    vx_Run p l e R s m args below meth c H locs cells slots mc ms g rest (Qc As.toArray) XC free := by
  have hK : vx_Back l R p e below s args y 3 8 (PreOf R mc ms Pc) (PostOf Qc mc ms free) (vx_Post XC mc ms free) := vx_callBack cw.1 hM hp.1
  obtain ⟨⟨-, -, -, -, -, -, hcode, hini, hy, hlen, hl⟩, hstt⟩ := cw
  obtain ⟨hx, hb, hml, ho, -⟩ := S
  intro T hT X
  rcases vx_callS X hx (bytes := bytes) (maxL := maxL) (ret := ret) ho hl hstt hini hcode hy hK hg (hsize.trans hml.symm) (argsL := As) (rest := rest) (fun sig h => hn.trans (hlen sig h)) hstack hW (by rw [hb]; exact hdg)
    (fun vm₁ hW₁ => ⟨hf.1, hf.2, hp.2 (T.setVm vm₁) hT hW₁⟩) with ⟨v, vm₁, ⟨U', l2, c2, s2⟩, hW₁, X', ⟨g', mk, t, L, e1, e2, hq, h1, hL, h2, h3⟩, st⟩ | ⟨q, vm₁, ⟨U', l2, c2, s2⟩, hW₁, X', ⟨g', mk, t, L, E, ce, e1, e2, hq, hce, hcv, hcl, h1, hL, h2, h3⟩, st⟩
  · dsimp only [Pt.U, Pt.locs, Pt.cells, Pt.slots] at X' e1 e2 h1 h2 h3 st
    subst h1; subst h2; subst h3
    exact Or.inl ⟨v, (T.setVm vm₁).calling g' mk As.toArray, t, U', L, hT, X', hL, e1, e2, hq, st⟩
  · dsimp only [Pt.U, Pt.locs, Pt.cells, Pt.slots] at X' e1 e2 h1 h2 h3 st hcl
    subst h1; subst h2; subst h3
    exact Or.inr ⟨q, (T.setVm vm₁).calling g' mk As.toArray, t, U', L, E, ce, hT, X', hL, e1, e2, hq, hce, hcv, vx_cls hW₁ hcl, st⟩
end Runs
section Rows
variable {p : Program} {l : Launch} {e : Env} {R : Room} {s : State} {m : MethodId} {args : Array Value} {below : List Frame} {meth : Method} {c : Code} {H : Heap} {locs : List Loc} {cells slots : Nat} {Q : State → Prop}
variable {mc ms : Nat} {free : Addr → Prop} {A0 A1 : Nat → Prop} {H0 : Heap} {a : Array Value} {pc : Nat} {ls : Array Slot} {st0 rest : List Value}
theorem vx_keep {st₀ t T' : State} {L : List Loc} (h0 : st₀.heap = H) (e1 : T'.heap = t.heap) (hS : va_S A0 H0 H locs) (hA : ∀ q, q < H.size → A1 q → A0 q) (hf : ∀ q, free q → A0 q) (hL : ∀ q ∈ L, free q.base) (hF : va_F A1 st₀ t) :
    H.size ≤ T'.heap.size ∧ (∀ q : Nat, q < H.size → ¬ A1 q → T'.heap[q]? = H[q]?) ∧ va_S A0 H0 T'.heap (locs ++ L) := by
  obtain ⟨hz, hk⟩ := hF
  rw [h0] at hz hk
  exact ⟨by rw [e1]; exact hz, fun q h1 h2 => by rw [e1]; exact hk q h1 h2,
    ⟨Nat.le_trans hS.1 (by rw [e1]; exact hz), fun q h1 h2 => by rw [e1, hk q (Nat.lt_of_lt_of_le h1 hS.1) (fun z => h2 (hA q (Nat.lt_of_lt_of_le h1 hS.1) z))]; exact hS.2.1 q h1 h2, fun q hq => by
      rcases List.mem_append.mp hq with h | h
      · exact hS.2.2 q h
      · exact hf _ (hL q h)⟩⟩
theorem vx_calli {S SX : Type} {post : Int32 → S → Prop} {px : SX → Prop} {B : S → State → Prop} {BX : String → SX → State → Prop} {AX : Nat → Prop} (hr : vx_Run p l e R s m args below meth c H locs cells slots mc ms (F0 m pc ls st0) rest (va_Qi post B A1 a) (vx_X px BX AX) free) (hS : va_S A0 H0 H locs) (hA : ∀ q, q < H.size → A1 q → A0 q) (hf : ∀ q, free q → A0 q) (hAX : ∀ q, q < H.size → AX q → A0 q)
    (kx : ∀ (E : String) (ce : Cell) (q9 : Addr) (u : SX) (t : State) (H1 : Heap) (locs1 : List Loc), t.heap = H1 → s.vm.Alike t.vm → px u → BX E u t → H.size ≤ H1.size → (∀ q : Nat, q < H.size → ¬ AX q → H1[q]? = H[q]?) → va_S A0 H0 H1 locs1 → H1[q9]? = some ce → ce.vm = .none → s.vm.findClass E = some ce.cls → vx_W p l e R s m args below meth c H1 locs1 (cells + mc) (slots + ms) Q (F0 m pc ls rest) q9)
    (kk : ∀ (r : Int32) (u : S) (t : State) (H1 : Heap) (locs1 : List Loc), t.heap = H1 → s.vm.Alike t.vm → post r u → B u t → H.size ≤ H1.size → (∀ q : Nat, q < H.size → ¬ A1 q → H1[q]? = H[q]?) → va_S A0 H0 H1 locs1 → W p l e R s m args below meth c H1 locs1 (cells + mc) (slots + ms) Q (F0 m (pc + 3) ls (.int r :: rest))) : W p l e R s m args below meth c H locs cells slots Q (F0 m pc ls st0) := by
  intro T hT X
  rcases hr T hT X with ⟨v, st₀, t, T', L, h0, X', hL, e1, e2, ⟨⟨r, u, hv, hp, hb⟩, hF⟩, st⟩ | ⟨q, st₀, t, T', L, E, ce, h0, X', hL, e1, e2, ⟨u, hp, hb, hF⟩, hce, hcv, hcl, st⟩
  · cases hv
    obtain ⟨k1, k2, k3⟩ := vx_keep h0 e1 hS hA hf hL hF
    obtain ⟨t2, a1, b1⟩ := kk r u t T'.heap (locs ++ L) e1.symm (by rw [← e2]; exact X'.warmed.alike) hp hb k1 k2 k3 T' rfl X'
    exact ⟨t2, st t2 a1, b1⟩
  · obtain ⟨k1, k2, k3⟩ := vx_keep h0 e1 hS hAX hf hL hF
    obtain ⟨t2, a1, b1⟩ := kx E ce q u t T'.heap (locs ++ L) e1.symm (by rw [← e2]; exact X'.warmed.alike) hp hb k1 k2 k3 (by rw [e1]; exact hce) hcv hcl T' rfl X'
    exact ⟨t2, st.trans a1, b1⟩
theorem vx_calll {S SX : Type} {post : Int64 → S → Prop} {px : SX → Prop} {B : S → State → Prop} {BX : String → SX → State → Prop} {AX : Nat → Prop} (hr : vx_Run p l e R s m args below meth c H locs cells slots mc ms (F0 m pc ls st0) rest (va_Ql post B A1 a) (vx_X px BX AX) free) (hS : va_S A0 H0 H locs) (hA : ∀ q, q < H.size → A1 q → A0 q) (hf : ∀ q, free q → A0 q) (hAX : ∀ q, q < H.size → AX q → A0 q)
    (kx : ∀ (E : String) (ce : Cell) (q9 : Addr) (u : SX) (t : State) (H1 : Heap) (locs1 : List Loc), t.heap = H1 → s.vm.Alike t.vm → px u → BX E u t → H.size ≤ H1.size → (∀ q : Nat, q < H.size → ¬ AX q → H1[q]? = H[q]?) → va_S A0 H0 H1 locs1 → H1[q9]? = some ce → ce.vm = .none → s.vm.findClass E = some ce.cls → vx_W p l e R s m args below meth c H1 locs1 (cells + mc) (slots + ms) Q (F0 m pc ls rest) q9)
    (kk : ∀ (r : Int64) (u : S) (t : State) (H1 : Heap) (locs1 : List Loc), t.heap = H1 → s.vm.Alike t.vm → post r u → B u t → H.size ≤ H1.size → (∀ q : Nat, q < H.size → ¬ A1 q → H1[q]? = H[q]?) → va_S A0 H0 H1 locs1 → W p l e R s m args below meth c H1 locs1 (cells + mc) (slots + ms) Q (F0 m (pc + 3) ls (.long r :: rest))) : W p l e R s m args below meth c H locs cells slots Q (F0 m pc ls st0) := by
  intro T hT X
  rcases hr T hT X with ⟨v, st₀, t, T', L, h0, X', hL, e1, e2, ⟨⟨r, u, hv, hp, hb⟩, hF⟩, st⟩ | ⟨q, st₀, t, T', L, E, ce, h0, X', hL, e1, e2, ⟨u, hp, hb, hF⟩, hce, hcv, hcl, st⟩
  · cases hv
    obtain ⟨k1, k2, k3⟩ := vx_keep h0 e1 hS hA hf hL hF
    obtain ⟨t2, a1, b1⟩ := kk r u t T'.heap (locs ++ L) e1.symm (by rw [← e2]; exact X'.warmed.alike) hp hb k1 k2 k3 T' rfl X'
    exact ⟨t2, st t2 a1, b1⟩
  · obtain ⟨k1, k2, k3⟩ := vx_keep h0 e1 hS hAX hf hL hF
    obtain ⟨t2, a1, b1⟩ := kx E ce q u t T'.heap (locs ++ L) e1.symm (by rw [← e2]; exact X'.warmed.alike) hp hb k1 k2 k3 (by rw [e1]; exact hce) hcv hcl T' rfl X'
    exact ⟨t2, st.trans a1, b1⟩
theorem vx_callf {S SX : Type} {post : UInt32 → S → Prop} {px : SX → Prop} {B : S → State → Prop} {BX : String → SX → State → Prop} {AX : Nat → Prop} (hr : vx_Run p l e R s m args below meth c H locs cells slots mc ms (F0 m pc ls st0) rest (va_Qf post B A1 a) (vx_X px BX AX) free) (hS : va_S A0 H0 H locs) (hA : ∀ q, q < H.size → A1 q → A0 q) (hf : ∀ q, free q → A0 q) (hAX : ∀ q, q < H.size → AX q → A0 q)
    (kx : ∀ (E : String) (ce : Cell) (q9 : Addr) (u : SX) (t : State) (H1 : Heap) (locs1 : List Loc), t.heap = H1 → s.vm.Alike t.vm → px u → BX E u t → H.size ≤ H1.size → (∀ q : Nat, q < H.size → ¬ AX q → H1[q]? = H[q]?) → va_S A0 H0 H1 locs1 → H1[q9]? = some ce → ce.vm = .none → s.vm.findClass E = some ce.cls → vx_W p l e R s m args below meth c H1 locs1 (cells + mc) (slots + ms) Q (F0 m pc ls rest) q9)
    (kk : ∀ (r : UInt32) (u : S) (t : State) (H1 : Heap) (locs1 : List Loc), t.heap = H1 → s.vm.Alike t.vm → post r u → B u t → H.size ≤ H1.size → (∀ q : Nat, q < H.size → ¬ A1 q → H1[q]? = H[q]?) → va_S A0 H0 H1 locs1 → W p l e R s m args below meth c H1 locs1 (cells + mc) (slots + ms) Q (F0 m (pc + 3) ls (.float r :: rest))) : W p l e R s m args below meth c H locs cells slots Q (F0 m pc ls st0) := by
  intro T hT X
  rcases hr T hT X with ⟨v, st₀, t, T', L, h0, X', hL, e1, e2, ⟨⟨r, u, hv, hp, hb⟩, hF⟩, st⟩ | ⟨q, st₀, t, T', L, E, ce, h0, X', hL, e1, e2, ⟨u, hp, hb, hF⟩, hce, hcv, hcl, st⟩
  · cases hv
    obtain ⟨k1, k2, k3⟩ := vx_keep h0 e1 hS hA hf hL hF
    obtain ⟨t2, a1, b1⟩ := kk r u t T'.heap (locs ++ L) e1.symm (by rw [← e2]; exact X'.warmed.alike) hp hb k1 k2 k3 T' rfl X'
    exact ⟨t2, st t2 a1, b1⟩
  · obtain ⟨k1, k2, k3⟩ := vx_keep h0 e1 hS hAX hf hL hF
    obtain ⟨t2, a1, b1⟩ := kx E ce q u t T'.heap (locs ++ L) e1.symm (by rw [← e2]; exact X'.warmed.alike) hp hb k1 k2 k3 (by rw [e1]; exact hce) hcv hcl T' rfl X'
    exact ⟨t2, st.trans a1, b1⟩
theorem vx_calld {S SX : Type} {post : UInt64 → S → Prop} {px : SX → Prop} {B : S → State → Prop} {BX : String → SX → State → Prop} {AX : Nat → Prop} (hr : vx_Run p l e R s m args below meth c H locs cells slots mc ms (F0 m pc ls st0) rest (va_Qd post B A1 a) (vx_X px BX AX) free) (hS : va_S A0 H0 H locs) (hA : ∀ q, q < H.size → A1 q → A0 q) (hf : ∀ q, free q → A0 q) (hAX : ∀ q, q < H.size → AX q → A0 q)
    (kx : ∀ (E : String) (ce : Cell) (q9 : Addr) (u : SX) (t : State) (H1 : Heap) (locs1 : List Loc), t.heap = H1 → s.vm.Alike t.vm → px u → BX E u t → H.size ≤ H1.size → (∀ q : Nat, q < H.size → ¬ AX q → H1[q]? = H[q]?) → va_S A0 H0 H1 locs1 → H1[q9]? = some ce → ce.vm = .none → s.vm.findClass E = some ce.cls → vx_W p l e R s m args below meth c H1 locs1 (cells + mc) (slots + ms) Q (F0 m pc ls rest) q9)
    (kk : ∀ (r : UInt64) (u : S) (t : State) (H1 : Heap) (locs1 : List Loc), t.heap = H1 → s.vm.Alike t.vm → post r u → B u t → H.size ≤ H1.size → (∀ q : Nat, q < H.size → ¬ A1 q → H1[q]? = H[q]?) → va_S A0 H0 H1 locs1 → W p l e R s m args below meth c H1 locs1 (cells + mc) (slots + ms) Q (F0 m (pc + 3) ls (.double r :: rest))) : W p l e R s m args below meth c H locs cells slots Q (F0 m pc ls st0) := by
  intro T hT X
  rcases hr T hT X with ⟨v, st₀, t, T', L, h0, X', hL, e1, e2, ⟨⟨r, u, hv, hp, hb⟩, hF⟩, st⟩ | ⟨q, st₀, t, T', L, E, ce, h0, X', hL, e1, e2, ⟨u, hp, hb, hF⟩, hce, hcv, hcl, st⟩
  · cases hv
    obtain ⟨k1, k2, k3⟩ := vx_keep h0 e1 hS hA hf hL hF
    obtain ⟨t2, a1, b1⟩ := kk r u t T'.heap (locs ++ L) e1.symm (by rw [← e2]; exact X'.warmed.alike) hp hb k1 k2 k3 T' rfl X'
    exact ⟨t2, st t2 a1, b1⟩
  · obtain ⟨k1, k2, k3⟩ := vx_keep h0 e1 hS hAX hf hL hF
    obtain ⟨t2, a1, b1⟩ := kx E ce q u t T'.heap (locs ++ L) e1.symm (by rw [← e2]; exact X'.warmed.alike) hp hb k1 k2 k3 (by rw [e1]; exact hce) hcv hcl T' rfl X'
    exact ⟨t2, st.trans a1, b1⟩
theorem vx_callv {S SX : Type} {post : S → Prop} {px : SX → Prop} {B : S → State → Prop} {BX : String → SX → State → Prop} {AX : Nat → Prop} (hr : vx_Run p l e R s m args below meth c H locs cells slots mc ms (F0 m pc ls st0) rest (va_Qv post B A1 a) (vx_X px BX AX) free) (hS : va_S A0 H0 H locs) (hA : ∀ q, q < H.size → A1 q → A0 q) (hf : ∀ q, free q → A0 q) (hAX : ∀ q, q < H.size → AX q → A0 q)
    (kx : ∀ (E : String) (ce : Cell) (q9 : Addr) (u : SX) (t : State) (H1 : Heap) (locs1 : List Loc), t.heap = H1 → s.vm.Alike t.vm → px u → BX E u t → H.size ≤ H1.size → (∀ q : Nat, q < H.size → ¬ AX q → H1[q]? = H[q]?) → va_S A0 H0 H1 locs1 → H1[q9]? = some ce → ce.vm = .none → s.vm.findClass E = some ce.cls → vx_W p l e R s m args below meth c H1 locs1 (cells + mc) (slots + ms) Q (F0 m pc ls rest) q9)
    (kk : ∀ (u : S) (t : State) (H1 : Heap) (locs1 : List Loc), t.heap = H1 → s.vm.Alike t.vm → post u → B u t → H.size ≤ H1.size → (∀ q : Nat, q < H.size → ¬ A1 q → H1[q]? = H[q]?) → va_S A0 H0 H1 locs1 → W p l e R s m args below meth c H1 locs1 (cells + mc) (slots + ms) Q (F0 m (pc + 3) ls (rest))) : W p l e R s m args below meth c H locs cells slots Q (F0 m pc ls st0) := by
  intro T hT X
  rcases hr T hT X with ⟨v, st₀, t, T', L, h0, X', hL, e1, e2, ⟨⟨u, hv, hp, hb⟩, hF⟩, st⟩ | ⟨q, st₀, t, T', L, E, ce, h0, X', hL, e1, e2, ⟨u, hp, hb, hF⟩, hce, hcv, hcl, st⟩
  · cases hv
    obtain ⟨k1, k2, k3⟩ := vx_keep h0 e1 hS hA hf hL hF
    obtain ⟨t2, a1, b1⟩ := kk u t T'.heap (locs ++ L) e1.symm (by rw [← e2]; exact X'.warmed.alike) hp hb k1 k2 k3 T' rfl X'
    exact ⟨t2, st t2 a1, b1⟩
  · obtain ⟨k1, k2, k3⟩ := vx_keep h0 e1 hS hAX hf hL hF
    obtain ⟨t2, a1, b1⟩ := kx E ce q u t T'.heap (locs ++ L) e1.symm (by rw [← e2]; exact X'.warmed.alike) hp hb k1 k2 k3 (by rw [e1]; exact hce) hcv hcl T' rfl X'
    exact ⟨t2, st.trans a1, b1⟩
/-- caught by the row x of this method's table; the rows ahead don't take it -/
theorem vx_catch {own name : String} {E : String} {ce : Cell} {q : Addr} (hown : s.vm.findClass own = some m.cls) (pre : List ExceptionTableEntry) (x : ExceptionTableEntry) (suf : List ExceptionTableEntry) (hsplit : c.exceptionTable.toList = pre ++ x :: suf)
    (hpass : ∀ z ∈ pre, covers z pc = false ∨ (z.catchType ≠ 0 ∧ ∃ nm : String, (Cond.classLink own z.catchType nm).before args s = true ∧ va_Nc E nm s)) (hx : covers x pc = true) (h0 : x.catchType ≠ 0)
    (hlink : (Cond.classLink own x.catchType name).before args s = true) (hcast : (Cond.castable E name).before args s = true) (hcell : H[q]? = some ce) (hv : ce.vm = .none) (hcl : s.vm.findClass E = some ce.cls)
    (kk : W p l e R s m args below meth c H locs cells slots Q (F0 m x.handlerPc ls [.ref q])) : vx_W p l e R s m args below meth c H locs cells slots Q (F0 m pc ls rest) q := by
  intro T hT X
  have hpl : e.platform.magicAccessors = ({} : Platform).magicAccessors := by rw [X.admits.platform]
  obtain ⟨c3, c4, hc3, hc4, hasg⟩ := Cond.castable_spec hcast
  cases Option.some.inj (hc3.symm.trans hcl)
  obtain ⟨c5, hc5, hcl5⟩ := Cond.classLink_spec hown hlink e.platform hpl
  cases Option.some.inj (hc4.symm.trans hc5)
  obtain ⟨vm', X', st⟩ := X.thenCaughtThrough q (g := F0 m pc ls rest) rfl (Steps.refl _) (by rw [hT]; exact hcell) (by rw [hv]; rfl) (by obtain ⟨k9, h9, -⟩ := Vm.findClass_spec hcl; exact ⟨k9, h9⟩) pre x suf hsplit
    (fun z hz => by
      rcases hpass z hz with h | ⟨hz0, nm, hl1, hn1⟩
      · exact Or.inl h
      · obtain ⟨c6, hc6, hcl6⟩ := Cond.classLink_spec hown hl1 e.platform hpl
        obtain ⟨a8, b8, h1, h2, h3⟩ := hn1
        cases Option.some.inj (h1.symm.trans hcl)
        cases Option.some.inj (h2.symm.trans hc6)
        exact Or.inr ⟨hz0, _, hcl6, h3⟩) hx (Or.inr ⟨h0, c4, hcl5, hasg⟩)
  obtain ⟨t, a1, b1⟩ := kk (T.setVm vm') hT X'
  exact ⟨t, st.trans a1, b1⟩
end Rows
section Ends
variable {p : Program} {l : Launch} {e : Env} {R : Room} {s : State} {m : MethodId} {args : Array Value} {below : List Frame} {meth : Method} {c : Code} {H : Heap} {locs : List Loc} {cells slots : Nat} {Q : State → Prop}
variable {mc ms : Nat} {free : Addr → Prop} {A0 A1 : Nat → Prop} {H0 : Heap} {a : Array Value} {ls : Array Slot} {st0 rest : List Value}
variable {Qc : Array Value → State → Outcome → State → Prop} {XC : String → State → State → Prop}
/-- what a body that may throw owes at its end -/
def vx_MQ (below : List Frame) (Qc : Array Value → State → Outcome → State → Prop) (XC : String → State → State → Prop) (a : Array Value) (s : State) (mc ms : Nat) (free : Addr → Prop) : State → Prop := fun t =>
  ∃ o, t.status = .running ∧ Ended t below o ∧ vx_Q Qc XC mc ms free a s o t
theorem vx_ret {g : JFrame} {mc ms : Nat} (k : W p l e R s m args below meth c H locs cells slots (MQ below Qc args s mc ms free) g) : W p l e R s m args below meth c H locs cells slots (vx_MQ below Qc XC args s mc ms free) g := by
  intro T hT X
  obtain ⟨t, a1, o, b1, b2, b3, b4⟩ := k T hT X
  exact ⟨t, a1, o, b1, b2, Or.inl ⟨b3, b4⟩⟩
/-- not caught here: it goes on to the caller -/
theorem vx_widen {g : JFrame} {q : Addr} {k n : Nat} (h1 : cells ≤ k) (h2 : slots ≤ n) (kk : vx_W p l e R s m args below meth c H locs k n Q g q) : vx_W p l e R s m args below meth c H locs cells slots Q g q := fun T hT X => kk T hT (stand_widen X h1 h2)
theorem vx_out {pc : Nat} {E : String} {ce : Cell} {q : Addr} {mc ms : Nat} (hout : ∀ x ∈ c.exceptionTable.toList, covers x pc = false) (hlocks : meth.locks = false) (hcell : H[q]? = some ce) (hv : ce.vm = .none) (hcl : s.vm.findClass E = some ce.cls)
    (hx : ∀ t : State, t.heap = H → s.vm.Alike t.vm → XC E s t) (hf : ∀ z ∈ locs, free z.base) (hc : cells ≤ mc) (hs : slots ≤ ms) :
    vx_W p l e R s m args below meth c H locs cells slots (vx_MQ below Qc XC args s mc ms free) (F0 m pc ls rest) q := by
  intro T hT X
  obtain ⟨st1, hrun, hend, hW, hsm⟩ := X.leaveThrown q (g := F0 m pc ls rest) rfl rfl rfl hout hlocks
  have hcell9 : (T.setFrames (.throwing q :: below)).heap[q]? = some ce := by
    show T.heap[q]? = some ce
    rw [hT]; exact hcell
  exact ⟨_, st1, .threw q, hrun, hend, Or.inr ⟨q, rfl, E, ce, locs, hx _ hT hW.alike, hcell9, hv, hcl, hW, hsm.mono hc hs, hf⟩⟩
theorem vx_frame {U : State} {k n : Nat} (h : s.sameButNew ({ U with vm := s.vm } : State) locs k n) : s.heap.size ≤ U.heap.size ∧ ∀ q : Nat, q < s.heap.size → (∀ z ∈ locs, z.base ≠ q) → U.heap[q]? = s.heap[q]? := by
  obtain ⟨-, h2, -, -, -, h6⟩ := h
  refine ⟨h2, fun q hq hz => ?_⟩
  obtain ⟨c9, e1, e2, e3, e4⟩ := h6 q _ (Array.getElem?_eq_getElem hq)
  have hs : c9.slots = (s.heap[q]).slots := Array.ext_getElem? fun i => e4 i fun hm => hz _ hm rfl
  have h9 : c9 = s.heap[q] := by
    rw [hs] at e2
    exact e2
  have e5 : U.heap[q]? = some c9 := e1
  rw [e5, h9, Array.getElem?_eq_getElem hq]
/-- the words of a throw but the four that speak of the heap -/
def vx_no (w : Cond) : Bool := decide (w ≠ .isRef (.static Bundle.tN "UNASSIGNED_STACK" Bundle.steD)) && decide (w ≠ .isRef (.static Bundle.tN "SUPPRESSED_SENTINEL" Bundle.listD)) && decide (w ≠ .laysStatic Bundle.tN "UNASSIGNED_STACK" Bundle.steD) && decide (w ≠ .laysStatic Bundle.tN "SUPPRESSED_SENTINEL" Bundle.listD)
def vx_at0 (own : String) (ic : Nat) (X : String) (names : List String) : List Cond := (Bundle.ownAtoms0 own ic X names).filter vx_no
def vx_atS (own : String) (ic : Nat) (X : String) (names : List String) : List Cond := (Bundle.ownAtoms own ic X names).filter vx_no
/-- a word that the tables alone decide, or a good one -/
def vx_ot (w : Cond) : Bool := w.onTables || goodWord w
theorem vx_ot_at {args a' : Array Value} {s U : State} {w : Cond} (hW : s.WarmedH U.vm) (hvm : s.vm = U.vm) (hg : vx_ot w = true) (h : w.before args s = true) : w.before a' U = true := by
  simp only [vx_ot, Bool.or_eq_true] at hg
  rcases hg with hg | hg
  · exact va_tabs hg hvm h
  · exact word_at hW (good_of_word hg) h
/-- a list's words: the good ones out of the method's own list, the others by premises of their own -/
theorem vx_hat {args : Array Value} {s : State} {L B : List Cond} (h1 : ∀ w ∈ L.filter goodWord, w.before args s = true) (h2 : ∀ w ∈ L.filter (fun w => !goodWord w), w ∈ B) (h3 : ∀ w ∈ B, w.before args s = true) : ∀ w ∈ L, w.before args s = true := by
  intro w hw
  by_cases g : goodWord w = true
  · exact h1 w (List.mem_filter.mpr ⟨hw, g⟩)
  · refine h3 w (h2 w (List.mem_filter.mpr ⟨hw, ?_⟩))
    show (!goodWord w) = true
    cases hgw : goodWord w
    · rfl
    · exact absurd hgw g
theorem vx_c {args : Array Value} {s : State} {w : Cond} {B : List Cond} (h : w.before args s = true) (t : ∀ w ∈ B, w.before args s = true) : ∀ w' ∈ w :: B, w'.before args s = true := fun w' h' => (List.mem_cons.mp h').elim (fun e => by rw [e]; exact h) (t w')
theorem vx_n {args : Array Value} {s : State} : ∀ w ∈ ([] : List Cond), w.before args s = true := fun _ h => nomatch h
theorem vx_own {args : Array Value} {s : State} {L : List Cond} (h1 : ∀ w ∈ L.filter vx_no, w.before args s = true)
    (hU : (Cond.isRef (.static Bundle.tN "UNASSIGNED_STACK" Bundle.steD)).before args s = true) (hN : (Cond.isRef (.static Bundle.tN "SUPPRESSED_SENTINEL" Bundle.listD)).before args s = true)
    (lU : (Cond.laysStatic Bundle.tN "UNASSIGNED_STACK" Bundle.steD).before args s = true) (lN : (Cond.laysStatic Bundle.tN "SUPPRESSED_SENTINEL" Bundle.listD).before args s = true) : ∀ w ∈ L, w.before args s = true := by
  intro w hw
  by_cases e1 : w = .isRef (.static Bundle.tN "UNASSIGNED_STACK" Bundle.steD)
  · rw [e1]; exact hU
  · by_cases e2 : w = .isRef (.static Bundle.tN "SUPPRESSED_SENTINEL" Bundle.listD)
    · rw [e2]; exact hN
    · by_cases e3 : w = .laysStatic Bundle.tN "UNASSIGNED_STACK" Bundle.steD
      · rw [e3]; exact lU
      · by_cases e4 : w = .laysStatic Bundle.tN "SUPPRESSED_SENTINEL" Bundle.listD
        · rw [e4]; exact lN
        · exact h1 w (List.mem_filter.mpr ⟨hw, by unfold vx_no; rw [decide_eq_true e1, decide_eq_true e2, decide_eq_true e3, decide_eq_true e4]; rfl⟩)
/-- where a static field lies, its class's statics cell in H -/
def vx_L (C n d : String) (A : Nat → Prop) (U : State) (H : Heap) : Prop := ∃ (c : ClassId) (k : Class) (i : Nat) (f : Field) (a : Nat) (cell : Cell), U.vm.findClass C = some c ∧ U.fieldFound? C n d = some (c, k, i, f) ∧ f.isStatic = true ∧ k.statics = some a ∧ H[a]? = some cell ∧ cell.vm.isStatics = true ∧ cell.cls = c ∧ f.slot < cell.slots.size ∧ k.staticTypes[f.slot]? = some f.type ∧ ¬ A a
theorem vx_L.moved {C n d : String} {A : Nat → Prop} {u U : State} {H : Heap} (hvm : u.vm.Alike U.vm) (h : vx_L C n d A u H) : vx_L C n d A U H := by
  obtain ⟨c, k, i, f, a, cell, h1, h2, h3, h4, h5, h6, h7, h8, h9, h10⟩ := h
  obtain ⟨k', hi', he⟩ := State.fieldFound?_setVm hvm h2
  exact ⟨c, k', i, f, a, cell, by rw [hvm.findClass]; exact h1, hi', h3, by rw [he]; exact h4, h5, h6, h7, h8, by rw [he]; exact h9, h10⟩
theorem vx_L.kept {C n d : String} {A : Nat → Prop} {U : State} {H H1 : Heap} (h : vx_L C n d A U H) (hq : ∀ a : Nat, a < H.size → ¬ A a → H1[a]? = H[a]?) : vx_L C n d A U H1 := by
  obtain ⟨c, k, i, f, a, cell, h1, h2, h3, h4, h5, h6, h7, h8, h9, h10⟩ := h
  exact ⟨c, k, i, f, a, cell, h1, h2, h3, h4, by rw [hq a (Array.getElem?_eq_some_iff.mp h5).1 h10]; exact h5, h6, h7, h8, h9, h10⟩
theorem vx_L.narrow {C n d : String} {A B : Nat → Prop} {U : State} {H : Heap} (h : vx_L C n d A U H) (hAB : ∀ q, B q → A q) : vx_L C n d B U H := by
  obtain ⟨c, k, i, f, a, cell, h1, h2, h3, h4, h5, h6, h7, h8, h9, h10⟩ := h
  exact ⟨c, k, i, f, a, cell, h1, h2, h3, h4, h5, h6, h7, h8, h9, fun z => h10 (hAB _ z)⟩
theorem vx_L.word {C n d : String} {A : Nat → Prop} {s : State} {args : Array Value} (h : vx_L C n d A s s.heap) : (Cond.laysStatic C n d).before args s = true := by
  obtain ⟨c, k, i, f, a, cell, h1, h2, h3, h4, h5, h6, h7, h8, h9, -⟩ := h
  show (Cond.laysStatic C n d).holds args s none s [] = true
  exact Cond.laysStatic_of h1 h2 h3 h4 h5 h6 h7 h8 h9
/-- .. and what it holds: null or some reference -/
def vx_Zq (C n d : String) (A : Nat → Prop) (U : State) (H : Heap) : Prop := va_Zq C n d A U H ∧ vx_L C n d A U H
theorem vx_Zq.moved {C n d : String} {A : Nat → Prop} {u U : State} {H : Heap} (hvm : u.vm.Alike U.vm) (h : vx_Zq C n d A u H) : vx_Zq C n d A U H := ⟨va_Zq.moved hvm h.1, vx_L.moved hvm h.2⟩
theorem vx_Zq.kept {C n d : String} {A : Nat → Prop} {U : State} {H H1 : Heap} (h : vx_Zq C n d A U H) (hq : ∀ a : Nat, a < H.size → ¬ A a → H1[a]? = H[a]?) : vx_Zq C n d A U H1 := ⟨va_Zq.kept h.1 hq, vx_L.kept h.2 hq⟩
theorem vx_Zq.narrow {C n d : String} {A B : Nat → Prop} {U : State} {H : Heap} (h : vx_Zq C n d A U H) (hAB : ∀ q, B q → A q) : vx_Zq C n d B U H := ⟨va_Zq.narrow h.1 hAB, vx_L.narrow h.2 hAB⟩
theorem vx_Zqof {args : Array Value} {s : State} {C n d : String} {A : Nat → Prop} (hl : (Cond.laysStatic C n d).before args s = true) (hini : (Cond.initialized C).before args s = true) (h : (Cond.isRef (.static C n d)).before args s = true) (hA : ∀ a : Nat, a < s.heap.size → ¬ A a) : vx_Zq C n d A s s.heap := by
  refine ⟨va_Zqof hl hini h hA, ?_⟩
  obtain ⟨c, k, i, f, a, cell, h1, h2, h3, h4, h5, h6, h7, h8, h9⟩ := Cond.laysStatic_spec hl
  exact ⟨c, k, i, f, a, cell, h1, h2, h3, h4, h5, h6, h7, h8, h9, hA a (Array.getElem?_eq_some_iff.mp h5).1⟩
theorem vx_isRef {C n d : String} {v : Value} {A : Nat → Prop} {s : State} {args : Array Value} (h : va_Z C n d v A s s.heap) (hv : v.isRef = true) : (Cond.isRef (.static C n d)).before args s = true := by
  obtain ⟨cf, kf, fi, f, a, cell, h1, h2, h3, h4, h5, h6, h7, -⟩ := h
  have he : (Term.static C n d).eval args s none [] s = some v := by
    simp [Term.eval, State.fieldNamed?, h1, h2, h4, h5, h6, h7]
  simp only [Cond.before, Cond.holds, Cond.value, he]
  cases v <;> simp_all [Value.isRef]
theorem vx_isRefq {C n d : String} {A : Nat → Prop} {s : State} {args : Array Value} (h : va_Zq C n d A s s.heap) : (Cond.isRef (.static C n d)).before args s = true := by
  rcases h with h | ⟨t, h⟩
  · exact vx_isRef h rfl
  · exact vx_isRef h rfl
/-- the same frame, seen from here: as if the method were called anew in this heap -/
theorem vx_rebase {T : State} (X : Stand p l e R s m args below meth c T locs cells slots) {R' : Room} (hf : R'.frames ≤ R.frames) (hl : R'.locals ≤ R.locals) (hc : cells + R'.cells ≤ R.cells) (hs : slots + R'.slots ≤ R.slots) :
    Stand p l e R' ((T.setVm s.vm).setFrames (.invoking m args :: below)) m args below meth c T [] 0 0 := by
  have htop : (T.setVm s.vm).topJava?.isSome := X.here.top
  have hF : ((T.setVm s.vm).setFrames (.invoking m args :: below)).frames = .invoking m args :: below := State.frames_setFrames _ (State.cur_lt_of_top htop)
  obtain ⟨g₀, hg0⟩ := Option.isSome_iff_exists.mp htop
  obtain ⟨r, hr⟩ := State.topJava?_eq_some.mp hg0
  have hl9 : e.platform.stackLimits (T.setVm s.vm).me = e.platform.stackLimits s.me := X.limits
  have hb9 : (T.setVm s.vm).me.stackBytes = s.me.stackBytes := X.bytes
  refine ⟨X.admits, X.cas, X.clock, hF, ?_, X.hears, X.method, X.code, X.here, X.tail, X.warmed, ?_, ?_, ?_⟩
  · have h := X.room
    have hU : ((T.setVm s.vm).setFrames (.invoking m args :: below)).localsInUse = s.localsInUse := by
      rw [State.localsInUse_invoking hF (meth := meth) (c := c) X.method X.code, State.localsInUse_invoking X.frames X.method X.code]
    simp only [State.hasRoom, Bool.and_eq_true, decide_eq_true_eq] at h ⊢
    obtain ⟨⟨⟨⟨h1, h2, h3, h4, h5, h6⟩, h7⟩, h8⟩, h9⟩ := h
    rw [X.frames, List.length_cons] at h2 h3
    have q1 := X.heapSize
    have q2 := X.used
    simp only [hF, hU, List.length_cons, State.stackLimits_setFrames, State.stackBytes_setFrames, hl9, hb9]
    refine ⟨⟨⟨⟨by omega, by omega, by omega, by omega, by omega, h6⟩, ?_⟩, ?_⟩, X.book⟩
    · show T.heap.size + R'.cells ≤ e.platform.maxCells
      omega
    · show T.slotsUsed + R'.slots ≤ e.platform.maxSlots
      omega
  · rw [State.stackLimits_setFrames]; rfl
  · rw [State.stackBytes_setFrames]; rfl
  · refine ⟨?_, Nat.le_refl _, Nat.le_refl _, ?_, ?_, fun a c9 h9 => ⟨c9, h9, rfl, rfl, fun _ _ => rfl⟩⟩
    · obtain ⟨t, ht, -⟩ := State.frames_cons hr
      show T.setVm s.vm = { ((T.setVm s.vm).setFrames (.invoking m args :: below)).setFrames (T.setVm s.vm).frames with heap := T.heap, slotsUsed := T.slotsUsed }
      rw [State.setFrames_setFrames, State.setFrames_self ht]
      rfl
    · show T.slotsUsed = T.slotsUsed + ((T.heap.toList.drop T.heap.size).map (·.slots.size)).sum
      rw [List.drop_eq_nil_of_le (Nat.le_of_eq Array.length_toList)]
      rfl
    · show ((T.heap.toList.drop T.heap.size).map (·.slots.size)).sum ≤ 0
      rw [List.drop_eq_nil_of_le (Nat.le_of_eq Array.length_toList)]
      exact Nat.le_refl _
/-- 'throw new E()': new; dup; invokespecial; athrow -/
theorem vx_throw0 {cc : ByteArray} {pc : Nat} (hexec : p.tables.exec = Jvm.exec) (hb : c.code = cc) (hl : l.stackTraces = false) {own cls : String} {names : List String} {ik ic mc ms : Nat} {A : Nat → Prop}
    (hown : s.vm.findClass own = some m.cls) (hcls : Bundle.fit cls = true) (hnames : ∀ n ∈ names, Bundle.fit n = true)
    (hk : (Cond.classLink own ik cls).before args s = true) (hini : (Cond.initialized cls).before args s = true) (hat : ∀ w ∈ vx_at0 own ic cls names, w.before args s = true)
    (hgood : ∀ w ∈ Cond.classLink own ik cls :: Cond.initialized cls :: vx_at0 own ic cls names, vx_ot w = true)
    (hU : vx_Zq Bundle.tN "UNASSIGNED_STACK" Bundle.steD A s s.heap) (hN : vx_Zq Bundle.tN "SUPPRESSED_SENTINEL" Bundle.listD A s s.heap) (hS : va_S A s.heap H locs) (hsize : ls.size = c.maxLocals)
    (d0 : decode cc pc = .ok (.new ik, 3)) (d3 : decode cc (pc + 3) = .ok (.dup, 1)) (d4 : decode cc (pc + 4) = .ok (.invokespecial ic, 3)) (d7 : decode cc (pc + 7) = .ok (.athrow, 1))
    (hout : ∀ x ∈ c.exceptionTable.toList, covers x (pc + 7) = false)
    (hRframes : names.length + 3 < R.frames) (hRlocals : (rest.map fun v => v.category).sum + (13 * (names.length + 1) + 42) ≤ R.locals) (hRcells : cells + 1 ≤ R.cells) (hRslots : slots + 6 ≤ R.slots) (hlocks : meth.locks = false)
    (hx : ∀ t : State, s.vm.Alike t.vm → H.size ≤ t.heap.size → (∀ q : Nat, q < H.size → t.heap[q]? = H[q]?) → XC cls s t)
    (hf : ∀ z ∈ locs, free z.base) (hc : cells + 1 ≤ mc) (hs : slots + 6 ≤ ms) :
    W p l e R s m args below meth c H locs cells slots (vx_MQ below Qc XC args s mc ms free) (F0 m pc ls rest) := by
  intro T hT X
  have htr : e.platform.stackTraces = false := (show e.platform.stackTraces = l.stackTraces by rw [X.admits.platform]).trans hl
  have Y := vx_rebase X (R' := { frames := R.frames, locals := R.locals, cells := 1, slots := 6 }) (Nat.le_refl _) (Nat.le_refl _) hRcells hRslots
  obtain ⟨s', hA⟩ : ∃ z, z = (T.setVm s.vm).setFrames (.invoking m args :: below) := ⟨_, rfl⟩
  rw [← hA] at Y
  have hvm : s'.vm = s.vm := by rw [hA]; rfl
  have hhp : s'.heap = H := by rw [hA]; exact hT
  have hW0 : s.WarmedH s'.vm := by rw [hvm]; exact State.WarmedH.refl s
  have hat' : ∀ w ∈ vx_at0 own ic cls names, w.before args s' = true := fun w hw => vx_ot_at hW0 hvm.symm (hgood w (List.mem_cons_of_mem _ (List.mem_cons_of_mem _ hw))) (hat w hw)
  have hk' : (Cond.classLink own ik cls).before args s' = true := vx_ot_at hW0 hvm.symm (hgood _ List.mem_cons_self) hk
  have hini' : (Cond.initialized cls).before args s' = true := vx_ot_at hW0 hvm.symm (hgood _ (List.mem_cons_of_mem _ List.mem_cons_self)) hini
  have hU' : vx_Zq Bundle.tN "UNASSIGNED_STACK" Bundle.steD A s' s'.heap := by rw [hhp]; exact vx_Zq.moved hW0.alike (hU.kept hS.2.1)
  have hN' : vx_Zq Bundle.tN "SUPPRESSED_SENTINEL" Bundle.listD A s' s'.heap := by rw [hhp]; exact vx_Zq.moved hW0.alike (hN.kept hS.2.1)
  have h : ∀ w ∈ Bundle.ownAtoms0 own ic cls names, w.before args s' = true := vx_own hat' (vx_isRefq hU'.1) (vx_isRefq hN'.1) hU'.2.word hN'.2.word
  have hown' : s'.vm.findClass own = some m.cls := by rw [hvm]; exact hown
  have hins : (Cond.instantiable cls 6).before args s' = true := h _ (by simp [Bundle.ownAtoms0])
  obtain ⟨vm₁, cX, kX, hfX, hkX, -, -, X₁, st1⟩ := Y.newCold hexec (own := own) (C := cls) (index := ik) (n := 6) hown' hk' hins hini'
    (g := F0 m pc ls rest) rfl (by rw [hb]; exact d0) (Nat.le_refl _) (Nat.le_refl _)
  generalize hT1 : (T.setVm vm₁).pushCell { cls := cX, slots := kX.instanceTypes.map defaultValue, vm := .none } = T1 at X₁ st1
  have hcat : (Value.ref T.heap.size).category = 1 := rfl
  have hcellA : T1.heap[T.heap.size]? = some (freshCell cX kX) := by rw [← hT1]; exact State.heap_pushCell_size _ _
  have d3' : decode c.code (pc + 3) = .ok (.dup, 1) := by rw [hb]; exact d3
  obtain ⟨U, hsteps, hrun, hend, hW, hsame, ce, hce, hO⟩ := X₁.ctorThrow0 hexec htr (own := own) (cls := cls) (names := names) (ic := ic) hown' hcls hnames h (fun x hx => nomatch hx) hfX hkX hcellA (by rw [hhp, hT]; exact Nat.le_refl _)
    (g := { method := m, pc := pc + 4, locals := ls, stack := .ref T.heap.size :: .ref T.heap.size :: rest, locked := none }) rfl hsize rfl rfl (rest := rest) rfl
    (by rw [hb]; exact d4) (by rw [hb]; exact d7) hout hRframes (by simp only [List.map_cons, List.sum_cons, hcat]; omega) hlocks
  obtain ⟨f1, f2⟩ := vx_frame hsame
  rw [hhp] at f1 f2
  have hWs : s.WarmedH U.vm := State.WarmedH.trans hW0 hW
  have hcl : s.vm.findClass cls = some ce.cls := by
    have h9 := hO.cls
    rw [hvm] at h9
    exact h9
  have hall : s.sameButNew ({ U with vm := s.vm } : State) locs mc ms := by
    subst hA
    obtain ⟨e1, e2⟩ := hsame
    rw [State.setFrames_setFrames] at e1
    have h2 : (T.setVm s.vm).sameButNew ({ U with vm := s.vm } : State) [] (0 + 1) (0 + 6) := ⟨e1, e2⟩
    have h3 := X.same.trans h2
    rw [List.append_nil] at h3
    exact h3.mono hc hs
  refine ⟨U, ?_, .threw T.heap.size, hrun, hend, Or.inr ⟨T.heap.size, rfl, cls, ce, locs, hx U hWs.alike f1 (fun q hq => f2 q hq (fun z hz => nomatch hz)), hce, hO.vm, hcl, hWs, hall, hf⟩⟩
  refine st1 _ ?_
  show Steps p.tables e below (T1.setTop { method := m, pc := pc + 3, locals := ls, stack := .ref T.heap.size :: rest, locked := none }) _
  jvm_step X₁.here [X₁.here.top, hexec, d3', Value.category]
  exact hsteps
/-- 'throw new E("text")': new; dup; ldc; invokespecial; athrow -/
theorem vx_throwS {cc : ByteArray} {pc : Nat} (hexec : p.tables.exec = Jvm.exec) (hb : c.code = cc) (hl : l.stackTraces = false) {own cls text : String} {names : List String} {ik is ic mc ms sa : Nat} {A : Nat → Prop}
    (hown : s.vm.findClass own = some m.cls) (hcls : Bundle.fit cls = true) (hnames : ∀ n ∈ names, Bundle.fit n = true)
    (hk : (Cond.classLink own ik cls).before args s = true) (hini : (Cond.initialized cls).before args s = true) (hstr : vk_R own is text sa s) (hat : ∀ w ∈ vx_atS own ic cls names, w.before args s = true)
    (hgood : ∀ w ∈ Cond.classLink own ik cls :: Cond.initialized cls :: vx_atS own ic cls names, vx_ot w = true)
    (hU : vx_Zq Bundle.tN "UNASSIGNED_STACK" Bundle.steD A s s.heap) (hN : vx_Zq Bundle.tN "SUPPRESSED_SENTINEL" Bundle.listD A s s.heap) (hS : va_S A s.heap H locs) (hsize : ls.size = c.maxLocals)
    (d0 : decode cc pc = .ok (.new ik, 3)) (d3 : decode cc (pc + 3) = .ok (.dup, 1)) (d4 : decode cc (pc + 4) = .ok (.ldc is, 2)) (d6 : decode cc (pc + 6) = .ok (.invokespecial ic, 3)) (d9 : decode cc (pc + 9) = .ok (.athrow, 1))
    (hout : ∀ x ∈ c.exceptionTable.toList, covers x (pc + 9) = false)
    (hRframes : names.length + 3 < R.frames) (hRlocals : (rest.map fun v => v.category).sum + (13 * (names.length + 1) + 43) ≤ R.locals) (hRcells : cells + 1 ≤ R.cells) (hRslots : slots + 6 ≤ R.slots) (hlocks : meth.locks = false)
    (hx : ∀ t : State, s.vm.Alike t.vm → H.size ≤ t.heap.size → (∀ q : Nat, q < H.size → t.heap[q]? = H[q]?) → XC cls s t)
    (hf : ∀ z ∈ locs, free z.base) (hc : cells + 1 ≤ mc) (hs : slots + 6 ≤ ms) :
    W p l e R s m args below meth c H locs cells slots (vx_MQ below Qc XC args s mc ms free) (F0 m pc ls rest) := by
  intro T hT X
  have htr : e.platform.stackTraces = false := (show e.platform.stackTraces = l.stackTraces by rw [X.admits.platform]).trans hl
  have Y := vx_rebase X (R' := { frames := R.frames, locals := R.locals, cells := 1, slots := 6 }) (Nat.le_refl _) (Nat.le_refl _) hRcells hRslots
  obtain ⟨s', hA⟩ : ∃ z, z = (T.setVm s.vm).setFrames (.invoking m args :: below) := ⟨_, rfl⟩
  rw [← hA] at Y
  have hvm : s'.vm = s.vm := by rw [hA]; rfl
  have hhp : s'.heap = H := by rw [hA]; exact hT
  have hW0 : s.WarmedH s'.vm := by rw [hvm]; exact State.WarmedH.refl s
  have hat' : ∀ w ∈ vx_atS own ic cls names, w.before args s' = true := fun w hw => vx_ot_at hW0 hvm.symm (hgood w (List.mem_cons_of_mem _ (List.mem_cons_of_mem _ hw))) (hat w hw)
  have hk' : (Cond.classLink own ik cls).before args s' = true := vx_ot_at hW0 hvm.symm (hgood _ List.mem_cons_self) hk
  have hini' : (Cond.initialized cls).before args s' = true := vx_ot_at hW0 hvm.symm (hgood _ (List.mem_cons_of_mem _ List.mem_cons_self)) hini
  have hU' : vx_Zq Bundle.tN "UNASSIGNED_STACK" Bundle.steD A s' s'.heap := by rw [hhp]; exact vx_Zq.moved hW0.alike (hU.kept hS.2.1)
  have hN' : vx_Zq Bundle.tN "SUPPRESSED_SENTINEL" Bundle.listD A s' s'.heap := by rw [hhp]; exact vx_Zq.moved hW0.alike (hN.kept hS.2.1)
  have h : ∀ w ∈ Bundle.ownAtoms own ic cls names, w.before args s' = true := vx_own hat' (vx_isRefq hU'.1) (vx_isRefq hN'.1) hU'.2.word hN'.2.word
  have hown' : s'.vm.findClass own = some m.cls := by rw [hvm]; exact hown
  have hins : (Cond.instantiable cls 6).before args s' = true := h _ (by simp [Bundle.ownAtoms])
  obtain ⟨vm₁, cX, kX, hfX, hkX, -, -, X₁, st1⟩ := Y.newCold hexec (own := own) (C := cls) (index := ik) (n := 6) hown' hk' hins hini'
    (g := F0 m pc ls rest) rfl (by rw [hb]; exact d0) (Nat.le_refl _) (Nat.le_refl _)
  generalize hT1 : (T.setVm vm₁).pushCell { cls := cX, slots := kX.instanceTypes.map defaultValue, vm := .none } = T1 at X₁ st1
  have hcat : (Value.ref T.heap.size).category = 1 := rfl
  have hcellA : T1.heap[T.heap.size]? = some (freshCell cX kX) := by rw [← hT1]; exact State.heap_pushCell_size _ _
  have d3' : decode c.code (pc + 3) = .ok (.dup, 1) := by rw [hb]; exact d3
  have d4' : decode c.code (pc + 4) = .ok (.ldc is, 2) := by rw [hb]; exact d4
  have hstr' : vk_R own is text sa s' := vk_R.warm hW0 hstr
  obtain ⟨U, hsteps, hrun, hend, hW, hsame, ce, hce, hO⟩ := X₁.ctorThrowS hexec htr (own := own) (cls := cls) (names := names) (ic := ic) hown' hcls hnames h (fun x hx => nomatch hx) hfX hkX hcellA (by rw [hhp, hT]; exact Nat.le_refl _) (msg := .ref sa) rfl
    (g := { method := m, pc := pc + 6, locals := ls, stack := .ref sa :: .ref T.heap.size :: .ref T.heap.size :: rest, locked := none }) rfl hsize rfl rfl (rest := rest) rfl
    (by rw [hb]; exact d6) (by rw [hb]; exact d9) hout hRframes (by simp only [List.map_cons, List.sum_cons, hcat]; omega) hlocks
  obtain ⟨f1, f2⟩ := vx_frame hsame
  rw [hhp] at f1 f2
  have hWs : s.WarmedH U.vm := State.WarmedH.trans hW0 hW
  have hcl : s.vm.findClass cls = some ce.cls := by
    have h9 := hO.cls
    rw [hvm] at h9
    exact h9
  have hall : s.sameButNew ({ U with vm := s.vm } : State) locs mc ms := by
    subst hA
    obtain ⟨e1, e2⟩ := hsame
    rw [State.setFrames_setFrames] at e1
    have h2 : (T.setVm s.vm).sameButNew ({ U with vm := s.vm } : State) [] (0 + 1) (0 + 6) := ⟨e1, e2⟩
    have h3 := X.same.trans h2
    rw [List.append_nil] at h3
    exact h3.mono hc hs
  refine ⟨U, ?_, .threw T.heap.size, hrun, hend, Or.inr ⟨T.heap.size, rfl, cls, ce, locs, hx U hWs.alike f1 (fun q hq => f2 q hq (fun z hz => nomatch hz)), hce, hO.vm, hcl, hWs, hall, hf⟩⟩
  refine st1 _ ?_
  show Steps p.tables e below (T1.setTop { method := m, pc := pc + 3, locals := ls, stack := .ref T.heap.size :: rest, locked := none }) _
  jvm_step X₁.here [X₁.here.top, hexec, d3', Value.category]
  exact X₁.ldcString hexec (own := own) (text := text) (index := is) (a := sa) hown' hstr'.1 hstr'.2
    (g := { method := m, pc := pc + 4, locals := ls, stack := .ref T.heap.size :: .ref T.heap.size :: rest, locked := none }) rfl d4' _ hsteps
/-- 'throw new E("text")', the text by a wide index -/
theorem vx_throwSW {cc : ByteArray} {pc : Nat} (hexec : p.tables.exec = Jvm.exec) (hb : c.code = cc) (hl : l.stackTraces = false) {own cls text : String} {names : List String} {ik is ic mc ms sa : Nat} {A : Nat → Prop}
    (hown : s.vm.findClass own = some m.cls) (hcls : Bundle.fit cls = true) (hnames : ∀ n ∈ names, Bundle.fit n = true)
    (hk : (Cond.classLink own ik cls).before args s = true) (hini : (Cond.initialized cls).before args s = true) (hstr : vk_R own is text sa s) (hat : ∀ w ∈ vx_atS own ic cls names, w.before args s = true)
    (hgood : ∀ w ∈ Cond.classLink own ik cls :: Cond.initialized cls :: vx_atS own ic cls names, vx_ot w = true)
    (hU : vx_Zq Bundle.tN "UNASSIGNED_STACK" Bundle.steD A s s.heap) (hN : vx_Zq Bundle.tN "SUPPRESSED_SENTINEL" Bundle.listD A s s.heap) (hS : va_S A s.heap H locs) (hsize : ls.size = c.maxLocals)
    (d0 : decode cc pc = .ok (.new ik, 3)) (d3 : decode cc (pc + 3) = .ok (.dup, 1)) (d4 : decode cc (pc + 4) = .ok (.ldc_w is, 3)) (d7 : decode cc (pc + 7) = .ok (.invokespecial ic, 3)) (d10 : decode cc (pc + 10) = .ok (.athrow, 1))
    (hout : ∀ x ∈ c.exceptionTable.toList, covers x (pc + 10) = false)
    (hRframes : names.length + 3 < R.frames) (hRlocals : (rest.map fun v => v.category).sum + (13 * (names.length + 1) + 43) ≤ R.locals) (hRcells : cells + 1 ≤ R.cells) (hRslots : slots + 6 ≤ R.slots) (hlocks : meth.locks = false)
    (hx : ∀ t : State, s.vm.Alike t.vm → H.size ≤ t.heap.size → (∀ q : Nat, q < H.size → t.heap[q]? = H[q]?) → XC cls s t)
    (hf : ∀ z ∈ locs, free z.base) (hc : cells + 1 ≤ mc) (hs : slots + 6 ≤ ms) :
    W p l e R s m args below meth c H locs cells slots (vx_MQ below Qc XC args s mc ms free) (F0 m pc ls rest) := by
  intro T hT X
  have htr : e.platform.stackTraces = false := (show e.platform.stackTraces = l.stackTraces by rw [X.admits.platform]).trans hl
  have Y := vx_rebase X (R' := { frames := R.frames, locals := R.locals, cells := 1, slots := 6 }) (Nat.le_refl _) (Nat.le_refl _) hRcells hRslots
  obtain ⟨s', hA⟩ : ∃ z, z = (T.setVm s.vm).setFrames (.invoking m args :: below) := ⟨_, rfl⟩
  rw [← hA] at Y
  have hvm : s'.vm = s.vm := by rw [hA]; rfl
  have hhp : s'.heap = H := by rw [hA]; exact hT
  have hW0 : s.WarmedH s'.vm := by rw [hvm]; exact State.WarmedH.refl s
  have hat' : ∀ w ∈ vx_atS own ic cls names, w.before args s' = true := fun w hw => vx_ot_at hW0 hvm.symm (hgood w (List.mem_cons_of_mem _ (List.mem_cons_of_mem _ hw))) (hat w hw)
  have hk' : (Cond.classLink own ik cls).before args s' = true := vx_ot_at hW0 hvm.symm (hgood _ List.mem_cons_self) hk
  have hini' : (Cond.initialized cls).before args s' = true := vx_ot_at hW0 hvm.symm (hgood _ (List.mem_cons_of_mem _ List.mem_cons_self)) hini
  have hU' : vx_Zq Bundle.tN "UNASSIGNED_STACK" Bundle.steD A s' s'.heap := by rw [hhp]; exact vx_Zq.moved hW0.alike (hU.kept hS.2.1)
  have hN' : vx_Zq Bundle.tN "SUPPRESSED_SENTINEL" Bundle.listD A s' s'.heap := by rw [hhp]; exact vx_Zq.moved hW0.alike (hN.kept hS.2.1)
  have h : ∀ w ∈ Bundle.ownAtoms own ic cls names, w.before args s' = true := vx_own hat' (vx_isRefq hU'.1) (vx_isRefq hN'.1) hU'.2.word hN'.2.word
  have hown' : s'.vm.findClass own = some m.cls := by rw [hvm]; exact hown
  have hins : (Cond.instantiable cls 6).before args s' = true := h _ (by simp [Bundle.ownAtoms])
  obtain ⟨vm₁, cX, kX, hfX, hkX, -, -, X₁, st1⟩ := Y.newCold hexec (own := own) (C := cls) (index := ik) (n := 6) hown' hk' hins hini'
    (g := F0 m pc ls rest) rfl (by rw [hb]; exact d0) (Nat.le_refl _) (Nat.le_refl _)
  generalize hT1 : (T.setVm vm₁).pushCell { cls := cX, slots := kX.instanceTypes.map defaultValue, vm := .none } = T1 at X₁ st1
  have hcat : (Value.ref T.heap.size).category = 1 := rfl
  have hcellA : T1.heap[T.heap.size]? = some (freshCell cX kX) := by rw [← hT1]; exact State.heap_pushCell_size _ _
  have d3' : decode c.code (pc + 3) = .ok (.dup, 1) := by rw [hb]; exact d3
  have d4' : decode c.code (pc + 4) = .ok (.ldc_w is, 3) := by rw [hb]; exact d4
  have hstr' : vk_R own is text sa s' := vk_R.warm hW0 hstr
  obtain ⟨U, hsteps, hrun, hend, hW, hsame, ce, hce, hO⟩ := X₁.ctorThrowS hexec htr (own := own) (cls := cls) (names := names) (ic := ic) hown' hcls hnames h (fun x hx => nomatch hx) hfX hkX hcellA (by rw [hhp, hT]; exact Nat.le_refl _) (msg := .ref sa) rfl
    (g := { method := m, pc := pc + 7, locals := ls, stack := .ref sa :: .ref T.heap.size :: .ref T.heap.size :: rest, locked := none }) rfl hsize rfl rfl (rest := rest) rfl
    (by rw [hb]; exact d7) (by rw [hb]; exact d10) hout hRframes (by simp only [List.map_cons, List.sum_cons, hcat]; omega) hlocks
  obtain ⟨f1, f2⟩ := vx_frame hsame
  rw [hhp] at f1 f2
  have hWs : s.WarmedH U.vm := State.WarmedH.trans hW0 hW
  have hcl : s.vm.findClass cls = some ce.cls := by
    have h9 := hO.cls
    rw [hvm] at h9
    exact h9
  have hall : s.sameButNew ({ U with vm := s.vm } : State) locs mc ms := by
    subst hA
    obtain ⟨e1, e2⟩ := hsame
    rw [State.setFrames_setFrames] at e1
    have h2 : (T.setVm s.vm).sameButNew ({ U with vm := s.vm } : State) [] (0 + 1) (0 + 6) := ⟨e1, e2⟩
    have h3 := X.same.trans h2
    rw [List.append_nil] at h3
    exact h3.mono hc hs
  refine ⟨U, ?_, .threw T.heap.size, hrun, hend, Or.inr ⟨T.heap.size, rfl, cls, ce, locs, hx U hWs.alike f1 (fun q hq => f2 q hq (fun z hz => nomatch hz)), hce, hO.vm, hcl, hWs, hall, hf⟩⟩
  refine st1 _ ?_
  show Steps p.tables e below (T1.setTop { method := m, pc := pc + 3, locals := ls, stack := .ref T.heap.size :: rest, locked := none }) _
  jvm_step X₁.here [X₁.here.top, hexec, d3', Value.category]
  exact X₁.ldcStringW hexec (own := own) (text := text) (index := is) (a := sa) hown' hstr'.1 hstr'.2
    (g := { method := m, pc := pc + 4, locals := ls, stack := .ref T.heap.size :: .ref T.heap.size :: rest, locked := none }) rfl d4' _ hsteps
end Ends
section Bodies
variable {l : Launch}
theorem vx_ofW {y : MethodName} {ws ws' : List Cond} {rm : Room} {Pc : Array Value → State → Prop} {Qc : Array Value → State → Outcome → State → Prop} {XC : String → State → State → Prop} {mc ms : Nat} {free : Addr → Prop} {cc : ByteArray} {maxL : Nat} {ret : Option FieldType}
    (hy : plainName y.cls = true) (hw : ws = Cond.code y cc maxL ret :: ws')
    (body : ∀ p e s m args below meth c s₁, BodyLoose p l y (headSpec ws rm) cc maxL ret e s m args below meth c s₁ → c.maxLocals = maxL → (∀ x ∈ c.exceptionTable.toList, False) → Pc args s →
      W p l e (headSpec ws rm).room s m args below meth c s.heap [] 0 0 (vx_MQ below Qc XC args s mc ms free) (entryFrame m args maxL)) : vx_Met l y ws rm Pc Qc XC mc ms free := by
  refine MetFree.of_bodyS (code := cc) (maxLocals := maxL) (ret := ret) hy ?_ ?_
  · intro args s m h hn
    obtain ⟨meth, c, h1, h2, h3, h4, h5, h6, -, -⟩ := Cond.code_spec hn (atoms_spec (ws := ws) h _ (by rw [hw]; exact List.mem_cons_self))
    exact ⟨meth, c, h1, h2, h3, h4, h5, h6⟩
  · intro p e s m args below meth c s₁ B hml hP _
    have hh0 : s₁.heap = s.heap := by rw [B.state]; rfl
    have ht : ∀ x ∈ c.exceptionTable.toList, False := by
      obtain ⟨meth9, c9, h1, h2, -, -, -, -, h7, -⟩ := Cond.code_spec B.named (atoms_spec (ws := ws) B.pre _ (by rw [hw]; exact List.mem_cons_self))
      cases Option.some.inj (h1.symm.trans B.method)
      cases Option.some.inj (h2.symm.trans (Stand.of_body B).code)
      intro x hx
      rw [Array.isEmpty_iff.mp h7] at hx
      cases hx
    obtain ⟨t, a1, o, b1, b2, b3⟩ := body p e s m args below meth c s₁ B hml ht hP s₁ hh0 (Stand.of_body B)
    exact ⟨t, o, a1, b1, b2, b3⟩
/-- the table of a body with handlers -/
theorem vx_table {p : Program} {x y : MethodName} {S : Spec} {cc bytes : ByteArray} {maxL maxL' : Nat} {ret ret' : Option FieldType} {e : Env} {s s₁ : State} {m : MethodId} {args : Array Value} {below : List Frame} {meth : Method} {c : Code} {hh : List (Nat × Nat × Nat × Nat)}
    (B : BodyLoose p l y S cc maxL ret e s m args below meth c s₁) (h : (Cond.codeWith y bytes maxL' ret' hh).before args s = true) : c.exceptionTable.toList = tableOf hh := by
  obtain ⟨m9, meth9, c9, hn9, h1, h2, -, -, h6, -⟩ := Cond.codeWith_spec h
  cases Option.some.inj (hn9.symm.trans B.named)
  cases Option.some.inj (h1.symm.trans B.method)
  cases Option.some.inj (h2.symm.trans (Stand.of_body B).code)
  rw [← h6, table_eq]
end Bodies
end VXA
/-! ===== END ===== -/
/-! ===== BEGIN a static call of a method with an exception table ===== -/
section VXS
variable {p : Program} {l : Launch} {e : Env} {R : Room} {s : State} {m : MethodId} {args : Array Value} {below : List Frame} {meth : Method} {c : Code} {T : State} {H : Heap} {locs : List Loc} {cells slots : Nat}
abbrev vx_CSW (R : Room) (s : State) (args : Array Value) (own : String) (index : Nat) (y : MethodName) (bytes : ByteArray) (maxL : Nat) (ret : Option FieldType) (hh : List (Nat × Nat × Nat × Nat)) (ws : List Cond) (rm : Room) (mc ms n : Nat) : Prop :=
  (rm.cells = mc ∧ rm.slots = ms ∧ rm.frames + 1 ≤ R.frames ∧ 8 + (maxL + 11) + rm.locals ≤ R.locals ∧ (∀ w ∈ ws, ∀ (a' : Array Value) (U : State), s.WarmedH U.vm → w.before a' U = true) ∧ Cond.codeWith y bytes maxL ret hh ∈ ws) ∧
  (Cond.codeWith y bytes maxL ret hh).before args s = true ∧ (Cond.initialized y.cls).before args s = true ∧ (y.cls ≠ "java/lang/invoke/MethodHandle" ∧ y.cls ≠ "java/lang/invoke/VarHandle") ∧
  (∀ sig, parseMethodDescriptor y.desc = some sig → n = sig.parameters.length) ∧ (Cond.methodLink own index y).before args s = true ∧ (Cond.static y).before args s = true
theorem vx_cwSW {own : String} {index maxL mc ms : Nat} {y : MethodName} {bytes : ByteArray} {ret : Option FieldType} {hh : List (Nat × Nat × Nat × Nat)} {Ts ws ws' : List Cond} {rm : Room} (n : Nat) (ht : ∀ w ∈ Ts, w.before args s = true) (hT : GoodIn Ts (va_wsS own index y ws)) (hw : ws = Cond.codeWith y bytes maxL ret hh :: ws') (hrc : rm.cells = mc) (hrs : rm.slots = ms)
    (hd : y.cls ≠ "java/lang/invoke/MethodHandle" ∧ y.cls ≠ "java/lang/invoke/VarHandle" ∧ (parseMethodDescriptor y.desc).map (fun d => d.parameters.length) = some n) (hR : rm.frames + 1 ≤ R.frames ∧ 8 + (maxL + 11) + rm.locals ≤ R.locals) :
    vx_CSW R s args own index y bytes maxL ret hh ws rm mc ms n := by
  have ok : ∀ w ∈ va_wsS own index y ws, w.before args s = true := fun w h => ht w (hT w h).1
  have hG : GoodIn Ts ws := fun w h => hT w (by unfold va_wsS; exact List.mem_append_right _ h)
  have hc : Cond.codeWith y bytes maxL ret hh ∈ ws := by rw [hw]; exact List.mem_cons_self
  refine ⟨⟨hrc, hrs, hR.1, hR.2, pay_in ht hG, hc⟩, ht _ (hG _ hc).1, ok _ (by simp [va_wsS]), ⟨hd.1, hd.2.1⟩, fun sig h => ?_, ok _ (by simp [va_wsS]), ok _ (by simp [va_wsS])⟩
  have h2 := hd.2.2
  rw [h] at h2
  exact (Option.some.inj h2).symm
theorem vx_callSW (X : Stand p l e R s m args below meth c T locs cells slots) (hexec : p.tables.exec = Jvm.exec) {own : String} {index : Nat} {y : MethodName} {bytes : ByteArray} {maxL : Nat} {ret : Option FieldType} {hh : List (Nat × Nat × Nat × Nat)}
    (hown : s.vm.findClass own = some m.cls) (hlink : (Cond.methodLink own index y).before args s = true) (hstat : (Cond.static y).before args s = true) (hinit : (Cond.initialized y.cls).before args s = true)
    (hcode : (Cond.codeWith y bytes maxL ret hh).before args s = true) (hy : y.cls ≠ "java/lang/invoke/MethodHandle" ∧ y.cls ≠ "java/lang/invoke/VarHandle")
    {W9 : Nat} {Pre : Pt → Array Value → Prop} {Post : Pt → Array Value → Option Value → Pt → Prop} (hK : Back l R p e below s args y 3 W9 Pre Post)
    {g : JFrame} (hg : g.method = m) (hsize : g.locals.size = c.maxLocals) {argsL rest : List Value} (hlen : ∀ sig, parseMethodDescriptor y.desc = some sig → argsL.length = sig.parameters.length)
    (hstack : g.stack = argsL.reverse ++ rest) (hW : 2 * g.monitorRoom + (rest.map fun v => v.category).sum ≤ W9) (hdg : decode c.code g.pc = .ok (.invokestatic index, 3))
    (hpre : ∀ vm₁, s.WarmedH vm₁ → Pre ⟨T.setVm vm₁, locs, cells, slots⟩ argsL.toArray) :
    ∃ (v : Option Value) (vm₁ : Vm) (B : Pt), s.WarmedH vm₁ ∧ Stand p l e R s m args below meth c B.U B.locs B.cells B.slots ∧ Post ⟨T.setVm vm₁, locs, cells, slots⟩ argsL.toArray v B ∧
      ∀ target, Steps p.tables e below (B.U.setTop { g with pc := g.pc + 3, stack := v.toList ++ rest }) target → Steps p.tables e below (T.setTop g) target := by
  obtain ⟨mk, methM, cM, hnamed, hmethM, -, -, -, -, -, -, hsigM⟩ := Cond.codeWith_spec hcode
  have hstatic : methM.isStatic = true := Cond.static_spec hnamed hmethM hstat
  obtain ⟨kP, hkP, -⟩ := className_of_methodNamed hnamed
  have hinitP : kP.init = .initialized := Cond.initialized_spec (findClass_of_methodNamed hnamed) hkP hinit
  obtain ⟨vm₁, X₁, hstep₁⟩ := X.invokestatic hexec hown hlink hnamed hmethM hstatic hkP hinitP hy (g := g) hg (argsL := argsL) (rest := rest) (hlen _ hsigM) hstack hdg
  obtain ⟨v, B, X', hpost, hsteps⟩ := hK m meth c ⟨T.setVm vm₁, locs, cells, slots⟩ { g with stack := rest } (.invokestatic index) mk argsL.toArray X₁ hg hsize hdg hW (X₁.named hnamed) (hpre vm₁ X₁.warmed)
  exact ⟨v, vm₁, B, X₁.warmed, X', hpost, fun target h => hstep₁ _ fun acts => by rw [doInvoke_state]; exact hsteps.trans h⟩
theorem vx_runSW {y : MethodName} {bytes cc : ByteArray} {maxL nL mc ms n index : Nat} {ret : Option FieldType} {hh : List (Nat × Nat × Nat × Nat)} {ws : List Cond} {rm : Room} {Pc : Array Value → State → Prop} {Qc : Array Value → State → Outcome → State → Prop} {free : Addr → Prop} {Ts : List Cond} {own : String} {As rest : List Value} {g : JFrame}
    (S : CallFix p m c cc nL s args Ts own) (hM : Met l y ws rm Pc Qc mc ms free) (cw : vx_CSW R s args own index y bytes maxL ret hh ws rm mc ms n) (hp : PreS s H Pc As)
    (hg : g.method = m) (hn : As.length = n) (hsize : g.locals.size = nL) (hstack : g.stack = As.reverse ++ rest) (hW : 2 * g.monitorRoom + (rest.map fun v => v.category).sum ≤ 8) (hdg : decode cc g.pc = .ok (.invokestatic index, 3)) (hf : cells + mc ≤ R.cells ∧ slots + ms ≤ R.slots) :
    va_Run p l e R s m args below meth c H locs cells slots mc ms g rest (Qc As.toArray) (free) := by
  obtain ⟨⟨hrc, hrs, hfr, hlo, hws, hcw⟩, hcode, hini, hy, hlen, hl, hstt⟩ := cw
  have hK : Back l R p e below s args y 3 8 (PreOf R mc ms Pc) (PostOf Qc mc ms free) := va_backW (hh := hh) (bytes := bytes) (maxL := maxL) (ret := ret) hM hp.1 hrc hrs hfr hlo hws hcw (fun a' U hW => word_at hW (Or.inl (by first | rfl | simp [Cond.onTables, Cond.keeps, Cond.steady])) hini)
  obtain ⟨hx, hb, hml, ho, -⟩ := S
  intro T hT X
  obtain ⟨v, vm₁, ⟨U', l2, c2, s2⟩, hW₁, X', ⟨g', mk, t, L, e1, e2, hq, h1, hL, h2, h3⟩, st⟩ := vx_callSW X hx (hh := hh) (bytes := bytes) (maxL := maxL) (ret := ret) ho hl hstt hini hcode hy hK hg (hsize.trans hml.symm) (argsL := As) (rest := rest) (fun sig h => hn.trans (hlen sig h)) hstack hW (by rw [hb]; exact hdg)
    (fun vm₁ hW₁ => ⟨hf.1, hf.2, hp.2 (T.setVm vm₁) hT hW₁⟩)
  dsimp only [Pt.U, Pt.locs, Pt.cells, Pt.slots] at X' e1 e2 h1 h2 h3 st
  subst h1; subst h2; subst h3
  exact ⟨v, (T.setVm vm₁).calling g' mk As.toArray, t, U', L, hT, X', hL, e1, e2, hq, st⟩
/-- not caught here, past rows that name other classes: it goes on to the caller -/
theorem vx_outP {p : Program} {l : Launch} {e : Env} {R : Room} {s : State} {m : MethodId} {args : Array Value} {below : List Frame} {meth : Method} {c : Code} {H : Heap} {locs : List Loc} {cells slots : Nat} {free : Addr → Prop} {ls : Array Slot} {rest : List Value} {Qc : Array Value → State → Outcome → State → Prop} {XC : String → State → State → Prop}
    {pc : Nat} {own E : String} {ce : Cell} {q : Addr} {mc ms : Nat} (hown : s.vm.findClass own = some m.cls) (hlocks : meth.locks = false)
    (hpass : ∀ z ∈ c.exceptionTable.toList, covers z pc = false ∨ (z.catchType ≠ 0 ∧ ∃ nm : String, (Cond.classLink own z.catchType nm).before args s = true ∧ va_Nc E nm s)) (hcell : H[q]? = some ce) (hv : ce.vm = .none) (hcl : s.vm.findClass E = some ce.cls)
    (hx : ∀ t : State, t.heap = H → s.vm.Alike t.vm → XC E s t) (hf : ∀ z ∈ locs, free z.base) (hc : cells ≤ mc) (hs : slots ≤ ms) :
    vx_W p l e R s m args below meth c H locs cells slots (vx_MQ below Qc XC args s mc ms free) (F0 m pc ls rest) q := by
  intro T hT X
  have hpl : e.platform.magicAccessors = ({} : Platform).magicAccessors := by rw [X.admits.platform]
  obtain ⟨vm', hW', X', st⟩ := X.outThrough hlocks q (g := F0 m pc ls rest) rfl rfl rfl (cell := ce) (by rw [hT]; exact hcell) (by rw [hv]; rfl)
    (by obtain ⟨k9, h9, -⟩ := Vm.findClass_spec hcl; exact ⟨k9, h9⟩) (fun z hz => by
      rcases hpass z hz with h | ⟨hz0, nm, hl1, hn1⟩
      · exact Or.inl h
      · obtain ⟨c6, hc6, hcl6⟩ := Cond.classLink_spec hown hl1 e.platform hpl
        obtain ⟨a8, b8, h1, h2, h3⟩ := hn1
        cases Option.some.inj (h1.symm.trans hcl)
        cases Option.some.inj (h2.symm.trans hc6)
        exact Or.inr ⟨hz0, _, hcl6, h3⟩)
  obtain ⟨g₀, hfr⟩ := X'.frames_eq
  have hcell9 : ((T.setVm vm').setFrames (.throwing q :: below)).heap[q]? = some ce := by
    show T.heap[q]? = some ce
    rw [hT]; exact hcell
  have hend : Ended ((T.setVm vm').setFrames (.throwing q :: below)) below (.threw q) := State.frames_setFrames _ (State.cur_lt_of_frames hfr)
  refine ⟨(T.setVm vm').setFrames (.throwing q :: below), ?_, .threw q, X'.here.running, hend, Or.inr ⟨q, rfl, E, ce, locs, hx _ hT (X'.ends _).1.alike, hcell9, hv, hcl, (X'.ends _).1, (X'.ends _).2.mono hc hs, hf⟩⟩
  rw [X.pushThrowing_eq]
  exact st
/-- a thing of a world lies in the heap -/
theorem vx_lt {D : va_G} {cl : List vw_C} {ws : va_W} {H1 : Heap} (h : va_P D cl ws H1) {k : Nat} {q : Nat × va_E} (hk : ws[k]? = some q) : q.1 < H1.size := (h k q hk).lt
end VXS
/-! ===== END ===== -/
/-! ===== BEGIN methods with a table of their own: called by a name, returning or throwing ===== -/
section VXH
/-! vx_backW, vx_callVX, vx_callSX, vx_callVW, vx_runVW, vx_runVX, vx_runSX, vx_ofWH follow the same proofs as their sisters above (Free/Laws.lean, Shelf42/LK1.lean); vx_outP calls Shelf42/NT130.lean (outThrough). -/
section
variable {l : Launch} {R : Room} {p : Program} {e : Env} {below : List Frame} {s : State} {sargs : Array Value} {y : MethodName} {len W9 : Nat}
theorem vx_backW {ws : List Cond} {rm : Room} {Pc : Array Value → State → Prop} {Qc : Array Value → State → Outcome → State → Prop} {XC : String → State → State → Prop} {mc ms : Nat} {free : Addr → Prop} {bytes : ByteArray} {maxL : Nat} {ret : Option FieldType} {hh : List (Nat × Nat × Nat × Nat)}
    (hM : vx_Met l y ws rm Pc Qc XC mc ms free) (hblind : FrameBlind Pc) (hrc : rm.cells = mc) (hrs : rm.slots = ms)
    (hframes : rm.frames + 1 ≤ R.frames) (hlocals : W9 + (maxL + 11) + rm.locals ≤ R.locals)
    (hws : ∀ w ∈ ws, ∀ a' U, s.WarmedH U.vm → w.before a' U = true) (hcode : Cond.codeWith y bytes maxL ret hh ∈ ws) (hinit : ∀ a' U, s.WarmedH U.vm → (Cond.initialized y.cls).before a' U = true) :
    vx_Back l R p e below s sargs y len W9 (PreOf R mc ms Pc) (PostOf Qc mc ms free) (vx_Post XC mc ms free) := by
  intro m meth c A g ig mk a X hg hsize hdg hW hn hp
  have h1 : (headSpec ws rm).pre.before a A.U = true := atoms_intro fun w hw => hws w hw _ _ X.warmed
  have h2 : (Cond.codeWith y bytes maxL ret hh).before a A.U = true := hws _ hcode _ _ X.warmed
  have h3 : (Cond.initialized y.cls).before a A.U = true := hinit _ _ X.warmed
  have h4 : A.cells + (headSpec ws rm).room.cells ≤ R.cells := by rw [show (headSpec ws rm).room.cells = mc from hrc]; exact hp.1
  have h5 : A.slots + (headSpec ws rm).room.slots ≤ R.slots := by rw [show (headSpec ws rm).room.slots = ms from hrs]; exact hp.2.1
  have hPc : Pc a (A.U.calling g mk a) := hblind _ _ _ _ hp.2.2
  obtain ⟨U, Ls, c0, s0⟩ := A
  dsimp only [Pt.U, Pt.locs, Pt.cells, Pt.slots] at h1 h2 h3 h4 h5 X hn hPc ⊢
  obtain ⟨m9, methY, cY, hn9, hmY, hcY, -, hlY, -⟩ := Cond.codeWith_spec h2
  cases Option.some.inj (hn9.symm.trans hn)
  obtain ⟨kY, hkY, -⟩ := className_of_methodNamed hn
  have hinitY : kY.init = .initialized := Cond.initialized_spec (findClass_of_methodNamed hn) hkY h3
  have h : At U g.method c below := by rw [hg]; exact X.here
  have hlocals9 : W9 + (maxL + 11) + (headSpec ws rm).room.locals ≤ R.locals := hlocals
  have happ : (headSpec ws rm).appliesLoose y e.platform (U.calling g mk a) = true :=
    Spec.appliesLoose_calling (g := g) h hdg hn hkY hinitY
      (X.room_calling (g := g) (R' := (headSpec ws rm).room) hsize hmY hcY hframes (by rw [hlY]; omega) h4 h5) h1
  obtain ⟨mid, hmid⟩ := h.above
  have hfr : (U.setTop g).frames = (.java g :: mid) ++ below := by rw [State.frames_setTop' g h.top, hmid]; rfl
  obtain ⟨o, s₂, hsteps, -, hend, hq⟩ := Steps.callFree hM p X.admits X.cas X.clock (acts := []) hfr happ hPc trivial
  have hq' : vx_Q Qc XC mc ms free a (U.calling g mk a) o s₂ := hq
  rw [State.frames_setTop' g h.top] at hend
  obtain ⟨g₀, hg0⟩ := Option.isSome_iff_exists.mp h.top
  obtain ⟨r, hr⟩ := State.topJava?_eq_some.mp hg0
  have hr' : (({ U with heap := s₂.heap, slotsUsed := s₂.slotsUsed } : State).setVm s₂.vm).frames = .java g₀ :: r := hr
  rcases hq' with ⟨hqc, L, hfe, hL⟩ | ⟨q, rfl, E, ce, L, hx, hce, hcv, hcl, hW₂, hsm, hL⟩
  · obtain ⟨⟨v, rfl⟩, hW₂, e2, q2, q3, q4, q5, q6⟩ := id hfe
    have e3 : s₂ = ({ (U.calling g mk a).setFrames s₂.frames with heap := s₂.heap, slotsUsed := s₂.slotsUsed } : State).setVm s₂.vm := by
      have : s₂ = ({ s₂ with vm := (U.calling g mk a).vm } : State).setVm s₂.vm := rfl
      rw [e2] at this
      exact this
    obtain ⟨c₂, i₂, len₂, hc₂, hd₂, hf₂⟩ := hend
    have hW' : U.WarmedH s₂.vm := hW₂
    have hcc : c₂ = c := by
      have h1 : s₂.code? g.method = U.code? g.method := by
        rw [State.code?_eq, State.code?_eq, hW'.alike.method?]
      exact Option.some.inj (hc₂.symm.trans (h1.trans h.code))
    subst hcc
    have hlen : len₂ = len := by rw [hdg] at hd₂; cases hd₂; rfl
    subst hlen
    have hs₂ : s₂ = (({ U with heap := s₂.heap, slotsUsed := s₂.slotsUsed } : State).setVm s₂.vm).setTop { g with pc := g.pc + len₂, stack := v.toList ++ g.stack } := by
      refine e3.trans ?_
      rw [hf₂, State.calling_eq h.top, State.setFrames_setFrames, State.setTop_of_frames _ hr', hr]
      rfl
    have hsame : U.sameButNew ({ U with heap := s₂.heap, slotsUsed := s₂.slotsUsed } : State) L mc ms := by
      refine ⟨?_, q2, q3, q4, q5, q6⟩
      obtain ⟨t, ht, -⟩ := State.frames_cons hr
      show ({ U with heap := s₂.heap, slotsUsed := s₂.slotsUsed } : State) = { U.setFrames U.frames with heap := s₂.heap, slotsUsed := s₂.slotsUsed }
      rw [State.setFrames_self ht]
    subst hg
    refine Or.inl ⟨v, ⟨(({ U with heap := s₂.heap, slotsUsed := s₂.slotsUsed } : State).setVm s₂.vm), Ls ++ L, c0 + mc, s0 + ms⟩,
      ⟨X.admits, X.cas, X.clock, X.frames, X.room, X.hears, X.method, X.code, (X.here.setHeapUsed s₂.heap s₂.slotsUsed).setVm hW'.alike, X.tail, State.WarmedH.trans X.warmed hW', X.limits, X.bytes, X.same.trans (hsame.setVm s.vm)⟩,
      ⟨g, mk, s₂, L, rfl, rfl, hqc, rfl, hL, rfl, rfl⟩, ?_⟩
    show Steps p.tables e below _ ((({ U with heap := s₂.heap, slotsUsed := s₂.slotsUsed } : State).setVm s₂.vm).setTop { g with pc := g.pc + len₂, stack := v.toList ++ g.stack })
    rw [← hs₂]
    exact hsteps
  · obtain ⟨e2, q2, q3, q4, q5, q6⟩ := id hsm
    have e3 : s₂ = ({ (U.calling g mk a).setFrames s₂.frames with heap := s₂.heap, slotsUsed := s₂.slotsUsed } : State).setVm s₂.vm := by
      have : s₂ = ({ s₂ with vm := (U.calling g mk a).vm } : State).setVm s₂.vm := rfl
      rw [e2] at this
      exact this
    have hf₂ : s₂.frames = .throwing q :: .java g :: U.frames.tail := hend
    have hW' : U.WarmedH s₂.vm := hW₂
    have hs₂ : s₂ = ((({ U with heap := s₂.heap, slotsUsed := s₂.slotsUsed } : State).setVm s₂.vm).setTop g).pushFrame (.throwing q) := by
      refine e3.trans ?_
      rw [hf₂, State.calling_eq h.top, State.setFrames_setFrames, State.pushFrame, State.frames_setTop _ hr', State.setTop_of_frames _ hr', State.setFrames_setFrames, hr]
      rfl
    have hsame : U.sameButNew ({ U with heap := s₂.heap, slotsUsed := s₂.slotsUsed } : State) L mc ms := by
      refine ⟨?_, q2, q3, q4, q5, q6⟩
      obtain ⟨t, ht, -⟩ := State.frames_cons hr
      show ({ U with heap := s₂.heap, slotsUsed := s₂.slotsUsed } : State) = { U.setFrames U.frames with heap := s₂.heap, slotsUsed := s₂.slotsUsed }
      rw [State.setFrames_self ht]
    subst hg
    refine Or.inr ⟨q, ⟨(({ U with heap := s₂.heap, slotsUsed := s₂.slotsUsed } : State).setVm s₂.vm), Ls ++ L, c0 + mc, s0 + ms⟩,
      ⟨X.admits, X.cas, X.clock, X.frames, X.room, X.hears, X.method, X.code, (X.here.setHeapUsed s₂.heap s₂.slotsUsed).setVm hW'.alike, X.tail, State.WarmedH.trans X.warmed hW', X.limits, X.bytes, X.same.trans (hsame.setVm s.vm)⟩,
      ⟨g, mk, s₂, L, E, ce, rfl, rfl, hx, hce, hcv, hcl, rfl, hL, rfl, rfl⟩, ?_⟩
    show Steps p.tables e below _ (((({ U with heap := s₂.heap, slotsUsed := s₂.slotsUsed } : State).setVm s₂.vm).setTop g).pushFrame (.throwing q))
    rw [← hs₂]
    exact hsteps
end
variable {p : Program} {l : Launch} {e : Env} {R : Room} {s : State} {m : MethodId} {args : Array Value} {below : List Frame} {meth : Method} {c : Code} {T : State} {H : Heap} {locs : List Loc} {cells slots : Nat}
theorem vx_callVX (X : Stand p l e R s m args below meth c T locs cells slots) (hexec : p.tables.exec = Jvm.exec) {own C : String} {index : Nat} {y : MethodName} {bytes : ByteArray} {maxL : Nat} {ret : Option FieldType} {hh : List (Nat × Nat × Nat × Nat)}
    (hown : s.vm.findClass own = some m.cls) (hlink : (Cond.methodLink own index y).before args s = true) (hinst : (Cond.instanceMethod y).before args s = true) (hsel : (Cond.selects C y y).before args s = true)
    (hcode : (Cond.codeWith y bytes maxL ret hh).before args s = true) (hy : y.cls ≠ "java/lang/invoke/MethodHandle" ∧ y.cls ≠ "java/lang/invoke/VarHandle")
    {W9 : Nat} {Pre : Pt → Array Value → Prop} {Post : Pt → Array Value → Option Value → Pt → Prop} {PostX : Pt → Array Value → Addr → Pt → Prop} (hK : vx_Back l R p e below s args y 3 W9 Pre Post PostX)
    {b : Addr} {cellB : Cell} (hcell : T.heap[b]? = some cellB) (hobj : cellB.vm.isStatics = false) (hcls : s.vm.findClass C = some cellB.cls)
    {g : JFrame} (hg : g.method = m) (hsize : g.locals.size = c.maxLocals) {argsL rest : List Value} (hlen : ∀ sig, parseMethodDescriptor y.desc = some sig → argsL.length = sig.parameters.length)
    (hstack : g.stack = argsL.reverse ++ .ref b :: rest) (hW : 2 * g.monitorRoom + (rest.map fun v => v.category).sum ≤ W9) (hdg : decode c.code g.pc = .ok (.invokevirtual index, 3))
    (hpre : ∀ vm₁, s.WarmedH vm₁ → Pre ⟨T.setVm vm₁, locs, cells, slots⟩ (Value.ref b :: argsL).toArray) :
    (∃ (v : Option Value) (vm₁ : Vm) (B : Pt), s.WarmedH vm₁ ∧ Stand p l e R s m args below meth c B.U B.locs B.cells B.slots ∧ Post ⟨T.setVm vm₁, locs, cells, slots⟩ (Value.ref b :: argsL).toArray v B ∧
      ∀ target, Steps p.tables e below (B.U.setTop { g with pc := g.pc + 3, stack := v.toList ++ rest }) target → Steps p.tables e below (T.setTop g) target) ∨
    (∃ (q : Addr) (vm₁ : Vm) (B : Pt), s.WarmedH vm₁ ∧ Stand p l e R s m args below meth c B.U B.locs B.cells B.slots ∧ PostX ⟨T.setVm vm₁, locs, cells, slots⟩ (Value.ref b :: argsL).toArray q B ∧
      Steps p.tables e below (T.setTop g) ((B.U.setTop { g with stack := rest }).pushFrame (.throwing q))) := by
  obtain ⟨mk, methM, hnamed, hmethM, hstM, habM⟩ := Cond.instanceMethod_spec hinst
  obtain ⟨m8, methM', cM, hn8, hmethM', -, -, -, -, -, -, hsigM⟩ := Cond.codeWith_spec hcode
  cases Option.some.inj (hn8.symm.trans hnamed)
  cases hmethM.symm.trans hmethM'
  obtain ⟨c2, r2, m2, q1, q2, q3, q4, kP, hkP, hkPi⟩ := Cond.selects_spec hsel
  cases hcls.symm.trans q1
  cases (State.methodFound?_of_named hnamed hy).symm.trans q2
  cases hnamed.symm.trans q3
  have hselP : selectMethod e.platform s.vm cellB.cls mk = .method mk := by rw [Launch.admits_selectMethod X.admits]; exact q4
  obtain ⟨vm₁, X₁, hstep₁⟩ := X.invokevirtual hexec hown hlink hnamed hmethM hstM hkP hkPi hy (a := b) (cell := cellB) hcell
    (fun z h => by rw [h] at hobj; cases hobj) hselP hmethM habM hkP hkPi (g := g) hg (argsL := argsL) (rest := rest) (hlen _ hsigM) hstack hdg
  rcases hK m meth c ⟨T.setVm vm₁, locs, cells, slots⟩ { g with stack := rest } (.invokevirtual index) mk (Value.ref b :: argsL).toArray X₁ hg hsize hdg hW (X₁.named hnamed) (hpre vm₁ X₁.warmed) with ⟨v, B, X', hpost, hsteps⟩ | ⟨q, B, X', hpost, hsteps⟩
  · exact Or.inl ⟨v, vm₁, B, X₁.warmed, X', hpost, fun target h => hstep₁ _ fun acts => by rw [doInvoke_state]; exact hsteps.trans h⟩
  · exact Or.inr ⟨q, vm₁, B, X₁.warmed, X', hpost, hstep₁ _ fun acts => by rw [doInvoke_state]; exact hsteps⟩
theorem vx_callSX (X : Stand p l e R s m args below meth c T locs cells slots) (hexec : p.tables.exec = Jvm.exec) {own : String} {index : Nat} {y : MethodName} {bytes : ByteArray} {maxL : Nat} {ret : Option FieldType} {hh : List (Nat × Nat × Nat × Nat)}
    (hown : s.vm.findClass own = some m.cls) (hlink : (Cond.methodLink own index y).before args s = true) (hstat : (Cond.static y).before args s = true) (hinit : (Cond.initialized y.cls).before args s = true)
    (hcode : (Cond.codeWith y bytes maxL ret hh).before args s = true) (hy : y.cls ≠ "java/lang/invoke/MethodHandle" ∧ y.cls ≠ "java/lang/invoke/VarHandle")
    {W9 : Nat} {Pre : Pt → Array Value → Prop} {Post : Pt → Array Value → Option Value → Pt → Prop} {PostX : Pt → Array Value → Addr → Pt → Prop} (hK : vx_Back l R p e below s args y 3 W9 Pre Post PostX)
    {g : JFrame} (hg : g.method = m) (hsize : g.locals.size = c.maxLocals) {argsL rest : List Value} (hlen : ∀ sig, parseMethodDescriptor y.desc = some sig → argsL.length = sig.parameters.length)
    (hstack : g.stack = argsL.reverse ++ rest) (hW : 2 * g.monitorRoom + (rest.map fun v => v.category).sum ≤ W9) (hdg : decode c.code g.pc = .ok (.invokestatic index, 3))
    (hpre : ∀ vm₁, s.WarmedH vm₁ → Pre ⟨T.setVm vm₁, locs, cells, slots⟩ argsL.toArray) :
    (∃ (v : Option Value) (vm₁ : Vm) (B : Pt), s.WarmedH vm₁ ∧ Stand p l e R s m args below meth c B.U B.locs B.cells B.slots ∧ Post ⟨T.setVm vm₁, locs, cells, slots⟩ argsL.toArray v B ∧
      ∀ target, Steps p.tables e below (B.U.setTop { g with pc := g.pc + 3, stack := v.toList ++ rest }) target → Steps p.tables e below (T.setTop g) target) ∨
    (∃ (q : Addr) (vm₁ : Vm) (B : Pt), s.WarmedH vm₁ ∧ Stand p l e R s m args below meth c B.U B.locs B.cells B.slots ∧ PostX ⟨T.setVm vm₁, locs, cells, slots⟩ argsL.toArray q B ∧
      Steps p.tables e below (T.setTop g) ((B.U.setTop { g with stack := rest }).pushFrame (.throwing q))) := by
  obtain ⟨mk, methM, cM, hnamed, hmethM, -, -, -, -, -, -, hsigM⟩ := Cond.codeWith_spec hcode
  have hstatic : methM.isStatic = true := Cond.static_spec hnamed hmethM hstat
  obtain ⟨kP, hkP, -⟩ := className_of_methodNamed hnamed
  have hinitP : kP.init = .initialized := Cond.initialized_spec (findClass_of_methodNamed hnamed) hkP hinit
  obtain ⟨vm₁, X₁, hstep₁⟩ := X.invokestatic hexec hown hlink hnamed hmethM hstatic hkP hinitP hy (g := g) hg (argsL := argsL) (rest := rest) (hlen _ hsigM) hstack hdg
  rcases hK m meth c ⟨T.setVm vm₁, locs, cells, slots⟩ { g with stack := rest } (.invokestatic index) mk argsL.toArray X₁ hg hsize hdg hW (X₁.named hnamed) (hpre vm₁ X₁.warmed) with ⟨v, B, X', hpost, hsteps⟩ | ⟨q, B, X', hpost, hsteps⟩
  · exact Or.inl ⟨v, vm₁, B, X₁.warmed, X', hpost, fun target h => hstep₁ _ fun acts => by rw [doInvoke_state]; exact hsteps.trans h⟩
  · exact Or.inr ⟨q, vm₁, B, X₁.warmed, X', hpost, hstep₁ _ fun acts => by rw [doInvoke_state]; exact hsteps⟩
theorem vx_callVW (X : Stand p l e R s m args below meth c T locs cells slots) (hexec : p.tables.exec = Jvm.exec) {own C : String} {index : Nat} {y : MethodName} {bytes : ByteArray} {maxL : Nat} {ret : Option FieldType} {hh : List (Nat × Nat × Nat × Nat)}
    (hown : s.vm.findClass own = some m.cls) (hlink : (Cond.methodLink own index y).before args s = true) (hinst : (Cond.instanceMethod y).before args s = true) (hsel : (Cond.selects C y y).before args s = true)
    (hcode : (Cond.codeWith y bytes maxL ret hh).before args s = true) (hy : y.cls ≠ "java/lang/invoke/MethodHandle" ∧ y.cls ≠ "java/lang/invoke/VarHandle")
    {W9 : Nat} {Pre : Pt → Array Value → Prop} {Post : Pt → Array Value → Option Value → Pt → Prop} (hK : Back l R p e below s args y 3 W9 Pre Post)
    {b : Addr} {cellB : Cell} (hcell : T.heap[b]? = some cellB) (hobj : cellB.vm.isStatics = false) (hcls : s.vm.findClass C = some cellB.cls)
    {g : JFrame} (hg : g.method = m) (hsize : g.locals.size = c.maxLocals) {argsL rest : List Value} (hlen : ∀ sig, parseMethodDescriptor y.desc = some sig → argsL.length = sig.parameters.length)
    (hstack : g.stack = argsL.reverse ++ .ref b :: rest) (hW : 2 * g.monitorRoom + (rest.map fun v => v.category).sum ≤ W9) (hdg : decode c.code g.pc = .ok (.invokevirtual index, 3))
    (hpre : ∀ vm₁, s.WarmedH vm₁ → Pre ⟨T.setVm vm₁, locs, cells, slots⟩ (Value.ref b :: argsL).toArray) :
    ∃ (v : Option Value) (vm₁ : Vm) (B : Pt), s.WarmedH vm₁ ∧ Stand p l e R s m args below meth c B.U B.locs B.cells B.slots ∧ Post ⟨T.setVm vm₁, locs, cells, slots⟩ (Value.ref b :: argsL).toArray v B ∧
      ∀ target, Steps p.tables e below (B.U.setTop { g with pc := g.pc + 3, stack := v.toList ++ rest }) target → Steps p.tables e below (T.setTop g) target := by
  obtain ⟨mk, methM, hnamed, hmethM, hstM, habM⟩ := Cond.instanceMethod_spec hinst
  obtain ⟨m8, methM', cM, hn8, hmethM', -, -, -, -, -, -, hsigM⟩ := Cond.codeWith_spec hcode
  cases Option.some.inj (hn8.symm.trans hnamed)
  cases hmethM.symm.trans hmethM'
  obtain ⟨c2, r2, m2, q1, q2, q3, q4, kP, hkP, hkPi⟩ := Cond.selects_spec hsel
  cases hcls.symm.trans q1
  cases (State.methodFound?_of_named hnamed hy).symm.trans q2
  cases hnamed.symm.trans q3
  have hselP : selectMethod e.platform s.vm cellB.cls mk = .method mk := by rw [Launch.admits_selectMethod X.admits]; exact q4
  obtain ⟨vm₁, X₁, hstep₁⟩ := X.invokevirtual hexec hown hlink hnamed hmethM hstM hkP hkPi hy (a := b) (cell := cellB) hcell
    (fun z h => by rw [h] at hobj; cases hobj) hselP hmethM habM hkP hkPi (g := g) hg (argsL := argsL) (rest := rest) (hlen _ hsigM) hstack hdg
  obtain ⟨v, B, X', hpost, hsteps⟩ := hK m meth c ⟨T.setVm vm₁, locs, cells, slots⟩ { g with stack := rest } (.invokevirtual index) mk (Value.ref b :: argsL).toArray X₁ hg hsize hdg hW (X₁.named hnamed) (hpre vm₁ X₁.warmed)
  exact ⟨v, vm₁, B, X₁.warmed, X', hpost, fun target h => hstep₁ _ fun acts => by rw [doInvoke_state]; exact hsteps.trans h⟩
abbrev vx_CVW (R : Room) (s : State) (args : Array Value) (own C : String) (index : Nat) (y : MethodName) (bytes : ByteArray) (maxL : Nat) (ret : Option FieldType) (hh : List (Nat × Nat × Nat × Nat)) (ws : List Cond) (rm : Room) (mc ms n : Nat) : Prop :=
  (rm.cells = mc ∧ rm.slots = ms ∧ rm.frames + 1 ≤ R.frames ∧ 8 + (maxL + 11) + rm.locals ≤ R.locals ∧ (∀ w ∈ ws, ∀ (a' : Array Value) (U : State), s.WarmedH U.vm → w.before a' U = true) ∧ Cond.codeWith y bytes maxL ret hh ∈ ws) ∧
  (Cond.codeWith y bytes maxL ret hh).before args s = true ∧ (Cond.initialized y.cls).before args s = true ∧ (y.cls ≠ "java/lang/invoke/MethodHandle" ∧ y.cls ≠ "java/lang/invoke/VarHandle") ∧
  (∀ sig, parseMethodDescriptor y.desc = some sig → n = sig.parameters.length) ∧ (Cond.methodLink own index y).before args s = true ∧ (Cond.instanceMethod y).before args s = true ∧ (Cond.selects C y y).before args s = true
theorem vx_cwVW {own C : String} {index maxL mc ms : Nat} {y : MethodName} {bytes : ByteArray} {ret : Option FieldType} {hh : List (Nat × Nat × Nat × Nat)} {Ts ws ws' : List Cond} {rm : Room} (n : Nat) (ht : ∀ w ∈ Ts, w.before args s = true) (hT : GoodIn Ts (wsV own index C y ws)) (hw : ws = Cond.codeWith y bytes maxL ret hh :: ws') (hrc : rm.cells = mc) (hrs : rm.slots = ms)
    (hd : y.cls = C ∧ y.cls ≠ "java/lang/invoke/MethodHandle" ∧ y.cls ≠ "java/lang/invoke/VarHandle" ∧ (parseMethodDescriptor y.desc).map (fun d => d.parameters.length) = some n) (hR : rm.frames + 1 ≤ R.frames ∧ 8 + (maxL + 11) + rm.locals ≤ R.locals) :
    vx_CVW R s args own C index y bytes maxL ret hh ws rm mc ms n := by
  obtain ⟨hC, hd⟩ := hd
  subst hC
  have ok : ∀ w ∈ wsV own index y.cls y ws, w.before args s = true := fun w h => ht w (hT w h).1
  have hG : GoodIn Ts ws := fun w h => hT w (by unfold wsV; exact List.mem_append_right _ h)
  have hc : Cond.codeWith y bytes maxL ret hh ∈ ws := by rw [hw]; exact List.mem_cons_self
  refine ⟨⟨hrc, hrs, hR.1, hR.2, pay_in ht hG, hc⟩, ht _ (hG _ hc).1, ok _ (by simp [wsV]), ⟨hd.1, hd.2.1⟩, fun sig h => ?_, ok _ (by simp [wsV]), ok _ (by simp [wsV]), ok _ (by simp [wsV])⟩
  have h2 := hd.2.2
  rw [h] at h2
  exact (Option.some.inj h2).symm
theorem vx_runVW {y : MethodName} {bytes cc : ByteArray} {maxL nL mc ms n index : Nat} {ret : Option FieldType} {hh : List (Nat × Nat × Nat × Nat)} {ws : List Cond} {rm : Room} {Pc : Array Value → State → Prop} {Qc : Array Value → State → Outcome → State → Prop} {free : Addr → Prop} {Ts : List Cond} {own C : String} {b : Addr} {As rest : List Value} {g : JFrame}
    (S : CallFix p m c cc nL s args Ts own) (hM : Met l y ws rm Pc Qc mc ms free) (cw : vx_CVW R s args own C index y bytes maxL ret hh ws rm mc ms n) (hp : PreV s H C b Pc As)
    (hg : g.method = m) (hn : As.length = n) (hsize : g.locals.size = nL) (hstack : g.stack = As.reverse ++ .ref b :: rest) (hW : 2 * g.monitorRoom + (rest.map fun v => v.category).sum ≤ 8) (hdg : decode cc g.pc = .ok (.invokevirtual index, 3)) (hf : cells + mc ≤ R.cells ∧ slots + ms ≤ R.slots) :
    va_Run p l e R s m args below meth c H locs cells slots mc ms g rest (Qc (Value.ref b :: As).toArray) free := by
  obtain ⟨⟨hrc, hrs, hfr, hlo, hws, hcw⟩, hcode, hini, hy, hlen, hl, hin, hse⟩ := cw
  have hK : Back l R p e below s args y 3 8 (PreOf R mc ms Pc) (PostOf Qc mc ms free) := va_backW (hh := hh) (bytes := bytes) (maxL := maxL) (ret := ret) hM hp.1 hrc hrs hfr hlo hws hcw (fun a' U hW => word_at hW (Or.inl (by first | rfl | simp [Cond.onTables, Cond.keeps, Cond.steady])) hini)
  obtain ⟨hx, hb, hml, ho, -⟩ := S
  obtain ⟨-, ⟨cellB, hcB, hoB, hclB⟩, hPc⟩ := hp
  intro T hT X
  obtain ⟨v, vm₁, ⟨U', l2, c2, s2⟩, hW₁, X', ⟨g', mk, t, L, e1, e2, hq, h1, hL, h2, h3⟩, st⟩ := vx_callVW X hx (C := C) (hh := hh) (bytes := bytes) (maxL := maxL) (ret := ret) ho hl hin hse hcode hy hK (by rw [hT]; exact hcB) hoB hclB hg (hsize.trans hml.symm) (argsL := As) (rest := rest) (fun sig h => hn.trans (hlen sig h)) hstack hW (by rw [hb]; exact hdg)
    (fun vm₁ hW₁ => ⟨hf.1, hf.2, hPc (T.setVm vm₁) hT hW₁⟩)
  dsimp only [Pt.U, Pt.locs, Pt.cells, Pt.slots] at X' e1 e2 h1 h2 h3 st
  subst h1; subst h2; subst h3
  exact ⟨v, (T.setVm vm₁).calling g' mk (Value.ref b :: As).toArray, t, U', L, hT, X', hL, e1, e2, hq, st⟩
section
variable {y : MethodName} {bytes cc : ByteArray} {maxL nL mc ms n index : Nat} {ret : Option FieldType} {ws : List Cond} {rm : Room} {Pc : Array Value → State → Prop} {Qc : Array Value → State → Outcome → State → Prop} {XC : String → State → State → Prop} {free : Addr → Prop} {Ts : List Cond} {own C : String} {b : Addr} {As rest : List Value} {g : JFrame}
theorem vx_runVX {hh : List (Nat × Nat × Nat × Nat)} (S : CallFix p m c cc nL s args Ts own) (hM : vx_Met l y ws rm Pc Qc XC mc ms free) (cw : vx_CVW R s args own C index y bytes maxL ret hh ws rm mc ms n) (hp : PreV s H C b Pc As)
    (hg : g.method = m) (hn : As.length = n) (hsize : g.locals.size = nL) (hstack : g.stack = As.reverse ++ .ref b :: rest) (hW : 2 * g.monitorRoom + (rest.map fun v => v.category).sum ≤ 8) (hdg : decode cc g.pc = .ok (.invokevirtual index, 3)) (hf : cells + mc ≤ R.cells ∧ slots + ms ≤ R.slots) :
    vx_Run p l e R s m args below meth c H locs cells slots mc ms g rest (Qc (Value.ref b :: As).toArray) XC free := by
  obtain ⟨⟨hrc, hrs, hfr, hlo, hws, hcw⟩, hcode, hini, hy, hlen, hl, hin, hse⟩ := cw
  have hK : vx_Back l R p e below s args y 3 8 (PreOf R mc ms Pc) (PostOf Qc mc ms free) (vx_Post XC mc ms free) := vx_backW (hh := hh) (bytes := bytes) (maxL := maxL) (ret := ret) hM hp.1 hrc hrs hfr hlo hws hcw (fun a' U hW => word_at hW (Or.inl (by first | rfl | simp [Cond.onTables, Cond.keeps, Cond.steady])) hini)
  obtain ⟨hx, hb, hml, ho, -⟩ := S
  obtain ⟨-, ⟨cellB, hcB, hoB, hclB⟩, hPc⟩ := hp
  intro T hT X
  rcases vx_callVX X hx (C := C) (hh := hh) (bytes := bytes) (maxL := maxL) (ret := ret) ho hl hin hse hcode hy hK (by rw [hT]; exact hcB) hoB hclB hg (hsize.trans hml.symm) (argsL := As) (rest := rest) (fun sig h => hn.trans (hlen sig h)) hstack hW (by rw [hb]; exact hdg)
    (fun vm₁ hW₁ => ⟨hf.1, hf.2, hPc (T.setVm vm₁) hT hW₁⟩) with ⟨v, vm₁, ⟨U', l2, c2, s2⟩, hW₁, X', ⟨g', mk, t, L, e1, e2, hq, h1, hL, h2, h3⟩, st⟩ | ⟨q, vm₁, ⟨U', l2, c2, s2⟩, hW₁, X', ⟨g', mk, t, L, E, ce, e1, e2, hq, hce, hcv, hcl, h1, hL, h2, h3⟩, st⟩
  · dsimp only [Pt.U, Pt.locs, Pt.cells, Pt.slots] at X' e1 e2 h1 h2 h3 st
    subst h1; subst h2; subst h3
    exact Or.inl ⟨v, (T.setVm vm₁).calling g' mk (Value.ref b :: As).toArray, t, U', L, hT, X', hL, e1, e2, hq, st⟩
  · dsimp only [Pt.U, Pt.locs, Pt.cells, Pt.slots] at X' e1 e2 h1 h2 h3 st hcl
    subst h1; subst h2; subst h3
    exact Or.inr ⟨q, (T.setVm vm₁).calling g' mk (Value.ref b :: As).toArray, t, U', L, E, ce, hT, X', hL, e1, e2, hq, hce, hcv, vx_cls hW₁ hcl, st⟩
theorem vx_runSX {hh : List (Nat × Nat × Nat × Nat)} (S : CallFix p m c cc nL s args Ts own) (hM : vx_Met l y ws rm Pc Qc XC mc ms free) (cw : vx_CSW R s args own index y bytes maxL ret hh ws rm mc ms n) (hp : PreS s H Pc As)
    (hg : g.method = m) (hn : As.length = n) (hsize : g.locals.size = nL) (hstack : g.stack = As.reverse ++ rest) (hW : 2 * g.monitorRoom + (rest.map fun v => v.category).sum ≤ 8) (hdg : decode cc g.pc = .ok (.invokestatic index, 3)) (hf : cells + mc ≤ R.cells ∧ slots + ms ≤ R.slots) :
    vx_Run p l e R s m args below meth c H locs cells slots mc ms g rest (Qc As.toArray) XC free := by
  obtain ⟨⟨hrc, hrs, hfr, hlo, hws, hcw⟩, hcode, hini, hy, hlen, hl, hstt⟩ := cw
  have hK : vx_Back l R p e below s args y 3 8 (PreOf R mc ms Pc) (PostOf Qc mc ms free) (vx_Post XC mc ms free) := vx_backW (hh := hh) (bytes := bytes) (maxL := maxL) (ret := ret) hM hp.1 hrc hrs hfr hlo hws hcw (fun a' U hW => word_at hW (Or.inl (by first | rfl | simp [Cond.onTables, Cond.keeps, Cond.steady])) hini)
  obtain ⟨hx, hb, hml, ho, -⟩ := S
  intro T hT X
  rcases vx_callSX X hx (hh := hh) (bytes := bytes) (maxL := maxL) (ret := ret) ho hl hstt hini hcode hy hK hg (hsize.trans hml.symm) (argsL := As) (rest := rest) (fun sig h => hn.trans (hlen sig h)) hstack hW (by rw [hb]; exact hdg)
    (fun vm₁ hW₁ => ⟨hf.1, hf.2, hp.2 (T.setVm vm₁) hT hW₁⟩) with ⟨v, vm₁, ⟨U', l2, c2, s2⟩, hW₁, X', ⟨g', mk, t, L, e1, e2, hq, h1, hL, h2, h3⟩, st⟩ | ⟨q, vm₁, ⟨U', l2, c2, s2⟩, hW₁, X', ⟨g', mk, t, L, E, ce, e1, e2, hq, hce, hcv, hcl, h1, hL, h2, h3⟩, st⟩
  · dsimp only [Pt.U, Pt.locs, Pt.cells, Pt.slots] at X' e1 e2 h1 h2 h3 st
    subst h1; subst h2; subst h3
    exact Or.inl ⟨v, (T.setVm vm₁).calling g' mk As.toArray, t, U', L, hT, X', hL, e1, e2, hq, st⟩
  · dsimp only [Pt.U, Pt.locs, Pt.cells, Pt.slots] at X' e1 e2 h1 h2 h3 st hcl
    subst h1; subst h2; subst h3
    exact Or.inr ⟨q, (T.setVm vm₁).calling g' mk As.toArray, t, U', L, E, ce, hT, X', hL, e1, e2, hq, hce, hcv, vx_cls hW₁ hcl, st⟩
end
end VXH
theorem vx_ofWH {l : Launch} {y : MethodName} {ws ws' : List Cond} {rm : Room} {Pc : Array Value → State → Prop} {Qc : Array Value → State → Outcome → State → Prop} {XC : String → State → State → Prop} {mc ms : Nat} {free : Addr → Prop} {cc : ByteArray} {maxL : Nat} {ret : Option FieldType} {hh : List (Nat × Nat × Nat × Nat)}
    (hy : plainName y.cls = true) (hw : ws = Cond.codeWith y cc maxL ret hh :: ws')
    (body : ∀ p e s m args below meth c s₁, BodyLoose p l y (headSpec ws rm) cc maxL ret e s m args below meth c s₁ → c.maxLocals = maxL → Pc args s →
      W p l e (headSpec ws rm).room s m args below meth c s.heap [] 0 0 (vx_MQ below Qc XC args s mc ms free) (entryFrame m args maxL)) : vx_Met l y ws rm Pc Qc XC mc ms free := by
  refine MetFree.of_bodyS (code := cc) (maxLocals := maxL) (ret := ret) hy ?_ ?_
  · intro args s m h hn
    obtain ⟨m9, meth, c, hn9, h1, h2, h3, h4, -, h5, h6, -⟩ := Cond.codeWith_spec (atoms_spec (ws := ws) h _ (by rw [hw]; exact List.mem_cons_self))
    cases hn.symm.trans hn9
    exact ⟨meth, c, h1, h2, h3, h4, h5, h6⟩
  · intro p e s m args below meth c s₁ B hml hP _
    have hh0 : s₁.heap = s.heap := by rw [B.state]; rfl
    obtain ⟨t, a1, o, b1, b2, b3⟩ := body p e s m args below meth c s₁ B hml hP s₁ hh0 (Stand.of_body B)
    exact ⟨t, o, a1, b1, b2, b3⟩
/-! ===== END ===== -/

def RX0 : String := "MatrixHouse$Disc"
def TX0 : u_T := fun k => match k with
  | 0 => ("MatrixHouse$Disc", "side", "LMatrixHouse$Side;", true)
  | 1 => ("MatrixHouse$Disc", "scratches", "[I", true)
  | _ => ("MatrixHouse$Disc", "wear", "I", false)
def tyX0 : Nat → FieldType := fun k => match k with
  | 0 => .object "MatrixHouse$Side"
  | 1 => .array .int
  | _ => .int
abbrev wsX00 : List Cond := u_ws RX0 TX0 3
theorem nmX0 : ∀ a, a < 3 → ∀ b, b < 3 → a ≠ b → (TX0 a).2.1 ≠ (TX0 b).2.1 := by decide +kernel
theorem tyX0_ok : ∀ k, k < 3 → parseFieldDescriptor (TX0 k).2.2.1 = some (tyX0 k) := by decide +kernel
abbrev cX0_init : ByteArray := prog_2_method_1_code
def yX0_init : MethodName := ⟨RX0, "<init>", "(LMatrixHouse$Side;)V"⟩
abbrev cX0_addScratch : ByteArray := prog_2_method_2_code
def yX0_addScratch : MethodName := ⟨RX0, "addScratch", "(I)V"⟩
abbrev cX0_noiseOf : ByteArray := prog_2_method_3_code
def yX0_noiseOf : MethodName := ⟨RX0, "noiseOf", "(I)I"⟩
abbrev cX0_noiseOfAll : ByteArray := prog_2_method_4_code
def yX0_noiseOfAll : MethodName := ⟨RX0, "noiseOfAll", "()I"⟩
def RX1 : String := "MatrixHouse$Program"
def TX1 : u_T := fun k => match k with
  | 0 => ("MatrixHouse$Program", "row", "[LMatrixHouse$Tape;", true)
  | _ => ("MatrixHouse$Program", "count", "I", false)
def tyX1 : Nat → FieldType := fun k => match k with
  | 0 => .array (.object "MatrixHouse$Tape")
  | _ => .int
abbrev wsX10 : List Cond := u_ws RX1 TX1 2
theorem nmX1 : ∀ a, a < 2 → ∀ b, b < 2 → a ≠ b → (TX1 a).2.1 ≠ (TX1 b).2.1 := by decide +kernel
theorem tyX1_ok : ∀ k, k < 2 → parseFieldDescriptor (TX1 k).2.2.1 = some (tyX1 k) := by decide +kernel
abbrev cX1_init : ByteArray := prog_3_method_1_code
def yX1_init : MethodName := ⟨RX1, "<init>", "()V"⟩
abbrev cX1_append : ByteArray := prog_3_method_2_code
def yX1_append : MethodName := ⟨RX1, "append", "(LMatrixHouse$Tape;)V"⟩
abbrev cX1_empty : ByteArray := prog_3_method_3_code
def yX1_empty : MethodName := ⟨RX1, "empty", "()V"⟩
abbrev cX1_isPlayable : ByteArray := prog_3_method_4_code
def yX1_isPlayable : MethodName := ⟨RX1, "isPlayable", "(I)Z"⟩
abbrev cX1_length : ByteArray := prog_3_method_5_code
def yX1_length : MethodName := ⟨RX1, "length", "()I"⟩
def RX2 : String := "MatrixHouse$Royalties"
def TX2 : u_T := fun k => match k with
  | 0 => ("MatrixHouse$Royalties", "rates", "[I", true)
  | 1 => ("MatrixHouse$Royalties", "advances", "[I", true)
  | 2 => ("MatrixHouse$Royalties", "paidOut", "[I", true)
  | 3 => ("MatrixHouse$Royalties", "balances", "[I", true)
  | 4 => ("MatrixHouse$Royalties", "sales", "[LMatrixHouse$Sale;", true)
  | _ => ("MatrixHouse$Royalties", "saleCount", "I", false)
def tyX2 : Nat → FieldType := fun k => match k with
  | 0 => .array .int
  | 1 => .array .int
  | 2 => .array .int
  | 3 => .array .int
  | 4 => .array (.object "MatrixHouse$Sale")
  | _ => .int
abbrev wsX20 : List Cond := u_ws RX2 TX2 6
theorem nmX2 : ∀ a, a < 6 → ∀ b, b < 6 → a ≠ b → (TX2 a).2.1 ≠ (TX2 b).2.1 := by decide +kernel
theorem tyX2_ok : ∀ k, k < 6 → parseFieldDescriptor (TX2 k).2.2.1 = some (tyX2 k) := by decide +kernel
abbrev cX2_init : ByteArray := prog_4_method_1_code
def yX2_init : MethodName := ⟨RX2, "<init>", "()V"⟩
abbrev cX2_isFull : ByteArray := prog_4_method_2_code
def yX2_isFull : MethodName := ⟨RX2, "isFull", "()Z"⟩
abbrev cX2_book : ByteArray := prog_4_method_3_code
def yX2_book : MethodName := ⟨RX2, "book", "(LMatrixHouse$Sale;)V"⟩
abbrev cX2_takeBack : ByteArray := prog_4_method_4_code
def yX2_takeBack : MethodName := ⟨RX2, "takeBack", "(LMatrixHouse$Stamper;I)V"⟩
abbrev cX2_lessen : ByteArray := prog_4_method_5_code
def yX2_lessen : MethodName := ⟨RX2, "lessen", "(LMatrixHouse$Sale;I)V"⟩
abbrev cX2_dueOfAllSales : ByteArray := prog_4_method_6_code
def yX2_dueOfAllSales : MethodName := ⟨RX2, "dueOfAllSales", "(I)I"⟩
def RX3 : String := "MatrixHouse$Sale"
def TX3 : u_T := fun k => match k with
  | 0 => ("MatrixHouse$Sale", "side", "LMatrixHouse$Side;", true)
  | 1 => ("MatrixHouse$Sale", "stamper", "LMatrixHouse$Stamper;", true)
  | 2 => ("MatrixHouse$Sale", "rates", "[I", true)
  | _ => ("MatrixHouse$Sale", "left", "I", false)
def tyX3 : Nat → FieldType := fun k => match k with
  | 0 => .object "MatrixHouse$Side"
  | 1 => .object "MatrixHouse$Stamper"
  | 2 => .array .int
  | _ => .int
abbrev wsX30 : List Cond := u_ws RX3 TX3 4
theorem nmX3 : ∀ a, a < 4 → ∀ b, b < 4 → a ≠ b → (TX3 a).2.1 ≠ (TX3 b).2.1 := by decide +kernel
theorem tyX3_ok : ∀ k, k < 4 → parseFieldDescriptor (TX3 k).2.2.1 = some (tyX3 k) := by decide +kernel
abbrev cX3_init : ByteArray := prog_5_method_1_code
def yX3_init : MethodName := ⟨RX3, "<init>", "(LMatrixHouse$Side;LMatrixHouse$Stamper;[II)V"⟩
abbrev cX3_dueTo : ByteArray := prog_5_method_2_code
def yX3_dueTo : MethodName := ⟨RX3, "dueTo", "(I)I"⟩
def RX4 : String := "MatrixHouse$Side"
def TX4 : u_T := fun k => match k with
  | 0 => ("MatrixHouse$Side", "artistSeconds", "[I", true)
  | 1 => ("MatrixHouse$Side", "stampers", "[LMatrixHouse$Stamper;", true)
  | 2 => ("MatrixHouse$Side", "stampersMade", "I", false)
  | 3 => ("MatrixHouse$Side", "allSeconds", "I", false)
  | _ => ("MatrixHouse$Side", "takeSet", "I", false)
def tyX4 : Nat → FieldType := fun k => match k with
  | 0 => .array .int
  | 1 => .array (.object "MatrixHouse$Stamper")
  | 2 => .int
  | 3 => .int
  | _ => .int
abbrev wsX40 : List Cond := u_ws RX4 TX4 5
theorem nmX4 : ∀ a, a < 5 → ∀ b, b < 5 → a ≠ b → (TX4 a).2.1 ≠ (TX4 b).2.1 := by decide +kernel
theorem tyX4_ok : ∀ k, k < 5 → parseFieldDescriptor (TX4 k).2.2.1 = some (tyX4 k) := by decide +kernel
abbrev cX4_init : ByteArray := prog_6_method_1_code
def yX4_init : MethodName := ⟨RX4, "<init>", "()V"⟩
abbrev cX4_addSpan : ByteArray := prog_6_method_2_code
def yX4_addSpan : MethodName := ⟨RX4, "addSpan", "(III)V"⟩
abbrev cX4_secondsOf : ByteArray := prog_6_method_3_code
def yX4_secondsOf : MethodName := ⟨RX4, "secondsOf", "(I)I"⟩
abbrev cX4_stamperAt : ByteArray := prog_6_method_4_code
def yX4_stamperAt : MethodName := ⟨RX4, "stamperAt", "(I)LMatrixHouse$Stamper;"⟩
abbrev cX4_make : ByteArray := prog_6_method_5_code
def yX4_make : MethodName := ⟨RX4, "make", "(II)V"⟩
abbrev cX4_isAnySold : ByteArray := prog_6_method_6_code
def yX4_isAnySold : MethodName := ⟨RX4, "isAnySold", "()Z"⟩
def RX5 : String := "MatrixHouse$SoundFile"
def TX5 : u_T := fun k => match k with
  | 0 => ("MatrixHouse$SoundFile", "isMade", "Z", false)
  | 1 => ("MatrixHouse$SoundFile", "partNoises", "[I", true)
  | 2 => ("MatrixHouse$SoundFile", "repairedParts", "[I", true)
  | 3 => ("MatrixHouse$SoundFile", "noisesAhead", "[I", true)
  | _ => ("MatrixHouse$SoundFile", "repairs", "I", false)
def tyX5 : Nat → FieldType := fun k => match k with
  | 0 => .boolean
  | 1 => .array .int
  | 2 => .array .int
  | 3 => .array .int
  | _ => .int
abbrev wsX50 : List Cond := u_ws RX5 TX5 5
theorem nmX5 : ∀ a, a < 5 → ∀ b, b < 5 → a ≠ b → (TX5 a).2.1 ≠ (TX5 b).2.1 := by decide +kernel
theorem tyX5_ok : ∀ k, k < 5 → parseFieldDescriptor (TX5 k).2.2.1 = some (tyX5 k) := by decide +kernel
abbrev cX5_init : ByteArray := prog_7_method_1_code
def yX5_init : MethodName := ⟨RX5, "<init>", "()V"⟩
abbrev cX5_begin : ByteArray := prog_7_method_2_code
def yX5_begin : MethodName := ⟨RX5, "begin", "()V"⟩
abbrev cX5_write : ByteArray := prog_7_method_3_code
def yX5_write : MethodName := ⟨RX5, "write", "(II)V"⟩
abbrev cX5_noiseOf : ByteArray := prog_7_method_4_code
def yX5_noiseOf : MethodName := ⟨RX5, "noiseOf", "(I)I"⟩
abbrev cX5_halve : ByteArray := prog_7_method_5_code
def yX5_halve : MethodName := ⟨RX5, "halve", "(I)I"⟩
abbrev cX5_takeBackLatest : ByteArray := prog_7_method_6_code
def yX5_takeBackLatest : MethodName := ⟨RX5, "takeBackLatest", "()I"⟩
def RX6 : String := "MatrixHouse$Stamper"
def TX6 : u_T := fun k => match k with
  | 0 => ("MatrixHouse$Stamper", "madeOn", "I", true)
  | 1 => ("MatrixHouse$Stamper", "pressed", "I", false)
  | 2 => ("MatrixHouse$Stamper", "firstPressing", "I", false)
  | 3 => ("MatrixHouse$Stamper", "latestPressing", "I", false)
  | 4 => ("MatrixHouse$Stamper", "everSold", "I", false)
  | 5 => ("MatrixHouse$Stamper", "cameBack", "I", false)
  | _ => ("MatrixHouse$Stamper", "named", "I", false)
def tyX6 : Nat → FieldType := fun k => match k with
  | 0 => .int
  | 1 => .int
  | 2 => .int
  | 3 => .int
  | 4 => .int
  | 5 => .int
  | _ => .int
abbrev wsX60 : List Cond := u_ws RX6 TX6 7
theorem nmX6 : ∀ a, a < 7 → ∀ b, b < 7 → a ≠ b → (TX6 a).2.1 ≠ (TX6 b).2.1 := by decide +kernel
theorem tyX6_ok : ∀ k, k < 7 → parseFieldDescriptor (TX6 k).2.2.1 = some (tyX6 k) := by decide +kernel
abbrev cX6_init : ByteArray := prog_8_method_1_code
def yX6_init : MethodName := ⟨RX6, "<init>", "(I)V"⟩
abbrev cX6_neverSold : ByteArray := prog_8_method_2_code
def yX6_neverSold : MethodName := ⟨RX6, "neverSold", "()I"⟩
abbrev cX6_stillSold : ByteArray := prog_8_method_3_code
def yX6_stillSold : MethodName := ⟨RX6, "stillSold", "()I"⟩
abbrev cX6_unnamed : ByteArray := prog_8_method_4_code
def yX6_unnamed : MethodName := ⟨RX6, "unnamed", "()I"⟩
def RX7 : String := "MatrixHouse$Tape"
def TX7 : u_T := fun k => match k with
  | 0 => ("MatrixHouse$Tape", "number", "I", true)
  | 1 => ("MatrixHouse$Tape", "vault", "I", true)
  | 2 => ("MatrixHouse$Tape", "generation", "I", true)
  | 3 => ("MatrixHouse$Tape", "artist", "I", true)
  | 4 => ("MatrixHouse$Tape", "source", "LMatrixHouse$Tape;", true)
  | 5 => ("MatrixHouse$Tape", "sourceFrom", "I", true)
  | 6 => ("MatrixHouse$Tape", "sourceTo", "I", true)
  | 7 => ("MatrixHouse$Tape", "tail", "LMatrixHouse$Tape;", true)
  | 8 => ("MatrixHouse$Tape", "spanTakes", "[I", true)
  | 9 => ("MatrixHouse$Tape", "spanFroms", "[I", true)
  | 10 => ("MatrixHouse$Tape", "spanTos", "[I", true)
  | 11 => ("MatrixHouse$Tape", "spans", "I", false)
  | 12 => ("MatrixHouse$Tape", "length", "I", false)
  | 13 => ("MatrixHouse$Tape", "how", "I", false)
  | _ => ("MatrixHouse$Tape", "bakedOn", "I", false)
def tyX7 : Nat → FieldType := fun k => match k with
  | 0 => .int
  | 1 => .int
  | 2 => .int
  | 3 => .int
  | 4 => .object "MatrixHouse$Tape"
  | 5 => .int
  | 6 => .int
  | 7 => .object "MatrixHouse$Tape"
  | 8 => .array .int
  | 9 => .array .int
  | 10 => .array .int
  | 11 => .int
  | 12 => .int
  | 13 => .int
  | _ => .int
abbrev wsX70 : List Cond := u_ws RX7 TX7 15
theorem nmX7 : ∀ a, a < 15 → ∀ b, b < 15 → a ≠ b → (TX7 a).2.1 ≠ (TX7 b).2.1 := by decide +kernel
theorem tyX7_ok : ∀ k, k < 15 → parseFieldDescriptor (TX7 k).2.2.1 = some (tyX7 k) := by decide +kernel
abbrev cX7_init : ByteArray := prog_9_method_1_code
def yX7_init : MethodName := ⟨RX7, "<init>", "(IIII)V"⟩
abbrev cX7_init_ : ByteArray := prog_9_method_2_code
def yX7_init_ : MethodName := ⟨RX7, "<init>", "(IILMatrixHouse$Tape;IILMatrixHouse$Tape;)V"⟩
abbrev cX7_isPlayable : ByteArray := prog_9_method_3_code
def yX7_isPlayable : MethodName := ⟨RX7, "isPlayable", "(I)Z"⟩
abbrev cX7_spanLength : ByteArray := prog_9_method_4_code
def yX7_spanLength : MethodName := ⟨RX7, "spanLength", "(I)I"⟩
abbrev cX7_spansBetween : ByteArray := prog_9_method_5_code
def yX7_spansBetween : MethodName := ⟨RX7, "spansBetween", "(II)I"⟩
abbrev cX7_heardAt : ByteArray := prog_9_method_6_code
def yX7_heardAt : MethodName := ⟨RX7, "heardAt", "(I)I"⟩
abbrev cX7_takeSet : ByteArray := prog_9_method_7_code
def yX7_takeSet : MethodName := ⟨RX7, "takeSet", "()I"⟩
abbrev cX7_copy : ByteArray := prog_9_method_8_code
def yX7_copy : MethodName := ⟨RX7, "copy", "(LMatrixHouse$Tape;II)V"⟩
abbrev cX7_append : ByteArray := prog_9_method_9_code
def yX7_append : MethodName := ⟨RX7, "append", "(III)V"⟩
def RX8 : String := "MatrixHouse"
def TX8 : u_T := fun k => match k with
  | 0 => ("MatrixHouse", "day", "I", false)
  | 1 => ("MatrixHouse", "tapes", "[LMatrixHouse$Tape;", true)
  | 2 => ("MatrixHouse", "tapeCount", "I", false)
  | 3 => ("MatrixHouse", "program", "LMatrixHouse$Program;", true)
  | 4 => ("MatrixHouse", "sides", "[LMatrixHouse$Side;", true)
  | 5 => ("MatrixHouse", "sideCount", "I", false)
  | 6 => ("MatrixHouse", "discs", "[LMatrixHouse$Disc;", true)
  | 7 => ("MatrixHouse", "discCount", "I", false)
  | 8 => ("MatrixHouse", "soundFile", "LMatrixHouse$SoundFile;", true)
  | _ => ("MatrixHouse", "royalties", "LMatrixHouse$Royalties;", true)
def tyX8 : Nat → FieldType := fun k => match k with
  | 0 => .int
  | 1 => .array (.object "MatrixHouse$Tape")
  | 2 => .int
  | 3 => .object "MatrixHouse$Program"
  | 4 => .array (.object "MatrixHouse$Side")
  | 5 => .int
  | 6 => .array (.object "MatrixHouse$Disc")
  | 7 => .int
  | 8 => .object "MatrixHouse$SoundFile"
  | _ => .object "MatrixHouse$Royalties"
abbrev wsX80 : List Cond := u_ws RX8 TX8 10
theorem nmX8 : ∀ a, a < 10 → ∀ b, b < 10 → a ≠ b → (TX8 a).2.1 ≠ (TX8 b).2.1 := by decide +kernel
theorem tyX8_ok : ∀ k, k < 10 → parseFieldDescriptor (TX8 k).2.2.1 = some (tyX8 k) := by decide +kernel
abbrev cX8_init : ByteArray := prog_1_method_1_code
def yX8_init : MethodName := ⟨RX8, "<init>", "()V"⟩
abbrev cX8_session : ByteArray := prog_1_method_2_code
def yX8_session : MethodName := ⟨RX8, "session", "(III)I"⟩
abbrev cX8_splice : ByteArray := prog_1_method_3_code
def yX8_splice : MethodName := ⟨RX8, "splice", "(IIIII)I"⟩
abbrev cX8_shed : ByteArray := prog_1_method_4_code
def yX8_shed : MethodName := ⟨RX8, "shed", "(I)V"⟩
abbrev cX8_bake : ByteArray := prog_1_method_5_code
def yX8_bake : MethodName := ⟨RX8, "bake", "(I)I"⟩
abbrev cX8_fire : ByteArray := prog_1_method_6_code
def yX8_fire : MethodName := ⟨RX8, "fire", "(I)I"⟩
abbrev cX8_tapeIs : ByteArray := prog_1_method_7_code
def yX8_tapeIs : MethodName := ⟨RX8, "tapeIs", "(II)I"⟩
abbrev cX8_heard : ByteArray := prog_1_method_8_code
def yX8_heard : MethodName := ⟨RX8, "heard", "(II)I"⟩
abbrev cX8_takes : ByteArray := prog_1_method_9_code
def yX8_takes : MethodName := ⟨RX8, "takes", "(I)I"⟩
abbrev cX8_takesAnew : ByteArray := prog_1_method_10_code
def yX8_takesAnew : MethodName := ⟨RX8, "takesAnew", "(I)I"⟩
abbrev cX8_isLost : ByteArray := prog_1_method_11_code
def yX8_isLost : MethodName := ⟨RX8, "isLost", "(I)Z"⟩
abbrev cX8_add : ByteArray := prog_1_method_12_code
def yX8_add : MethodName := ⟨RX8, "add", "(I)I"⟩
abbrev cX8_clear : ByteArray := prog_1_method_13_code
def yX8_clear : MethodName := ⟨RX8, "clear", "()I"⟩
abbrev cX8_cut : ByteArray := prog_1_method_14_code
def yX8_cut : MethodName := ⟨RX8, "cut", "(I)I"⟩
abbrev cX8_seconds : ByteArray := prog_1_method_15_code
def yX8_seconds : MethodName := ⟨RX8, "seconds", "(II)I"⟩
abbrev cX8_stamper : ByteArray := prog_1_method_16_code
def yX8_stamper : MethodName := ⟨RX8, "stamper", "(III)I"⟩
abbrev cX8_press : ByteArray := prog_1_method_17_code
def yX8_press : MethodName := ⟨RX8, "press", "(IIII)I"⟩
abbrev cX8_stamperIs : ByteArray := prog_1_method_18_code
def yX8_stamperIs : MethodName := ⟨RX8, "stamperIs", "(IIII)I"⟩
abbrev cX8_sell : ByteArray := prog_1_method_19_code
def yX8_sell : MethodName := ⟨RX8, "sell", "(IIII)I"⟩
abbrev cX8_back : ByteArray := prog_1_method_20_code
def yX8_back : MethodName := ⟨RX8, "back", "(IIII)I"⟩
abbrev cX8_disc : ByteArray := prog_1_method_21_code
def yX8_disc : MethodName := ⟨RX8, "disc", "(III)I"⟩
abbrev cX8_play : ByteArray := prog_1_method_22_code
def yX8_play : MethodName := ⟨RX8, "play", "(III)I"⟩
abbrev cX8_scratch : ByteArray := prog_1_method_23_code
def yX8_scratch : MethodName := ⟨RX8, "scratch", "(II)I"⟩
abbrev cX8_noise : ByteArray := prog_1_method_24_code
def yX8_noise : MethodName := ⟨RX8, "noise", "(II)I"⟩
abbrev cX8_grade : ByteArray := prog_1_method_25_code
def yX8_grade : MethodName := ⟨RX8, "grade", "(I)I"⟩
abbrev cX8_join : ByteArray := prog_1_method_26_code
def yX8_join : MethodName := ⟨RX8, "join", "(II)I"⟩
abbrev cX8_file : ByteArray := prog_1_method_27_code
def yX8_file : MethodName := ⟨RX8, "file", "(I)I"⟩
abbrev cX8_repair : ByteArray := prog_1_method_28_code
def yX8_repair : MethodName := ⟨RX8, "repair", "(I)I"⟩
abbrev cX8_undo : ByteArray := prog_1_method_29_code
def yX8_undo : MethodName := ⟨RX8, "undo", "()I"⟩
abbrev cX8_fileIs : ByteArray := prog_1_method_30_code
def yX8_fileIs : MethodName := ⟨RX8, "fileIs", "(I)I"⟩
abbrev cX8_contract : ByteArray := prog_1_method_31_code
def yX8_contract : MethodName := ⟨RX8, "contract", "(III)I"⟩
abbrev cX8_account : ByteArray := prog_1_method_32_code
def yX8_account : MethodName := ⟨RX8, "account", "(I)I"⟩
abbrev cX8_accountAnew : ByteArray := prog_1_method_33_code
def yX8_accountAnew : MethodName := ⟨RX8, "accountAnew", "(I)I"⟩
abbrev cX8_payOut : ByteArray := prog_1_method_34_code
def yX8_payOut : MethodName := ⟨RX8, "payOut", "(I)I"⟩
abbrev cX8_pass : ByteArray := prog_1_method_35_code
def yX8_pass : MethodName := ⟨RX8, "pass", "(I)I"⟩
abbrev cX8_requireArtist : ByteArray := prog_1_method_36_code
def yX8_requireArtist : MethodName := ⟨RX8, "requireArtist", "(I)V"⟩
abbrev cX8_requireVault : ByteArray := prog_1_method_37_code
def yX8_requireVault : MethodName := ⟨RX8, "requireVault", "(I)V"⟩
abbrev cX8_requirePart : ByteArray := prog_1_method_38_code
def yX8_requirePart : MethodName := ⟨RX8, "requirePart", "(I)V"⟩
abbrev cX8_requireDiscCount : ByteArray := prog_1_method_39_code
def yX8_requireDiscCount : MethodName := ⟨RX8, "requireDiscCount", "(I)V"⟩
abbrev cX8_requirePlayable : ByteArray := prog_1_method_40_code
def yX8_requirePlayable : MethodName := ⟨RX8, "requirePlayable", "(LMatrixHouse$Tape;)V"⟩
abbrev cX8_tapeAt : ByteArray := prog_1_method_41_code
def yX8_tapeAt : MethodName := ⟨RX8, "tapeAt", "(I)LMatrixHouse$Tape;"⟩
abbrev cX8_sideAt : ByteArray := prog_1_method_42_code
def yX8_sideAt : MethodName := ⟨RX8, "sideAt", "(I)LMatrixHouse$Side;"⟩
abbrev cX8_discAt : ByteArray := prog_1_method_43_code
def yX8_discAt : MethodName := ⟨RX8, "discAt", "(I)LMatrixHouse$Disc;"⟩
abbrev cX8_nextTape : ByteArray := prog_1_method_44_code
def yX8_nextTape : MethodName := ⟨RX8, "nextTape", "()I"⟩
abbrev cX8_has : ByteArray := prog_1_method_45_code
def yX8_has : MethodName := ⟨RX8, "has", "(II)Z"⟩
abbrev cX8_takesByMaking : ByteArray := prog_1_method_46_code
def yX8_takesByMaking : MethodName := ⟨RX8, "takesByMaking", "(LMatrixHouse$Tape;)I"⟩
abbrev cX8_sideOfProgram : ByteArray := prog_1_method_47_code
def yX8_sideOfProgram : MethodName := ⟨RX8, "sideOfProgram", "()LMatrixHouse$Side;"⟩
abbrev cX8_placeOf : ByteArray := prog_1_method_48_code
def yX8_placeOf : MethodName := ⟨RX8, "placeOf", "(II)I"⟩
abbrev cX8_hasWhatItNeeds : ByteArray := prog_1_method_49_code
def yX8_hasWhatItNeeds : MethodName := ⟨RX8, "hasWhatItNeeds", "(LMatrixHouse$Side;I)Z"⟩
abbrev cX8_requireJoinable : ByteArray := prog_1_method_50_code
def yX8_requireJoinable : MethodName := ⟨RX8, "requireJoinable", "(I)V"⟩
abbrev cX8_leastNoisy : ByteArray := prog_1_method_51_code
def yX8_leastNoisy : MethodName := ⟨RX8, "leastNoisy", "(II)I"⟩
def RX9 : String := "MatrixHouseModel"
def TX9 : u_T := fun k => match k with
  | 0 => ("MatrixHouseModel", "day", "I", false)
  | 1 => ("MatrixHouseModel", "tapes", "I", false)
  | 2 => ("MatrixHouseModel", "how", "[I", true)
  | 3 => ("MatrixHouseModel", "bakedOn", "[I", true)
  | 4 => ("MatrixHouseModel", "generations", "[I", true)
  | 5 => ("MatrixHouseModel", "vaults", "[I", true)
  | 6 => ("MatrixHouseModel", "artists", "[I", true)
  | 7 => ("MatrixHouseModel", "spans", "[I", true)
  | 8 => ("MatrixHouseModel", "spanTake", "[I", true)
  | 9 => ("MatrixHouseModel", "spanFrom", "[I", true)
  | 10 => ("MatrixHouseModel", "spanTo", "[I", true)
  | 11 => ("MatrixHouseModel", "added", "I", false)
  | 12 => ("MatrixHouseModel", "program", "[I", true)
  | 13 => ("MatrixHouseModel", "sides", "I", false)
  | 14 => ("MatrixHouseModel", "heardOf", "[I", true)
  | 15 => ("MatrixHouseModel", "takesOn", "[I", true)
  | 16 => ("MatrixHouseModel", "madeOn", "[I", true)
  | 17 => ("MatrixHouseModel", "pressed", "[I", true)
  | 18 => ("MatrixHouseModel", "sold", "[I", true)
  | 19 => ("MatrixHouseModel", "cameBack", "[I", true)
  | 20 => ("MatrixHouseModel", "firstOn", "[I", true)
  | 21 => ("MatrixHouseModel", "latestOn", "[I", true)
  | 22 => ("MatrixHouseModel", "discs", "I", false)
  | 23 => ("MatrixHouseModel", "discOf", "[I", true)
  | 24 => ("MatrixHouseModel", "wear", "[I", true)
  | 25 => ("MatrixHouseModel", "scratches", "[I", true)
  | 26 => ("MatrixHouseModel", "hasFile", "Z", false)
  | 27 => ("MatrixHouseModel", "file", "[I", true)
  | 28 => ("MatrixHouseModel", "repairs", "I", false)
  | 29 => ("MatrixHouseModel", "repaired", "[I", true)
  | 30 => ("MatrixHouseModel", "wasNoise", "[I", true)
  | 31 => ("MatrixHouseModel", "sales", "I", false)
  | 32 => ("MatrixHouseModel", "saleOf", "[I", true)
  | 33 => ("MatrixHouseModel", "left", "[I", true)
  | 34 => ("MatrixHouseModel", "saleRate", "[I", true)
  | 35 => ("MatrixHouseModel", "rate", "[I", true)
  | 36 => ("MatrixHouseModel", "account", "[I", true)
  | _ => ("MatrixHouseModel", "thrown", "I", false)
def tyX9 : Nat → FieldType := fun k => match k with
  | 0 => .int
  | 1 => .int
  | 2 => .array .int
  | 3 => .array .int
  | 4 => .array .int
  | 5 => .array .int
  | 6 => .array .int
  | 7 => .array .int
  | 8 => .array .int
  | 9 => .array .int
  | 10 => .array .int
  | 11 => .int
  | 12 => .array .int
  | 13 => .int
  | 14 => .array .int
  | 15 => .array .int
  | 16 => .array .int
  | 17 => .array .int
  | 18 => .array .int
  | 19 => .array .int
  | 20 => .array .int
  | 21 => .array .int
  | 22 => .int
  | 23 => .array .int
  | 24 => .array .int
  | 25 => .array .int
  | 26 => .boolean
  | 27 => .array .int
  | 28 => .int
  | 29 => .array .int
  | 30 => .array .int
  | 31 => .int
  | 32 => .array .int
  | 33 => .array .int
  | 34 => .array .int
  | 35 => .array .int
  | 36 => .array .int
  | _ => .int
abbrev wsX90 : List Cond := u_ws RX9 TX9 38
theorem nmX9 : ∀ a, a < 38 → ∀ b, b < 38 → a ≠ b → (TX9 a).2.1 ≠ (TX9 b).2.1 := by decide +kernel
theorem tyX9_ok : ∀ k, k < 38 → parseFieldDescriptor (TX9 k).2.2.1 = some (tyX9 k) := by decide +kernel
abbrev cX9_init : ByteArray := prog_11_method_1_code
def yX9_init : MethodName := ⟨RX9, "<init>", "()V"⟩
abbrev cX9_thrown : ByteArray := prog_11_method_2_code
def yX9_thrown : MethodName := ⟨RX9, "thrown", "()I"⟩
abbrev cX9_goes : ByteArray := prog_11_method_3_code
def yX9_goes : MethodName := ⟨RX9, "goes", "(I)Z"⟩
abbrev cX9_isIn : ByteArray := prog_11_method_4_code
def yX9_isIn : MethodName := ⟨RX9, "isIn", "(III)Z"⟩
abbrev cX9_isTape : ByteArray := prog_11_method_5_code
def yX9_isTape : MethodName := ⟨RX9, "isTape", "(I)Z"⟩
abbrev cX9_isArtist : ByteArray := prog_11_method_6_code
def yX9_isArtist : MethodName := ⟨RX9, "isArtist", "(I)Z"⟩
abbrev cX9_isVault : ByteArray := prog_11_method_7_code
def yX9_isVault : MethodName := ⟨RX9, "isVault", "(I)Z"⟩
abbrev cX9_isPlayable : ByteArray := prog_11_method_8_code
def yX9_isPlayable : MethodName := ⟨RX9, "isPlayable", "(I)Z"⟩
abbrev cX9_length : ByteArray := prog_11_method_9_code
def yX9_length : MethodName := ⟨RX9, "length", "(I)I"⟩
abbrev cX9_puts : ByteArray := prog_11_method_10_code
def yX9_puts : MethodName := ⟨RX9, "puts", "(III)V"⟩
abbrev cX9_makes : ByteArray := prog_11_method_11_code
def yX9_makes : MethodName := ⟨RX9, "makes", "(II)I"⟩
abbrev cX9_session : ByteArray := prog_11_method_12_code
def yX9_session : MethodName := ⟨RX9, "session", "(III)I"⟩
abbrev cX9_spansIn : ByteArray := prog_11_method_13_code
def yX9_spansIn : MethodName := ⟨RX9, "spansIn", "(III)I"⟩
abbrev cX9_copies : ByteArray := prog_11_method_14_code
def yX9_copies : MethodName := ⟨RX9, "copies", "(III)V"⟩
abbrev cX9_splice : ByteArray := prog_11_method_15_code
def yX9_splice : MethodName := ⟨RX9, "splice", "(IIIII)I"⟩
abbrev cX9_shed : ByteArray := prog_11_method_16_code
def yX9_shed : MethodName := ⟨RX9, "shed", "(I)V"⟩
abbrev cX9_bake : ByteArray := prog_11_method_17_code
def yX9_bake : MethodName := ⟨RX9, "bake", "(I)I"⟩
abbrev cX9_fire : ByteArray := prog_11_method_18_code
def yX9_fire : MethodName := ⟨RX9, "fire", "(I)I"⟩
abbrev cX9_tapeIs : ByteArray := prog_11_method_19_code
def yX9_tapeIs : MethodName := ⟨RX9, "tapeIs", "(II)I"⟩
abbrev cX9_heard : ByteArray := prog_11_method_20_code
def yX9_heard : MethodName := ⟨RX9, "heard", "(II)I"⟩
abbrev cX9_takesOf : ByteArray := prog_11_method_21_code
def yX9_takesOf : MethodName := ⟨RX9, "takesOf", "(I)I"⟩
abbrev cX9_takes : ByteArray := prog_11_method_22_code
def yX9_takes : MethodName := ⟨RX9, "takes", "(I)I"⟩
abbrev cX9_takesAnew : ByteArray := prog_11_method_23_code
def yX9_takesAnew : MethodName := ⟨RX9, "takesAnew", "(I)I"⟩
abbrev cX9_isLost : ByteArray := prog_11_method_24_code
def yX9_isLost : MethodName := ⟨RX9, "isLost", "(I)Z"⟩
abbrev cX9_add : ByteArray := prog_11_method_25_code
def yX9_add : MethodName := ⟨RX9, "add", "(I)I"⟩
abbrev cX9_clear : ByteArray := prog_11_method_26_code
def yX9_clear : MethodName := ⟨RX9, "clear", "()I"⟩
abbrev cX9_canCut : ByteArray := prog_11_method_27_code
def yX9_canCut : MethodName := ⟨RX9, "canCut", "(I)Z"⟩
abbrev cX9_cut : ByteArray := prog_11_method_28_code
def yX9_cut : MethodName := ⟨RX9, "cut", "(I)I"⟩
abbrev cX9_secondsOf : ByteArray := prog_11_method_29_code
def yX9_secondsOf : MethodName := ⟨RX9, "secondsOf", "(II)I"⟩
abbrev cX9_seconds : ByteArray := prog_11_method_30_code
def yX9_seconds : MethodName := ⟨RX9, "seconds", "(II)I"⟩
abbrev cX9_isNamed : ByteArray := prog_11_method_31_code
def yX9_isNamed : MethodName := ⟨RX9, "isNamed", "(III)Z"⟩
abbrev cX9_stamperOf : ByteArray := prog_11_method_32_code
def yX9_stamperOf : MethodName := ⟨RX9, "stamperOf", "(III)I"⟩
abbrev cX9_needed : ByteArray := prog_11_method_33_code
def yX9_needed : MethodName := ⟨RX9, "needed", "(I)I"⟩
abbrev cX9_stamper : ByteArray := prog_11_method_34_code
def yX9_stamper : MethodName := ⟨RX9, "stamper", "(III)I"⟩
abbrev cX9_press : ByteArray := prog_11_method_35_code
def yX9_press : MethodName := ⟨RX9, "press", "(IIII)I"⟩
abbrev cX9_stamperIs : ByteArray := prog_11_method_36_code
def yX9_stamperIs : MethodName := ⟨RX9, "stamperIs", "(IIII)I"⟩
abbrev cX9_dueOf : ByteArray := prog_11_method_37_code
def yX9_dueOf : MethodName := ⟨RX9, "dueOf", "(III)I"⟩
abbrev cX9_sell : ByteArray := prog_11_method_38_code
def yX9_sell : MethodName := ⟨RX9, "sell", "(IIII)I"⟩
abbrev cX9_discsOf : ByteArray := prog_11_method_39_code
def yX9_discsOf : MethodName := ⟨RX9, "discsOf", "(I)I"⟩
abbrev cX9_takesOff : ByteArray := prog_11_method_40_code
def yX9_takesOff : MethodName := ⟨RX9, "takesOff", "(II)V"⟩
abbrev cX9_back : ByteArray := prog_11_method_41_code
def yX9_back : MethodName := ⟨RX9, "back", "(IIII)I"⟩
abbrev cX9_isDisc : ByteArray := prog_11_method_42_code
def yX9_isDisc : MethodName := ⟨RX9, "isDisc", "(I)Z"⟩
abbrev cX9_isPart : ByteArray := prog_11_method_43_code
def yX9_isPart : MethodName := ⟨RX9, "isPart", "(I)Z"⟩
abbrev cX9_disc : ByteArray := prog_11_method_44_code
def yX9_disc : MethodName := ⟨RX9, "disc", "(III)I"⟩
abbrev cX9_play : ByteArray := prog_11_method_45_code
def yX9_play : MethodName := ⟨RX9, "play", "(III)I"⟩
abbrev cX9_noiseOf : ByteArray := prog_11_method_46_code
def yX9_noiseOf : MethodName := ⟨RX9, "noiseOf", "(II)I"⟩
abbrev cX9_scratch : ByteArray := prog_11_method_47_code
def yX9_scratch : MethodName := ⟨RX9, "scratch", "(II)I"⟩
abbrev cX9_noise : ByteArray := prog_11_method_48_code
def yX9_noise : MethodName := ⟨RX9, "noise", "(II)I"⟩
abbrev cX9_grade : ByteArray := prog_11_method_49_code
def yX9_grade : MethodName := ⟨RX9, "grade", "(I)I"⟩
abbrev cX9_areDiscs : ByteArray := prog_11_method_50_code
def yX9_areDiscs : MethodName := ⟨RX9, "areDiscs", "(I)Z"⟩
abbrev cX9_areOfOneSide : ByteArray := prog_11_method_51_code
def yX9_areOfOneSide : MethodName := ⟨RX9, "areOfOneSide", "(I)Z"⟩
abbrev cX9_joinOf : ByteArray := prog_11_method_52_code
def yX9_joinOf : MethodName := ⟨RX9, "joinOf", "(II)I"⟩
abbrev cX9_join : ByteArray := prog_11_method_53_code
def yX9_join : MethodName := ⟨RX9, "join", "(II)I"⟩
abbrev cX9_file : ByteArray := prog_11_method_54_code
def yX9_file : MethodName := ⟨RX9, "file", "(I)I"⟩
abbrev cX9_repair : ByteArray := prog_11_method_55_code
def yX9_repair : MethodName := ⟨RX9, "repair", "(I)I"⟩
abbrev cX9_undo : ByteArray := prog_11_method_56_code
def yX9_undo : MethodName := ⟨RX9, "undo", "()I"⟩
abbrev cX9_fileIs : ByteArray := prog_11_method_57_code
def yX9_fileIs : MethodName := ⟨RX9, "fileIs", "(I)I"⟩
abbrev cX9_contract : ByteArray := prog_11_method_58_code
def yX9_contract : MethodName := ⟨RX9, "contract", "(III)I"⟩
abbrev cX9_account : ByteArray := prog_11_method_59_code
def yX9_account : MethodName := ⟨RX9, "account", "(I)I"⟩
abbrev cX9_accountAnew : ByteArray := prog_11_method_60_code
def yX9_accountAnew : MethodName := ⟨RX9, "accountAnew", "(I)I"⟩
abbrev cX9_payOut : ByteArray := prog_11_method_61_code
def yX9_payOut : MethodName := ⟨RX9, "payOut", "(I)I"⟩
abbrev cX9_pass : ByteArray := prog_11_method_62_code
def yX9_pass : MethodName := ⟨RX9, "pass", "(I)I"⟩
def RJx8e188 : String := "java/lang/Cloneable"
def TJx8e188 : u_T := fun k => match k with
  | _ => ("", "", "", false)
def tyJx8e188 : Nat → FieldType := fun k => match k with
  | _ => .int
theorem nmJx8e188 : ∀ a, a < 0 → ∀ b, b < 0 → a ≠ b → (TJx8e188 a).2.1 ≠ (TJx8e188 b).2.1 := by decide +kernel
theorem tyJx8e188_ok : ∀ k, k < 0 → parseFieldDescriptor (TJx8e188 k).2.2.1 = some (tyJx8e188 k) := by decide +kernel
def RJ9 : String := "java/lang/Math"
def TJ9 : u_T := fun k => match k with
  | _ => ("", "", "", false)
def tyJ9 : Nat → FieldType := fun k => match k with
  | _ => .int
theorem nmJ9 : ∀ a, a < 0 → ∀ b, b < 0 → a ≠ b → (TJ9 a).2.1 ≠ (TJ9 b).2.1 := by decide +kernel
theorem tyJ9_ok : ∀ k, k < 0 → parseFieldDescriptor (TJ9 k).2.2.1 = some (tyJ9 k) := by decide +kernel
abbrev cJ9_max_7cf53 : ByteArray := prog_17_method_65_code
def yJ9_max_7cf53 : MethodName := ⟨RJ9, "max", "(II)I"⟩
abbrev cJ9_min_7cf53 : ByteArray := prog_17_method_69_code
def yJ9_min_7cf53 : MethodName := ⟨RJ9, "min", "(II)I"⟩
def RJ0 : String := "java/lang/String"
def TJ0 : u_T := fun k => match k with
  | _ => ("", "", "", false)
def tyJ0 : Nat → FieldType := fun k => match k with
  | _ => .int
theorem nmJ0 : ∀ a, a < 0 → ∀ b, b < 0 → a ≠ b → (TJ0 a).2.1 ≠ (TJ0 b).2.1 := by decide +kernel
theorem tyJ0_ok : ∀ k, k < 0 → parseFieldDescriptor (TJ0 k).2.2.1 = some (tyJ0 k) := by decide +kernel
def RL : String := "MatrixHouseLaw"
abbrev cL_session : ByteArray := method_3_code
def yL_session : MethodName := ⟨RL, "session", "(LMatrixHouse;III[J)I"⟩
abbrev cL_splice : ByteArray := method_4_code
def yL_splice : MethodName := ⟨RL, "splice", "(LMatrixHouse;IIIII[J)I"⟩
abbrev cL_shed : ByteArray := method_5_code
def yL_shed : MethodName := ⟨RL, "shed", "(LMatrixHouse;I)I"⟩
abbrev cL_bake : ByteArray := method_6_code
def yL_bake : MethodName := ⟨RL, "bake", "(LMatrixHouse;I[J)I"⟩
abbrev cL_fire : ByteArray := method_7_code
def yL_fire : MethodName := ⟨RL, "fire", "(LMatrixHouse;I[J)I"⟩
abbrev cL_tapeIs : ByteArray := method_8_code
def yL_tapeIs : MethodName := ⟨RL, "tapeIs", "(LMatrixHouse;II[J)I"⟩
abbrev cL_heard : ByteArray := method_9_code
def yL_heard : MethodName := ⟨RL, "heard", "(LMatrixHouse;II[J)I"⟩
abbrev cL_takes : ByteArray := method_10_code
def yL_takes : MethodName := ⟨RL, "takes", "(LMatrixHouse;I[J)I"⟩
abbrev cL_takesAnew : ByteArray := method_11_code
def yL_takesAnew : MethodName := ⟨RL, "takesAnew", "(LMatrixHouse;I[J)I"⟩
abbrev cL_isLost : ByteArray := method_12_code
def yL_isLost : MethodName := ⟨RL, "isLost", "(LMatrixHouse;I[J)I"⟩
abbrev cL_add : ByteArray := method_13_code
def yL_add : MethodName := ⟨RL, "add", "(LMatrixHouse;I[J)I"⟩
abbrev cL_cut : ByteArray := method_14_code
def yL_cut : MethodName := ⟨RL, "cut", "(LMatrixHouse;I[J)I"⟩
abbrev cL_seconds : ByteArray := method_15_code
def yL_seconds : MethodName := ⟨RL, "seconds", "(LMatrixHouse;II[J)I"⟩
abbrev cL_stamper : ByteArray := method_16_code
def yL_stamper : MethodName := ⟨RL, "stamper", "(LMatrixHouse;III[J)I"⟩
abbrev cL_press : ByteArray := method_17_code
def yL_press : MethodName := ⟨RL, "press", "(LMatrixHouse;IIII[J)I"⟩
abbrev cL_stamperIs : ByteArray := method_18_code
def yL_stamperIs : MethodName := ⟨RL, "stamperIs", "(LMatrixHouse;IIII[J)I"⟩
abbrev cL_sell : ByteArray := method_19_code
def yL_sell : MethodName := ⟨RL, "sell", "(LMatrixHouse;IIII[J)I"⟩
abbrev cL_back : ByteArray := method_20_code
def yL_back : MethodName := ⟨RL, "back", "(LMatrixHouse;IIII[J)I"⟩
abbrev cL_disc : ByteArray := method_21_code
def yL_disc : MethodName := ⟨RL, "disc", "(LMatrixHouse;III[J)I"⟩
abbrev cL_play : ByteArray := method_22_code
def yL_play : MethodName := ⟨RL, "play", "(LMatrixHouse;III[J)I"⟩
abbrev cL_scratch : ByteArray := method_23_code
def yL_scratch : MethodName := ⟨RL, "scratch", "(LMatrixHouse;II[J)I"⟩
abbrev cL_noise : ByteArray := method_24_code
def yL_noise : MethodName := ⟨RL, "noise", "(LMatrixHouse;II[J)I"⟩
abbrev cL_grade : ByteArray := method_25_code
def yL_grade : MethodName := ⟨RL, "grade", "(LMatrixHouse;I[J)I"⟩
abbrev cL_join : ByteArray := method_26_code
def yL_join : MethodName := ⟨RL, "join", "(LMatrixHouse;II[J)I"⟩
abbrev cL_file : ByteArray := method_27_code
def yL_file : MethodName := ⟨RL, "file", "(LMatrixHouse;I[J)I"⟩
abbrev cL_repair : ByteArray := method_28_code
def yL_repair : MethodName := ⟨RL, "repair", "(LMatrixHouse;I[J)I"⟩
abbrev cL_undo : ByteArray := method_29_code
def yL_undo : MethodName := ⟨RL, "undo", "(LMatrixHouse;[J)I"⟩
abbrev cL_fileIs : ByteArray := method_30_code
def yL_fileIs : MethodName := ⟨RL, "fileIs", "(LMatrixHouse;I[J)I"⟩
abbrev cL_contract : ByteArray := method_31_code
def yL_contract : MethodName := ⟨RL, "contract", "(LMatrixHouse;III[J)I"⟩
abbrev cL_account : ByteArray := method_32_code
def yL_account : MethodName := ⟨RL, "account", "(LMatrixHouse;I[J)I"⟩
abbrev cL_accountAnew : ByteArray := method_33_code
def yL_accountAnew : MethodName := ⟨RL, "accountAnew", "(LMatrixHouse;I[J)I"⟩
abbrev cL_payOut : ByteArray := method_34_code
def yL_payOut : MethodName := ⟨RL, "payOut", "(LMatrixHouse;I[J)I"⟩
abbrev cL_pass : ByteArray := method_35_code
def yL_pass : MethodName := ⟨RL, "pass", "(LMatrixHouse;I[J)I"⟩
abbrev cL_law : ByteArray := code
def yL_law : MethodName := ⟨RL, "law", "([I)Z"⟩
abbrev vwCl : List vw_C := [(RX0, TX0, 3), (RX1, TX1, 2), (RX2, TX2, 6), (RX3, TX3, 4), (RX4, TX4, 5), (RX5, TX5, 5), (RX6, TX6, 7), (RX7, TX7, 15), (RX8, TX8, 10), (RX9, TX9, 38)]
end
section
/-! ===== BEGIN a constructor that throws (launches without stack traces) ===== -/
section VXIA
variable {p : Program} {l : Launch} {e : Env} {R : Room} {s : State} {m : MethodId} {args : Array Value} {below : List Frame} {meth : Method} {c : Code} {T : State} {locs : List Loc} {cells slots : Nat}
theorem vx_callI (X : Stand p l e R s m args below meth c T locs cells slots) (hexec : p.tables.exec = Jvm.exec) {own : String} {index : Nat} {y : MethodName} {bytes : ByteArray} {maxL : Nat}
    (hown : s.vm.findClass own = some m.cls) (hy1 : y.name = "<init>") (hlink : (Cond.methodLink own index y).before args s = true) (hinst : (Cond.instanceMethod y).before args s = true)
    (hcode : (Cond.code y bytes maxL none).before args s = true) (hy : y.cls ≠ "java/lang/invoke/MethodHandle" ∧ y.cls ≠ "java/lang/invoke/VarHandle")
    {W9 : Nat} {Pre : Pt → Array Value → Prop} {Post : Pt → Array Value → Option Value → Pt → Prop} {PostX : Pt → Array Value → Addr → Pt → Prop} (hK : vx_Back l R p e below s args y 3 W9 Pre Post PostX)
    {g : JFrame} (hg : g.method = m) (hsize : g.locals.size = c.maxLocals) {a : Addr} {argsL rest : List Value} (hlen : ∀ sig, parseMethodDescriptor y.desc = some sig → argsL.length = sig.parameters.length)
    (hstack : g.stack = argsL.reverse ++ .ref a :: rest) (hW : 2 * g.monitorRoom + (rest.map fun v => v.category).sum ≤ W9) (hdg : decode c.code g.pc = .ok (.invokespecial index, 3))
    (hpre : ∀ vm₁, s.WarmedH vm₁ → Pre ⟨T.setVm vm₁, locs, cells, slots⟩ (Value.ref a :: argsL).toArray) :
    (∃ (v : Option Value) (vm₁ : Vm) (B : Pt), s.WarmedH vm₁ ∧ Stand p l e R s m args below meth c B.U B.locs B.cells B.slots ∧ Post ⟨T.setVm vm₁, locs, cells, slots⟩ (Value.ref a :: argsL).toArray v B ∧
      ∀ target, Steps p.tables e below (B.U.setTop { g with pc := g.pc + 3, stack := v.toList ++ rest }) target → Steps p.tables e below (T.setTop g) target) ∨
    (∃ (q : Addr) (vm₁ : Vm) (B : Pt), s.WarmedH vm₁ ∧ Stand p l e R s m args below meth c B.U B.locs B.cells B.slots ∧ PostX ⟨T.setVm vm₁, locs, cells, slots⟩ (Value.ref a :: argsL).toArray q B ∧
      Steps p.tables e below (T.setTop g) ((B.U.setTop { g with stack := rest }).pushFrame (.throwing q))) := by
  subst hg
  have hpl : e.platform.magicAccessors = ({} : Platform).magicAccessors := by rw [X.admits.platform]
  obtain ⟨mk, methM, cM, kP, vm₁, hnamed, hmethM, hcodeM, -, hlocalsM, -, hkP, -, hW₁, hstep₁⟩ := Steps.initColdArgs (e := e) X.here hexec X.warmed hpl hown hy1 hy hlink hinst hcode (f := g) rfl hlen hstack hdg
  have X₁ := X.noted hW₁
  rcases hK g.method meth c ⟨T.setVm vm₁, locs, cells, slots⟩ { g with stack := rest } (.invokespecial index) mk (Value.ref a :: argsL).toArray X₁ rfl hsize hdg hW (X₁.named hnamed) (hpre vm₁ X₁.warmed) with ⟨v, B, X', hpost, hsteps⟩ | ⟨q, B, X', hpost, hsteps⟩
  · exact Or.inl ⟨v, vm₁, B, X₁.warmed, X', hpost, fun target h => hstep₁ _ fun acts => by rw [doInvoke_state]; exact hsteps.trans h⟩
  · exact Or.inr ⟨q, vm₁, B, X₁.warmed, X', hpost, hstep₁ _ fun acts => by rw [doInvoke_state]; exact hsteps⟩
end VXIA
section VXIB
variable {p : Program} {l : Launch} {e : Env} {R : Room} {s : State} {m : MethodId} {args : Array Value} {below : List Frame} {meth : Method} {c : Code} {H : Heap} {locs : List Loc} {cells slots : Nat}
variable {y : MethodName} {bytes cc : ByteArray} {maxL nL mc ms n index : Nat} {ret : Option FieldType} {ws : List Cond} {rm : Room} {Pc : Array Value → State → Prop} {Qc : Array Value → State → Outcome → State → Prop} {XC : String → State → State → Prop} {free : Addr → Prop} {Ts : List Cond} {own C : String} {b : Addr} {As rest : List Value} {g : JFrame}
theorem vx_runI (S : CallFix p m c cc nL s args Ts own) (hM : vx_Met l y ws rm Pc Qc XC mc ms free) (cw : CallB R s args own index y bytes maxL none ws rm mc ms n ∧ y.name = "<init>" ∧ (Cond.instanceMethod y).before args s = true) (hp : PreS s H Pc (.ref b :: As))
    (hg : g.method = m) (hn : As.length = n) (hsize : g.locals.size = nL) (hstack : g.stack = As.reverse ++ .ref b :: rest) (hW : 2 * g.monitorRoom + (rest.map fun v => v.category).sum ≤ 8) (hdg : decode cc g.pc = .ok (.invokespecial index, 3)) (hf : cells + mc ≤ R.cells ∧ slots + ms ≤ R.slots) :
    vx_Run p l e R s m args below meth c H locs cells slots mc ms g rest (Qc (Value.ref b :: As).toArray) XC free := by
  have hK : vx_Back l R p e below s args y 3 8 (PreOf R mc ms Pc) (PostOf Qc mc ms free) (vx_Post XC mc ms free) := vx_callBack cw.1 hM hp.1
  obtain ⟨⟨-, -, -, -, -, -, hcode, -, hy, hlen, hl⟩, hy1, hin⟩ := cw
  obtain ⟨hx, hb, hml, ho, -⟩ := S
  have hPc := hp.2
  intro T hT X
  rcases vx_callI X hx (bytes := bytes) (maxL := maxL) ho hy1 hl hin hcode hy hK hg (hsize.trans hml.symm) (a := b) (argsL := As) (rest := rest) (fun sig h => hn.trans (hlen sig h)) hstack hW (by rw [hb]; exact hdg)
    (fun vm₁ hW₁ => ⟨hf.1, hf.2, hPc (T.setVm vm₁) hT hW₁⟩) with ⟨v, vm₁, ⟨U', l2, c2, s2⟩, hW₁, X', ⟨g', mk, t, L, e1, e2, hq, h1, hL, h2, h3⟩, st⟩ | ⟨q, vm₁, ⟨U', l2, c2, s2⟩, hW₁, X', ⟨g', mk, t, L, E, ce, e1, e2, hq, hce, hcv, hcl, h1, hL, h2, h3⟩, st⟩
  · dsimp only [Pt.U, Pt.locs, Pt.cells, Pt.slots] at X' e1 e2 h1 h2 h3 st
    subst h1; subst h2; subst h3
    exact Or.inl ⟨v, (T.setVm vm₁).calling g' mk (Value.ref b :: As).toArray, t, U', L, hT, X', hL, e1, e2, hq, st⟩
  · dsimp only [Pt.U, Pt.locs, Pt.cells, Pt.slots] at X' e1 e2 h1 h2 h3 st hcl
    subst h1; subst h2; subst h3
    exact Or.inr ⟨q, (T.setVm vm₁).calling g' mk (Value.ref b :: As).toArray, t, U', L, E, ce, hT, X', hL, e1, e2, hq, hce, hcv, vx_cls hW₁ hcl, st⟩
end VXIB
/-! ===== END ===== -/
/-! ===== BEGIN a private constructor of a nest mate that throws ===== -/
section VXIC
variable {p : Program} {l : Launch} {e : Env} {R : Room} {s : State} {m : MethodId} {args : Array Value} {below : List Frame} {meth : Method} {c : Code} {T : State} {locs : List Loc} {cells slots : Nat}
theorem vx_callIN (X : Stand p l e R s m args below meth c T locs cells slots) (hexec : p.tables.exec = Jvm.exec) {own : String} {index : Nat} {host : String} {y : MethodName} {bytes : ByteArray} {maxL : Nat}
    (hown : s.vm.findClass own = some m.cls) (hy1 : y.name = "<init>") (hlink : (Cond.methodLinkNest own index y host).before args s = true) (hinst : (Cond.instanceMethod y).before args s = true)
    (hcode : (Cond.code y bytes maxL none).before args s = true) (hy : y.cls ≠ "java/lang/invoke/MethodHandle" ∧ y.cls ≠ "java/lang/invoke/VarHandle")
    {W9 : Nat} {Pre : Pt → Array Value → Prop} {Post : Pt → Array Value → Option Value → Pt → Prop} {PostX : Pt → Array Value → Addr → Pt → Prop} (hK : vx_Back l R p e below s args y 3 W9 Pre Post PostX)
    {g : JFrame} (hg : g.method = m) (hsize : g.locals.size = c.maxLocals) {a : Addr} {argsL rest : List Value} (hlen : ∀ sig, parseMethodDescriptor y.desc = some sig → argsL.length = sig.parameters.length)
    (hstack : g.stack = argsL.reverse ++ .ref a :: rest) (hW : 2 * g.monitorRoom + (rest.map fun v => v.category).sum ≤ W9) (hdg : decode c.code g.pc = .ok (.invokespecial index, 3))
    (hpre : ∀ vm₁, s.WarmedH vm₁ → Pre ⟨T.setVm vm₁, locs, cells, slots⟩ (Value.ref a :: argsL).toArray) :
    (∃ (v : Option Value) (vm₁ : Vm) (B : Pt), s.WarmedH vm₁ ∧ Stand p l e R s m args below meth c B.U B.locs B.cells B.slots ∧ Post ⟨T.setVm vm₁, locs, cells, slots⟩ (Value.ref a :: argsL).toArray v B ∧
      ∀ target, Steps p.tables e below (B.U.setTop { g with pc := g.pc + 3, stack := v.toList ++ rest }) target → Steps p.tables e below (T.setTop g) target) ∨
    (∃ (q : Addr) (vm₁ : Vm) (B : Pt), s.WarmedH vm₁ ∧ Stand p l e R s m args below meth c B.U B.locs B.cells B.slots ∧ PostX ⟨T.setVm vm₁, locs, cells, slots⟩ (Value.ref a :: argsL).toArray q B ∧
      Steps p.tables e below (T.setTop g) ((B.U.setTop { g with stack := rest }).pushFrame (.throwing q))) := by
  subst hg
  have hpl : e.platform.magicAccessors = ({} : Platform).magicAccessors := by rw [X.admits.platform]
  obtain ⟨mk, methM, cM, kP, vm₁, hnamed, hmethM, hcodeM, -, hlocalsM, -, hkP, -, hW₁, hstep₁⟩ := Steps.initColdArgsNest (e := e) X.here hexec X.warmed hpl hown hy1 hy hlink hinst hcode (f := g) rfl hlen hstack hdg
  have X₁ := X.noted hW₁
  rcases hK g.method meth c ⟨T.setVm vm₁, locs, cells, slots⟩ { g with stack := rest } (.invokespecial index) mk (Value.ref a :: argsL).toArray X₁ rfl hsize hdg hW (X₁.named hnamed) (hpre vm₁ X₁.warmed) with ⟨v, B, X', hpost, hsteps⟩ | ⟨q, B, X', hpost, hsteps⟩
  · exact Or.inl ⟨v, vm₁, B, X₁.warmed, X', hpost, fun target h => hstep₁ _ fun acts => by rw [doInvoke_state]; exact hsteps.trans h⟩
  · exact Or.inr ⟨q, vm₁, B, X₁.warmed, X', hpost, hstep₁ _ fun acts => by rw [doInvoke_state]; exact hsteps⟩
end VXIC
section VXID
variable {p : Program} {l : Launch} {e : Env} {R : Room} {s : State} {m : MethodId} {args : Array Value} {below : List Frame} {meth : Method} {c : Code} {H : Heap} {locs : List Loc} {cells slots : Nat}
theorem vx_runIN {y : MethodName} {bytes cc : ByteArray} {maxL nL mc ms n index : Nat} {ws : List Cond} {rm : Room} {Pc : Array Value → State → Prop} {Qc : Array Value → State → Outcome → State → Prop} {XC : String → State → State → Prop} {free : Addr → Prop} {Ts : List Cond} {own host : String} {b : Addr} {As rest : List Value} {g : JFrame}
    (S : CallFix p m c cc nL s args Ts own) (hM : vx_Met l y ws rm Pc Qc XC mc ms free) (cw : va_CN R s args own index y host bytes maxL none ws rm mc ms n ∧ y.name = "<init>" ∧ (Cond.instanceMethod y).before args s = true) (hp : PreS s H Pc (.ref b :: As))
    (hg : g.method = m) (hn : As.length = n) (hsize : g.locals.size = nL) (hstack : g.stack = As.reverse ++ .ref b :: rest) (hW : 2 * g.monitorRoom + (rest.map fun v => v.category).sum ≤ 8) (hdg : decode cc g.pc = .ok (.invokespecial index, 3)) (hf : cells + mc ≤ R.cells ∧ slots + ms ≤ R.slots) :
    vx_Run p l e R s m args below meth c H locs cells slots mc ms g rest (Qc (Value.ref b :: As).toArray) XC free := by
  obtain ⟨⟨⟨hrc, hrs, hfr, hlo, hws, hcw⟩, hcode, hini, hy, hlen, hl⟩, hx1, hx2⟩ := cw
  have hK : vx_Back l R p e below s args y 3 8 (PreOf R mc ms Pc) (PostOf Qc mc ms free) (vx_Post XC mc ms free) := vx_back (bytes := bytes) (maxL := maxL) (ret := none) hM hp.1 hrc hrs hfr hlo hws hcw (fun a' U hW => word_at hW (Or.inl (by first | rfl | simp [Cond.onTables, Cond.keeps, Cond.steady])) hini)
  obtain ⟨hx, hb, hml, ho, -⟩ := S
  have hPc := hp.2
  intro T hT X
  rcases vx_callIN X hx (bytes := bytes) (maxL := maxL) ho hx1 hl hx2 hcode hy hK hg (hsize.trans hml.symm) (a := b) (argsL := As) (rest := rest) (fun sig h => hn.trans (hlen sig h)) hstack hW (by rw [hb]; exact hdg)
    (fun vm₁ hW₁ => ⟨hf.1, hf.2, hPc (T.setVm vm₁) hT hW₁⟩) with ⟨v, vm₁, ⟨U', l2, c2, s2⟩, hW₁, X', ⟨g', mk, t, L, e1, e2, hq, h1, hL, h2, h3⟩, st⟩ | ⟨q, vm₁, ⟨U', l2, c2, s2⟩, hW₁, X', ⟨g', mk, t, L, E, ce, e1, e2, hq, hce, hcv, hcl, h1, hL, h2, h3⟩, st⟩
  · dsimp only [Pt.U, Pt.locs, Pt.cells, Pt.slots] at X' e1 e2 h1 h2 h3 st
    subst h1; subst h2; subst h3
    exact Or.inl ⟨v, (T.setVm vm₁).calling g' mk (Value.ref b :: As).toArray, t, U', L, hT, X', hL, e1, e2, hq, st⟩
  · dsimp only [Pt.U, Pt.locs, Pt.cells, Pt.slots] at X' e1 e2 h1 h2 h3 st hcl
    subst h1; subst h2; subst h3
    exact Or.inr ⟨q, (T.setVm vm₁).calling g' mk (Value.ref b :: As).toArray, t, U', L, E, ce, hT, X', hL, e1, e2, hq, hce, hcv, vx_cls hW₁ hcl, st⟩
end VXID
/-! ===== END ===== -/
end
section
/-! ===== J: the kit's rows over one abstract heap (a function from addresses to cells), with the method's facts bundled ===== -/
def jI (x : Int) : Int32 := Int32.ofInt x
def jL (x : Int) : Int64 := Int64.ofInt x
abbrev jj_G : Type := Nat → Option va_E
def jj_u (G : jj_G) (a : Nat) (e : va_E) : jj_G := fun q => if q = a then some e else G q
theorem jj_us {G : jj_G} {a : Nat} {e : va_E} : jj_u G a e a = some e := by simp [jj_u]
theorem jj_un {G : jj_G} {a q : Nat} {e : va_E} (h : q ≠ a) : jj_u G a e q = G q := by simp [jj_u, h]
/-- cells: a row of ints, of longs, of references; an object -/
def jj_ai (cA : ClassId) (n : Nat) (g : Int → Int) : va_E := .inl (cA, n, .inl (fun i => jI (g (i : Int))))
def jj_al (cA : ClassId) (n : Nat) (g : Int → Int) : va_E := .inl (cA, n, .inr (.inl (fun i => jL (g (i : Int)))))
def jj_aq (cA : ClassId) (n : Nat) (g : Int → Option Nat) : va_E := .inl (cA, n, .inr (.inr (.inr (.inr (fun i => g (i : Int))))))
def jj_o (ci : Nat) (fs : List Value) : va_E := .inr (ci, fs)
def ju {α : Type} (g : Int → α) (i : Int) (x : α) : Int → α := fun j => if j = i then x else g j
theorem ju_s {α : Type} {g : Int → α} {i : Int} {x : α} : ju g i x i = x := by simp [ju]
theorem ju_n {α : Type} {g : Int → α} {i j : Int} {x : α} (h : j ≠ i) : ju g i x j = g j := by simp [ju, h]
def jj_L (G : jj_G) (ws : va_W) : Prop := ∀ (a : Nat) (e : va_E), G a = some e ↔ ∃ k : Nat, ws[k]? = some (a, e)
def jj_W (D : va_G) (A : Nat → Prop) (G : jj_G) (H : Heap) : Prop := ∃ ws : va_W, va_P D vwCl ws H ∧ va_D A ws ∧ jj_L G ws
def jj_A (G : jj_G) (sz : Nat) : Nat → Prop := fun q => G q ≠ none ∨ sz ≤ q
theorem jj_L.set {G : jj_G} {ws : va_W} {A : Nat → Prop} {k a : Nat} {e0 e : va_E} (h : jj_L G ws) (hD : va_D A ws) (hk : ws[k]? = some (a, e0)) : jj_L (jj_u G a e) (ws.set k (a, e)) := by
  have hl := (List.getElem?_eq_some_iff.mp hk).1
  intro b e'
  by_cases hb : b = a
  · subst hb
    rw [jj_us]
    constructor
    · intro h1
      cases h1
      exact ⟨k, List.getElem?_set_self hl⟩
    · rintro ⟨j, hj⟩
      by_cases hjk : j = k
      · subst hjk
        rw [List.getElem?_set_self hl] at hj
        cases hj; rfl
      · rw [List.getElem?_set_ne (Ne.symm hjk)] at hj
        exact absurd (hD.1 j k _ _ hj hk rfl) hjk
  · rw [jj_un hb]
    refine (h b e').trans ⟨?_, ?_⟩
    · rintro ⟨j, hj⟩
      refine ⟨j, ?_⟩
      by_cases hjk : j = k
      · subst hjk
        rw [hk] at hj
        cases hj
        exact absurd rfl hb
      · rw [List.getElem?_set_ne (Ne.symm hjk)]; exact hj
    · rintro ⟨j, hj⟩
      by_cases hjk : j = k
      · subst hjk
        rw [List.getElem?_set_self hl] at hj
        cases hj
        exact absurd rfl hb
      · rw [List.getElem?_set_ne (Ne.symm hjk)] at hj
        exact ⟨j, hj⟩
theorem jj_L.fresh {G : jj_G} {ws : va_W} {A : Nat → Prop} {a : Nat} {e : va_E} (h : jj_L G ws) (hD : va_D A (ws ++ [(a, e)])) : G a = none := by
  cases hg : G a with
  | none => rfl
  | some x =>
    obtain ⟨k, hk⟩ := (h a x).mp hg
    have hl := (List.getElem?_eq_some_iff.mp hk).1
    have h1 : (ws ++ [(a, e)])[k]? = some (a, x) := by rw [List.getElem?_append_left hl]; exact hk
    have h2 : (ws ++ [(a, e)])[ws.length]? = some (a, e) := by simp
    have := hD.1 _ _ _ _ h1 h2 rfl
    omega
theorem jj_L.push {G : jj_G} {ws : va_W} {a : Nat} {e : va_E} (h : jj_L G ws) (hf : G a = none) : jj_L (jj_u G a e) (ws ++ [(a, e)]) := by
  intro b e'
  have key : ∀ (j : Nat) (q : Nat × va_E), (ws ++ [(a, e)])[j]? = some q ↔ ws[j]? = some q ∨ (j = ws.length ∧ q = (a, e)) := by
    intro j q
    by_cases hl : j < ws.length
    · rw [List.getElem?_append_left hl]
      exact ⟨Or.inl, fun h => h.elim id (fun h => absurd h.1 (by omega))⟩
    · rw [List.getElem?_append_right (by omega)]
      constructor
      · intro hj
        have hz : j - ws.length < 1 := (List.getElem?_eq_some_iff.mp hj).1
        have h0 : j - ws.length = 0 := by omega
        rw [h0] at hj
        cases hj
        exact Or.inr ⟨by omega, rfl⟩
      · rintro (h1 | ⟨rfl, rfl⟩)
        · exact absurd (List.getElem?_eq_some_iff.mp h1).1 hl
        · simp
  by_cases hb : b = a
  · subst hb
    rw [jj_us]
    constructor
    · intro h1; cases h1
      exact ⟨ws.length, (key _ _).mpr (Or.inr ⟨rfl, rfl⟩)⟩
    · rintro ⟨j, hj⟩
      rcases (key _ _).mp hj with h1 | ⟨-, h1⟩
      · have := (h b e').mpr ⟨j, h1⟩
        rw [hf] at this; cases this
      · cases h1; rfl
  · rw [jj_un hb]
    refine (h b e').trans ⟨?_, ?_⟩
    · rintro ⟨j, hj⟩
      exact ⟨j, (key _ _).mpr (Or.inl hj)⟩
    · rintro ⟨j, hj⟩
      rcases (key _ _).mp hj with h1 | ⟨-, h1⟩
      · exact ⟨j, h1⟩
      · cases h1; exact absurd rfl hb
/-- one cell of it -/
theorem jj_W.at {D : va_G} {A : Nat → Prop} {G : jj_G} {H : Heap} {a : Nat} {e : va_E} (h : jj_W D A G H) (hG : G a = some e) : va_P D vwCl [(a, e)] H ∧ A a := by
  obtain ⟨ws, hP, hD, hL⟩ := h
  obtain ⟨k, hk⟩ := (hL a e).mp hG
  exact ⟨fun j q hj => by
    have hz : j < 1 := (List.getElem?_eq_some_iff.mp hj).1
    rw [show j = 0 by omega] at hj
    cases hj
    exact hP k _ hk, hD.2 k _ hk⟩
theorem jj_W.dom {D : va_G} {A : Nat → Prop} {G : jj_G} {H : Heap} (h : jj_W D A G H) {a : Nat} (hG : G a ≠ none) : A a ∧ a < H.size := by
  cases hg : G a with
  | none => exact absurd hg hG
  | some e =>
    obtain ⟨hP, hA⟩ := h.at hg
    exact ⟨hA, (hP 0 (a, e) rfl).lt⟩
/-- the world seen by a callee -/
theorem jj_W.into {D : va_G} {A : Nat → Prop} {G : jj_G} {H : Heap} (h : jj_W D A G H) : jj_W D (jj_A G H.size) G H := by
  obtain ⟨ws, hP, hD, hL⟩ := h
  exact ⟨ws, hP, hD.weaken (fun k q hk _ => Or.inl (by rw [(hL q.1 q.2).mpr ⟨k, hk⟩]; exact fun h => by cases h)), hL⟩
theorem jj_W.back {D : va_G} {A B : Nat → Prop} {G : jj_G} {H : Heap} (h : jj_W D B G H) (hBA : ∀ q, B q → A q) : jj_W D A G H := by
  obtain ⟨ws, hP, hD, hL⟩ := h
  exact ⟨ws, hP, hD.weaken (fun k q _ hB => hBA _ hB), hL⟩
theorem jj_W.kept {D : va_G} {A : Nat → Prop} {G : jj_G} {H H1 : Heap} (h : jj_W D A G H) (hq : ∀ q : Nat, q < H.size → G q ≠ none → H1[q]? = H[q]?) : jj_W D A G H1 := by
  obtain ⟨ws, hP, hD, hL⟩ := h
  exact ⟨ws, hP.kept (fun k q hk => hq q.1 ((hP k q hk).lt) (by rw [(hL q.1 q.2).mpr ⟨k, hk⟩]; exact fun h => by cases h)), hD, hL⟩
/-! locals: a list by slots, none where nothing is known -/
def jj_l (ls : Array Slot) (nL : Nat) (lv : List (Option Value)) : Prop := ls.size = nL ∧ lv_wf ls ∧ ∀ (i : Nat) (v : Value), lv[i]? = some (some v) → ls[i]? = some (.val v)
def jj_p : Nat → List (Option Value) → List (Nat × Value)
  | _, [] => []
  | i, none :: r => jj_p (i + 1) r
  | i, some v :: r => (i, v) :: jj_p (i + 1) r
theorem jj_p_iff : ∀ (lv : List (Option Value)) (i j : Nat) (v : Value), (j, v) ∈ jj_p i lv ↔ ∃ k, j = i + k ∧ lv[k]? = some (some v)
  | [], i, j, v => by simp [jj_p]
  | none :: r, i, j, v => by
    rw [jj_p, jj_p_iff r (i + 1) j v]
    constructor
    · rintro ⟨k, h1, h2⟩
      exact ⟨k + 1, by omega, by simpa using h2⟩
    · rintro ⟨k, h1, h2⟩
      cases k with
      | zero => simp at h2
      | succ k => exact ⟨k, by omega, by simpa using h2⟩
  | some w :: r, i, j, v => by
    rw [jj_p, List.mem_cons, jj_p_iff r (i + 1) j v]
    constructor
    · rintro (h | ⟨k, h1, h2⟩)
      · cases h; exact ⟨0, rfl, rfl⟩
      · exact ⟨k + 1, by omega, by simpa using h2⟩
    · rintro ⟨k, h1, h2⟩
      cases k with
      | zero =>
        simp at h2
        left; rw [h2]; simp [h1]
      | succ k => exact Or.inr ⟨k, by omega, by simpa using h2⟩
theorem jj_l.has {ls : Array Slot} {nL : Nat} {lv : List (Option Value)} (h : jj_l ls nL lv) : lv_has ls nL (jj_p 0 lv) := by
  refine ⟨h.1, h.2.1, fun q hq => ?_⟩
  obtain ⟨k, h1, h2⟩ := (jj_p_iff lv 0 q.1 q.2).mp hq
  have := h.2.2 k q.2 h2
  rw [show q.1 = k by omega]
  exact this
theorem jj_l.of {ls : Array Slot} {nL : Nat} {lv : List (Option Value)} {l : List (Nat × Value)} (h : lv_has ls nL l) (hl : ∀ q ∈ jj_p 0 lv, q ∈ l) : jj_l ls nL lv :=
  ⟨h.1, h.2.1, fun i v hv => h.2.2 (i, v) (hl _ ((jj_p_iff lv 0 i v).mpr ⟨i, by omega, hv⟩))⟩
def jj_nc (lv : List (Option Value)) (i : Nat) : Bool := match i with
  | 0 => true
  | j + 1 => match lv[j]? with
    | some (some w) => w.category != 2
    | _ => true
theorem jj_l.set1 {ls' : Array Slot} {nL i : Nat} {lv : List (Option Value)} {v : Value} (h : lv_has ls' nL ((i, v) :: (jj_p 0 lv).filter (fun q => !(q.1 == i) && !(q.1 + 1 == i && q.2.category == 2)))) (hc : jj_nc lv i = true) : jj_l ls' nL (lv.set i (some v)) := by
  refine jj_l.of h fun q hq => ?_
  obtain ⟨k, h1, h2⟩ := (jj_p_iff _ 0 q.1 q.2).mp hq
  have hk : q.1 = k := by omega
  by_cases hki : k = i
  · subst hki
    have hlt : k < lv.length := by
      have := (List.getElem?_eq_some_iff.mp h2).1
      simpa using this
    rw [List.getElem?_set_self hlt] at h2
    have h3 : v = q.2 := by simpa using h2
    rw [h3, ← hk]
    exact List.mem_cons_self
  · rw [List.getElem?_set_ne (Ne.symm hki)] at h2
    refine List.mem_cons_of_mem _ (List.mem_filter.mpr ⟨(jj_p_iff _ 0 q.1 q.2).mpr ⟨k, by omega, h2⟩, ?_⟩)
    have hne : (q.1 == i) = false := by rw [hk]; simpa using hki
    rw [hne]
    by_cases hn : q.1 + 1 = i
    · have hi : i = k + 1 := by omega
      subst hi
      simp only [jj_nc, h2] at hc
      have : (q.2.category == 2) = false := by simpa using hc
      rw [this]; simp
    · have : (q.1 + 1 == i) = false := by simpa using hn
      rw [this]; simp
theorem jj_l.set2 {ls' : Array Slot} {nL i : Nat} {lv : List (Option Value)} {v : Value} (h : lv_has ls' nL ((i, v) :: (jj_p 0 lv).filter (fun q => !(q.1 == i) && (!(q.1 == i + 1) && !(q.1 + 1 == i && q.2.category == 2))))) (hc : jj_nc lv i = true) : jj_l ls' nL ((lv.set i (some v)).set (i + 1) none) := by
  refine jj_l.of h fun q hq => ?_
  obtain ⟨k, h1, h2⟩ := (jj_p_iff _ 0 q.1 q.2).mp hq
  have hk : q.1 = k := by omega
  have hk1 : k ≠ i + 1 := by
    intro e
    subst e
    have hlt := (List.getElem?_eq_some_iff.mp h2).1
    rw [List.getElem?_set_self (by simpa using hlt)] at h2
    cases h2
  rw [List.getElem?_set_ne (Ne.symm hk1)] at h2
  by_cases hki : k = i
  · subst hki
    have hlt : k < lv.length := by
      have := (List.getElem?_eq_some_iff.mp h2).1
      simpa using this
    rw [List.getElem?_set_self hlt] at h2
    have h3 : v = q.2 := by simpa using h2
    rw [h3, ← hk]
    exact List.mem_cons_self
  · rw [List.getElem?_set_ne (Ne.symm hki)] at h2
    refine List.mem_cons_of_mem _ (List.mem_filter.mpr ⟨(jj_p_iff _ 0 q.1 q.2).mpr ⟨k, by omega, h2⟩, ?_⟩)
    have hne : (q.1 == i) = false := by rw [hk]; simpa using hki
    have hne1 : (q.1 == i + 1) = false := by rw [hk]; simpa using hk1
    rw [hne, hne1]
    by_cases hn : q.1 + 1 = i
    · have hi : i = k + 1 := by omega
      subst hi
      simp only [jj_nc, h2] at hc
      have : (q.2.category == 2) = false := by simpa using hc
      rw [this]; simp
    · have : (q.1 + 1 == i) = false := by simpa using hn
      rw [this]; simp
/-! the words that hold in every state of the run -/
def jj_GW : List Cond := lw_tbl.filter goodWord
def jj_tw : Cond → Bool
  | .methodLinkNest .. => true
  | .castable .. => true
  | .declares .. => true
  | _ => false
def jj_T : List Cond := lw_tbl.filter jj_tw
def jj_sw : Cond → Option (String × Nat × String)
  | .stringRef o k t => some (o, k, t)
  | _ => none
def jj_S : List (String × Nat × String) := lw_tbl.filterMap jj_sw
def jj_O : List String := ["MatrixHouse$Tape", "MatrixHouse$Side", "MatrixHouse$Stamper", "MatrixHouse$Disc", "MatrixHouse$Sale"]
def jj_N : List (String × String) := [("java/lang/IllegalArgumentException", "java/lang/IndexOutOfBoundsException"), ("java/lang/IllegalStateException", "java/lang/IndexOutOfBoundsException"), ("java/lang/IllegalStateException", "java/lang/IllegalArgumentException")]
/-- the array classes: ints, longs, and the rows of objects -/
def jj_ty (ac : Nat → ClassId) : List (ClassId × FieldType) := [(ac 0, .int), (ac 1, .long), (ac 2, .object "MatrixHouse$Tape"), (ac 3, .object "MatrixHouse$Side"), (ac 4, .object "MatrixHouse$Stamper"), (ac 5, .object "MatrixHouse$Disc"), (ac 6, .object "MatrixHouse$Sale")]
def jj_E (D : va_G) (ac : Nat → ClassId) (A : Nat → Prop) (U : State) (H : Heap) : Prop :=
  (∀ w ∈ jj_GW, w.before #[] U = true) ∧ va_K D vwCl (jj_ty ac) U ∧ (∀ q ∈ jj_S, ∃ a : Nat, vk_R q.1 q.2.1 q.2.2 a U) ∧ (∀ w ∈ jj_T, va_Nw w U) ∧ (∀ C ∈ jj_O, va_AO C U) ∧ (∀ q ∈ jj_N, va_Nc q.1 q.2 U) ∧
  vx_Zq Bundle.tN "UNASSIGNED_STACK" Bundle.steD A U H ∧ vx_Zq Bundle.tN "SUPPRESSED_SENTINEL" Bundle.listD A U H
theorem jj_gw {w : Cond} (i : Nat) (h : lw_tbl[i]? = some w) (hg : goodWord w = true) : w ∈ jj_GW := List.mem_filter.mpr ⟨List.mem_of_getElem? h, hg⟩
theorem jj_tw_mem {w : Cond} (i : Nat) (h : lw_tbl[i]? = some w) (hg : jj_tw w = true) : w ∈ jj_T := List.mem_filter.mpr ⟨List.mem_of_getElem? h, hg⟩
theorem jj_gw_good {w : Cond} (h : w ∈ jj_GW) : goodWord w = true := (List.mem_filter.mp h).2
theorem jj_warmT {w : Cond} (hw : w ∈ jj_T) {s U : State} (hW : s.WarmedH U.vm) (h : va_Nw w s) : va_Nw w U := by
  have h2 := (List.mem_filter.mp hw).2
  cases w <;> first | exact va_Nw.warmM hW h | exact va_Nw.warmC hW h | exact va_Nw.warmD hW h | (simp [jj_tw] at h2; done)
theorem jj_E.warm {D : va_G} {ac : Nat → ClassId} {A B : Nat → Prop} {s U : State} {H H1 : Heap} (h : jj_E D ac A s H) (hW : s.WarmedH U.vm) (hq : ∀ a : Nat, a < H.size → ¬ A a → H1[a]? = H[a]?) (hAB : ∀ q, B q → A q) : jj_E D ac B U H1 := by
  obtain ⟨h1, h2, h3, h4, h5, h6, h7, h8⟩ := h
  refine ⟨fun w hw => word_at hW (good_of_word (jj_gw_good hw)) (h1 w hw), va_K.moved hW.alike h2, fun q hqq => ?_, fun w hw => jj_warmT hw hW (h4 w hw), fun C hC => va_AO.moved hW.alike (h5 C hC), fun q hqq => va_Nc.moved hW.alike (h6 q hqq), ((vx_Zq.moved hW.alike h7).kept hq).narrow hAB, ((vx_Zq.moved hW.alike h8).kept hq).narrow hAB⟩
  obtain ⟨a, ha⟩ := h3 q hqq
  exact ⟨a, vk_R.warm hW ha⟩
end
section
/-! the method's context in one: program, launch, env, room, start, method, args, frames below, method, code, locals' size, free cells, class numbers, array classes, end -/
def jj_X : Type := Program × Launch × Env × Room × State × MethodId × Array Value × List Frame × Method × Code × Nat × (Nat → Prop) × va_G × (Nat → ClassId) × (State → Prop)
def jj_J : jj_X → jj_G → Nat → Nat → Nat → List (Option Value) → List Value → Prop
  | (p, l, e, R, s, m, args, below, meth, c, nL, A, D, _, Q), G, kc, kn, pc, lv, st =>
    ∀ (H : Heap) (locs : List Loc) (ls : Array Slot), jj_W D A G H → va_S A s.heap H locs → jj_l ls nL lv → W p l e R s m args below meth c H locs kc kn Q (F0 m pc ls st)
/-- what the method's rows rest on -/
def jj_F : jj_X → String → ByteArray → Room → Prop
  | (p, l, _, R, s, m, args, _, meth, c, nL, A, D, ac, _), own, cc, rm =>
    p.tables.exec = Jvm.exec ∧ c.code = cc ∧ c.maxLocals = nL ∧ s.vm.findClass own = some m.cls ∧ R = rm ∧ (∀ q, s.heap.size ≤ q → A q) ∧ jj_E D ac A s s.heap ∧ l.stackTraces = false ∧ meth.locks = false ∧ (∀ w ∈ jj_GW, w.before args s = true) ∧ (∀ q, A q → q < s.heap.size → True)
def jj_Pc (D : va_G) (ac : Nat → ClassId) (av : List Value) (G : jj_G) (sz : Nat) : Array Value → State → Prop := va_Pc av (fun U => U.heap.size = sz ∧ jj_W D (jj_A G sz) G U.heap ∧ jj_E D ac (jj_A G sz) U U.heap)
def jj_Qc (D : va_G) (G : jj_G) (sz : Nat) (post : Option Value → jj_G → Prop) : Array Value → State → Outcome → State → Prop := fun _ st o t =>
  (∃ (v : Option Value) (G' : jj_G), o = .returned v ∧ post v G' ∧ jj_W D (jj_A G sz) G' t.heap) ∧ va_F (jj_A G sz) st t
def jj_XC (D : va_G) (G : jj_G) (sz : Nat) (px : String → Prop) : String → State → State → Prop := fun E st t => px E ∧ jj_W D (jj_A G sz) G t.heap ∧ va_F (jj_A G sz) st t
/-- a method's contract: from a heap that holds G, it returns with post, or throws with px and G as it was -/
def jj_C (l : Launch) (D : va_G) (ac : Nat → ClassId) (y : MethodName) (cw : Cond) (rm : Room) (av : List Value) (G : jj_G) (post : Option Value → jj_G → Prop) (px : String → Prop) : Prop :=
  ∀ sz : Nat, vx_Met l y [cw] rm (jj_Pc D ac av G sz) (jj_Qc D G sz post) (jj_XC D G sz px) rm.cells rm.slots (jj_A G sz)
/-- .. and what the ends of a body rest on -/
def jj_B : jj_X → String → ByteArray → Room → Option FieldType → jj_G → (Option Value → jj_G → Prop) → (String → Prop) → Prop
  | X@(_, _, _, _, s, _, args, below, meth, c, _, A, D, _, Q), own, cc, rm, ret, G, post, px =>
    jj_F X own cc rm ∧ meth.sig.returnType = ret ∧ A = jj_A G s.heap.size ∧ Q = vx_MQ below (jj_Qc D G s.heap.size post) (jj_XC D G s.heap.size px) args s rm.cells rm.slots (jj_A G s.heap.size) ∧ ∀ x ∈ c.exceptionTable.toList, False
def jj_D (cc : ByteArray) (pc : Nat) (i : Instr) (len nx : Nat) : Prop := nx = pc + len ∧ decode cc pc = .ok (i, len)
def jj_en (av : List Value) (n : Nat) : List (Option Value) := av.map some ++ List.replicate (n - av.length) none
theorem jj_en_mem {av : List Value} {n : Nat} (hc : av.all (fun v => v.category == 1) = true) : ∀ q ∈ jj_p 0 (jj_en av n), q ∈ lv_args 0 av := by
  have key : ∀ (l : List Value) (i : Nat), l.all (fun v => v.category == 1) = true → ∀ (k : Nat) (v : Value), l[k]? = some v → (i + k, v) ∈ lv_args i l := by
    intro l
    induction l with
    | nil => intro i _ k v h; simp at h
    | cons a l ih =>
      intro i hc k v h
      simp only [List.all_cons, Bool.and_eq_true, beq_iff_eq] at hc
      rw [lv_args, if_neg (by rw [hc.1]; decide)]
      cases k with
      | zero => simp at h; rw [h]; exact List.mem_cons_self
      | succ k =>
        have := ih (i + 1) hc.2 k v (by simpa using h)
        rw [show i + (k + 1) = i + 1 + k by omega]
        exact List.mem_cons_of_mem _ this
  intro q hq
  obtain ⟨k, h1, h2⟩ := (jj_p_iff _ 0 q.1 q.2).mp hq
  have h3 : av[k]? = some q.2 := by
    unfold jj_en at h2
    by_cases hk : k < (av.map some).length
    · rw [List.getElem?_append_left hk, List.getElem?_map] at h2
      cases hav : av[k]? with
      | none => rw [hav] at h2; cases h2
      | some w => rw [hav] at h2; simp at h2; rw [h2]
    · rw [List.getElem?_append_right (by omega), List.getElem?_replicate] at h2
      split at h2 <;> cases h2
  have := key av 0 hc k q.2 h3
  rw [show q = (q.1, q.2) from rfl, show q.1 = 0 + k by omega]
  exact this
set_option maxHeartbeats 4000000 in
theorem jj_blind {D : va_G} {ac : Nat → ClassId} {av : List Value} {G : jj_G} {sz : Nat} : FrameBlind (jj_Pc D ac av G sz) := by
  intro a U g mk h
  obtain ⟨h1, h2, h3, h4⟩ := h
  exact ⟨h1, h2, h3, h4.warm (U := U.calling g mk a) (State.WarmedH.refl U) (fun _ _ _ => rfl) (fun _ h => h)⟩
set_option maxHeartbeats 4000000 in
theorem jj_of {l : Launch} {D : va_G} {ac : Nat → ClassId} {y : MethodName} {own : String} {bytes : ByteArray} {maxL : Nat} {ret : Option FieldType} {rm : Room} {av : List Value} {G : jj_G} {post : Option Value → jj_G → Prop} {px : String → Prop} {lv0 : List (Option Value)}
    (hl : l.stackTraces = false) (hy : plainName y.cls = true) (ho : y.cls = own) (hc : av.all (fun v => v.category == 1) = true) (hlen : (lg_sl av).length ≤ maxL) (hlv : jj_en av maxL = lv0)
    (body : ∀ X : jj_X, jj_B X own bytes rm ret G post px → jj_J X G 0 0 0 lv0 []) : jj_C l D ac y (.code y bytes maxL ret) rm av G post px := by
  intro sz
  refine vx_ofW (cc := bytes) (maxL := maxL) (ret := ret) hy rfl ?_
  intro p e s m args below meth c s₁ B hml hno hv
  obtain ⟨rfl, rfl, hW, hE⟩ := hv
  subst ho
  have hE' : ∀ w ∈ jj_GW, w.before av.toArray s = true := fun w hw => word_at (State.WarmedH.refl s) (good_of_word (jj_gw_good hw)) (hE.1 w hw)
  have h0 := body (p, l, e, (headSpec [Cond.code y bytes maxL ret] rm).room, s, m, av.toArray, below, meth, c, maxL, jj_A G s.heap.size, D, ac, vx_MQ below (jj_Qc D G s.heap.size post) (jj_XC D G s.heap.size px) av.toArray s rm.cells rm.slots (jj_A G s.heap.size))
    ⟨⟨B.exec, B.bytes, hml, findClass_of_methodNamed B.named, rfl, fun q h => Or.inr h, hE, hl, B.notSynchronized, hE', fun _ _ _ => trivial⟩, B.returns, rfl, rfl, hno⟩
  have hl1 := lv_entry av (n := maxL) hlen
  rw [lg_entry_eq]
  subst hlv
  exact h0 s.heap [] _ hW va_S.rf (jj_l.of hl1 (jj_en_mem hc))
end
section
def jj_nL : jj_X → Nat
  | (_, _, _, _, _, _, _, _, _, _, nL, _, _, _, _) => nL
def jj_ncv (x : Option Value) : Bool := match x with
  | some w => w.category != 2
  | none => true
/-! numbers -/
theorem jI_toInt {x : Int} (h1 : -2147483648 ≤ x) (h2 : x ≤ 2147483647) : (jI x).toInt = x := by
  unfold jI
  rw [Int32.toInt_ofInt]
  simp only [Int.bmod, Int32.size]
  omega
theorem jI_of (x : Int32) : x = jI x.toInt := (Int32.ofInt_toInt x).symm
theorem jI_rng (x : Int32) : -2147483648 ≤ x.toInt ∧ x.toInt ≤ 2147483647 := ⟨Int32.le_toInt x, by have := Int32.toInt_lt x; omega⟩
theorem jI_add (a b : Int) : jI a + jI b = jI (a + b) := (Int32.ofInt_add a b).symm
theorem jI_sub (a b : Int) : jI a - jI b = jI (a - b) := (Int32.ofInt_sub a b).symm
theorem jI_mul (a b : Int) : jI a * jI b = jI (a * b) := (Int32.ofInt_mul a b).symm
theorem jI_inj {a b : Int} (h : -2147483648 ≤ a ∧ a ≤ 2147483647 ∧ -2147483648 ≤ b ∧ b ≤ 2147483647) : jI a = jI b ↔ a = b := by
  rw [← Int32.toInt_inj, jI_toInt h.1 h.2.1, jI_toInt h.2.2.1 h.2.2.2]
theorem jI_le {a b : Int} (h : -2147483648 ≤ a ∧ a ≤ 2147483647 ∧ -2147483648 ≤ b ∧ b ≤ 2147483647) : jI a ≤ jI b ↔ a ≤ b := by
  rw [Int32.le_iff_toInt_le, jI_toInt h.1 h.2.1, jI_toInt h.2.2.1 h.2.2.2]
theorem jI_lt {a b : Int} (h : -2147483648 ≤ a ∧ a ≤ 2147483647 ∧ -2147483648 ≤ b ∧ b ≤ 2147483647) : jI a < jI b ↔ a < b := by
  rw [Int32.lt_iff_toInt_lt, jI_toInt h.1 h.2.1, jI_toInt h.2.2.1 h.2.2.2]
theorem jI_0 : (0 : Int32) = jI 0 := by decide
theorem jI_div {a b : Int} (h : 0 ≤ a ∧ a ≤ 2147483647 ∧ 0 < b ∧ b ≤ 2147483647) : jI a / jI b = jI (a / b) := by
  rw [← Int32.toInt_inj, Int32.toInt_div, jI_toInt (by omega) (by omega), jI_toInt (by omega) (by omega)]
  have h1 : a.tdiv b = a / b := Int.tdiv_eq_ediv_of_nonneg h.1
  have h2 : 0 ≤ a / b := Int.ediv_nonneg h.1 (by omega)
  have h3 : a / b ≤ a := Int.ediv_le_self b h.1
  rw [h1, jI_toInt (by omega) (by omega)]
  simp only [Int.bmod]
  omega
theorem jI_mod {a b : Int} (h : 0 ≤ a ∧ a ≤ 2147483647 ∧ 0 < b ∧ b ≤ 2147483647) : jI a - jI a / jI b * jI b = jI (a % b) := by
  rw [jI_div h, jI_mul, jI_sub]
  congr 1
  have := Int.emod_def a b
  rw [this, Int.mul_comm]
theorem jL_toInt {x : Int} (h1 : -9223372036854775808 ≤ x) (h2 : x ≤ 9223372036854775807) : (jL x).toInt = x := by
  unfold jL
  rw [Int64.toInt_ofInt]
  simp only [Int.bmod, Int64.size]
  omega
theorem jL_mul (a b : Int) : jL a * jL b = jL (a * b) := (Int64.ofInt_mul a b).symm
theorem jL_of_I {x : Int} (h1 : -2147483648 ≤ x) (h2 : x ≤ 2147483647) : (jI x).toInt64 = jL x := by
  rw [← Int64.toInt_inj, Int32.toInt_toInt64, jI_toInt h1 h2, jL_toInt (by omega) (by omega)]
theorem jI_of_L (x : Int) : (jL x).toInt32 = jI x := by
  unfold jL jI
  first | exact Int64.toInt32_ofInt x | simp
theorem jL_div {a b : Int} (h : 0 ≤ a ∧ a ≤ 9223372036854775807 ∧ 0 < b ∧ b ≤ 9223372036854775807) : jL a / jL b = jL (a / b) := by
  rw [← Int64.toInt_inj, Int64.toInt_div, jL_toInt (by omega) (by omega), jL_toInt (by omega) (by omega)]
  have h1 : a.tdiv b = a / b := Int.tdiv_eq_ediv_of_nonneg h.1
  have h2 : 0 ≤ a / b := Int.ediv_nonneg h.1 (by omega)
  have h3 : a / b ≤ a := Int.ediv_le_self b h.1
  rw [h1, jL_toInt (by omega) (by omega)]
  simp only [Int.bmod]
  omega
theorem jL_inj {a b : Int} (h : -9223372036854775808 ≤ a ∧ a ≤ 9223372036854775807 ∧ -9223372036854775808 ≤ b ∧ b ≤ 9223372036854775807) : jL a = jL b ↔ a = b := by
  rw [← Int64.toInt_inj, jL_toInt h.1 h.2.1, jL_toInt h.2.2.1 h.2.2.2]
theorem jL_lt {a b : Int} (h : -9223372036854775808 ≤ a ∧ a ≤ 9223372036854775807 ∧ -9223372036854775808 ≤ b ∧ b ≤ 9223372036854775807) : jL a < jL b ↔ a < b := by
  rw [Int64.lt_iff_toInt_lt, jL_toInt h.1 h.2.1, jL_toInt h.2.2.1 h.2.2.2]
theorem jI_in {x : Int} {n : Nat} (h : 0 ≤ x ∧ x < n) (hn : n ≤ 100000) : vp_in (jI x) n ∧ (((jI x).toNatClampNeg : Nat) : Int) = x := by
  have h1 : (jI x).toInt = x := jI_toInt (by omega) (by omega)
  have h2 : (((jI x).toNatClampNeg : Nat) : Int) = x := by
    rw [show (jI x).toNatClampNeg = (jI x).toInt.toNat from rfl, h1]
    omega
  refine ⟨vp_in_iff.mpr ⟨by omega, by omega⟩, h2⟩
section JR
variable {X : jj_X} {own : String} {cc : ByteArray} {rm : Room} {G : jj_G} {kc kn pc nx : Nat} {lv lr : List (Option Value)} {st : List Value}

theorem jj_iconst (F : jj_F X own cc rm) {n : Int} (d : jj_D cc pc (.iconst n) 1 nx) (kk : jj_J X G kc kn nx lv (.int (jI n) :: st)) : jj_J X G kc kn pc lv st := by
  obtain ⟨p, l, e, R, s, m, args, below, meth, c, nL, A, D, ac, Q⟩ := X
  obtain ⟨hx, hb, hml, hown, hR, hA, hE, hs, hk, hts, -⟩ := F
  obtain ⟨rfl, hd⟩ := d
  intro H locs ls hW hS hl
  exact lv_iconst hx hb hd rfl (kk H locs ls hW hS hl)
theorem jj_bipush (F : jj_F X own cc rm) {n : Int} (hv : (Int8.ofInt n).toInt32 = jI n) (d : jj_D cc pc (.bipush n) 2 nx) (kk : jj_J X G kc kn nx lv (.int (jI n) :: st)) : jj_J X G kc kn pc lv st := by
  obtain ⟨p, l, e, R, s, m, args, below, meth, c, nL, A, D, ac, Q⟩ := X
  obtain ⟨hx, hb, hml, hown, hR, hA, hE, hs, hk, hts, -⟩ := F
  obtain ⟨rfl, hd⟩ := d
  intro H locs ls hW hS hl
  exact lv_bipush hx hb hd hv (kk H locs ls hW hS hl)
theorem jj_sipush (F : jj_F X own cc rm) {n : Int} (hv : (Int16.ofInt n).toInt32 = jI n) (d : jj_D cc pc (.sipush n) 3 nx) (kk : jj_J X G kc kn nx lv (.int (jI n) :: st)) : jj_J X G kc kn pc lv st := by
  obtain ⟨p, l, e, R, s, m, args, below, meth, c, nL, A, D, ac, Q⟩ := X
  obtain ⟨hx, hb, hml, hown, hR, hA, hE, hs, hk, hts, -⟩ := F
  obtain ⟨rfl, hd⟩ := d
  intro H locs ls hW hS hl
  exact lv_sipush hx hb hd hv (kk H locs ls hW hS hl)
theorem jj_lconst (F : jj_F X own cc rm) {n : Fin 2} {v : Int} (hv : Int64.ofNat (n : Nat) = jL v) (d : jj_D cc pc (.lconst n) 1 nx) (kk : jj_J X G kc kn nx lv (.long (jL v) :: st)) : jj_J X G kc kn pc lv st := by
  obtain ⟨p, l, e, R, s, m, args, below, meth, c, nL, A, D, ac, Q⟩ := X
  obtain ⟨hx, hb, hml, hown, hR, hA, hE, hs, hk, hts, -⟩ := F
  obtain ⟨rfl, hd⟩ := d
  intro H locs ls hW hS hl
  exact lv_lconst hx hb hd hv (kk H locs ls hW hS hl)
theorem jj_null (F : jj_F X own cc rm) (d : jj_D cc pc (.aconst_null) 1 nx) (kk : jj_J X G kc kn nx lv (.null :: st)) : jj_J X G kc kn pc lv st := by
  obtain ⟨p, l, e, R, s, m, args, below, meth, c, nL, A, D, ac, Q⟩ := X
  obtain ⟨hx, hb, hml, hown, hR, hA, hE, hs, hk, hts, -⟩ := F
  obtain ⟨rfl, hd⟩ := d
  intro H locs ls hW hS hl
  exact lv_null hx hb hd (kk H locs ls hW hS hl)
theorem jj_ldc (F : jj_F X own cc rm) {i : Nat} {w : Int32} {v : Int} (hw : Cond.constant own i w ∈ jj_GW) (hv : w = jI v) (d : jj_D cc pc (.ldc i) 2 nx) (kk : jj_J X G kc kn nx lv (.int (jI v) :: st)) : jj_J X G kc kn pc lv st := by
  obtain ⟨p, l, e, R, s, m, args, below, meth, c, nL, A, D, ac, Q⟩ := X
  obtain ⟨hx, hb, hml, hown, hR, hA, hE, hs, hk, hts, -⟩ := F
  obtain ⟨rfl, hd⟩ := d
  intro H locs ls hW hS hl
  subst hv
  exact lv_ldc hx hb hown (hts _ hw) hd (kk H locs ls hW hS hl)
theorem jj_ldc2 (F : jj_F X own cc rm) {i : Nat} {w : Int64} {v : Int} (hw : Cond.constantLong own i w ∈ jj_GW) (hv : w = jL v) (d : jj_D cc pc (.ldc2_w i) 3 nx) (kk : jj_J X G kc kn nx lv (.long (jL v) :: st)) : jj_J X G kc kn pc lv st := by
  obtain ⟨p, l, e, R, s, m, args, below, meth, c, nL, A, D, ac, Q⟩ := X
  obtain ⟨hx, hb, hml, hown, hR, hA, hE, hs, hk, hts, -⟩ := F
  obtain ⟨rfl, hd⟩ := d
  intro H locs ls hW hS hl
  subst hv
  exact lv_ldc2 hx hb hown (hts _ hw) hd (kk H locs ls hW hS hl)
theorem jj_iadd (F : jj_F X own cc rm) {a b : Int} (d : jj_D cc pc (.iadd) 1 nx) (kk : jj_J X G kc kn nx lv (.int (jI (a + b)) :: st)) : jj_J X G kc kn pc lv (.int (jI b) :: .int (jI a) :: st) := by
  obtain ⟨p, l, e, R, s, m, args, below, meth, c, nL, A, D, ac, Q⟩ := X
  obtain ⟨hx, hb, hml, hown, hR, hA, hE, hs, hk, hts, -⟩ := F
  obtain ⟨rfl, hd⟩ := d
  intro H locs ls hW hS hl
  refine lv_iadd hx hb hd ?_
  rw [jI_add]
  exact kk H locs ls hW hS hl
theorem jj_isub (F : jj_F X own cc rm) {a b : Int} (d : jj_D cc pc (.isub) 1 nx) (kk : jj_J X G kc kn nx lv (.int (jI (a - b)) :: st)) : jj_J X G kc kn pc lv (.int (jI b) :: .int (jI a) :: st) := by
  obtain ⟨p, l, e, R, s, m, args, below, meth, c, nL, A, D, ac, Q⟩ := X
  obtain ⟨hx, hb, hml, hown, hR, hA, hE, hs, hk, hts, -⟩ := F
  obtain ⟨rfl, hd⟩ := d
  intro H locs ls hW hS hl
  refine lv_isub hx hb hd ?_
  rw [jI_sub]
  exact kk H locs ls hW hS hl
theorem jj_imul (F : jj_F X own cc rm) {a b : Int} (d : jj_D cc pc (.imul) 1 nx) (kk : jj_J X G kc kn nx lv (.int (jI (a * b)) :: st)) : jj_J X G kc kn pc lv (.int (jI b) :: .int (jI a) :: st) := by
  obtain ⟨p, l, e, R, s, m, args, below, meth, c, nL, A, D, ac, Q⟩ := X
  obtain ⟨hx, hb, hml, hown, hR, hA, hE, hs, hk, hts, -⟩ := F
  obtain ⟨rfl, hd⟩ := d
  intro H locs ls hW hS hl
  refine lv_imul hx hb hd ?_
  rw [jI_mul]
  exact kk H locs ls hW hS hl
theorem jj_idiv (F : jj_F X own cc rm) {a b : Int} (h : 0 ≤ a ∧ a ≤ 2147483647 ∧ 0 < b ∧ b ≤ 2147483647) (d : jj_D cc pc (.idiv) 1 nx) (kk : jj_J X G kc kn nx lv (.int (jI (a / b)) :: st)) : jj_J X G kc kn pc lv (.int (jI b) :: .int (jI a) :: st) := by
  obtain ⟨p, l, e, R, s, m, args, below, meth, c, nL, A, D, ac, Q⟩ := X
  obtain ⟨hx, hb, hml, hown, hR, hA, hE, hs, hk, hts, -⟩ := F
  obtain ⟨rfl, hd⟩ := d
  intro H locs ls hW hS hl
  refine lv_idiv hx hb hd (fun q => ?_) ?_
  · rw [jI_0, jI_inj (by omega)] at q
    omega
  · rw [jI_div h]
    exact kk H locs ls hW hS hl
theorem jj_irem (F : jj_F X own cc rm) {a b : Int} (h : 0 ≤ a ∧ a ≤ 2147483647 ∧ 0 < b ∧ b ≤ 2147483647) (d : jj_D cc pc (.irem) 1 nx) (kk : jj_J X G kc kn nx lv (.int (jI (a % b)) :: st)) : jj_J X G kc kn pc lv (.int (jI b) :: .int (jI a) :: st) := by
  obtain ⟨p, l, e, R, s, m, args, below, meth, c, nL, A, D, ac, Q⟩ := X
  obtain ⟨hx, hb, hml, hown, hR, hA, hE, hs, hk, hts, -⟩ := F
  obtain ⟨rfl, hd⟩ := d
  intro H locs ls hW hS hl
  refine lv_irem hx hb hd (fun q => ?_) ?_
  · rw [jI_0, jI_inj (by omega)] at q
    omega
  · rw [jI_mod h]
    exact kk H locs ls hW hS hl
theorem jj_iand (F : jj_F X own cc rm) {x y : Int32} (d : jj_D cc pc (.iand) 1 nx) (kk : jj_J X G kc kn nx lv (.int (x &&& y) :: st)) : jj_J X G kc kn pc lv (.int y :: .int x :: st) := by
  obtain ⟨p, l, e, R, s, m, args, below, meth, c, nL, A, D, ac, Q⟩ := X
  obtain ⟨hx, hb, hml, hown, hR, hA, hE, hs, hk, hts, -⟩ := F
  obtain ⟨rfl, hd⟩ := d
  intro H locs ls hW hS hl
  exact lv_iand hx hb hd (kk H locs ls hW hS hl)
theorem jj_ior (F : jj_F X own cc rm) {x y : Int32} (d : jj_D cc pc (.ior) 1 nx) (kk : jj_J X G kc kn nx lv (.int (x ||| y) :: st)) : jj_J X G kc kn pc lv (.int y :: .int x :: st) := by
  obtain ⟨p, l, e, R, s, m, args, below, meth, c, nL, A, D, ac, Q⟩ := X
  obtain ⟨hx, hb, hml, hown, hR, hA, hE, hs, hk, hts, -⟩ := F
  obtain ⟨rfl, hd⟩ := d
  intro H locs ls hW hS hl
  exact lv_ior hx hb hd (kk H locs ls hW hS hl)
theorem jj_ixor (F : jj_F X own cc rm) {x y : Int32} (d : jj_D cc pc (.ixor) 1 nx) (kk : jj_J X G kc kn nx lv (.int (x ^^^ y) :: st)) : jj_J X G kc kn pc lv (.int y :: .int x :: st) := by
  obtain ⟨p, l, e, R, s, m, args, below, meth, c, nL, A, D, ac, Q⟩ := X
  obtain ⟨hx, hb, hml, hown, hR, hA, hE, hs, hk, hts, -⟩ := F
  obtain ⟨rfl, hd⟩ := d
  intro H locs ls hW hS hl
  exact lv_ixor hx hb hd (kk H locs ls hW hS hl)
theorem jj_ishl (F : jj_F X own cc rm) {x y : Int32} (d : jj_D cc pc (.ishl) 1 nx) (kk : jj_J X G kc kn nx lv (.int (x <<< (y &&& 31)) :: st)) : jj_J X G kc kn pc lv (.int y :: .int x :: st) := by
  obtain ⟨p, l, e, R, s, m, args, below, meth, c, nL, A, D, ac, Q⟩ := X
  obtain ⟨hx, hb, hml, hown, hR, hA, hE, hs, hk, hts, -⟩ := F
  obtain ⟨rfl, hd⟩ := d
  intro H locs ls hW hS hl
  exact lv_ishl hx hb hd (kk H locs ls hW hS hl)
theorem jj_ishr (F : jj_F X own cc rm) {x y : Int32} (d : jj_D cc pc (.ishr) 1 nx) (kk : jj_J X G kc kn nx lv (.int (x >>> (y &&& 31)) :: st)) : jj_J X G kc kn pc lv (.int y :: .int x :: st) := by
  obtain ⟨p, l, e, R, s, m, args, below, meth, c, nL, A, D, ac, Q⟩ := X
  obtain ⟨hx, hb, hml, hown, hR, hA, hE, hs, hk, hts, -⟩ := F
  obtain ⟨rfl, hd⟩ := d
  intro H locs ls hW hS hl
  exact lv_ishr hx hb hd (kk H locs ls hW hS hl)
theorem jj_i2l (F : jj_F X own cc rm) {a : Int} (h : -2147483648 ≤ a ∧ a ≤ 2147483647) (d : jj_D cc pc (.i2l) 1 nx) (kk : jj_J X G kc kn nx lv (.long (jL a) :: st)) : jj_J X G kc kn pc lv (.int (jI a) :: st) := by
  obtain ⟨p, l, e, R, s, m, args, below, meth, c, nL, A, D, ac, Q⟩ := X
  obtain ⟨hx, hb, hml, hown, hR, hA, hE, hs, hk, hts, -⟩ := F
  obtain ⟨rfl, hd⟩ := d
  intro H locs ls hW hS hl
  exact lv_i2l hx hb hd (jL_of_I h.1 h.2) (kk H locs ls hW hS hl)
theorem jj_i2lx (F : jj_F X own cc rm) {x : Int32} (d : jj_D cc pc (.i2l) 1 nx) (kk : jj_J X G kc kn nx lv (.long x.toInt64 :: st)) : jj_J X G kc kn pc lv (.int x :: st) := by
  obtain ⟨p, l, e, R, s, m, args, below, meth, c, nL, A, D, ac, Q⟩ := X
  obtain ⟨hx, hb, hml, hown, hR, hA, hE, hs, hk, hts, -⟩ := F
  obtain ⟨rfl, hd⟩ := d
  intro H locs ls hW hS hl
  exact lv_i2l hx hb hd rfl (kk H locs ls hW hS hl)
theorem jj_l2i (F : jj_F X own cc rm) {a : Int} (d : jj_D cc pc (.l2i) 1 nx) (kk : jj_J X G kc kn nx lv (.int (jI a) :: st)) : jj_J X G kc kn pc lv (.long (jL a) :: st) := by
  obtain ⟨p, l, e, R, s, m, args, below, meth, c, nL, A, D, ac, Q⟩ := X
  obtain ⟨hx, hb, hml, hown, hR, hA, hE, hs, hk, hts, -⟩ := F
  obtain ⟨rfl, hd⟩ := d
  intro H locs ls hW hS hl
  exact lv_l2i hx hb hd (jI_of_L a) (kk H locs ls hW hS hl)
theorem jj_lmul (F : jj_F X own cc rm) {a b : Int} (d : jj_D cc pc (.lmul) 1 nx) (kk : jj_J X G kc kn nx lv (.long (jL (a * b)) :: st)) : jj_J X G kc kn pc lv (.long (jL b) :: .long (jL a) :: st) := by
  obtain ⟨p, l, e, R, s, m, args, below, meth, c, nL, A, D, ac, Q⟩ := X
  obtain ⟨hx, hb, hml, hown, hR, hA, hE, hs, hk, hts, -⟩ := F
  obtain ⟨rfl, hd⟩ := d
  intro H locs ls hW hS hl
  refine lv_lmul hx hb hd ?_
  rw [jL_mul]
  exact kk H locs ls hW hS hl
theorem jj_ldiv (F : jj_F X own cc rm) {a b : Int} (h : 0 ≤ a ∧ a ≤ 9223372036854775807 ∧ 0 < b ∧ b ≤ 9223372036854775807) (d : jj_D cc pc (.ldiv) 1 nx) (kk : jj_J X G kc kn nx lv (.long (jL (a / b)) :: st)) : jj_J X G kc kn pc lv (.long (jL b) :: .long (jL a) :: st) := by
  obtain ⟨p, l, e, R, s, m, args, below, meth, c, nL, A, D, ac, Q⟩ := X
  obtain ⟨hx, hb, hml, hown, hR, hA, hE, hs, hk, hts, -⟩ := F
  obtain ⟨rfl, hd⟩ := d
  intro H locs ls hW hS hl
  refine lv_ldiv hx hb hd (fun q => ?_) ?_
  · rw [show (0 : Int64) = jL 0 by decide, jL_inj (by omega)] at q
    omega
  · rw [jL_div h]
    exact kk H locs ls hW hS hl
theorem jj_lcmp (F : jj_F X own cc rm) {x y : Int64} (d : jj_D cc pc (.lcmp) 1 nx) (kk : jj_J X G kc kn nx lv (.int (lg_cmp x y) :: st)) : jj_J X G kc kn pc lv (.long y :: .long x :: st) := by
  obtain ⟨p, l, e, R, s, m, args, below, meth, c, nL, A, D, ac, Q⟩ := X
  obtain ⟨hx, hb, hml, hown, hR, hA, hE, hs, hk, hts, -⟩ := F
  obtain ⟨rfl, hd⟩ := d
  intro H locs ls hW hS hl
  exact W.lcmp hx hb hd (kk H locs ls hW hS hl)
theorem jj_dup (F : jj_F X own cc rm) {v : Value} (hv : v.category = 1) (d : jj_D cc pc (.dup) 1 nx) (kk : jj_J X G kc kn nx lv (v :: v :: st)) : jj_J X G kc kn pc lv (v :: st) := by
  obtain ⟨p, l, e, R, s, m, args, below, meth, c, nL, A, D, ac, Q⟩ := X
  obtain ⟨hx, hb, hml, hown, hR, hA, hE, hs, hk, hts, -⟩ := F
  obtain ⟨rfl, hd⟩ := d
  intro H locs ls hW hS hl
  exact lv_dup hx hb hd hv (kk H locs ls hW hS hl)
theorem jj_dup2 (F : jj_F X own cc rm) {v w : Value} (hv : v.category = 1) (hw : w.category = 1) (d : jj_D cc pc (.dup2) 1 nx) (kk : jj_J X G kc kn nx lv (v :: w :: v :: w :: st)) : jj_J X G kc kn pc lv (v :: w :: st) := by
  obtain ⟨p, l, e, R, s, m, args, below, meth, c, nL, A, D, ac, Q⟩ := X
  obtain ⟨hx, hb, hml, hown, hR, hA, hE, hs, hk, hts, -⟩ := F
  obtain ⟨rfl, hd⟩ := d
  intro H locs ls hW hS hl
  exact lv_dup2_11 hx hb hd hv hw (kk H locs ls hW hS hl)
theorem jj_goto (F : jj_F X own cc rm) {off : Int} {tgt : Nat} (d : jj_D cc pc (.goto off) 3 nx) (ht : (pc : Int) + off = (tgt : Int)) (kk : jj_J X G kc kn tgt lv st) : jj_J X G kc kn pc lv st := by
  obtain ⟨p, l, e, R, s, m, args, below, meth, c, nL, A, D, ac, Q⟩ := X
  obtain ⟨hx, hb, hml, hown, hR, hA, hE, hs, hk, hts, -⟩ := F
  obtain ⟨rfl, hd⟩ := d
  intro H locs ls hW hS hl
  exact lv_goto hx hb hd ht (kk H locs ls hW hS hl)
theorem jj_icmp_eq (F : jj_F X own cc rm) {off : Int} {tgt : Nat} {a b : Int} (d : jj_D cc pc (.if_icmp .eq off) 3 nx) (ht : (pc : Int) + off = (tgt : Int)) (h : -2147483648 ≤ a ∧ a ≤ 2147483647 ∧ -2147483648 ≤ b ∧ b ≤ 2147483647) (kt : a = b → jj_J X G kc kn tgt lv st) (kf : ¬ a = b → jj_J X G kc kn nx lv st) : jj_J X G kc kn pc lv (.int (jI b) :: .int (jI a) :: st) := by
  obtain ⟨p, l, e, R, s, m, args, below, meth, c, nL, A, D, ac, Q⟩ := X
  obtain ⟨hx, hb, hml, hown, hR, hA, hE, hs, hk, hts, -⟩ := F
  obtain ⟨rfl, hd⟩ := d
  intro H locs ls hW hS hl
  have q1 := jI_inj h
  have q2 := jI_le h
  have q3 := jI_lt h
  have q4 := jI_le (a := b) (b := a) (by omega)
  have q5 := jI_lt (a := b) (b := a) (by omega)
  refine lv_icmp_eq hx hb hd ht (fun z => kt ?_ H locs ls hW hS hl) (fun z => kf ?_ H locs ls hW hS hl) <;> simp only [q1, q2, q3, q4, q5] at z <;> omega
theorem jj_if_eq (F : jj_F X own cc rm) {off : Int} {tgt : Nat} {a : Int} (d : jj_D cc pc (.ifCond .eq off) 3 nx) (ht : (pc : Int) + off = (tgt : Int)) (h : -2147483648 ≤ a ∧ a ≤ 2147483647) (kt : a = 0 → jj_J X G kc kn tgt lv st) (kf : ¬ a = 0 → jj_J X G kc kn nx lv st) : jj_J X G kc kn pc lv (.int (jI a) :: st) := by
  obtain ⟨p, l, e, R, s, m, args, below, meth, c, nL, A, D, ac, Q⟩ := X
  obtain ⟨hx, hb, hml, hown, hR, hA, hE, hs, hk, hts, -⟩ := F
  obtain ⟨rfl, hd⟩ := d
  intro H locs ls hW hS hl
  have q1 := jI_inj (a := a) (b := 0) (by omega)
  have q2 := jI_le (a := a) (b := 0) (by omega)
  have q3 := jI_lt (a := a) (b := 0) (by omega)
  have q4 := jI_le (a := 0) (b := a) (by omega)
  have q5 := jI_lt (a := 0) (b := a) (by omega)
  refine lv_if_eq hx hb hd ht (fun z => kt ?_ H locs ls hW hS hl) (fun z => kf ?_ H locs ls hW hS hl) <;> simp only [jI_0, q1, q2, q3, q4, q5] at z <;> omega
theorem jj_icmp_ne (F : jj_F X own cc rm) {off : Int} {tgt : Nat} {a b : Int} (d : jj_D cc pc (.if_icmp .ne off) 3 nx) (ht : (pc : Int) + off = (tgt : Int)) (h : -2147483648 ≤ a ∧ a ≤ 2147483647 ∧ -2147483648 ≤ b ∧ b ≤ 2147483647) (kt : ¬ a = b → jj_J X G kc kn tgt lv st) (kf : a = b → jj_J X G kc kn nx lv st) : jj_J X G kc kn pc lv (.int (jI b) :: .int (jI a) :: st) := by
  obtain ⟨p, l, e, R, s, m, args, below, meth, c, nL, A, D, ac, Q⟩ := X
  obtain ⟨hx, hb, hml, hown, hR, hA, hE, hs, hk, hts, -⟩ := F
  obtain ⟨rfl, hd⟩ := d
  intro H locs ls hW hS hl
  have q1 := jI_inj h
  have q2 := jI_le h
  have q3 := jI_lt h
  have q4 := jI_le (a := b) (b := a) (by omega)
  have q5 := jI_lt (a := b) (b := a) (by omega)
  refine lv_icmp_ne hx hb hd ht (fun z => kt ?_ H locs ls hW hS hl) (fun z => kf ?_ H locs ls hW hS hl) <;> simp only [q1, q2, q3, q4, q5] at z <;> omega
theorem jj_if_ne (F : jj_F X own cc rm) {off : Int} {tgt : Nat} {a : Int} (d : jj_D cc pc (.ifCond .ne off) 3 nx) (ht : (pc : Int) + off = (tgt : Int)) (h : -2147483648 ≤ a ∧ a ≤ 2147483647) (kt : ¬ a = 0 → jj_J X G kc kn tgt lv st) (kf : a = 0 → jj_J X G kc kn nx lv st) : jj_J X G kc kn pc lv (.int (jI a) :: st) := by
  obtain ⟨p, l, e, R, s, m, args, below, meth, c, nL, A, D, ac, Q⟩ := X
  obtain ⟨hx, hb, hml, hown, hR, hA, hE, hs, hk, hts, -⟩ := F
  obtain ⟨rfl, hd⟩ := d
  intro H locs ls hW hS hl
  have q1 := jI_inj (a := a) (b := 0) (by omega)
  have q2 := jI_le (a := a) (b := 0) (by omega)
  have q3 := jI_lt (a := a) (b := 0) (by omega)
  have q4 := jI_le (a := 0) (b := a) (by omega)
  have q5 := jI_lt (a := 0) (b := a) (by omega)
  refine lv_if_ne hx hb hd ht (fun z => kt ?_ H locs ls hW hS hl) (fun z => kf ?_ H locs ls hW hS hl) <;> simp only [jI_0, q1, q2, q3, q4, q5] at z <;> omega
theorem jj_icmp_lt (F : jj_F X own cc rm) {off : Int} {tgt : Nat} {a b : Int} (d : jj_D cc pc (.if_icmp .lt off) 3 nx) (ht : (pc : Int) + off = (tgt : Int)) (h : -2147483648 ≤ a ∧ a ≤ 2147483647 ∧ -2147483648 ≤ b ∧ b ≤ 2147483647) (kt : a < b → jj_J X G kc kn tgt lv st) (kf : b ≤ a → jj_J X G kc kn nx lv st) : jj_J X G kc kn pc lv (.int (jI b) :: .int (jI a) :: st) := by
  obtain ⟨p, l, e, R, s, m, args, below, meth, c, nL, A, D, ac, Q⟩ := X
  obtain ⟨hx, hb, hml, hown, hR, hA, hE, hs, hk, hts, -⟩ := F
  obtain ⟨rfl, hd⟩ := d
  intro H locs ls hW hS hl
  have q1 := jI_inj h
  have q2 := jI_le h
  have q3 := jI_lt h
  have q4 := jI_le (a := b) (b := a) (by omega)
  have q5 := jI_lt (a := b) (b := a) (by omega)
  refine lv_icmp_lt hx hb hd ht (fun z => kt ?_ H locs ls hW hS hl) (fun z => kf ?_ H locs ls hW hS hl) <;> simp only [q1, q2, q3, q4, q5] at z <;> omega
theorem jj_if_lt (F : jj_F X own cc rm) {off : Int} {tgt : Nat} {a : Int} (d : jj_D cc pc (.ifCond .lt off) 3 nx) (ht : (pc : Int) + off = (tgt : Int)) (h : -2147483648 ≤ a ∧ a ≤ 2147483647) (kt : a < 0 → jj_J X G kc kn tgt lv st) (kf : 0 ≤ a → jj_J X G kc kn nx lv st) : jj_J X G kc kn pc lv (.int (jI a) :: st) := by
  obtain ⟨p, l, e, R, s, m, args, below, meth, c, nL, A, D, ac, Q⟩ := X
  obtain ⟨hx, hb, hml, hown, hR, hA, hE, hs, hk, hts, -⟩ := F
  obtain ⟨rfl, hd⟩ := d
  intro H locs ls hW hS hl
  have q1 := jI_inj (a := a) (b := 0) (by omega)
  have q2 := jI_le (a := a) (b := 0) (by omega)
  have q3 := jI_lt (a := a) (b := 0) (by omega)
  have q4 := jI_le (a := 0) (b := a) (by omega)
  have q5 := jI_lt (a := 0) (b := a) (by omega)
  refine lv_if_lt hx hb hd ht (fun z => kt ?_ H locs ls hW hS hl) (fun z => kf ?_ H locs ls hW hS hl) <;> simp only [jI_0, q1, q2, q3, q4, q5] at z <;> omega
theorem jj_icmp_ge (F : jj_F X own cc rm) {off : Int} {tgt : Nat} {a b : Int} (d : jj_D cc pc (.if_icmp .ge off) 3 nx) (ht : (pc : Int) + off = (tgt : Int)) (h : -2147483648 ≤ a ∧ a ≤ 2147483647 ∧ -2147483648 ≤ b ∧ b ≤ 2147483647) (kt : b ≤ a → jj_J X G kc kn tgt lv st) (kf : a < b → jj_J X G kc kn nx lv st) : jj_J X G kc kn pc lv (.int (jI b) :: .int (jI a) :: st) := by
  obtain ⟨p, l, e, R, s, m, args, below, meth, c, nL, A, D, ac, Q⟩ := X
  obtain ⟨hx, hb, hml, hown, hR, hA, hE, hs, hk, hts, -⟩ := F
  obtain ⟨rfl, hd⟩ := d
  intro H locs ls hW hS hl
  have q1 := jI_inj h
  have q2 := jI_le h
  have q3 := jI_lt h
  have q4 := jI_le (a := b) (b := a) (by omega)
  have q5 := jI_lt (a := b) (b := a) (by omega)
  refine lv_icmp_ge hx hb hd ht (fun z => kt ?_ H locs ls hW hS hl) (fun z => kf ?_ H locs ls hW hS hl) <;> simp only [q1, q2, q3, q4, q5] at z <;> omega
theorem jj_if_ge (F : jj_F X own cc rm) {off : Int} {tgt : Nat} {a : Int} (d : jj_D cc pc (.ifCond .ge off) 3 nx) (ht : (pc : Int) + off = (tgt : Int)) (h : -2147483648 ≤ a ∧ a ≤ 2147483647) (kt : 0 ≤ a → jj_J X G kc kn tgt lv st) (kf : a < 0 → jj_J X G kc kn nx lv st) : jj_J X G kc kn pc lv (.int (jI a) :: st) := by
  obtain ⟨p, l, e, R, s, m, args, below, meth, c, nL, A, D, ac, Q⟩ := X
  obtain ⟨hx, hb, hml, hown, hR, hA, hE, hs, hk, hts, -⟩ := F
  obtain ⟨rfl, hd⟩ := d
  intro H locs ls hW hS hl
  have q1 := jI_inj (a := a) (b := 0) (by omega)
  have q2 := jI_le (a := a) (b := 0) (by omega)
  have q3 := jI_lt (a := a) (b := 0) (by omega)
  have q4 := jI_le (a := 0) (b := a) (by omega)
  have q5 := jI_lt (a := 0) (b := a) (by omega)
  refine lv_if_ge hx hb hd ht (fun z => kt ?_ H locs ls hW hS hl) (fun z => kf ?_ H locs ls hW hS hl) <;> simp only [jI_0, q1, q2, q3, q4, q5] at z <;> omega
theorem jj_icmp_gt (F : jj_F X own cc rm) {off : Int} {tgt : Nat} {a b : Int} (d : jj_D cc pc (.if_icmp .gt off) 3 nx) (ht : (pc : Int) + off = (tgt : Int)) (h : -2147483648 ≤ a ∧ a ≤ 2147483647 ∧ -2147483648 ≤ b ∧ b ≤ 2147483647) (kt : b < a → jj_J X G kc kn tgt lv st) (kf : a ≤ b → jj_J X G kc kn nx lv st) : jj_J X G kc kn pc lv (.int (jI b) :: .int (jI a) :: st) := by
  obtain ⟨p, l, e, R, s, m, args, below, meth, c, nL, A, D, ac, Q⟩ := X
  obtain ⟨hx, hb, hml, hown, hR, hA, hE, hs, hk, hts, -⟩ := F
  obtain ⟨rfl, hd⟩ := d
  intro H locs ls hW hS hl
  have q1 := jI_inj h
  have q2 := jI_le h
  have q3 := jI_lt h
  have q4 := jI_le (a := b) (b := a) (by omega)
  have q5 := jI_lt (a := b) (b := a) (by omega)
  refine lv_icmp_gt hx hb hd ht (fun z => kt ?_ H locs ls hW hS hl) (fun z => kf ?_ H locs ls hW hS hl) <;> simp only [q1, q2, q3, q4, q5] at z <;> omega
theorem jj_if_gt (F : jj_F X own cc rm) {off : Int} {tgt : Nat} {a : Int} (d : jj_D cc pc (.ifCond .gt off) 3 nx) (ht : (pc : Int) + off = (tgt : Int)) (h : -2147483648 ≤ a ∧ a ≤ 2147483647) (kt : 0 < a → jj_J X G kc kn tgt lv st) (kf : a ≤ 0 → jj_J X G kc kn nx lv st) : jj_J X G kc kn pc lv (.int (jI a) :: st) := by
  obtain ⟨p, l, e, R, s, m, args, below, meth, c, nL, A, D, ac, Q⟩ := X
  obtain ⟨hx, hb, hml, hown, hR, hA, hE, hs, hk, hts, -⟩ := F
  obtain ⟨rfl, hd⟩ := d
  intro H locs ls hW hS hl
  have q1 := jI_inj (a := a) (b := 0) (by omega)
  have q2 := jI_le (a := a) (b := 0) (by omega)
  have q3 := jI_lt (a := a) (b := 0) (by omega)
  have q4 := jI_le (a := 0) (b := a) (by omega)
  have q5 := jI_lt (a := 0) (b := a) (by omega)
  refine lv_if_gt hx hb hd ht (fun z => kt ?_ H locs ls hW hS hl) (fun z => kf ?_ H locs ls hW hS hl) <;> simp only [jI_0, q1, q2, q3, q4, q5] at z <;> omega
theorem jj_icmp_le (F : jj_F X own cc rm) {off : Int} {tgt : Nat} {a b : Int} (d : jj_D cc pc (.if_icmp .le off) 3 nx) (ht : (pc : Int) + off = (tgt : Int)) (h : -2147483648 ≤ a ∧ a ≤ 2147483647 ∧ -2147483648 ≤ b ∧ b ≤ 2147483647) (kt : a ≤ b → jj_J X G kc kn tgt lv st) (kf : b < a → jj_J X G kc kn nx lv st) : jj_J X G kc kn pc lv (.int (jI b) :: .int (jI a) :: st) := by
  obtain ⟨p, l, e, R, s, m, args, below, meth, c, nL, A, D, ac, Q⟩ := X
  obtain ⟨hx, hb, hml, hown, hR, hA, hE, hs, hk, hts, -⟩ := F
  obtain ⟨rfl, hd⟩ := d
  intro H locs ls hW hS hl
  have q1 := jI_inj h
  have q2 := jI_le h
  have q3 := jI_lt h
  have q4 := jI_le (a := b) (b := a) (by omega)
  have q5 := jI_lt (a := b) (b := a) (by omega)
  refine lv_icmp_le hx hb hd ht (fun z => kt ?_ H locs ls hW hS hl) (fun z => kf ?_ H locs ls hW hS hl) <;> simp only [q1, q2, q3, q4, q5] at z <;> omega
theorem jj_if_le (F : jj_F X own cc rm) {off : Int} {tgt : Nat} {a : Int} (d : jj_D cc pc (.ifCond .le off) 3 nx) (ht : (pc : Int) + off = (tgt : Int)) (h : -2147483648 ≤ a ∧ a ≤ 2147483647) (kt : a ≤ 0 → jj_J X G kc kn tgt lv st) (kf : 0 < a → jj_J X G kc kn nx lv st) : jj_J X G kc kn pc lv (.int (jI a) :: st) := by
  obtain ⟨p, l, e, R, s, m, args, below, meth, c, nL, A, D, ac, Q⟩ := X
  obtain ⟨hx, hb, hml, hown, hR, hA, hE, hs, hk, hts, -⟩ := F
  obtain ⟨rfl, hd⟩ := d
  intro H locs ls hW hS hl
  have q1 := jI_inj (a := a) (b := 0) (by omega)
  have q2 := jI_le (a := a) (b := 0) (by omega)
  have q3 := jI_lt (a := a) (b := 0) (by omega)
  have q4 := jI_le (a := 0) (b := a) (by omega)
  have q5 := jI_lt (a := 0) (b := a) (by omega)
  refine lv_if_le hx hb hd ht (fun z => kt ?_ H locs ls hW hS hl) (fun z => kf ?_ H locs ls hW hS hl) <;> simp only [jI_0, q1, q2, q3, q4, q5] at z <;> omega
theorem jj_icmpx_eq (F : jj_F X own cc rm) {off : Int} {tgt : Nat} {x y : Int32} (d : jj_D cc pc (.if_icmp .eq off) 3 nx) (ht : (pc : Int) + off = (tgt : Int)) (kt : x = y → jj_J X G kc kn tgt lv st) (kf : ¬ x = y → jj_J X G kc kn nx lv st) : jj_J X G kc kn pc lv (.int y :: .int x :: st) := by
  obtain ⟨p, l, e, R, s, m, args, below, meth, c, nL, A, D, ac, Q⟩ := X
  obtain ⟨hx, hb, hml, hown, hR, hA, hE, hs, hk, hts, -⟩ := F
  obtain ⟨rfl, hd⟩ := d
  intro H locs ls hW hS hl
  refine lv_icmp_eq hx hb hd ht (fun z => kt ?_ H locs ls hW hS hl) (fun z => kf ?_ H locs ls hW hS hl) <;> first | exact z | exact Decidable.not_not.mp z
theorem jj_ifx_eq (F : jj_F X own cc rm) {off : Int} {tgt : Nat} {x : Int32} (d : jj_D cc pc (.ifCond .eq off) 3 nx) (ht : (pc : Int) + off = (tgt : Int)) (kt : x = 0 → jj_J X G kc kn tgt lv st) (kf : ¬ x = 0 → jj_J X G kc kn nx lv st) : jj_J X G kc kn pc lv (.int x :: st) := by
  obtain ⟨p, l, e, R, s, m, args, below, meth, c, nL, A, D, ac, Q⟩ := X
  obtain ⟨hx, hb, hml, hown, hR, hA, hE, hs, hk, hts, -⟩ := F
  obtain ⟨rfl, hd⟩ := d
  intro H locs ls hW hS hl
  refine lv_if_eq hx hb hd ht (fun z => kt ?_ H locs ls hW hS hl) (fun z => kf ?_ H locs ls hW hS hl) <;> first | exact z | exact Decidable.not_not.mp z
theorem jj_icmpx_ne (F : jj_F X own cc rm) {off : Int} {tgt : Nat} {x y : Int32} (d : jj_D cc pc (.if_icmp .ne off) 3 nx) (ht : (pc : Int) + off = (tgt : Int)) (kt : ¬ x = y → jj_J X G kc kn tgt lv st) (kf : x = y → jj_J X G kc kn nx lv st) : jj_J X G kc kn pc lv (.int y :: .int x :: st) := by
  obtain ⟨p, l, e, R, s, m, args, below, meth, c, nL, A, D, ac, Q⟩ := X
  obtain ⟨hx, hb, hml, hown, hR, hA, hE, hs, hk, hts, -⟩ := F
  obtain ⟨rfl, hd⟩ := d
  intro H locs ls hW hS hl
  refine lv_icmp_ne hx hb hd ht (fun z => kt ?_ H locs ls hW hS hl) (fun z => kf ?_ H locs ls hW hS hl) <;> first | exact z | exact Decidable.not_not.mp z
theorem jj_ifx_ne (F : jj_F X own cc rm) {off : Int} {tgt : Nat} {x : Int32} (d : jj_D cc pc (.ifCond .ne off) 3 nx) (ht : (pc : Int) + off = (tgt : Int)) (kt : ¬ x = 0 → jj_J X G kc kn tgt lv st) (kf : x = 0 → jj_J X G kc kn nx lv st) : jj_J X G kc kn pc lv (.int x :: st) := by
  obtain ⟨p, l, e, R, s, m, args, below, meth, c, nL, A, D, ac, Q⟩ := X
  obtain ⟨hx, hb, hml, hown, hR, hA, hE, hs, hk, hts, -⟩ := F
  obtain ⟨rfl, hd⟩ := d
  intro H locs ls hW hS hl
  refine lv_if_ne hx hb hd ht (fun z => kt ?_ H locs ls hW hS hl) (fun z => kf ?_ H locs ls hW hS hl) <;> first | exact z | exact Decidable.not_not.mp z
theorem jj_ifx_gt (F : jj_F X own cc rm) {off : Int} {tgt : Nat} {x : Int32} (d : jj_D cc pc (.ifCond .gt off) 3 nx) (ht : (pc : Int) + off = (tgt : Int)) (kt : 0 < x → jj_J X G kc kn tgt lv st) (kf : ¬ 0 < x → jj_J X G kc kn nx lv st) : jj_J X G kc kn pc lv (.int x :: st) := by
  obtain ⟨p, l, e, R, s, m, args, below, meth, c, nL, A, D, ac, Q⟩ := X
  obtain ⟨hx, hb, hml, hown, hR, hA, hE, hs, hk, hts, -⟩ := F
  obtain ⟨rfl, hd⟩ := d
  intro H locs ls hW hS hl
  exact lv_if_gt hx hb hd ht (fun z => kt z H locs ls hW hS hl) (fun z => kf z H locs ls hW hS hl)
theorem jj_ifx_le (F : jj_F X own cc rm) {off : Int} {tgt : Nat} {x : Int32} (d : jj_D cc pc (.ifCond .le off) 3 nx) (ht : (pc : Int) + off = (tgt : Int)) (kt : x ≤ 0 → jj_J X G kc kn tgt lv st) (kf : ¬ x ≤ 0 → jj_J X G kc kn nx lv st) : jj_J X G kc kn pc lv (.int x :: st) := by
  obtain ⟨p, l, e, R, s, m, args, below, meth, c, nL, A, D, ac, Q⟩ := X
  obtain ⟨hx, hb, hml, hown, hR, hA, hE, hs, hk, hts, -⟩ := F
  obtain ⟨rfl, hd⟩ := d
  intro H locs ls hW hS hl
  exact lv_if_le hx hb hd ht (fun z => kt z H locs ls hW hS hl) (fun z => kf z H locs ls hW hS hl)
theorem jj_ifnull (F : jj_F X own cc rm) {off : Int} {tgt : Nat} {r : Option Nat} (d : jj_D cc pc (.ifnull off) 3 nx) (ht : (pc : Int) + off = (tgt : Int)) (kt : r = none → jj_J X G kc kn tgt lv st) (kf : ∀ a : Nat, r = some a → jj_J X G kc kn nx lv st) : jj_J X G kc kn pc lv (va_rf r :: st) := by
  obtain ⟨p, l, e, R, s, m, args, below, meth, c, nL, A, D, ac, Q⟩ := X
  obtain ⟨hx, hb, hml, hown, hR, hA, hE, hs, hk, hts, -⟩ := F
  obtain ⟨rfl, hd⟩ := d
  intro H locs ls hW hS hl
  cases r with
  | none => exact lv_ifnullN hx hb hd ht (kt rfl H locs ls hW hS hl)
  | some a => exact lv_ifnull hx hb hd (kf a rfl H locs ls hW hS hl)
theorem jj_ifnonnull (F : jj_F X own cc rm) {off : Int} {tgt : Nat} {r : Option Nat} (d : jj_D cc pc (.ifnonnull off) 3 nx) (ht : (pc : Int) + off = (tgt : Int)) (kt : ∀ a : Nat, r = some a → jj_J X G kc kn tgt lv st) (kf : r = none → jj_J X G kc kn nx lv st) : jj_J X G kc kn pc lv (va_rf r :: st) := by
  obtain ⟨p, l, e, R, s, m, args, below, meth, c, nL, A, D, ac, Q⟩ := X
  obtain ⟨hx, hb, hml, hown, hR, hA, hE, hs, hk, hts, -⟩ := F
  obtain ⟨rfl, hd⟩ := d
  intro H locs ls hW hS hl
  cases r with
  | none => exact lv_ifnonnullN hx hb hd (kf rfl H locs ls hW hS hl)
  | some a => exact lv_ifnonnull hx hb hd ht (kt a rfl H locs ls hW hS hl)
theorem jj_acmp_ne (F : jj_F X own cc rm) {off : Int} {tgt : Nat} {r1 r2 : Option Nat} (d : jj_D cc pc (.if_acmp .ne off) 3 nx) (ht : (pc : Int) + off = (tgt : Int)) (kt : ¬ r1 = r2 → jj_J X G kc kn tgt lv st) (kf : r1 = r2 → jj_J X G kc kn nx lv st) : jj_J X G kc kn pc lv (va_rf r2 :: va_rf r1 :: st) := by
  obtain ⟨p, l, e, R, s, m, args, below, meth, c, nL, A, D, ac, Q⟩ := X
  obtain ⟨hx, hb, hml, hown, hR, hA, hE, hs, hk, hts, -⟩ := F
  obtain ⟨rfl, hd⟩ := d
  intro H locs ls hW hS hl
  exact lv_acmp_ne hx hb hd ht (fun z => kt z H locs ls hW hS hl) (fun z => kf z H locs ls hW hS hl)
theorem jj_acmp_eq (F : jj_F X own cc rm) {off : Int} {tgt : Nat} {r1 r2 : Option Nat} (d : jj_D cc pc (.if_acmp .eq off) 3 nx) (ht : (pc : Int) + off = (tgt : Int)) (kt : r1 = r2 → jj_J X G kc kn tgt lv st) (kf : ¬ r1 = r2 → jj_J X G kc kn nx lv st) : jj_J X G kc kn pc lv (va_rf r2 :: va_rf r1 :: st) := by
  obtain ⟨p, l, e, R, s, m, args, below, meth, c, nL, A, D, ac, Q⟩ := X
  obtain ⟨hx, hb, hml, hown, hR, hA, hE, hs, hk, hts, -⟩ := F
  obtain ⟨rfl, hd⟩ := d
  intro H locs ls hW hS hl
  exact lv_acmp_eq hx hb hd ht (fun z => kt z H locs ls hW hS hl) (fun z => kf z H locs ls hW hS hl)
theorem jj_tableOut (F : jj_F X own cc rm) {dflt lo hi : Int} {offs : Array Int} {len tgt : Nat} {a : Int} (d : jj_D cc pc (.tableswitch dflt lo hi offs) len nx) (ht : (pc : Int) + dflt = (tgt : Int)) (h : -2147483648 ≤ a ∧ a ≤ 2147483647) (ho : a < lo ∨ hi < a) (kk : jj_J X G kc kn tgt lv st) : jj_J X G kc kn pc lv (.int (jI a) :: st) := by
  obtain ⟨p, l, e, R, s, m, args, below, meth, c, nL, A, D, ac, Q⟩ := X
  obtain ⟨hx, hb, hml, hown, hR, hA, hE, hs, hk, hts, -⟩ := F
  obtain ⟨rfl, hd⟩ := d
  intro H locs ls hW hS hl
  exact lv_tableOut hx hb hd (by rw [jI_toInt h.1 h.2]; exact ho) ht (kk H locs ls hW hS hl)
theorem jj_tableIn (F : jj_F X own cc rm) {dflt lo hi : Int} {offs : Array Int} {len tgt : Nat} {a off : Int} (d : jj_D cc pc (.tableswitch dflt lo hi offs) len nx) (h : -2147483648 ≤ a ∧ a ≤ 2147483647) (h1 : lo ≤ a ∧ a ≤ hi) (ho : offs[(a - lo).toNat]? = some off) (ht : (pc : Int) + off = (tgt : Int)) (kk : jj_J X G kc kn tgt lv st) : jj_J X G kc kn pc lv (.int (jI a) :: st) := by
  obtain ⟨p, l, e, R, s, m, args, below, meth, c, nL, A, D, ac, Q⟩ := X
  obtain ⟨hx, hb, hml, hown, hR, hA, hE, hs, hk, hts, -⟩ := F
  obtain ⟨rfl, hd⟩ := d
  intro H locs ls hW hS hl
  exact lv_tableIn hx hb hd (by rw [jI_toInt h.1 h.2]; omega) (by rw [jI_toInt h.1 h.2]; omega) (by rw [jI_toInt h.1 h.2]; exact ho) ht (kk H locs ls hW hS hl)
/-- the value on top, said otherwise -/
theorem jj_top {v w : Value} (h : v = w) (kk : jj_J X G kc kn pc lv (w :: st)) : jj_J X G kc kn pc lv (v :: st) := by rw [h]; exact kk
theorem jj_topi {x : Int32} {a : Int} (h : x = jI a) (kk : jj_J X G kc kn pc lv (.int (jI a) :: st)) : jj_J X G kc kn pc lv (.int x :: st) := by rw [h]; exact kk
theorem jj_eqi {a b : Int} (h : a = b) (kk : jj_J X G kc kn pc lv (.int (jI b) :: st)) : jj_J X G kc kn pc lv (.int (jI a) :: st) := by rw [h]; exact kk
theorem jj_namei {a : Int} (kk : ∀ b : Int, b = a → jj_J X G kc kn pc lv (.int (jI b) :: st)) : jj_J X G kc kn pc lv (.int (jI a) :: st) := kk a rfl
theorem jj_wide {k n : Nat} (h : kc ≤ k ∧ kn ≤ n) (kk : jj_J X G k n pc lv st) : jj_J X G kc kn pc lv st := by
  obtain ⟨p, l, e, R, s, m, args, below, meth, c, nL, A, D, ac, Q⟩ := X
  intro H locs ls hW hS hl
  exact W.widen h.1 h.2 (kk H locs ls hW hS hl)
/-- fewer locals known -/
theorem jj_less {lv' : List (Option Value)} (h : ∀ (i : Nat) (v : Value), lv'[i]? = some (some v) → lv[i]? = some (some v)) (kk : jj_J X G kc kn pc lv' st) : jj_J X G kc kn pc lv st := by
  obtain ⟨p, l, e, R, s, m, args, below, meth, c, nL, A, D, ac, Q⟩ := X
  intro H locs ls hW hS hl
  exact kk H locs ls hW hS ⟨hl.1, hl.2.1, fun i v hv => hl.2.2 i v (h i v hv)⟩

theorem jj_iloadA (F : jj_F X own cc rm) {k : Fin 4} {x : Int32} (d : jj_D cc pc (.iload_n k) 1 nx) (hv : lv[((k : Fin 4) : Nat)]? = some (some (.int x))) (kk : jj_J X G kc kn nx lv (.int x :: st)) : jj_J X G kc kn pc lv st := by
  obtain ⟨p, l, e, R, s, m, args, below, meth, c, nL, A, D, ac, Q⟩ := X
  obtain ⟨hx, hb, hml, hown, hR, hA, hE, hs, hk, hts, -⟩ := F
  obtain ⟨rfl, hd⟩ := d
  intro H locs ls hW hS hl
  exact lv_iload_n hx hb hd rfl (hl.2.2 _ _ hv) (kk H locs ls hW hS hl)
theorem jj_iloadB (F : jj_F X own cc rm) {i : Nat} {x : Int32} (d : jj_D cc pc (.iload i) 2 nx) (hv : lv[i]? = some (some (.int x))) (kk : jj_J X G kc kn nx lv (.int x :: st)) : jj_J X G kc kn pc lv st := by
  obtain ⟨p, l, e, R, s, m, args, below, meth, c, nL, A, D, ac, Q⟩ := X
  obtain ⟨hx, hb, hml, hown, hR, hA, hE, hs, hk, hts, -⟩ := F
  obtain ⟨rfl, hd⟩ := d
  intro H locs ls hW hS hl
  exact lv_iload hx hb hd (hl.2.2 _ _ hv) (kk H locs ls hW hS hl)
theorem jj_lloadA (F : jj_F X own cc rm) {k : Fin 4} {x : Int64} (d : jj_D cc pc (.lload_n k) 1 nx) (hv : lv[((k : Fin 4) : Nat)]? = some (some (.long x))) (kk : jj_J X G kc kn nx lv (.long x :: st)) : jj_J X G kc kn pc lv st := by
  obtain ⟨p, l, e, R, s, m, args, below, meth, c, nL, A, D, ac, Q⟩ := X
  obtain ⟨hx, hb, hml, hown, hR, hA, hE, hs, hk, hts, -⟩ := F
  obtain ⟨rfl, hd⟩ := d
  intro H locs ls hW hS hl
  exact lv_lload_n hx hb hd rfl (hl.2.2 _ _ hv) (kk H locs ls hW hS hl)
theorem jj_lloadB (F : jj_F X own cc rm) {i : Nat} {x : Int64} (d : jj_D cc pc (.lload i) 2 nx) (hv : lv[i]? = some (some (.long x))) (kk : jj_J X G kc kn nx lv (.long x :: st)) : jj_J X G kc kn pc lv st := by
  obtain ⟨p, l, e, R, s, m, args, below, meth, c, nL, A, D, ac, Q⟩ := X
  obtain ⟨hx, hb, hml, hown, hR, hA, hE, hs, hk, hts, -⟩ := F
  obtain ⟨rfl, hd⟩ := d
  intro H locs ls hW hS hl
  exact lv_lload hx hb hd (hl.2.2 _ _ hv) (kk H locs ls hW hS hl)
theorem jj_aloadA (F : jj_F X own cc rm) {k : Fin 4} {x : Nat} (d : jj_D cc pc (.aload_n k) 1 nx) (hv : lv[((k : Fin 4) : Nat)]? = some (some (.ref x))) (kk : jj_J X G kc kn nx lv (.ref x :: st)) : jj_J X G kc kn pc lv st := by
  obtain ⟨p, l, e, R, s, m, args, below, meth, c, nL, A, D, ac, Q⟩ := X
  obtain ⟨hx, hb, hml, hown, hR, hA, hE, hs, hk, hts, -⟩ := F
  obtain ⟨rfl, hd⟩ := d
  intro H locs ls hW hS hl
  exact lv_aload_n hx hb hd rfl (hl.2.2 _ _ hv) (kk H locs ls hW hS hl)
theorem jj_aloadB (F : jj_F X own cc rm) {i : Nat} {x : Nat} (d : jj_D cc pc (.aload i) 2 nx) (hv : lv[i]? = some (some (.ref x))) (kk : jj_J X G kc kn nx lv (.ref x :: st)) : jj_J X G kc kn pc lv st := by
  obtain ⟨p, l, e, R, s, m, args, below, meth, c, nL, A, D, ac, Q⟩ := X
  obtain ⟨hx, hb, hml, hown, hR, hA, hE, hs, hk, hts, -⟩ := F
  obtain ⟨rfl, hd⟩ := d
  intro H locs ls hW hS hl
  exact lv_aload hx hb hd (hl.2.2 _ _ hv) (kk H locs ls hW hS hl)
theorem jj_nloadA (F : jj_F X own cc rm) {k : Fin 4}  (d : jj_D cc pc (.aload_n k) 1 nx) (hv : lv[((k : Fin 4) : Nat)]? = some (some (.null))) (kk : jj_J X G kc kn nx lv (.null :: st)) : jj_J X G kc kn pc lv st := by
  obtain ⟨p, l, e, R, s, m, args, below, meth, c, nL, A, D, ac, Q⟩ := X
  obtain ⟨hx, hb, hml, hown, hR, hA, hE, hs, hk, hts, -⟩ := F
  obtain ⟨rfl, hd⟩ := d
  intro H locs ls hW hS hl
  exact lv_aload_nN hx hb hd rfl (hl.2.2 _ _ hv) (kk H locs ls hW hS hl)
theorem jj_nloadB (F : jj_F X own cc rm) {i : Nat}  (d : jj_D cc pc (.aload i) 2 nx) (hv : lv[i]? = some (some (.null))) (kk : jj_J X G kc kn nx lv (.null :: st)) : jj_J X G kc kn pc lv st := by
  obtain ⟨p, l, e, R, s, m, args, below, meth, c, nL, A, D, ac, Q⟩ := X
  obtain ⟨hx, hb, hml, hown, hR, hA, hE, hs, hk, hts, -⟩ := F
  obtain ⟨rfl, hd⟩ := d
  intro H locs ls hW hS hl
  exact lv_aloadN hx hb hd (hl.2.2 _ _ hv) (kk H locs ls hW hS hl)
theorem jj_qloadA (F : jj_F X own cc rm) {k : Fin 4} {r : Option Nat} (d : jj_D cc pc (.aload_n k) 1 nx) (hv : lv[((k : Fin 4) : Nat)]? = some (some (va_rf r))) (kk : jj_J X G kc kn nx lv (va_rf r :: st)) : jj_J X G kc kn pc lv st := by
  cases r with
  | none => exact jj_nloadA F d hv kk
  | some a => exact jj_aloadA F d hv kk
theorem jj_qloadB (F : jj_F X own cc rm) {i : Nat} {r : Option Nat} (d : jj_D cc pc (.aload i) 2 nx) (hv : lv[i]? = some (some (va_rf r))) (kk : jj_J X G kc kn nx lv (va_rf r :: st)) : jj_J X G kc kn pc lv st := by
  cases r with
  | none => exact jj_nloadB F d hv kk
  | some a => exact jj_aloadB F d hv kk
theorem jj_istoreA (F : jj_F X own cc rm) {k : Fin 4} {x : Int32} (d : jj_D cc pc (.istore_n k) 1 nx) (hn : ((k : Fin 4) : Nat) < jj_nL X) (hc : jj_nc lv ((k : Fin 4) : Nat) = true) (kk : jj_J X G kc kn nx (lv.set ((k : Fin 4) : Nat) (some (.int x))) st) : jj_J X G kc kn pc lv (.int x :: st) := by
  obtain ⟨p, l, e, R, s, m, args, below, meth, c, nL, A, D, ac, Q⟩ := X
  obtain ⟨hx, hb, hml, hown, hR, hA, hE, hs, hk, hts, -⟩ := F
  obtain ⟨rfl, hd⟩ := d
  intro H locs ls hW hS hl
  exact lv_istore_n hx hb hd rfl hl.has hn rfl (fun ls' hl' => kk H locs ls' hW hS (jj_l.set1 hl' hc))
theorem jj_istoreB (F : jj_F X own cc rm) {i : Nat} {x : Int32} (d : jj_D cc pc (.istore i) 2 nx) (hn : i < jj_nL X) (hc : jj_nc lv i = true) (kk : jj_J X G kc kn nx (lv.set i (some (.int x))) st) : jj_J X G kc kn pc lv (.int x :: st) := by
  obtain ⟨p, l, e, R, s, m, args, below, meth, c, nL, A, D, ac, Q⟩ := X
  obtain ⟨hx, hb, hml, hown, hR, hA, hE, hs, hk, hts, -⟩ := F
  obtain ⟨rfl, hd⟩ := d
  intro H locs ls hW hS hl
  exact lv_istore hx hb hd hl.has hn rfl (fun ls' hl' => kk H locs ls' hW hS (jj_l.set1 hl' hc))
theorem jj_astoreA (F : jj_F X own cc rm) {k : Fin 4} {x : Nat} (d : jj_D cc pc (.astore_n k) 1 nx) (hn : ((k : Fin 4) : Nat) < jj_nL X) (hc : jj_nc lv ((k : Fin 4) : Nat) = true) (kk : jj_J X G kc kn nx (lv.set ((k : Fin 4) : Nat) (some (.ref x))) st) : jj_J X G kc kn pc lv (.ref x :: st) := by
  obtain ⟨p, l, e, R, s, m, args, below, meth, c, nL, A, D, ac, Q⟩ := X
  obtain ⟨hx, hb, hml, hown, hR, hA, hE, hs, hk, hts, -⟩ := F
  obtain ⟨rfl, hd⟩ := d
  intro H locs ls hW hS hl
  exact lv_astore_n hx hb hd rfl hl.has hn rfl (fun ls' hl' => kk H locs ls' hW hS (jj_l.set1 hl' hc))
theorem jj_astoreB (F : jj_F X own cc rm) {i : Nat} {x : Nat} (d : jj_D cc pc (.astore i) 2 nx) (hn : i < jj_nL X) (hc : jj_nc lv i = true) (kk : jj_J X G kc kn nx (lv.set i (some (.ref x))) st) : jj_J X G kc kn pc lv (.ref x :: st) := by
  obtain ⟨p, l, e, R, s, m, args, below, meth, c, nL, A, D, ac, Q⟩ := X
  obtain ⟨hx, hb, hml, hown, hR, hA, hE, hs, hk, hts, -⟩ := F
  obtain ⟨rfl, hd⟩ := d
  intro H locs ls hW hS hl
  exact lv_astore hx hb hd hl.has hn rfl (fun ls' hl' => kk H locs ls' hW hS (jj_l.set1 hl' hc))
theorem jj_nstoreA (F : jj_F X own cc rm) {k : Fin 4}  (d : jj_D cc pc (.astore_n k) 1 nx) (hn : ((k : Fin 4) : Nat) < jj_nL X) (hc : jj_nc lv ((k : Fin 4) : Nat) = true) (kk : jj_J X G kc kn nx (lv.set ((k : Fin 4) : Nat) (some (.null))) st) : jj_J X G kc kn pc lv (.null :: st) := by
  obtain ⟨p, l, e, R, s, m, args, below, meth, c, nL, A, D, ac, Q⟩ := X
  obtain ⟨hx, hb, hml, hown, hR, hA, hE, hs, hk, hts, -⟩ := F
  obtain ⟨rfl, hd⟩ := d
  intro H locs ls hW hS hl
  exact lv_astore_nN hx hb hd rfl hl.has hn rfl (fun ls' hl' => kk H locs ls' hW hS (jj_l.set1 hl' hc))
theorem jj_nstoreB (F : jj_F X own cc rm) {i : Nat}  (d : jj_D cc pc (.astore i) 2 nx) (hn : i < jj_nL X) (hc : jj_nc lv i = true) (kk : jj_J X G kc kn nx (lv.set i (some (.null))) st) : jj_J X G kc kn pc lv (.null :: st) := by
  obtain ⟨p, l, e, R, s, m, args, below, meth, c, nL, A, D, ac, Q⟩ := X
  obtain ⟨hx, hb, hml, hown, hR, hA, hE, hs, hk, hts, -⟩ := F
  obtain ⟨rfl, hd⟩ := d
  intro H locs ls hW hS hl
  exact lv_astoreN hx hb hd hl.has hn rfl (fun ls' hl' => kk H locs ls' hW hS (jj_l.set1 hl' hc))
theorem jj_lstoreA (F : jj_F X own cc rm) {k : Fin 4} {x : Int64} (d : jj_D cc pc (.lstore_n k) 1 nx) (hn : ((k : Fin 4) : Nat) + 1 < jj_nL X) (hc : jj_nc lv ((k : Fin 4) : Nat) = true) (kk : jj_J X G kc kn nx ((lv.set ((k : Fin 4) : Nat) (some (.long x))).set (((k : Fin 4) : Nat) + 1) none) st) : jj_J X G kc kn pc lv (.long x :: st) := by
  obtain ⟨p, l, e, R, s, m, args, below, meth, c, nL, A, D, ac, Q⟩ := X
  obtain ⟨hx, hb, hml, hown, hR, hA, hE, hs, hk, hts, -⟩ := F
  obtain ⟨rfl, hd⟩ := d
  intro H locs ls hW hS hl
  exact lv_lstore_n hx hb hd rfl hl.has hn rfl (fun ls' hl' => kk H locs ls' hW hS (jj_l.set2 hl' hc))
theorem jj_lstoreB (F : jj_F X own cc rm) {i : Nat} {x : Int64} (d : jj_D cc pc (.lstore i) 2 nx) (hn : i + 1 < jj_nL X) (hc : jj_nc lv i = true) (kk : jj_J X G kc kn nx ((lv.set i (some (.long x))).set (i + 1) none) st) : jj_J X G kc kn pc lv (.long x :: st) := by
  obtain ⟨p, l, e, R, s, m, args, below, meth, c, nL, A, D, ac, Q⟩ := X
  obtain ⟨hx, hb, hml, hown, hR, hA, hE, hs, hk, hts, -⟩ := F
  obtain ⟨rfl, hd⟩ := d
  intro H locs ls hW hS hl
  exact lv_lstore hx hb hd hl.has hn rfl (fun ls' hl' => kk H locs ls' hW hS (jj_l.set2 hl' hc))
theorem jj_iinc (F : jj_F X own cc rm) {i : Nat} {n a : Int} (d : jj_D cc pc (.iinc i n) 3 nx) (hv : lv[i]? = some (some (.int (jI a)))) (hn : i < jj_nL X) (hc : jj_nc lv i = true) (kk : jj_J X G kc kn nx (lv.set i (some (.int (jI (a + n))))) st) : jj_J X G kc kn pc lv st := by
  obtain ⟨p, l, e, R, s, m, args, below, meth, c, nL, A, D, ac, Q⟩ := X
  obtain ⟨hx, hb, hml, hown, hR, hA, hE, hs, hk, hts, -⟩ := F
  obtain ⟨rfl, hd⟩ := d
  intro H locs ls hW hS hl
  obtain ⟨k, hk⟩ := List.getElem?_of_mem ((jj_p_iff lv 0 i _).mpr ⟨i, by omega, hv⟩)
  exact lv_iinc (v := jI (a + n)) hx hb hd hl.has hk (jI_add a n) hn rfl (fun ls' hl' => kk H locs ls' hW hS (jj_l.set1 hl' hc))
theorem jj_iload0 (F : jj_F X own cc rm) {x : Int32} (d : jj_D cc pc (.iload_n 0) 1 nx) (kk : jj_J X G kc kn nx (some (.int x) :: lr) (.int x :: st)) : jj_J X G kc kn pc (some (.int x) :: lr) st := jj_iloadA F d rfl kk
theorem jj_aload0 (F : jj_F X own cc rm) {x : Nat} (d : jj_D cc pc (.aload_n 0) 1 nx) (kk : jj_J X G kc kn nx (some (.ref x) :: lr) (.ref x :: st)) : jj_J X G kc kn pc (some (.ref x) :: lr) st := jj_aloadA F d rfl kk
theorem jj_nload0 (F : jj_F X own cc rm)  (d : jj_D cc pc (.aload_n 0) 1 nx) (kk : jj_J X G kc kn nx (some (.null) :: lr) (.null :: st)) : jj_J X G kc kn pc (some (.null) :: lr) st := jj_nloadA F d rfl kk
theorem jj_qload0 (F : jj_F X own cc rm) {r : Option Nat} (d : jj_D cc pc (.aload_n 0) 1 nx) (kk : jj_J X G kc kn nx (some (va_rf r) :: lr) (va_rf r :: st)) : jj_J X G kc kn pc (some (va_rf r) :: lr) st := jj_qloadA F d rfl kk
theorem jj_lload0 (F : jj_F X own cc rm) {x : Int64} (d : jj_D cc pc (.lload_n 0) 1 nx) (kk : jj_J X G kc kn nx (some (.long x) :: lr) (.long x :: st)) : jj_J X G kc kn pc (some (.long x) :: lr) st := jj_lloadA F d rfl kk
theorem jj_istore0 (F : jj_F X own cc rm) {x : Int32} {x0 : Option Value} (d : jj_D cc pc (.istore_n 0) 1 nx) (hn : 0 < jj_nL X) (kk : jj_J X G kc kn nx (some (.int x) :: lr) st) : jj_J X G kc kn pc (x0 :: lr) (.int x :: st) := jj_istoreA F d hn rfl kk
theorem jj_astore0 (F : jj_F X own cc rm) {x : Nat} {x0 : Option Value} (d : jj_D cc pc (.astore_n 0) 1 nx) (hn : 0 < jj_nL X) (kk : jj_J X G kc kn nx (some (.ref x) :: lr) st) : jj_J X G kc kn pc (x0 :: lr) (.ref x :: st) := jj_astoreA F d hn rfl kk
theorem jj_nstore0 (F : jj_F X own cc rm)  {x0 : Option Value} (d : jj_D cc pc (.astore_n 0) 1 nx) (hn : 0 < jj_nL X) (kk : jj_J X G kc kn nx (some (.null) :: lr) st) : jj_J X G kc kn pc (x0 :: lr) (.null :: st) := jj_nstoreA F d hn rfl kk
theorem jj_qstore0 (F : jj_F X own cc rm) {r : Option Nat} {x0 : Option Value} (d : jj_D cc pc (.astore_n 0) 1 nx) (hn : 0 < jj_nL X) (kk : jj_J X G kc kn nx (some (va_rf r) :: lr) st) : jj_J X G kc kn pc (x0 :: lr) (va_rf r :: st) := by
  cases r with
  | none => exact jj_nstore0 F d hn  kk
  | some a => exact jj_astore0 F d hn  kk
theorem jj_iinc0 (F : jj_F X own cc rm) {n a : Int} (d : jj_D cc pc (.iinc 0 n) 3 nx) (hn : 0 < jj_nL X) (kk : jj_J X G kc kn nx (some (.int (jI (a + n))) :: lr) st) : jj_J X G kc kn pc (some (.int (jI a)) :: lr) st := jj_iinc F d rfl hn rfl kk
theorem jj_iload1 (F : jj_F X own cc rm) {x : Int32} {x0 : Option Value} (d : jj_D cc pc (.iload_n 1) 1 nx) (kk : jj_J X G kc kn nx (x0 :: some (.int x) :: lr) (.int x :: st)) : jj_J X G kc kn pc (x0 :: some (.int x) :: lr) st := jj_iloadA F d rfl kk
theorem jj_aload1 (F : jj_F X own cc rm) {x : Nat} {x0 : Option Value} (d : jj_D cc pc (.aload_n 1) 1 nx) (kk : jj_J X G kc kn nx (x0 :: some (.ref x) :: lr) (.ref x :: st)) : jj_J X G kc kn pc (x0 :: some (.ref x) :: lr) st := jj_aloadA F d rfl kk
theorem jj_nload1 (F : jj_F X own cc rm)  {x0 : Option Value} (d : jj_D cc pc (.aload_n 1) 1 nx) (kk : jj_J X G kc kn nx (x0 :: some (.null) :: lr) (.null :: st)) : jj_J X G kc kn pc (x0 :: some (.null) :: lr) st := jj_nloadA F d rfl kk
theorem jj_qload1 (F : jj_F X own cc rm) {r : Option Nat} {x0 : Option Value} (d : jj_D cc pc (.aload_n 1) 1 nx) (kk : jj_J X G kc kn nx (x0 :: some (va_rf r) :: lr) (va_rf r :: st)) : jj_J X G kc kn pc (x0 :: some (va_rf r) :: lr) st := jj_qloadA F d rfl kk
theorem jj_lload1 (F : jj_F X own cc rm) {x : Int64} {x0 : Option Value} (d : jj_D cc pc (.lload_n 1) 1 nx) (kk : jj_J X G kc kn nx (x0 :: some (.long x) :: lr) (.long x :: st)) : jj_J X G kc kn pc (x0 :: some (.long x) :: lr) st := jj_lloadA F d rfl kk
theorem jj_istore1 (F : jj_F X own cc rm) {x : Int32} {x0 x1 : Option Value} (d : jj_D cc pc (.istore_n 1) 1 nx) (hn : 1 < jj_nL X) (hc : jj_ncv x0 = true) (kk : jj_J X G kc kn nx (x0 :: some (.int x) :: lr) st) : jj_J X G kc kn pc (x0 :: x1 :: lr) (.int x :: st) := jj_istoreA F d hn (by cases x0 <;> first | rfl | exact hc) kk
theorem jj_astore1 (F : jj_F X own cc rm) {x : Nat} {x0 x1 : Option Value} (d : jj_D cc pc (.astore_n 1) 1 nx) (hn : 1 < jj_nL X) (hc : jj_ncv x0 = true) (kk : jj_J X G kc kn nx (x0 :: some (.ref x) :: lr) st) : jj_J X G kc kn pc (x0 :: x1 :: lr) (.ref x :: st) := jj_astoreA F d hn (by cases x0 <;> first | rfl | exact hc) kk
theorem jj_nstore1 (F : jj_F X own cc rm)  {x0 x1 : Option Value} (d : jj_D cc pc (.astore_n 1) 1 nx) (hn : 1 < jj_nL X) (hc : jj_ncv x0 = true) (kk : jj_J X G kc kn nx (x0 :: some (.null) :: lr) st) : jj_J X G kc kn pc (x0 :: x1 :: lr) (.null :: st) := jj_nstoreA F d hn (by cases x0 <;> first | rfl | exact hc) kk
theorem jj_qstore1 (F : jj_F X own cc rm) {r : Option Nat} {x0 x1 : Option Value} (d : jj_D cc pc (.astore_n 1) 1 nx) (hn : 1 < jj_nL X) (hc : jj_ncv x0 = true) (kk : jj_J X G kc kn nx (x0 :: some (va_rf r) :: lr) st) : jj_J X G kc kn pc (x0 :: x1 :: lr) (va_rf r :: st) := by
  cases r with
  | none => exact jj_nstore1 F d hn hc kk
  | some a => exact jj_astore1 F d hn hc kk
theorem jj_iinc1 (F : jj_F X own cc rm) {n a : Int} {x0 : Option Value} (d : jj_D cc pc (.iinc 1 n) 3 nx) (hn : 1 < jj_nL X) (hc : jj_ncv x0 = true) (kk : jj_J X G kc kn nx (x0 :: some (.int (jI (a + n))) :: lr) st) : jj_J X G kc kn pc (x0 :: some (.int (jI a)) :: lr) st := jj_iinc F d rfl hn (by cases x0 <;> first | rfl | exact hc) kk
theorem jj_iload2 (F : jj_F X own cc rm) {x : Int32} {x0 x1 : Option Value} (d : jj_D cc pc (.iload_n 2) 1 nx) (kk : jj_J X G kc kn nx (x0 :: x1 :: some (.int x) :: lr) (.int x :: st)) : jj_J X G kc kn pc (x0 :: x1 :: some (.int x) :: lr) st := jj_iloadA F d rfl kk
theorem jj_aload2 (F : jj_F X own cc rm) {x : Nat} {x0 x1 : Option Value} (d : jj_D cc pc (.aload_n 2) 1 nx) (kk : jj_J X G kc kn nx (x0 :: x1 :: some (.ref x) :: lr) (.ref x :: st)) : jj_J X G kc kn pc (x0 :: x1 :: some (.ref x) :: lr) st := jj_aloadA F d rfl kk
theorem jj_nload2 (F : jj_F X own cc rm)  {x0 x1 : Option Value} (d : jj_D cc pc (.aload_n 2) 1 nx) (kk : jj_J X G kc kn nx (x0 :: x1 :: some (.null) :: lr) (.null :: st)) : jj_J X G kc kn pc (x0 :: x1 :: some (.null) :: lr) st := jj_nloadA F d rfl kk
theorem jj_qload2 (F : jj_F X own cc rm) {r : Option Nat} {x0 x1 : Option Value} (d : jj_D cc pc (.aload_n 2) 1 nx) (kk : jj_J X G kc kn nx (x0 :: x1 :: some (va_rf r) :: lr) (va_rf r :: st)) : jj_J X G kc kn pc (x0 :: x1 :: some (va_rf r) :: lr) st := jj_qloadA F d rfl kk
theorem jj_lload2 (F : jj_F X own cc rm) {x : Int64} {x0 x1 : Option Value} (d : jj_D cc pc (.lload_n 2) 1 nx) (kk : jj_J X G kc kn nx (x0 :: x1 :: some (.long x) :: lr) (.long x :: st)) : jj_J X G kc kn pc (x0 :: x1 :: some (.long x) :: lr) st := jj_lloadA F d rfl kk
theorem jj_istore2 (F : jj_F X own cc rm) {x : Int32} {x0 x1 x2 : Option Value} (d : jj_D cc pc (.istore_n 2) 1 nx) (hn : 2 < jj_nL X) (hc : jj_ncv x1 = true) (kk : jj_J X G kc kn nx (x0 :: x1 :: some (.int x) :: lr) st) : jj_J X G kc kn pc (x0 :: x1 :: x2 :: lr) (.int x :: st) := jj_istoreA F d hn (by cases x1 <;> first | rfl | exact hc) kk
theorem jj_astore2 (F : jj_F X own cc rm) {x : Nat} {x0 x1 x2 : Option Value} (d : jj_D cc pc (.astore_n 2) 1 nx) (hn : 2 < jj_nL X) (hc : jj_ncv x1 = true) (kk : jj_J X G kc kn nx (x0 :: x1 :: some (.ref x) :: lr) st) : jj_J X G kc kn pc (x0 :: x1 :: x2 :: lr) (.ref x :: st) := jj_astoreA F d hn (by cases x1 <;> first | rfl | exact hc) kk
theorem jj_nstore2 (F : jj_F X own cc rm)  {x0 x1 x2 : Option Value} (d : jj_D cc pc (.astore_n 2) 1 nx) (hn : 2 < jj_nL X) (hc : jj_ncv x1 = true) (kk : jj_J X G kc kn nx (x0 :: x1 :: some (.null) :: lr) st) : jj_J X G kc kn pc (x0 :: x1 :: x2 :: lr) (.null :: st) := jj_nstoreA F d hn (by cases x1 <;> first | rfl | exact hc) kk
theorem jj_qstore2 (F : jj_F X own cc rm) {r : Option Nat} {x0 x1 x2 : Option Value} (d : jj_D cc pc (.astore_n 2) 1 nx) (hn : 2 < jj_nL X) (hc : jj_ncv x1 = true) (kk : jj_J X G kc kn nx (x0 :: x1 :: some (va_rf r) :: lr) st) : jj_J X G kc kn pc (x0 :: x1 :: x2 :: lr) (va_rf r :: st) := by
  cases r with
  | none => exact jj_nstore2 F d hn hc kk
  | some a => exact jj_astore2 F d hn hc kk
theorem jj_iinc2 (F : jj_F X own cc rm) {n a : Int} {x0 x1 : Option Value} (d : jj_D cc pc (.iinc 2 n) 3 nx) (hn : 2 < jj_nL X) (hc : jj_ncv x1 = true) (kk : jj_J X G kc kn nx (x0 :: x1 :: some (.int (jI (a + n))) :: lr) st) : jj_J X G kc kn pc (x0 :: x1 :: some (.int (jI a)) :: lr) st := jj_iinc F d rfl hn (by cases x1 <;> first | rfl | exact hc) kk
theorem jj_iload3 (F : jj_F X own cc rm) {x : Int32} {x0 x1 x2 : Option Value} (d : jj_D cc pc (.iload_n 3) 1 nx) (kk : jj_J X G kc kn nx (x0 :: x1 :: x2 :: some (.int x) :: lr) (.int x :: st)) : jj_J X G kc kn pc (x0 :: x1 :: x2 :: some (.int x) :: lr) st := jj_iloadA F d rfl kk
theorem jj_aload3 (F : jj_F X own cc rm) {x : Nat} {x0 x1 x2 : Option Value} (d : jj_D cc pc (.aload_n 3) 1 nx) (kk : jj_J X G kc kn nx (x0 :: x1 :: x2 :: some (.ref x) :: lr) (.ref x :: st)) : jj_J X G kc kn pc (x0 :: x1 :: x2 :: some (.ref x) :: lr) st := jj_aloadA F d rfl kk
theorem jj_nload3 (F : jj_F X own cc rm)  {x0 x1 x2 : Option Value} (d : jj_D cc pc (.aload_n 3) 1 nx) (kk : jj_J X G kc kn nx (x0 :: x1 :: x2 :: some (.null) :: lr) (.null :: st)) : jj_J X G kc kn pc (x0 :: x1 :: x2 :: some (.null) :: lr) st := jj_nloadA F d rfl kk
theorem jj_qload3 (F : jj_F X own cc rm) {r : Option Nat} {x0 x1 x2 : Option Value} (d : jj_D cc pc (.aload_n 3) 1 nx) (kk : jj_J X G kc kn nx (x0 :: x1 :: x2 :: some (va_rf r) :: lr) (va_rf r :: st)) : jj_J X G kc kn pc (x0 :: x1 :: x2 :: some (va_rf r) :: lr) st := jj_qloadA F d rfl kk
theorem jj_lload3 (F : jj_F X own cc rm) {x : Int64} {x0 x1 x2 : Option Value} (d : jj_D cc pc (.lload_n 3) 1 nx) (kk : jj_J X G kc kn nx (x0 :: x1 :: x2 :: some (.long x) :: lr) (.long x :: st)) : jj_J X G kc kn pc (x0 :: x1 :: x2 :: some (.long x) :: lr) st := jj_lloadA F d rfl kk
theorem jj_istore3 (F : jj_F X own cc rm) {x : Int32} {x0 x1 x2 x3 : Option Value} (d : jj_D cc pc (.istore_n 3) 1 nx) (hn : 3 < jj_nL X) (hc : jj_ncv x2 = true) (kk : jj_J X G kc kn nx (x0 :: x1 :: x2 :: some (.int x) :: lr) st) : jj_J X G kc kn pc (x0 :: x1 :: x2 :: x3 :: lr) (.int x :: st) := jj_istoreA F d hn (by cases x2 <;> first | rfl | exact hc) kk
theorem jj_astore3 (F : jj_F X own cc rm) {x : Nat} {x0 x1 x2 x3 : Option Value} (d : jj_D cc pc (.astore_n 3) 1 nx) (hn : 3 < jj_nL X) (hc : jj_ncv x2 = true) (kk : jj_J X G kc kn nx (x0 :: x1 :: x2 :: some (.ref x) :: lr) st) : jj_J X G kc kn pc (x0 :: x1 :: x2 :: x3 :: lr) (.ref x :: st) := jj_astoreA F d hn (by cases x2 <;> first | rfl | exact hc) kk
theorem jj_nstore3 (F : jj_F X own cc rm)  {x0 x1 x2 x3 : Option Value} (d : jj_D cc pc (.astore_n 3) 1 nx) (hn : 3 < jj_nL X) (hc : jj_ncv x2 = true) (kk : jj_J X G kc kn nx (x0 :: x1 :: x2 :: some (.null) :: lr) st) : jj_J X G kc kn pc (x0 :: x1 :: x2 :: x3 :: lr) (.null :: st) := jj_nstoreA F d hn (by cases x2 <;> first | rfl | exact hc) kk
theorem jj_qstore3 (F : jj_F X own cc rm) {r : Option Nat} {x0 x1 x2 x3 : Option Value} (d : jj_D cc pc (.astore_n 3) 1 nx) (hn : 3 < jj_nL X) (hc : jj_ncv x2 = true) (kk : jj_J X G kc kn nx (x0 :: x1 :: x2 :: some (va_rf r) :: lr) st) : jj_J X G kc kn pc (x0 :: x1 :: x2 :: x3 :: lr) (va_rf r :: st) := by
  cases r with
  | none => exact jj_nstore3 F d hn hc kk
  | some a => exact jj_astore3 F d hn hc kk
theorem jj_iinc3 (F : jj_F X own cc rm) {n a : Int} {x0 x1 x2 : Option Value} (d : jj_D cc pc (.iinc 3 n) 3 nx) (hn : 3 < jj_nL X) (hc : jj_ncv x2 = true) (kk : jj_J X G kc kn nx (x0 :: x1 :: x2 :: some (.int (jI (a + n))) :: lr) st) : jj_J X G kc kn pc (x0 :: x1 :: x2 :: some (.int (jI a)) :: lr) st := jj_iinc F d rfl hn (by cases x2 <;> first | rfl | exact hc) kk
theorem jj_iload4 (F : jj_F X own cc rm) {x : Int32} {x0 x1 x2 x3 : Option Value} (d : jj_D cc pc (.iload 4) 2 nx) (kk : jj_J X G kc kn nx (x0 :: x1 :: x2 :: x3 :: some (.int x) :: lr) (.int x :: st)) : jj_J X G kc kn pc (x0 :: x1 :: x2 :: x3 :: some (.int x) :: lr) st := jj_iloadB F d rfl kk
theorem jj_aload4 (F : jj_F X own cc rm) {x : Nat} {x0 x1 x2 x3 : Option Value} (d : jj_D cc pc (.aload 4) 2 nx) (kk : jj_J X G kc kn nx (x0 :: x1 :: x2 :: x3 :: some (.ref x) :: lr) (.ref x :: st)) : jj_J X G kc kn pc (x0 :: x1 :: x2 :: x3 :: some (.ref x) :: lr) st := jj_aloadB F d rfl kk
theorem jj_nload4 (F : jj_F X own cc rm)  {x0 x1 x2 x3 : Option Value} (d : jj_D cc pc (.aload 4) 2 nx) (kk : jj_J X G kc kn nx (x0 :: x1 :: x2 :: x3 :: some (.null) :: lr) (.null :: st)) : jj_J X G kc kn pc (x0 :: x1 :: x2 :: x3 :: some (.null) :: lr) st := jj_nloadB F d rfl kk
theorem jj_qload4 (F : jj_F X own cc rm) {r : Option Nat} {x0 x1 x2 x3 : Option Value} (d : jj_D cc pc (.aload 4) 2 nx) (kk : jj_J X G kc kn nx (x0 :: x1 :: x2 :: x3 :: some (va_rf r) :: lr) (va_rf r :: st)) : jj_J X G kc kn pc (x0 :: x1 :: x2 :: x3 :: some (va_rf r) :: lr) st := jj_qloadB F d rfl kk
theorem jj_lload4 (F : jj_F X own cc rm) {x : Int64} {x0 x1 x2 x3 : Option Value} (d : jj_D cc pc (.lload 4) 2 nx) (kk : jj_J X G kc kn nx (x0 :: x1 :: x2 :: x3 :: some (.long x) :: lr) (.long x :: st)) : jj_J X G kc kn pc (x0 :: x1 :: x2 :: x3 :: some (.long x) :: lr) st := jj_lloadB F d rfl kk
theorem jj_istore4 (F : jj_F X own cc rm) {x : Int32} {x0 x1 x2 x3 x4 : Option Value} (d : jj_D cc pc (.istore 4) 2 nx) (hn : 4 < jj_nL X) (hc : jj_ncv x3 = true) (kk : jj_J X G kc kn nx (x0 :: x1 :: x2 :: x3 :: some (.int x) :: lr) st) : jj_J X G kc kn pc (x0 :: x1 :: x2 :: x3 :: x4 :: lr) (.int x :: st) := jj_istoreB F d hn (by cases x3 <;> first | rfl | exact hc) kk
theorem jj_astore4 (F : jj_F X own cc rm) {x : Nat} {x0 x1 x2 x3 x4 : Option Value} (d : jj_D cc pc (.astore 4) 2 nx) (hn : 4 < jj_nL X) (hc : jj_ncv x3 = true) (kk : jj_J X G kc kn nx (x0 :: x1 :: x2 :: x3 :: some (.ref x) :: lr) st) : jj_J X G kc kn pc (x0 :: x1 :: x2 :: x3 :: x4 :: lr) (.ref x :: st) := jj_astoreB F d hn (by cases x3 <;> first | rfl | exact hc) kk
theorem jj_nstore4 (F : jj_F X own cc rm)  {x0 x1 x2 x3 x4 : Option Value} (d : jj_D cc pc (.astore 4) 2 nx) (hn : 4 < jj_nL X) (hc : jj_ncv x3 = true) (kk : jj_J X G kc kn nx (x0 :: x1 :: x2 :: x3 :: some (.null) :: lr) st) : jj_J X G kc kn pc (x0 :: x1 :: x2 :: x3 :: x4 :: lr) (.null :: st) := jj_nstoreB F d hn (by cases x3 <;> first | rfl | exact hc) kk
theorem jj_qstore4 (F : jj_F X own cc rm) {r : Option Nat} {x0 x1 x2 x3 x4 : Option Value} (d : jj_D cc pc (.astore 4) 2 nx) (hn : 4 < jj_nL X) (hc : jj_ncv x3 = true) (kk : jj_J X G kc kn nx (x0 :: x1 :: x2 :: x3 :: some (va_rf r) :: lr) st) : jj_J X G kc kn pc (x0 :: x1 :: x2 :: x3 :: x4 :: lr) (va_rf r :: st) := by
  cases r with
  | none => exact jj_nstore4 F d hn hc kk
  | some a => exact jj_astore4 F d hn hc kk
theorem jj_iinc4 (F : jj_F X own cc rm) {n a : Int} {x0 x1 x2 x3 : Option Value} (d : jj_D cc pc (.iinc 4 n) 3 nx) (hn : 4 < jj_nL X) (hc : jj_ncv x3 = true) (kk : jj_J X G kc kn nx (x0 :: x1 :: x2 :: x3 :: some (.int (jI (a + n))) :: lr) st) : jj_J X G kc kn pc (x0 :: x1 :: x2 :: x3 :: some (.int (jI a)) :: lr) st := jj_iinc F d rfl hn (by cases x3 <;> first | rfl | exact hc) kk
theorem jj_iload5 (F : jj_F X own cc rm) {x : Int32} {x0 x1 x2 x3 x4 : Option Value} (d : jj_D cc pc (.iload 5) 2 nx) (kk : jj_J X G kc kn nx (x0 :: x1 :: x2 :: x3 :: x4 :: some (.int x) :: lr) (.int x :: st)) : jj_J X G kc kn pc (x0 :: x1 :: x2 :: x3 :: x4 :: some (.int x) :: lr) st := jj_iloadB F d rfl kk
theorem jj_aload5 (F : jj_F X own cc rm) {x : Nat} {x0 x1 x2 x3 x4 : Option Value} (d : jj_D cc pc (.aload 5) 2 nx) (kk : jj_J X G kc kn nx (x0 :: x1 :: x2 :: x3 :: x4 :: some (.ref x) :: lr) (.ref x :: st)) : jj_J X G kc kn pc (x0 :: x1 :: x2 :: x3 :: x4 :: some (.ref x) :: lr) st := jj_aloadB F d rfl kk
theorem jj_nload5 (F : jj_F X own cc rm)  {x0 x1 x2 x3 x4 : Option Value} (d : jj_D cc pc (.aload 5) 2 nx) (kk : jj_J X G kc kn nx (x0 :: x1 :: x2 :: x3 :: x4 :: some (.null) :: lr) (.null :: st)) : jj_J X G kc kn pc (x0 :: x1 :: x2 :: x3 :: x4 :: some (.null) :: lr) st := jj_nloadB F d rfl kk
theorem jj_qload5 (F : jj_F X own cc rm) {r : Option Nat} {x0 x1 x2 x3 x4 : Option Value} (d : jj_D cc pc (.aload 5) 2 nx) (kk : jj_J X G kc kn nx (x0 :: x1 :: x2 :: x3 :: x4 :: some (va_rf r) :: lr) (va_rf r :: st)) : jj_J X G kc kn pc (x0 :: x1 :: x2 :: x3 :: x4 :: some (va_rf r) :: lr) st := jj_qloadB F d rfl kk
theorem jj_lload5 (F : jj_F X own cc rm) {x : Int64} {x0 x1 x2 x3 x4 : Option Value} (d : jj_D cc pc (.lload 5) 2 nx) (kk : jj_J X G kc kn nx (x0 :: x1 :: x2 :: x3 :: x4 :: some (.long x) :: lr) (.long x :: st)) : jj_J X G kc kn pc (x0 :: x1 :: x2 :: x3 :: x4 :: some (.long x) :: lr) st := jj_lloadB F d rfl kk
theorem jj_istore5 (F : jj_F X own cc rm) {x : Int32} {x0 x1 x2 x3 x4 x5 : Option Value} (d : jj_D cc pc (.istore 5) 2 nx) (hn : 5 < jj_nL X) (hc : jj_ncv x4 = true) (kk : jj_J X G kc kn nx (x0 :: x1 :: x2 :: x3 :: x4 :: some (.int x) :: lr) st) : jj_J X G kc kn pc (x0 :: x1 :: x2 :: x3 :: x4 :: x5 :: lr) (.int x :: st) := jj_istoreB F d hn (by cases x4 <;> first | rfl | exact hc) kk
theorem jj_astore5 (F : jj_F X own cc rm) {x : Nat} {x0 x1 x2 x3 x4 x5 : Option Value} (d : jj_D cc pc (.astore 5) 2 nx) (hn : 5 < jj_nL X) (hc : jj_ncv x4 = true) (kk : jj_J X G kc kn nx (x0 :: x1 :: x2 :: x3 :: x4 :: some (.ref x) :: lr) st) : jj_J X G kc kn pc (x0 :: x1 :: x2 :: x3 :: x4 :: x5 :: lr) (.ref x :: st) := jj_astoreB F d hn (by cases x4 <;> first | rfl | exact hc) kk
theorem jj_nstore5 (F : jj_F X own cc rm)  {x0 x1 x2 x3 x4 x5 : Option Value} (d : jj_D cc pc (.astore 5) 2 nx) (hn : 5 < jj_nL X) (hc : jj_ncv x4 = true) (kk : jj_J X G kc kn nx (x0 :: x1 :: x2 :: x3 :: x4 :: some (.null) :: lr) st) : jj_J X G kc kn pc (x0 :: x1 :: x2 :: x3 :: x4 :: x5 :: lr) (.null :: st) := jj_nstoreB F d hn (by cases x4 <;> first | rfl | exact hc) kk
theorem jj_qstore5 (F : jj_F X own cc rm) {r : Option Nat} {x0 x1 x2 x3 x4 x5 : Option Value} (d : jj_D cc pc (.astore 5) 2 nx) (hn : 5 < jj_nL X) (hc : jj_ncv x4 = true) (kk : jj_J X G kc kn nx (x0 :: x1 :: x2 :: x3 :: x4 :: some (va_rf r) :: lr) st) : jj_J X G kc kn pc (x0 :: x1 :: x2 :: x3 :: x4 :: x5 :: lr) (va_rf r :: st) := by
  cases r with
  | none => exact jj_nstore5 F d hn hc kk
  | some a => exact jj_astore5 F d hn hc kk
theorem jj_iinc5 (F : jj_F X own cc rm) {n a : Int} {x0 x1 x2 x3 x4 : Option Value} (d : jj_D cc pc (.iinc 5 n) 3 nx) (hn : 5 < jj_nL X) (hc : jj_ncv x4 = true) (kk : jj_J X G kc kn nx (x0 :: x1 :: x2 :: x3 :: x4 :: some (.int (jI (a + n))) :: lr) st) : jj_J X G kc kn pc (x0 :: x1 :: x2 :: x3 :: x4 :: some (.int (jI a)) :: lr) st := jj_iinc F d rfl hn (by cases x4 <;> first | rfl | exact hc) kk
theorem jj_iload6 (F : jj_F X own cc rm) {x : Int32} {x0 x1 x2 x3 x4 x5 : Option Value} (d : jj_D cc pc (.iload 6) 2 nx) (kk : jj_J X G kc kn nx (x0 :: x1 :: x2 :: x3 :: x4 :: x5 :: some (.int x) :: lr) (.int x :: st)) : jj_J X G kc kn pc (x0 :: x1 :: x2 :: x3 :: x4 :: x5 :: some (.int x) :: lr) st := jj_iloadB F d rfl kk
theorem jj_aload6 (F : jj_F X own cc rm) {x : Nat} {x0 x1 x2 x3 x4 x5 : Option Value} (d : jj_D cc pc (.aload 6) 2 nx) (kk : jj_J X G kc kn nx (x0 :: x1 :: x2 :: x3 :: x4 :: x5 :: some (.ref x) :: lr) (.ref x :: st)) : jj_J X G kc kn pc (x0 :: x1 :: x2 :: x3 :: x4 :: x5 :: some (.ref x) :: lr) st := jj_aloadB F d rfl kk
theorem jj_nload6 (F : jj_F X own cc rm)  {x0 x1 x2 x3 x4 x5 : Option Value} (d : jj_D cc pc (.aload 6) 2 nx) (kk : jj_J X G kc kn nx (x0 :: x1 :: x2 :: x3 :: x4 :: x5 :: some (.null) :: lr) (.null :: st)) : jj_J X G kc kn pc (x0 :: x1 :: x2 :: x3 :: x4 :: x5 :: some (.null) :: lr) st := jj_nloadB F d rfl kk
theorem jj_qload6 (F : jj_F X own cc rm) {r : Option Nat} {x0 x1 x2 x3 x4 x5 : Option Value} (d : jj_D cc pc (.aload 6) 2 nx) (kk : jj_J X G kc kn nx (x0 :: x1 :: x2 :: x3 :: x4 :: x5 :: some (va_rf r) :: lr) (va_rf r :: st)) : jj_J X G kc kn pc (x0 :: x1 :: x2 :: x3 :: x4 :: x5 :: some (va_rf r) :: lr) st := jj_qloadB F d rfl kk
theorem jj_lload6 (F : jj_F X own cc rm) {x : Int64} {x0 x1 x2 x3 x4 x5 : Option Value} (d : jj_D cc pc (.lload 6) 2 nx) (kk : jj_J X G kc kn nx (x0 :: x1 :: x2 :: x3 :: x4 :: x5 :: some (.long x) :: lr) (.long x :: st)) : jj_J X G kc kn pc (x0 :: x1 :: x2 :: x3 :: x4 :: x5 :: some (.long x) :: lr) st := jj_lloadB F d rfl kk
theorem jj_istore6 (F : jj_F X own cc rm) {x : Int32} {x0 x1 x2 x3 x4 x5 x6 : Option Value} (d : jj_D cc pc (.istore 6) 2 nx) (hn : 6 < jj_nL X) (hc : jj_ncv x5 = true) (kk : jj_J X G kc kn nx (x0 :: x1 :: x2 :: x3 :: x4 :: x5 :: some (.int x) :: lr) st) : jj_J X G kc kn pc (x0 :: x1 :: x2 :: x3 :: x4 :: x5 :: x6 :: lr) (.int x :: st) := jj_istoreB F d hn (by cases x5 <;> first | rfl | exact hc) kk
theorem jj_astore6 (F : jj_F X own cc rm) {x : Nat} {x0 x1 x2 x3 x4 x5 x6 : Option Value} (d : jj_D cc pc (.astore 6) 2 nx) (hn : 6 < jj_nL X) (hc : jj_ncv x5 = true) (kk : jj_J X G kc kn nx (x0 :: x1 :: x2 :: x3 :: x4 :: x5 :: some (.ref x) :: lr) st) : jj_J X G kc kn pc (x0 :: x1 :: x2 :: x3 :: x4 :: x5 :: x6 :: lr) (.ref x :: st) := jj_astoreB F d hn (by cases x5 <;> first | rfl | exact hc) kk
theorem jj_nstore6 (F : jj_F X own cc rm)  {x0 x1 x2 x3 x4 x5 x6 : Option Value} (d : jj_D cc pc (.astore 6) 2 nx) (hn : 6 < jj_nL X) (hc : jj_ncv x5 = true) (kk : jj_J X G kc kn nx (x0 :: x1 :: x2 :: x3 :: x4 :: x5 :: some (.null) :: lr) st) : jj_J X G kc kn pc (x0 :: x1 :: x2 :: x3 :: x4 :: x5 :: x6 :: lr) (.null :: st) := jj_nstoreB F d hn (by cases x5 <;> first | rfl | exact hc) kk
theorem jj_qstore6 (F : jj_F X own cc rm) {r : Option Nat} {x0 x1 x2 x3 x4 x5 x6 : Option Value} (d : jj_D cc pc (.astore 6) 2 nx) (hn : 6 < jj_nL X) (hc : jj_ncv x5 = true) (kk : jj_J X G kc kn nx (x0 :: x1 :: x2 :: x3 :: x4 :: x5 :: some (va_rf r) :: lr) st) : jj_J X G kc kn pc (x0 :: x1 :: x2 :: x3 :: x4 :: x5 :: x6 :: lr) (va_rf r :: st) := by
  cases r with
  | none => exact jj_nstore6 F d hn hc kk
  | some a => exact jj_astore6 F d hn hc kk
theorem jj_iinc6 (F : jj_F X own cc rm) {n a : Int} {x0 x1 x2 x3 x4 x5 : Option Value} (d : jj_D cc pc (.iinc 6 n) 3 nx) (hn : 6 < jj_nL X) (hc : jj_ncv x5 = true) (kk : jj_J X G kc kn nx (x0 :: x1 :: x2 :: x3 :: x4 :: x5 :: some (.int (jI (a + n))) :: lr) st) : jj_J X G kc kn pc (x0 :: x1 :: x2 :: x3 :: x4 :: x5 :: some (.int (jI a)) :: lr) st := jj_iinc F d rfl hn (by cases x5 <;> first | rfl | exact hc) kk
theorem jj_iload7 (F : jj_F X own cc rm) {x : Int32} {x0 x1 x2 x3 x4 x5 x6 : Option Value} (d : jj_D cc pc (.iload 7) 2 nx) (kk : jj_J X G kc kn nx (x0 :: x1 :: x2 :: x3 :: x4 :: x5 :: x6 :: some (.int x) :: lr) (.int x :: st)) : jj_J X G kc kn pc (x0 :: x1 :: x2 :: x3 :: x4 :: x5 :: x6 :: some (.int x) :: lr) st := jj_iloadB F d rfl kk
theorem jj_aload7 (F : jj_F X own cc rm) {x : Nat} {x0 x1 x2 x3 x4 x5 x6 : Option Value} (d : jj_D cc pc (.aload 7) 2 nx) (kk : jj_J X G kc kn nx (x0 :: x1 :: x2 :: x3 :: x4 :: x5 :: x6 :: some (.ref x) :: lr) (.ref x :: st)) : jj_J X G kc kn pc (x0 :: x1 :: x2 :: x3 :: x4 :: x5 :: x6 :: some (.ref x) :: lr) st := jj_aloadB F d rfl kk
theorem jj_nload7 (F : jj_F X own cc rm)  {x0 x1 x2 x3 x4 x5 x6 : Option Value} (d : jj_D cc pc (.aload 7) 2 nx) (kk : jj_J X G kc kn nx (x0 :: x1 :: x2 :: x3 :: x4 :: x5 :: x6 :: some (.null) :: lr) (.null :: st)) : jj_J X G kc kn pc (x0 :: x1 :: x2 :: x3 :: x4 :: x5 :: x6 :: some (.null) :: lr) st := jj_nloadB F d rfl kk
theorem jj_qload7 (F : jj_F X own cc rm) {r : Option Nat} {x0 x1 x2 x3 x4 x5 x6 : Option Value} (d : jj_D cc pc (.aload 7) 2 nx) (kk : jj_J X G kc kn nx (x0 :: x1 :: x2 :: x3 :: x4 :: x5 :: x6 :: some (va_rf r) :: lr) (va_rf r :: st)) : jj_J X G kc kn pc (x0 :: x1 :: x2 :: x3 :: x4 :: x5 :: x6 :: some (va_rf r) :: lr) st := jj_qloadB F d rfl kk
theorem jj_lload7 (F : jj_F X own cc rm) {x : Int64} {x0 x1 x2 x3 x4 x5 x6 : Option Value} (d : jj_D cc pc (.lload 7) 2 nx) (kk : jj_J X G kc kn nx (x0 :: x1 :: x2 :: x3 :: x4 :: x5 :: x6 :: some (.long x) :: lr) (.long x :: st)) : jj_J X G kc kn pc (x0 :: x1 :: x2 :: x3 :: x4 :: x5 :: x6 :: some (.long x) :: lr) st := jj_lloadB F d rfl kk
theorem jj_istore7 (F : jj_F X own cc rm) {x : Int32} {x0 x1 x2 x3 x4 x5 x6 x7 : Option Value} (d : jj_D cc pc (.istore 7) 2 nx) (hn : 7 < jj_nL X) (hc : jj_ncv x6 = true) (kk : jj_J X G kc kn nx (x0 :: x1 :: x2 :: x3 :: x4 :: x5 :: x6 :: some (.int x) :: lr) st) : jj_J X G kc kn pc (x0 :: x1 :: x2 :: x3 :: x4 :: x5 :: x6 :: x7 :: lr) (.int x :: st) := jj_istoreB F d hn (by cases x6 <;> first | rfl | exact hc) kk
theorem jj_astore7 (F : jj_F X own cc rm) {x : Nat} {x0 x1 x2 x3 x4 x5 x6 x7 : Option Value} (d : jj_D cc pc (.astore 7) 2 nx) (hn : 7 < jj_nL X) (hc : jj_ncv x6 = true) (kk : jj_J X G kc kn nx (x0 :: x1 :: x2 :: x3 :: x4 :: x5 :: x6 :: some (.ref x) :: lr) st) : jj_J X G kc kn pc (x0 :: x1 :: x2 :: x3 :: x4 :: x5 :: x6 :: x7 :: lr) (.ref x :: st) := jj_astoreB F d hn (by cases x6 <;> first | rfl | exact hc) kk
theorem jj_nstore7 (F : jj_F X own cc rm)  {x0 x1 x2 x3 x4 x5 x6 x7 : Option Value} (d : jj_D cc pc (.astore 7) 2 nx) (hn : 7 < jj_nL X) (hc : jj_ncv x6 = true) (kk : jj_J X G kc kn nx (x0 :: x1 :: x2 :: x3 :: x4 :: x5 :: x6 :: some (.null) :: lr) st) : jj_J X G kc kn pc (x0 :: x1 :: x2 :: x3 :: x4 :: x5 :: x6 :: x7 :: lr) (.null :: st) := jj_nstoreB F d hn (by cases x6 <;> first | rfl | exact hc) kk
theorem jj_qstore7 (F : jj_F X own cc rm) {r : Option Nat} {x0 x1 x2 x3 x4 x5 x6 x7 : Option Value} (d : jj_D cc pc (.astore 7) 2 nx) (hn : 7 < jj_nL X) (hc : jj_ncv x6 = true) (kk : jj_J X G kc kn nx (x0 :: x1 :: x2 :: x3 :: x4 :: x5 :: x6 :: some (va_rf r) :: lr) st) : jj_J X G kc kn pc (x0 :: x1 :: x2 :: x3 :: x4 :: x5 :: x6 :: x7 :: lr) (va_rf r :: st) := by
  cases r with
  | none => exact jj_nstore7 F d hn hc kk
  | some a => exact jj_astore7 F d hn hc kk
theorem jj_iinc7 (F : jj_F X own cc rm) {n a : Int} {x0 x1 x2 x3 x4 x5 x6 : Option Value} (d : jj_D cc pc (.iinc 7 n) 3 nx) (hn : 7 < jj_nL X) (hc : jj_ncv x6 = true) (kk : jj_J X G kc kn nx (x0 :: x1 :: x2 :: x3 :: x4 :: x5 :: x6 :: some (.int (jI (a + n))) :: lr) st) : jj_J X G kc kn pc (x0 :: x1 :: x2 :: x3 :: x4 :: x5 :: x6 :: some (.int (jI a)) :: lr) st := jj_iinc F d rfl hn (by cases x6 <;> first | rfl | exact hc) kk
theorem jj_iload8 (F : jj_F X own cc rm) {x : Int32} {x0 x1 x2 x3 x4 x5 x6 x7 : Option Value} (d : jj_D cc pc (.iload 8) 2 nx) (kk : jj_J X G kc kn nx (x0 :: x1 :: x2 :: x3 :: x4 :: x5 :: x6 :: x7 :: some (.int x) :: lr) (.int x :: st)) : jj_J X G kc kn pc (x0 :: x1 :: x2 :: x3 :: x4 :: x5 :: x6 :: x7 :: some (.int x) :: lr) st := jj_iloadB F d rfl kk
theorem jj_aload8 (F : jj_F X own cc rm) {x : Nat} {x0 x1 x2 x3 x4 x5 x6 x7 : Option Value} (d : jj_D cc pc (.aload 8) 2 nx) (kk : jj_J X G kc kn nx (x0 :: x1 :: x2 :: x3 :: x4 :: x5 :: x6 :: x7 :: some (.ref x) :: lr) (.ref x :: st)) : jj_J X G kc kn pc (x0 :: x1 :: x2 :: x3 :: x4 :: x5 :: x6 :: x7 :: some (.ref x) :: lr) st := jj_aloadB F d rfl kk
theorem jj_nload8 (F : jj_F X own cc rm)  {x0 x1 x2 x3 x4 x5 x6 x7 : Option Value} (d : jj_D cc pc (.aload 8) 2 nx) (kk : jj_J X G kc kn nx (x0 :: x1 :: x2 :: x3 :: x4 :: x5 :: x6 :: x7 :: some (.null) :: lr) (.null :: st)) : jj_J X G kc kn pc (x0 :: x1 :: x2 :: x3 :: x4 :: x5 :: x6 :: x7 :: some (.null) :: lr) st := jj_nloadB F d rfl kk
theorem jj_qload8 (F : jj_F X own cc rm) {r : Option Nat} {x0 x1 x2 x3 x4 x5 x6 x7 : Option Value} (d : jj_D cc pc (.aload 8) 2 nx) (kk : jj_J X G kc kn nx (x0 :: x1 :: x2 :: x3 :: x4 :: x5 :: x6 :: x7 :: some (va_rf r) :: lr) (va_rf r :: st)) : jj_J X G kc kn pc (x0 :: x1 :: x2 :: x3 :: x4 :: x5 :: x6 :: x7 :: some (va_rf r) :: lr) st := jj_qloadB F d rfl kk
theorem jj_lload8 (F : jj_F X own cc rm) {x : Int64} {x0 x1 x2 x3 x4 x5 x6 x7 : Option Value} (d : jj_D cc pc (.lload 8) 2 nx) (kk : jj_J X G kc kn nx (x0 :: x1 :: x2 :: x3 :: x4 :: x5 :: x6 :: x7 :: some (.long x) :: lr) (.long x :: st)) : jj_J X G kc kn pc (x0 :: x1 :: x2 :: x3 :: x4 :: x5 :: x6 :: x7 :: some (.long x) :: lr) st := jj_lloadB F d rfl kk
theorem jj_istore8 (F : jj_F X own cc rm) {x : Int32} {x0 x1 x2 x3 x4 x5 x6 x7 x8 : Option Value} (d : jj_D cc pc (.istore 8) 2 nx) (hn : 8 < jj_nL X) (hc : jj_ncv x7 = true) (kk : jj_J X G kc kn nx (x0 :: x1 :: x2 :: x3 :: x4 :: x5 :: x6 :: x7 :: some (.int x) :: lr) st) : jj_J X G kc kn pc (x0 :: x1 :: x2 :: x3 :: x4 :: x5 :: x6 :: x7 :: x8 :: lr) (.int x :: st) := jj_istoreB F d hn (by cases x7 <;> first | rfl | exact hc) kk
theorem jj_astore8 (F : jj_F X own cc rm) {x : Nat} {x0 x1 x2 x3 x4 x5 x6 x7 x8 : Option Value} (d : jj_D cc pc (.astore 8) 2 nx) (hn : 8 < jj_nL X) (hc : jj_ncv x7 = true) (kk : jj_J X G kc kn nx (x0 :: x1 :: x2 :: x3 :: x4 :: x5 :: x6 :: x7 :: some (.ref x) :: lr) st) : jj_J X G kc kn pc (x0 :: x1 :: x2 :: x3 :: x4 :: x5 :: x6 :: x7 :: x8 :: lr) (.ref x :: st) := jj_astoreB F d hn (by cases x7 <;> first | rfl | exact hc) kk
theorem jj_nstore8 (F : jj_F X own cc rm)  {x0 x1 x2 x3 x4 x5 x6 x7 x8 : Option Value} (d : jj_D cc pc (.astore 8) 2 nx) (hn : 8 < jj_nL X) (hc : jj_ncv x7 = true) (kk : jj_J X G kc kn nx (x0 :: x1 :: x2 :: x3 :: x4 :: x5 :: x6 :: x7 :: some (.null) :: lr) st) : jj_J X G kc kn pc (x0 :: x1 :: x2 :: x3 :: x4 :: x5 :: x6 :: x7 :: x8 :: lr) (.null :: st) := jj_nstoreB F d hn (by cases x7 <;> first | rfl | exact hc) kk
theorem jj_qstore8 (F : jj_F X own cc rm) {r : Option Nat} {x0 x1 x2 x3 x4 x5 x6 x7 x8 : Option Value} (d : jj_D cc pc (.astore 8) 2 nx) (hn : 8 < jj_nL X) (hc : jj_ncv x7 = true) (kk : jj_J X G kc kn nx (x0 :: x1 :: x2 :: x3 :: x4 :: x5 :: x6 :: x7 :: some (va_rf r) :: lr) st) : jj_J X G kc kn pc (x0 :: x1 :: x2 :: x3 :: x4 :: x5 :: x6 :: x7 :: x8 :: lr) (va_rf r :: st) := by
  cases r with
  | none => exact jj_nstore8 F d hn hc kk
  | some a => exact jj_astore8 F d hn hc kk
theorem jj_iinc8 (F : jj_F X own cc rm) {n a : Int} {x0 x1 x2 x3 x4 x5 x6 x7 : Option Value} (d : jj_D cc pc (.iinc 8 n) 3 nx) (hn : 8 < jj_nL X) (hc : jj_ncv x7 = true) (kk : jj_J X G kc kn nx (x0 :: x1 :: x2 :: x3 :: x4 :: x5 :: x6 :: x7 :: some (.int (jI (a + n))) :: lr) st) : jj_J X G kc kn pc (x0 :: x1 :: x2 :: x3 :: x4 :: x5 :: x6 :: x7 :: some (.int (jI a)) :: lr) st := jj_iinc F d rfl hn (by cases x7 <;> first | rfl | exact hc) kk
theorem jj_iload9 (F : jj_F X own cc rm) {x : Int32} {x0 x1 x2 x3 x4 x5 x6 x7 x8 : Option Value} (d : jj_D cc pc (.iload 9) 2 nx) (kk : jj_J X G kc kn nx (x0 :: x1 :: x2 :: x3 :: x4 :: x5 :: x6 :: x7 :: x8 :: some (.int x) :: lr) (.int x :: st)) : jj_J X G kc kn pc (x0 :: x1 :: x2 :: x3 :: x4 :: x5 :: x6 :: x7 :: x8 :: some (.int x) :: lr) st := jj_iloadB F d rfl kk
theorem jj_aload9 (F : jj_F X own cc rm) {x : Nat} {x0 x1 x2 x3 x4 x5 x6 x7 x8 : Option Value} (d : jj_D cc pc (.aload 9) 2 nx) (kk : jj_J X G kc kn nx (x0 :: x1 :: x2 :: x3 :: x4 :: x5 :: x6 :: x7 :: x8 :: some (.ref x) :: lr) (.ref x :: st)) : jj_J X G kc kn pc (x0 :: x1 :: x2 :: x3 :: x4 :: x5 :: x6 :: x7 :: x8 :: some (.ref x) :: lr) st := jj_aloadB F d rfl kk
theorem jj_nload9 (F : jj_F X own cc rm)  {x0 x1 x2 x3 x4 x5 x6 x7 x8 : Option Value} (d : jj_D cc pc (.aload 9) 2 nx) (kk : jj_J X G kc kn nx (x0 :: x1 :: x2 :: x3 :: x4 :: x5 :: x6 :: x7 :: x8 :: some (.null) :: lr) (.null :: st)) : jj_J X G kc kn pc (x0 :: x1 :: x2 :: x3 :: x4 :: x5 :: x6 :: x7 :: x8 :: some (.null) :: lr) st := jj_nloadB F d rfl kk
theorem jj_qload9 (F : jj_F X own cc rm) {r : Option Nat} {x0 x1 x2 x3 x4 x5 x6 x7 x8 : Option Value} (d : jj_D cc pc (.aload 9) 2 nx) (kk : jj_J X G kc kn nx (x0 :: x1 :: x2 :: x3 :: x4 :: x5 :: x6 :: x7 :: x8 :: some (va_rf r) :: lr) (va_rf r :: st)) : jj_J X G kc kn pc (x0 :: x1 :: x2 :: x3 :: x4 :: x5 :: x6 :: x7 :: x8 :: some (va_rf r) :: lr) st := jj_qloadB F d rfl kk
theorem jj_lload9 (F : jj_F X own cc rm) {x : Int64} {x0 x1 x2 x3 x4 x5 x6 x7 x8 : Option Value} (d : jj_D cc pc (.lload 9) 2 nx) (kk : jj_J X G kc kn nx (x0 :: x1 :: x2 :: x3 :: x4 :: x5 :: x6 :: x7 :: x8 :: some (.long x) :: lr) (.long x :: st)) : jj_J X G kc kn pc (x0 :: x1 :: x2 :: x3 :: x4 :: x5 :: x6 :: x7 :: x8 :: some (.long x) :: lr) st := jj_lloadB F d rfl kk
theorem jj_istore9 (F : jj_F X own cc rm) {x : Int32} {x0 x1 x2 x3 x4 x5 x6 x7 x8 x9 : Option Value} (d : jj_D cc pc (.istore 9) 2 nx) (hn : 9 < jj_nL X) (hc : jj_ncv x8 = true) (kk : jj_J X G kc kn nx (x0 :: x1 :: x2 :: x3 :: x4 :: x5 :: x6 :: x7 :: x8 :: some (.int x) :: lr) st) : jj_J X G kc kn pc (x0 :: x1 :: x2 :: x3 :: x4 :: x5 :: x6 :: x7 :: x8 :: x9 :: lr) (.int x :: st) := jj_istoreB F d hn (by cases x8 <;> first | rfl | exact hc) kk
theorem jj_astore9 (F : jj_F X own cc rm) {x : Nat} {x0 x1 x2 x3 x4 x5 x6 x7 x8 x9 : Option Value} (d : jj_D cc pc (.astore 9) 2 nx) (hn : 9 < jj_nL X) (hc : jj_ncv x8 = true) (kk : jj_J X G kc kn nx (x0 :: x1 :: x2 :: x3 :: x4 :: x5 :: x6 :: x7 :: x8 :: some (.ref x) :: lr) st) : jj_J X G kc kn pc (x0 :: x1 :: x2 :: x3 :: x4 :: x5 :: x6 :: x7 :: x8 :: x9 :: lr) (.ref x :: st) := jj_astoreB F d hn (by cases x8 <;> first | rfl | exact hc) kk
theorem jj_nstore9 (F : jj_F X own cc rm)  {x0 x1 x2 x3 x4 x5 x6 x7 x8 x9 : Option Value} (d : jj_D cc pc (.astore 9) 2 nx) (hn : 9 < jj_nL X) (hc : jj_ncv x8 = true) (kk : jj_J X G kc kn nx (x0 :: x1 :: x2 :: x3 :: x4 :: x5 :: x6 :: x7 :: x8 :: some (.null) :: lr) st) : jj_J X G kc kn pc (x0 :: x1 :: x2 :: x3 :: x4 :: x5 :: x6 :: x7 :: x8 :: x9 :: lr) (.null :: st) := jj_nstoreB F d hn (by cases x8 <;> first | rfl | exact hc) kk
theorem jj_qstore9 (F : jj_F X own cc rm) {r : Option Nat} {x0 x1 x2 x3 x4 x5 x6 x7 x8 x9 : Option Value} (d : jj_D cc pc (.astore 9) 2 nx) (hn : 9 < jj_nL X) (hc : jj_ncv x8 = true) (kk : jj_J X G kc kn nx (x0 :: x1 :: x2 :: x3 :: x4 :: x5 :: x6 :: x7 :: x8 :: some (va_rf r) :: lr) st) : jj_J X G kc kn pc (x0 :: x1 :: x2 :: x3 :: x4 :: x5 :: x6 :: x7 :: x8 :: x9 :: lr) (va_rf r :: st) := by
  cases r with
  | none => exact jj_nstore9 F d hn hc kk
  | some a => exact jj_astore9 F d hn hc kk
theorem jj_iinc9 (F : jj_F X own cc rm) {n a : Int} {x0 x1 x2 x3 x4 x5 x6 x7 x8 : Option Value} (d : jj_D cc pc (.iinc 9 n) 3 nx) (hn : 9 < jj_nL X) (hc : jj_ncv x8 = true) (kk : jj_J X G kc kn nx (x0 :: x1 :: x2 :: x3 :: x4 :: x5 :: x6 :: x7 :: x8 :: some (.int (jI (a + n))) :: lr) st) : jj_J X G kc kn pc (x0 :: x1 :: x2 :: x3 :: x4 :: x5 :: x6 :: x7 :: x8 :: some (.int (jI a)) :: lr) st := jj_iinc F d rfl hn (by cases x8 <;> first | rfl | exact hc) kk
theorem jj_iload10 (F : jj_F X own cc rm) {x : Int32} {x0 x1 x2 x3 x4 x5 x6 x7 x8 x9 : Option Value} (d : jj_D cc pc (.iload 10) 2 nx) (kk : jj_J X G kc kn nx (x0 :: x1 :: x2 :: x3 :: x4 :: x5 :: x6 :: x7 :: x8 :: x9 :: some (.int x) :: lr) (.int x :: st)) : jj_J X G kc kn pc (x0 :: x1 :: x2 :: x3 :: x4 :: x5 :: x6 :: x7 :: x8 :: x9 :: some (.int x) :: lr) st := jj_iloadB F d rfl kk
theorem jj_aload10 (F : jj_F X own cc rm) {x : Nat} {x0 x1 x2 x3 x4 x5 x6 x7 x8 x9 : Option Value} (d : jj_D cc pc (.aload 10) 2 nx) (kk : jj_J X G kc kn nx (x0 :: x1 :: x2 :: x3 :: x4 :: x5 :: x6 :: x7 :: x8 :: x9 :: some (.ref x) :: lr) (.ref x :: st)) : jj_J X G kc kn pc (x0 :: x1 :: x2 :: x3 :: x4 :: x5 :: x6 :: x7 :: x8 :: x9 :: some (.ref x) :: lr) st := jj_aloadB F d rfl kk
theorem jj_nload10 (F : jj_F X own cc rm)  {x0 x1 x2 x3 x4 x5 x6 x7 x8 x9 : Option Value} (d : jj_D cc pc (.aload 10) 2 nx) (kk : jj_J X G kc kn nx (x0 :: x1 :: x2 :: x3 :: x4 :: x5 :: x6 :: x7 :: x8 :: x9 :: some (.null) :: lr) (.null :: st)) : jj_J X G kc kn pc (x0 :: x1 :: x2 :: x3 :: x4 :: x5 :: x6 :: x7 :: x8 :: x9 :: some (.null) :: lr) st := jj_nloadB F d rfl kk
theorem jj_qload10 (F : jj_F X own cc rm) {r : Option Nat} {x0 x1 x2 x3 x4 x5 x6 x7 x8 x9 : Option Value} (d : jj_D cc pc (.aload 10) 2 nx) (kk : jj_J X G kc kn nx (x0 :: x1 :: x2 :: x3 :: x4 :: x5 :: x6 :: x7 :: x8 :: x9 :: some (va_rf r) :: lr) (va_rf r :: st)) : jj_J X G kc kn pc (x0 :: x1 :: x2 :: x3 :: x4 :: x5 :: x6 :: x7 :: x8 :: x9 :: some (va_rf r) :: lr) st := jj_qloadB F d rfl kk
theorem jj_lload10 (F : jj_F X own cc rm) {x : Int64} {x0 x1 x2 x3 x4 x5 x6 x7 x8 x9 : Option Value} (d : jj_D cc pc (.lload 10) 2 nx) (kk : jj_J X G kc kn nx (x0 :: x1 :: x2 :: x3 :: x4 :: x5 :: x6 :: x7 :: x8 :: x9 :: some (.long x) :: lr) (.long x :: st)) : jj_J X G kc kn pc (x0 :: x1 :: x2 :: x3 :: x4 :: x5 :: x6 :: x7 :: x8 :: x9 :: some (.long x) :: lr) st := jj_lloadB F d rfl kk
theorem jj_istore10 (F : jj_F X own cc rm) {x : Int32} {x0 x1 x2 x3 x4 x5 x6 x7 x8 x9 x10 : Option Value} (d : jj_D cc pc (.istore 10) 2 nx) (hn : 10 < jj_nL X) (hc : jj_ncv x9 = true) (kk : jj_J X G kc kn nx (x0 :: x1 :: x2 :: x3 :: x4 :: x5 :: x6 :: x7 :: x8 :: x9 :: some (.int x) :: lr) st) : jj_J X G kc kn pc (x0 :: x1 :: x2 :: x3 :: x4 :: x5 :: x6 :: x7 :: x8 :: x9 :: x10 :: lr) (.int x :: st) := jj_istoreB F d hn (by cases x9 <;> first | rfl | exact hc) kk
theorem jj_astore10 (F : jj_F X own cc rm) {x : Nat} {x0 x1 x2 x3 x4 x5 x6 x7 x8 x9 x10 : Option Value} (d : jj_D cc pc (.astore 10) 2 nx) (hn : 10 < jj_nL X) (hc : jj_ncv x9 = true) (kk : jj_J X G kc kn nx (x0 :: x1 :: x2 :: x3 :: x4 :: x5 :: x6 :: x7 :: x8 :: x9 :: some (.ref x) :: lr) st) : jj_J X G kc kn pc (x0 :: x1 :: x2 :: x3 :: x4 :: x5 :: x6 :: x7 :: x8 :: x9 :: x10 :: lr) (.ref x :: st) := jj_astoreB F d hn (by cases x9 <;> first | rfl | exact hc) kk
theorem jj_nstore10 (F : jj_F X own cc rm)  {x0 x1 x2 x3 x4 x5 x6 x7 x8 x9 x10 : Option Value} (d : jj_D cc pc (.astore 10) 2 nx) (hn : 10 < jj_nL X) (hc : jj_ncv x9 = true) (kk : jj_J X G kc kn nx (x0 :: x1 :: x2 :: x3 :: x4 :: x5 :: x6 :: x7 :: x8 :: x9 :: some (.null) :: lr) st) : jj_J X G kc kn pc (x0 :: x1 :: x2 :: x3 :: x4 :: x5 :: x6 :: x7 :: x8 :: x9 :: x10 :: lr) (.null :: st) := jj_nstoreB F d hn (by cases x9 <;> first | rfl | exact hc) kk
theorem jj_qstore10 (F : jj_F X own cc rm) {r : Option Nat} {x0 x1 x2 x3 x4 x5 x6 x7 x8 x9 x10 : Option Value} (d : jj_D cc pc (.astore 10) 2 nx) (hn : 10 < jj_nL X) (hc : jj_ncv x9 = true) (kk : jj_J X G kc kn nx (x0 :: x1 :: x2 :: x3 :: x4 :: x5 :: x6 :: x7 :: x8 :: x9 :: some (va_rf r) :: lr) st) : jj_J X G kc kn pc (x0 :: x1 :: x2 :: x3 :: x4 :: x5 :: x6 :: x7 :: x8 :: x9 :: x10 :: lr) (va_rf r :: st) := by
  cases r with
  | none => exact jj_nstore10 F d hn hc kk
  | some a => exact jj_astore10 F d hn hc kk
theorem jj_iinc10 (F : jj_F X own cc rm) {n a : Int} {x0 x1 x2 x3 x4 x5 x6 x7 x8 x9 : Option Value} (d : jj_D cc pc (.iinc 10 n) 3 nx) (hn : 10 < jj_nL X) (hc : jj_ncv x9 = true) (kk : jj_J X G kc kn nx (x0 :: x1 :: x2 :: x3 :: x4 :: x5 :: x6 :: x7 :: x8 :: x9 :: some (.int (jI (a + n))) :: lr) st) : jj_J X G kc kn pc (x0 :: x1 :: x2 :: x3 :: x4 :: x5 :: x6 :: x7 :: x8 :: x9 :: some (.int (jI a)) :: lr) st := jj_iinc F d rfl hn (by cases x9 <;> first | rfl | exact hc) kk
end JR
end
section
def jj_ac : jj_X → Nat → ClassId
  | (_, _, _, _, _, _, _, _, _, _, _, _, _, ac, _) => ac
def jj_isInit : jj_X → Prop
  | (_, _, _, _, _, _, _, _, meth, _, _, _, _, _, _) => meth.name = "<init>"
section JH
variable {X : jj_X} {own : String} {cc : ByteArray} {rm : Room} {G : jj_G} {kc kn pc nx : Nat} {lv lr : List (Option Value)} {st : List Value}
/-- a class's words, by the number of the class in vwCl -/
def jj_cls (ci : Nat) (C : String) (T : u_T) (N : Nat) (ty : Nat → FieldType) : Prop := vwCl[ci]? = some (C, T, N) ∧ (∀ w ∈ u_ws C T N, w ∈ jj_GW) ∧ (∀ k, k < N → parseFieldDescriptor (T k).2.2.1 = some (ty k)) ∧ (∀ a, a < N → ∀ b, b < N → a ≠ b → (T a).2.1 ≠ (T b).2.1)
/-- a field, from a place in the pool of 'own' -/
def jj_fld (own : String) (index : Nat) (T : u_T) (k : Nat) : Prop := Cond.fieldLink own index (T k).1 (T k).2.1 (T k).2.2.1 ∈ jj_GW
theorem jj_get (F : jj_F X own cc rm) {a ci index k N : Nat} {C : String} {T : u_T} {ty : Nat → FieldType} {fs : List Value} {v : Value} (hG : G a = some (jj_o ci fs)) (hc : jj_cls ci C T N ty) (hk : k < N) (hw : jj_fld own index T k) (hv : fs[k]? = some v) (d : jj_D cc pc (.getfield index) 3 nx) (kk : jj_J X G kc kn nx lv (v :: st)) : jj_J X G kc kn pc lv (.ref a :: st) := by
  obtain ⟨p, l, e, R, s, m, args, below, meth, c, nL, A, D, ac, Q⟩ := X
  obtain ⟨hx, hb, hml, hown, hR, hA, hE, hs, hlk, hts, -⟩ := F
  obtain ⟨rfl, hd⟩ := d
  intro H locs ls hW hS hl
  exact va_get hx hb hts hc.2.1 hown hE.2.1 (hW.at hG).1 0 rfl hc.1 k hk (hts _ hw) (fun _ h9 => h9) hv hd (kk H locs ls hW hS hl)
theorem jj_put (F : jj_F X own cc rm) {a ci index k N : Nat} {C : String} {T : u_T} {ty : Nat → FieldType} {fs : List Value} {v : Value} (hG : G a = some (jj_o ci fs)) (hc : jj_cls ci C T N ty) (hk : k < N) (hw : jj_fld own index T k) (hfin : (T k).2.2.2 = false) (hn : narrow (ty k) v = v) (hf : fits (ty k) v = true) (hlen : k < fs.length) (d : jj_D cc pc (.putfield index) 3 nx) (kk : jj_J X (jj_u G a (jj_o ci (fs.set k v))) kc kn nx lv st) : jj_J X G kc kn pc lv (v :: .ref a :: st) := by
  obtain ⟨p, l, e, R, s, m, args, below, meth, c, nL, A, D, ac, Q⟩ := X
  obtain ⟨hx, hb, hml, hown, hR, hA, hE, hs, hlk, hts, -⟩ := F
  obtain ⟨rfl, hd⟩ := d
  intro H locs ls hW hS hl
  obtain ⟨ws, hP, hD, hL⟩ := hW
  obtain ⟨q0, hq⟩ := (hL a _).mp hG
  exact va_put hx hb hts hc.2.1 ty hc.2.2.1 hc.2.2.2 hown hE.2.1 hP hD hS q0 hq hc.1 k hk (hts _ hw) (fun _ h9 => h9) hfin (hc.2.2.1 k hk) hn hf hlen hd (fun H1 locs1 hP1 hD1 hS1 => kk H1 locs1 ls ⟨_, hP1, hD1, hL.set hD hq⟩ hS1 hl)
theorem jj_putF (F : jj_F X own cc rm) {a ci index k N : Nat} {C : String} {T : u_T} {ty : Nat → FieldType} {fs : List Value} {v : Value} (hG : G a = some (jj_o ci fs)) (hc : jj_cls ci C T N ty) (hk : k < N) (hw : jj_fld own index T k) (hin : jj_isInit X) (hdec : (T k).1 = own) (hfin : (T k).2.2.2 = true) (hn : narrow (ty k) v = v) (hf : fits (ty k) v = true) (hlen : k < fs.length) (d : jj_D cc pc (.putfield index) 3 nx) (kk : jj_J X (jj_u G a (jj_o ci (fs.set k v))) kc kn nx lv st) : jj_J X G kc kn pc lv (v :: .ref a :: st) := by
  obtain ⟨p, l, e, R, s, m, args, below, meth, c, nL, A, D, ac, Q⟩ := X
  obtain ⟨hx, hb, hml, hown, hR, hA, hE, hs, hlk, hts, -⟩ := F
  obtain ⟨rfl, hd⟩ := d
  intro H locs ls hW hS hl
  obtain ⟨ws, hP, hD, hL⟩ := hW
  obtain ⟨q0, hq⟩ := (hL a _).mp hG
  exact va_putF hx hb hts hc.2.1 ty hc.2.2.1 hc.2.2.2 hown hE.2.1 hP hD hS q0 hq hc.1 k hk (hts _ hw) (fun _ h9 => h9) hfin hin hdec (hc.2.2.1 k hk) hn hf hlen hd (fun H1 locs1 hP1 hD1 hS1 => kk H1 locs1 ls ⟨_, hP1, hD1, hL.set hD hq⟩ hS1 hl)
theorem jj_iald (F : jj_F X own cc rm) {a n : Nat} {g : Int → Int} {i : Int} (hG : G a = some (jj_ai (jj_ac X 0) n g)) (hi : 0 ≤ i ∧ i < n) (hn : n ≤ 100000) (d : jj_D cc pc .iaload 1 nx) (kk : jj_J X G kc kn nx lv (.int (jI (g i)) :: st)) : jj_J X G kc kn pc lv (.int (jI i) :: .ref a :: st) := by
  obtain ⟨p, l, e, R, s, m, args, below, meth, c, nL, A, D, ac, Q⟩ := X
  obtain ⟨hx, hb, hml, hown, hR, hA, hE, hs, hlk, hts, -⟩ := F
  obtain ⟨rfl, hd⟩ := d
  intro H locs ls hW hS hl
  obtain ⟨h1, h2⟩ := jI_in hi hn
  refine va_iald hx hb hE.2.1 (hW.at hG).1 0 0 rfl rfl h1 hd ?_
  rw [h2]
  exact kk H locs ls hW hS hl
theorem jj_iast (F : jj_F X own cc rm) {a n : Nat} {g : Int → Int} {i x : Int} (hG : G a = some (jj_ai (jj_ac X 0) n g)) (hi : 0 ≤ i ∧ i < n) (hn : n ≤ 100000) (d : jj_D cc pc .iastore 1 nx) (kk : jj_J X (jj_u G a (jj_ai (jj_ac X 0) n (ju g i x))) kc kn nx lv st) : jj_J X G kc kn pc lv (.int (jI x) :: .int (jI i) :: .ref a :: st) := by
  obtain ⟨p, l, e, R, s, m, args, below, meth, c, nL, A, D, ac, Q⟩ := X
  obtain ⟨hx, hb, hml, hown, hR, hA, hE, hs, hlk, hts, -⟩ := F
  obtain ⟨rfl, hd⟩ := d
  intro H locs ls hW hS hl
  obtain ⟨h1, h2⟩ := jI_in hi hn
  obtain ⟨ws, hP, hD, hL⟩ := hW
  obtain ⟨q0, hq⟩ := (hL a _).mp hG
  refine va_iast hx hb hE.2.1 hP hD hS q0 0 hq rfl h1 hd (fun H1 locs1 hP1 hD1 hS1 => kk H1 locs1 ls ⟨_, hP1, hD1, ?_⟩ hS1 hl)
  have e1 : jj_ai (ac 0) n (ju g i x) = .inl (ac 0, n, .inl (upd (fun i => jI (g (i : Int))) (jI i).toNatClampNeg (jI x))) := by
    unfold jj_ai
    congr 4
    funext j
    unfold upd ju
    by_cases hj : j = (jI i).toNatClampNeg
    · rw [if_pos hj, if_pos (by omega)]
    · rw [if_neg hj, if_neg (by omega)]
  show jj_L (jj_u G a (jj_ai (ac 0) n (ju g i x))) _
  rw [e1]
  exact hL.set hD hq
theorem jj_lald (F : jj_F X own cc rm) {a n : Nat} {g : Int → Int} {i : Int} (hG : G a = some (jj_al (jj_ac X 1) n g)) (hi : 0 ≤ i ∧ i < n) (hn : n ≤ 100000) (d : jj_D cc pc .laload 1 nx) (kk : jj_J X G kc kn nx lv (.long (jL (g i)) :: st)) : jj_J X G kc kn pc lv (.int (jI i) :: .ref a :: st) := by
  obtain ⟨p, l, e, R, s, m, args, below, meth, c, nL, A, D, ac, Q⟩ := X
  obtain ⟨hx, hb, hml, hown, hR, hA, hE, hs, hlk, hts, -⟩ := F
  obtain ⟨rfl, hd⟩ := d
  intro H locs ls hW hS hl
  obtain ⟨h1, h2⟩ := jI_in hi hn
  refine va_lald hx hb hE.2.1 (hW.at hG).1 0 1 rfl rfl h1 hd ?_
  rw [h2]
  exact kk H locs ls hW hS hl
theorem jj_last (F : jj_F X own cc rm) {a n : Nat} {g : Int → Int} {i x : Int} (hG : G a = some (jj_al (jj_ac X 1) n g)) (hi : 0 ≤ i ∧ i < n) (hn : n ≤ 100000) (d : jj_D cc pc .lastore 1 nx) (kk : jj_J X (jj_u G a (jj_al (jj_ac X 1) n (ju g i x))) kc kn nx lv st) : jj_J X G kc kn pc lv (.long (jL x) :: .int (jI i) :: .ref a :: st) := by
  obtain ⟨p, l, e, R, s, m, args, below, meth, c, nL, A, D, ac, Q⟩ := X
  obtain ⟨hx, hb, hml, hown, hR, hA, hE, hs, hlk, hts, -⟩ := F
  obtain ⟨rfl, hd⟩ := d
  intro H locs ls hW hS hl
  obtain ⟨h1, h2⟩ := jI_in hi hn
  obtain ⟨ws, hP, hD, hL⟩ := hW
  obtain ⟨q0, hq⟩ := (hL a _).mp hG
  refine va_last hx hb hE.2.1 hP hD hS q0 1 hq rfl h1 hd (fun H1 locs1 hP1 hD1 hS1 => kk H1 locs1 ls ⟨_, hP1, hD1, ?_⟩ hS1 hl)
  have e1 : jj_al (ac 1) n (ju g i x) = .inl (ac 1, n, .inr (.inl (vp_updL (fun i => jL (g (i : Int))) (jI i).toNatClampNeg (jL x)))) := by
    unfold jj_al
    congr 5
    funext j
    unfold vp_updL ju
    by_cases hj : j = (jI i).toNatClampNeg
    · rw [if_pos hj, if_pos (by omega)]
    · rw [if_neg hj, if_neg (by omega)]
  show jj_L (jj_u G a (jj_al (ac 1) n (ju g i x))) _
  rw [e1]
  exact hL.set hD hq
theorem jj_ald (F : jj_F X own cc rm) {a n t : Nat} {C : String} {g : Int → Option Nat} {i : Int} (ht : ∀ ac, (jj_ty ac)[t]? = some (ac t, .object C)) (hG : G a = some (jj_aq (jj_ac X t) n g)) (hi : 0 ≤ i ∧ i < n) (hn : n ≤ 100000) (d : jj_D cc pc .aaload 1 nx) (kk : jj_J X G kc kn nx lv (va_rf (g i) :: st)) : jj_J X G kc kn pc lv (.int (jI i) :: .ref a :: st) := by
  obtain ⟨p, l, e, R, s, m, args, below, meth, c, nL, A, D, ac, Q⟩ := X
  obtain ⟨hx, hb, hml, hown, hR, hA, hE, hs, hlk, hts, -⟩ := F
  obtain ⟨rfl, hd⟩ := d
  intro H locs ls hW hS hl
  obtain ⟨h1, h2⟩ := jI_in hi hn
  refine va_aldq hx hb hE.2.1 (hW.at hG).1 0 t rfl (ht ac) h1 hd ?_
  rw [h2]
  exact kk H locs ls hW hS hl
theorem jj_aq_set {cA : ClassId} {n : Nat} {g : Int → Option Nat} {i : Int} {x : Option Nat} (h2 : (((jI i).toNatClampNeg : Nat) : Int) = i) : jj_aq cA n (ju g i x) = .inl (cA, n, .inr (.inr (.inr (.inr (va_up (fun i => g (i : Int)) (jI i).toNatClampNeg x))))) := by
  unfold jj_aq
  congr 7
  funext j
  unfold va_up ju
  by_cases hj : j = (jI i).toNatClampNeg
  · rw [if_pos hj, if_pos (by omega)]
  · rw [if_neg hj, if_neg (by omega)]
theorem jj_ast (F : jj_F X own cc rm) {a v n t ci N : Nat} {C : String} {T : u_T} {ty : Nat → FieldType} {g : Int → Option Nat} {fs : List Value} {i : Int} (ht : ∀ ac, (jj_ty ac)[t]? = some (ac t, .object C)) (hG : G a = some (jj_aq (jj_ac X t) n g)) (hV : G v = some (jj_o ci fs)) (hc : jj_cls ci C T N ty) (hi : 0 ≤ i ∧ i < n) (hn : n ≤ 100000) (d : jj_D cc pc .aastore 1 nx) (kk : jj_J X (jj_u G a (jj_aq (jj_ac X t) n (ju g i (some v)))) kc kn nx lv st) : jj_J X G kc kn pc lv (.ref v :: .int (jI i) :: .ref a :: st) := by
  obtain ⟨p, l, e, R, s, m, args, below, meth, c, nL, A, D, ac, Q⟩ := X
  obtain ⟨hx, hb, hml, hown, hR, hA, hE, hs, hlk, hts, -⟩ := F
  obtain ⟨rfl, hd⟩ := d
  intro H locs ls hW hS hl
  obtain ⟨h1, h2⟩ := jI_in hi hn
  obtain ⟨ws, hP, hD, hL⟩ := hW
  obtain ⟨q0, hq⟩ := (hL a _).mp hG
  obtain ⟨qv, hqv⟩ := (hL v _).mp hV
  refine va_astq (r := (C, T, N)) hx hb hE.2.1 hP hD hS q0 t qv ci hq (ht ac) hqv hc.1 h1 hd (fun H1 locs1 hP1 hD1 hS1 => kk H1 locs1 ls ⟨_, hP1, hD1, ?_⟩ hS1 hl)
  show jj_L (jj_u G a (jj_aq (ac t) n (ju g i (some v)))) _
  rw [jj_aq_set h2]
  exact hL.set hD hq
theorem jj_astN (F : jj_F X own cc rm) {a n t : Nat} {C : String} {g : Int → Option Nat} {i : Int} (ht : ∀ ac, (jj_ty ac)[t]? = some (ac t, .object C)) (hG : G a = some (jj_aq (jj_ac X t) n g)) (hi : 0 ≤ i ∧ i < n) (hn : n ≤ 100000) (d : jj_D cc pc .aastore 1 nx) (kk : jj_J X (jj_u G a (jj_aq (jj_ac X t) n (ju g i none))) kc kn nx lv st) : jj_J X G kc kn pc lv (.null :: .int (jI i) :: .ref a :: st) := by
  obtain ⟨p, l, e, R, s, m, args, below, meth, c, nL, A, D, ac, Q⟩ := X
  obtain ⟨hx, hb, hml, hown, hR, hA, hE, hs, hlk, hts, -⟩ := F
  obtain ⟨rfl, hd⟩ := d
  intro H locs ls hW hS hl
  obtain ⟨h1, h2⟩ := jI_in hi hn
  obtain ⟨ws, hP, hD, hL⟩ := hW
  obtain ⟨q0, hq⟩ := (hL a _).mp hG
  refine va_astqN hx hb hE.2.1 hP hD hS q0 t hq (ht ac) h1 hd (fun H1 locs1 hP1 hD1 hS1 => kk H1 locs1 ls ⟨_, hP1, hD1, ?_⟩ hS1 hl)
  show jj_L (jj_u G a (jj_aq (ac t) n (ju g i none))) _
  rw [jj_aq_set h2]
  exact hL.set hD hq
theorem jj_alenI (F : jj_F X own cc rm) {a n : Nat} {g : Int → Int} (hG : G a = some (jj_ai (jj_ac X 0) n g)) (d : jj_D cc pc .arraylength 1 nx) (kk : jj_J X G kc kn nx lv (.int (jI (n : Int)) :: st)) : jj_J X G kc kn pc lv (.ref a :: st) := by
  obtain ⟨p, l, e, R, s, m, args, below, meth, c, nL, A, D, ac, Q⟩ := X
  obtain ⟨hx, hb, hml, hown, hR, hA, hE, hs, hlk, hts, -⟩ := F
  obtain ⟨rfl, hd⟩ := d
  intro H locs ls hW hS hl
  exact va_alen hx hb hE.2.1 (hW.at hG).1 0 0 rfl rfl (v := jI (n : Int)) (by unfold jI; first | rfl | simp) hd (kk H locs ls hW hS hl)
theorem jj_alenQ (F : jj_F X own cc rm) {a n t : Nat} {C : String} {g : Int → Option Nat} (ht : ∀ ac, (jj_ty ac)[t]? = some (ac t, .object C)) (hG : G a = some (jj_aq (jj_ac X t) n g)) (d : jj_D cc pc .arraylength 1 nx) (kk : jj_J X G kc kn nx lv (.int (jI (n : Int)) :: st)) : jj_J X G kc kn pc lv (.ref a :: st) := by
  obtain ⟨p, l, e, R, s, m, args, below, meth, c, nL, A, D, ac, Q⟩ := X
  obtain ⟨hx, hb, hml, hown, hR, hA, hE, hs, hlk, hts, -⟩ := F
  obtain ⟨rfl, hd⟩ := d
  intro H locs ls hW hS hl
  exact va_alen hx hb hE.2.1 (hW.at hG).1 0 t rfl (ht ac) (v := jI (n : Int)) (by unfold jI; first | rfl | simp) hd (kk H locs ls hW hS hl)
theorem jj_new (F : jj_F X own cc rm) {ci index N k n : Nat} {C : String} {T : u_T} {ty : Nat → FieldType} {fs : List Value} (hc : jj_cls ci C T N ty) (hcl : Cond.classLink own index C ∈ jj_GW) (hin : Cond.instantiable C N ∈ jj_GW) (hini : Cond.initialized C ∈ jj_GW) (hfs : ∀ j, j < N → defaultValue (ty j) = vp_V fs j) (hr : kc + 1 ≤ rm.cells ∧ kn + N ≤ rm.slots ∧ kc + 1 ≤ k ∧ kn + N ≤ n) (d : jj_D cc pc (.new index) 3 nx) (kk : ∀ q : Nat, G q = none → jj_J X (jj_u G q (jj_o ci fs)) k n nx lv (.ref q :: st)) : jj_J X G kc kn pc lv st := by
  obtain ⟨p, l, e, R, s, m, args, below, meth, c, nL, A, D, ac, Q⟩ := X
  obtain ⟨hx, hb, hml, hown, hR, hA, hE, hs, hlk, hts, -⟩ := F
  obtain ⟨rfl, hd⟩ := d
  subst hR
  intro H locs ls hW hS hl
  obtain ⟨ws, hP, hD, hL⟩ := hW
  exact va_new hx hb hts hc.2.1 ty hc.2.2.1 hown (hts _ hcl) (hts _ hin) (hts _ hini) hE.2.1 hP hD hS hA hc.1 hfs hr.1 hr.2.1 hd (fun q H1 hP1 hD1 hS1 => W.widen hr.2.2.1 hr.2.2.2 (kk q (hL.fresh hD1) H1 locs ls ⟨_, hP1, hD1, hL.push (hL.fresh hD1)⟩ hS1 hl))
theorem jj_newI (F : jj_F X own cc rm) {N k n : Nat} (hw : Cond.arrayClass .int ∈ jj_GW) (hN : N ≤ 100000) (hr : kc + 1 ≤ rm.cells ∧ kn + N ≤ rm.slots ∧ kc + 1 ≤ k ∧ kn + N ≤ n) (d : jj_D cc pc (.newarray .int) 2 nx) (kk : ∀ q : Nat, G q = none → jj_J X (jj_u G q (jj_ai (jj_ac X 0) N (fun _ => 0))) k n nx lv (.ref q :: st)) : jj_J X G kc kn pc lv (.int (jI (N : Int)) :: st) := by
  obtain ⟨p, l, e, R, s, m, args, below, meth, c, nL, A, D, ac, Q⟩ := X
  obtain ⟨hx, hb, hml, hown, hR, hA, hE, hs, hlk, hts, -⟩ := F
  obtain ⟨rfl, hd⟩ := d
  subst hR
  intro H locs ls hW hS hl
  obtain ⟨ws, hP, hD, hL⟩ := hW
  have h1 : (jI (N : Int)).toInt = N := jI_toInt (by omega) (by omega)
  refine va_newa (ty := .int) (N' := N) (a0 := (N, .inl (fun _ => jI 0))) (atype := .int) hx hb (hts _ hw) rfl hE.2.1 hP hD hS hA (fun cA => rfl) (by rw [Int32.lt_iff_toInt_lt, h1]; simp) (by rw [show (jI (N : Int)).toNatClampNeg = (jI (N : Int)).toInt.toNat from rfl, h1]; simp) (by show N * 4 ≤ _; omega) hr.1 hr.2.1 hd (fun q cA H1 hK1 hP1 hD1 hS1 => ?_)
  have e1 : cA = ac 0 := by
    have f1 := (hK1.2 (jj_ty ac).length (cA, .int) (by simp)).2
    have f2 := (hE.2.1.2 0 (ac 0, .int) rfl).2
    exact Option.some.inj (f1.symm.trans f2)
  subst e1
  exact W.widen hr.2.2.1 hr.2.2.2 (kk q (hL.fresh hD1) H1 locs ls ⟨_, hP1, hD1, hL.push (hL.fresh hD1)⟩ hS1 hl)
theorem jj_newL (F : jj_F X own cc rm) {N k n : Nat} (hw : Cond.arrayClass .long ∈ jj_GW) (hN : N ≤ 100000) (hr : kc + 1 ≤ rm.cells ∧ kn + N ≤ rm.slots ∧ kc + 1 ≤ k ∧ kn + N ≤ n) (d : jj_D cc pc (.newarray .long) 2 nx) (kk : ∀ q : Nat, G q = none → jj_J X (jj_u G q (jj_al (jj_ac X 1) N (fun _ => 0))) k n nx lv (.ref q :: st)) : jj_J X G kc kn pc lv (.int (jI (N : Int)) :: st) := by
  obtain ⟨p, l, e, R, s, m, args, below, meth, c, nL, A, D, ac, Q⟩ := X
  obtain ⟨hx, hb, hml, hown, hR, hA, hE, hs, hlk, hts, -⟩ := F
  obtain ⟨rfl, hd⟩ := d
  subst hR
  intro H locs ls hW hS hl
  obtain ⟨ws, hP, hD, hL⟩ := hW
  have h1 : (jI (N : Int)).toInt = N := jI_toInt (by omega) (by omega)
  refine va_newa (ty := .long) (N' := N) (a0 := (N, .inr (.inl (fun _ => jL 0)))) (atype := .long) hx hb (hts _ hw) rfl hE.2.1 hP hD hS hA (fun cA => rfl) (by rw [Int32.lt_iff_toInt_lt, h1]; simp) (by rw [show (jI (N : Int)).toNatClampNeg = (jI (N : Int)).toInt.toNat from rfl, h1]; simp) (by show N * 8 ≤ _; omega) hr.1 hr.2.1 hd (fun q cA H1 hK1 hP1 hD1 hS1 => ?_)
  have e1 : cA = ac 1 := by
    have f1 := (hK1.2 (jj_ty ac).length (cA, .long) (by simp)).2
    have f2 := (hE.2.1.2 1 (ac 1, .long) rfl).2
    exact Option.some.inj (f1.symm.trans f2)
  subst e1
  exact W.widen hr.2.2.1 hr.2.2.2 (kk q (hL.fresh hD1) H1 locs ls ⟨_, hP1, hD1, hL.push (hL.fresh hD1)⟩ hS1 hl)
theorem jj_newQ (F : jj_F X own cc rm) {N k n t index : Nat} {C : String} (ht : ∀ ac, (jj_ty ac)[t]? = some (ac t, .object C)) (hcl : Cond.classLink own index C ∈ jj_GW) (hO : C ∈ jj_O) (hN : N ≤ 100000) (hr : kc + 1 ≤ rm.cells ∧ kn + N ≤ rm.slots ∧ kc + 1 ≤ k ∧ kn + N ≤ n) (d : jj_D cc pc (.anewarray index) 3 nx) (kk : ∀ q : Nat, G q = none → jj_J X (jj_u G q (jj_aq (jj_ac X t) N (fun _ => none))) k n nx lv (.ref q :: st)) : jj_J X G kc kn pc lv (.int (jI (N : Int)) :: st) := by
  obtain ⟨p, l, e, R, s, m, args, below, meth, c, nL, A, D, ac, Q⟩ := X
  obtain ⟨hx, hb, hml, hown, hR, hA, hE, hs, hlk, hts, -⟩ := F
  obtain ⟨rfl, hd⟩ := d
  subst hR
  intro H locs ls hW hS hl
  obtain ⟨ws, hP, hD, hL⟩ := hW
  have h1 : (jI (N : Int)).toInt = N := jI_toInt (by omega) (by omega)
  refine va_newq (C := C) (N' := N) hx hb hown (hts _ hcl) (hE.2.2.2.2.1 C hO) hE.2.1 hP hD hS hA (by rw [Int32.lt_iff_toInt_lt, h1]; simp) (by rw [show (jI (N : Int)).toNatClampNeg = (jI (N : Int)).toInt.toNat from rfl, h1]; simp) (by omega) hr.1 hr.2.1 hd (fun q cA H1 hK1 hP1 hD1 hS1 => ?_)
  have e1 : cA = ac t := by
    obtain ⟨kA, comp, -, -, -, f1⟩ := (hK1.2 (jj_ty ac).length (cA, .object C) (by simp)).2
    obtain ⟨kB, comp', -, -, -, f2⟩ := (hE.2.1.2 t (ac t, .object C) (ht ac)).2
    exact Option.some.inj (f1.symm.trans f2)
  subst e1
  exact W.widen hr.2.2.1 hr.2.2.2 (kk q (hL.fresh hD1) H1 locs ls ⟨_, hP1, hD1, hL.push (hL.fresh hD1)⟩ hS1 hl)
theorem jj_objInit (F : jj_F X own cc rm) {a index : Nat} (hl : Cond.methodLink own index Lib.objectInit ∈ jj_GW) (hi : Cond.instanceMethod Lib.objectInit ∈ jj_GW) (hco : Cond.code Lib.objectInit ⟨#[0xb1]⟩ 1 none ∈ jj_GW) (hr : 1 ≤ rm.frames ∧ 12 ≤ rm.locals) (d : jj_D cc pc (.invokespecial index) 3 nx) (kk : jj_J X G kc kn nx lv []) : jj_J X G kc kn pc lv [.ref a] := by
  obtain ⟨p, l, e, R, s, m, args, below, meth, c, nL, A, D, ac, Q⟩ := X
  obtain ⟨hx, hb, hml, hown, hR, hA, hE, hs, hlk, hts, -⟩ := F
  obtain ⟨rfl, hd⟩ := d
  subst hR
  intro H locs ls hW hS hll
  exact W.objInit hx hb hown (hts _ hl) (hts _ hi) (hts _ hco) rfl (by rw [hml]; exact hll.1) rfl hd hr.1 (by show 2 * 0 + 0 + 12 ≤ _; omega) (kk H locs ls hW hS hll)
theorem jj_mmax (F : jj_F X own cc rm) {index : Nat} {x y : Int} (hl : Cond.methodLink own index Lib.Math.max.name ∈ jj_GW) (h1 : Cond.static Lib.Math.max.name ∈ jj_GW) (h2 : Cond.initialized "java/lang/Math" ∈ jj_GW) (h3 : Cond.code Lib.Math.max.name Lib.Math.max.code 2 (some .int) ∈ jj_GW) (hr : 1 ≤ rm.frames ∧ (st.map fun v => v.category).sum + 13 ≤ rm.locals ∧ kc ≤ rm.cells ∧ kn ≤ rm.slots) (h : -2147483648 ≤ x ∧ x ≤ 2147483647 ∧ -2147483648 ≤ y ∧ y ≤ 2147483647) (d : jj_D cc pc (.invokestatic index) 3 nx) (kk : jj_J X G kc kn nx lv (.int (jI (if x < y then y else x)) :: st)) : jj_J X G kc kn pc lv (.int (jI y) :: .int (jI x) :: st) := by
  obtain ⟨p, l, e, R, s, m, args, below, meth, c, nL, A, D, ac, Q⟩ := X
  obtain ⟨hx, hb, hml, hown, hR, hA, hE, hs, hlk, hts, -⟩ := F
  obtain ⟨rfl, hd⟩ := d
  subst hR
  intro H locs ls hW hS hll
  refine va_mmax hx hb (by rw [hml, hll.1]) hown (hts _ hl) (hts _ h1) (hts _ h2) (hts _ h3) hr.1 hr.2.1 hr.2.2.1 hr.2.2.2 hd ?_
  have q := jI_lt h
  have e1 : (if jI x < jI y then jI y else jI x) = jI (if x < y then y else x) := by
    by_cases hxy : x < y
    · rw [if_pos (q.mpr hxy), if_pos hxy]
    · rw [if_neg (fun z => hxy (q.mp z)), if_neg hxy]
  rw [e1]
  exact kk H locs ls hW hS hll
theorem jj_mmaxx (F : jj_F X own cc rm) {index : Nat} {x y : Int32} (hl : Cond.methodLink own index Lib.Math.max.name ∈ jj_GW) (h1 : Cond.static Lib.Math.max.name ∈ jj_GW) (h2 : Cond.initialized "java/lang/Math" ∈ jj_GW) (h3 : Cond.code Lib.Math.max.name Lib.Math.max.code 2 (some .int) ∈ jj_GW) (hr : 1 ≤ rm.frames ∧ (st.map fun v => v.category).sum + 13 ≤ rm.locals ∧ kc ≤ rm.cells ∧ kn ≤ rm.slots) (d : jj_D cc pc (.invokestatic index) 3 nx) (kk : jj_J X G kc kn nx lv (.int (if x < y then y else x) :: st)) : jj_J X G kc kn pc lv (.int y :: .int x :: st) := by
  obtain ⟨p, l, e, R, s, m, args, below, meth, c, nL, A, D, ac, Q⟩ := X
  obtain ⟨hx, hb, hml, hown, hR, hA, hE, hs, hlk, hts, -⟩ := F
  obtain ⟨rfl, hd⟩ := d
  subst hR
  intro H locs ls hW hS hll
  exact va_mmax hx hb (by rw [hml, hll.1]) hown (hts _ hl) (hts _ h1) (hts _ h2) (hts _ h3) hr.1 hr.2.1 hr.2.2.1 hr.2.2.2 hd (kk H locs ls hW hS hll)
theorem jj_mmin (F : jj_F X own cc rm) {index : Nat} {x y : Int} (hl : Cond.methodLink own index Lib.Math.min.name ∈ jj_GW) (h1 : Cond.static Lib.Math.min.name ∈ jj_GW) (h2 : Cond.initialized "java/lang/Math" ∈ jj_GW) (h3 : Cond.code Lib.Math.min.name Lib.Math.min.code 2 (some .int) ∈ jj_GW) (hr : 1 ≤ rm.frames ∧ (st.map fun v => v.category).sum + 13 ≤ rm.locals ∧ kc ≤ rm.cells ∧ kn ≤ rm.slots) (h : -2147483648 ≤ x ∧ x ≤ 2147483647 ∧ -2147483648 ≤ y ∧ y ≤ 2147483647) (d : jj_D cc pc (.invokestatic index) 3 nx) (kk : jj_J X G kc kn nx lv (.int (jI (if y < x then y else x)) :: st)) : jj_J X G kc kn pc lv (.int (jI y) :: .int (jI x) :: st) := by
  obtain ⟨p, l, e, R, s, m, args, below, meth, c, nL, A, D, ac, Q⟩ := X
  obtain ⟨hx, hb, hml, hown, hR, hA, hE, hs, hlk, hts, -⟩ := F
  obtain ⟨rfl, hd⟩ := d
  subst hR
  intro H locs ls hW hS hll
  refine va_mmin hx hb (by rw [hml, hll.1]) hown (hts _ hl) (hts _ h1) (hts _ h2) (hts _ h3) hr.1 hr.2.1 hr.2.2.1 hr.2.2.2 hd ?_
  have q := jI_lt (a := y) (b := x) (by omega)
  have e1 : (if jI y < jI x then jI y else jI x) = jI (if y < x then y else x) := by
    by_cases hxy : y < x
    · rw [if_pos (q.mpr hxy), if_pos hxy]
    · rw [if_neg (fun z => hxy (q.mp z)), if_neg hxy]
  rw [e1]
  exact kk H locs ls hW hS hll
end JH
end
section
/-! ends of a body -/
def jj_pi (P : Int → jj_G → Prop) : Option Value → jj_G → Prop := fun v G' => ∃ r : Int, v = some (.int (jI r)) ∧ P r G'
def jj_px (P : Int32 → jj_G → Prop) : Option Value → jj_G → Prop := fun v G' => ∃ r : Int32, v = some (.int r) ∧ P r G'
def jj_pq (P : Option Nat → jj_G → Prop) : Option Value → jj_G → Prop := fun v G' => ∃ r : Option Nat, v = some (va_rf r) ∧ P r G'
def jj_pv (P : jj_G → Prop) : Option Value → jj_G → Prop := fun v G' => v = none ∧ P G'
/-- nothing is thrown -/
def jj_nx : String → Prop := fun _ => False
section JE
variable {X : jj_X} {own : String} {cc : ByteArray} {rm : Room} {G G0 : jj_G} {kc kn pc nx : Nat} {lv lr : List (Option Value)} {st rest : List Value} {ret : Option FieldType} {post : Option Value → jj_G → Prop} {px : String → Prop}
theorem jj_B.F (B : jj_B X own cc rm ret G0 post px) : jj_F X own cc rm := by
  obtain ⟨p, l, e, R, s, m, args, below, meth, c, nL, A, D, ac, Q⟩ := X
  exact B.1
theorem jj_iret (B : jj_B X own cc rm (some .int) G0 post px) {x : Int32} (d : jj_D cc pc .ireturn 1 nx) (hr : kc ≤ rm.cells ∧ kn ≤ rm.slots) (hp : post (some (.int x)) G) : jj_J X G kc kn pc lv [.int x] := by
  obtain ⟨p, l, e, R, s, m, args, below, meth, c, nL, A, D, ac, Q⟩ := X
  obtain ⟨⟨hx, hb, hml, hown, hR, hA, hE, hs, hlk, hts, -⟩, hret, rfl, rfl, hno⟩ := B
  obtain ⟨rfl, hd⟩ := d
  intro H locs ls hW hS hl
  refine W.widen hr.1 hr.2 (vx_ret ?_)
  exact W.iret hx hb hret (fun t ht hWt => ⟨⟨_, G, rfl, hp, by rw [ht]; exact hW⟩, hS.F ht⟩) hS.2.2 hd hlk
theorem jj_zret (B : jj_B X own cc rm (some .boolean) G0 post px) {x : Int} (d : jj_D cc pc .ireturn 1 nx) (hr : kc ≤ rm.cells ∧ kn ≤ rm.slots) (h : x = 0 ∨ x = 1) (hp : post (some (.int (jI x))) G) : jj_J X G kc kn pc lv [.int (jI x)] := by
  obtain ⟨p, l, e, R, s, m, args, below, meth, c, nL, A, D, ac, Q⟩ := X
  obtain ⟨⟨hx, hb, hml, hown, hR, hA, hE, hs, hlk, hts, -⟩, hret, rfl, rfl, hno⟩ := B
  obtain ⟨rfl, hd⟩ := d
  intro H locs ls hW hS hl
  refine W.widen hr.1 hr.2 (vx_ret ?_)
  exact W.zret hx hb hret (by rcases h with rfl | rfl <;> rfl) (fun t ht hWt => ⟨⟨_, G, rfl, hp, by rw [ht]; exact hW⟩, hS.F ht⟩) hS.2.2 hd hlk
theorem jj_vret (B : jj_B X own cc rm none G0 post px) (d : jj_D cc pc .return_ 1 nx) (hr : kc ≤ rm.cells ∧ kn ≤ rm.slots) (hp : post none G) : jj_J X G kc kn pc lv [] := by
  obtain ⟨p, l, e, R, s, m, args, below, meth, c, nL, A, D, ac, Q⟩ := X
  obtain ⟨⟨hx, hb, hml, hown, hR, hA, hE, hs, hlk, hts, -⟩, hret, rfl, rfl, hno⟩ := B
  obtain ⟨rfl, hd⟩ := d
  intro H locs ls hW hS hl
  refine W.widen hr.1 hr.2 (vx_ret ?_)
  exact W.vret hx hb hret (fun t ht hWt => ⟨⟨_, G, rfl, hp, by rw [ht]; exact hW⟩, hS.F ht⟩) hS.2.2 hd hlk
theorem jj_aret (B : jj_B X own cc rm ret G0 post px) {r : Option Nat} {C : String} (hret : ret = some (.object C)) (d : jj_D cc pc .areturn 1 nx) (hr : kc ≤ rm.cells ∧ kn ≤ rm.slots) (hp : post (some (va_rf r)) G) : jj_J X G kc kn pc lv [va_rf r] := by
  obtain ⟨p, l, e, R, s, m, args, below, meth, c, nL, A, D, ac, Q⟩ := X
  obtain ⟨⟨hx, hb, hml, hown, hR, hA, hE, hs, hlk, hts, -⟩, hret', rfl, rfl, hno⟩ := B
  obtain ⟨rfl, hd⟩ := d
  intro H locs ls hW hS hl
  refine W.widen hr.1 hr.2 (vx_ret ?_)
  exact W.aret hx hb (hret'.trans hret) (Or.inl ⟨C, rfl⟩) (by cases r; exact Or.inl rfl; exact Or.inr ⟨_, rfl⟩) (fun t ht hWt => ⟨⟨_, G, rfl, hp, by rw [ht]; exact hW⟩, hS.F ht⟩) hS.2.2 hd hlk
/-- an exception on its way through the method's frame -/
def jj_JX : jj_X → jj_G → Nat → Nat → Nat → List (Option Value) → List Value → String → Prop
  | (p, l, e, R, s, m, args, below, meth, c, nL, A, D, _, Q), G, kc, kn, pc, lv, st, E =>
    ∀ (H : Heap) (locs : List Loc) (ls : Array Slot) (q : Addr) (ce : Cell), jj_W D A G H → va_S A s.heap H locs → jj_l ls nL lv → H[q]? = some ce → ce.vm = .none → s.vm.findClass E = some ce.cls → vx_W p l e R s m args below meth c H locs kc kn Q (F0 m pc ls st) q
theorem jj_out (B : jj_B X own cc rm ret G0 post px) {E : String} (hG : G = G0) (hp : px E) (hr : kc ≤ rm.cells ∧ kn ≤ rm.slots) : jj_JX X G kc kn pc lv st E := by
  obtain ⟨p, l, e, R, s, m, args, below, meth, c, nL, A, D, ac, Q⟩ := X
  obtain ⟨⟨hx, hb, hml, hown, hR, hA, hE, hs, hlk, hts, -⟩, hret', rfl, rfl, hno⟩ := B
  subst hG
  intro H locs ls q ce hW hS hl hq hv hc
  exact vx_out (fun x hx => (hno x hx).elim) hlk hq hv hc (fun t ht _ => ⟨hp, by rw [ht]; exact hW, hS.F ht⟩) hS.2.2 hr.1 hr.2
/-- a call's run, in general -/
def jj_Run : jj_X → jj_G → Nat → Nat → Nat → List (Option Value) → List Value → List Value → Nat → Nat → Array Value → (Option Value → jj_G → Prop) → (String → Prop) → Prop
  | (p, l, e, R, s, m, args, below, meth, c, nL, A, D, _, _), G, kc, kn, pc, lv, st, rest, mc, ms, a, post', px' =>
    ∀ (H : Heap) (locs : List Loc) (ls : Array Slot), jj_W D A G H → va_S A s.heap H locs → jj_l ls nL lv → vx_Run p l e R s m args below meth c H locs kc kn mc ms (F0 m pc ls st) rest (jj_Qc D G H.size post' a) (jj_XC D G H.size px') (jj_A G H.size)
theorem jj_run (F : jj_F X own cc rm) {mc ms k n : Nat} {a : Array Value} {post' : Option Value → jj_G → Prop} {px' : String → Prop} (hrun : jj_Run X G kc kn pc lv st rest mc ms a post' px') (hk : kc + mc ≤ k ∧ kn + ms ≤ n) (hnx : nx = pc + 3) (kx : ∀ E, px' E → jj_JX X G k n pc lv rest E) (kk : ∀ v G1, post' v G1 → jj_J X G1 k n nx lv (v.toList ++ rest)) : jj_J X G kc kn pc lv st := by
  obtain ⟨p, l, e, R, s, m, args, below, meth, c, nL, A, D, ac, Q⟩ := X
  obtain ⟨hx, hb, hml, hown, hR, hA, hE, hs, hlk, hts, -⟩ := F
  subst hnx
  intro H locs ls hW hS hl T hT XX
  have hfree : ∀ q, jj_A G H.size q → A q := fun q hq => hq.elim (fun h => (hW.dom h).1) (fun h => hA q (Nat.le_trans hS.1 h))
  rcases hrun H locs ls hW hS hl T hT XX with ⟨v, st₀, t, T', L, h0, X', hL, e1, e2, ⟨⟨v', G1, hv, hp, hW1⟩, hF⟩, st⟩ | ⟨q, st₀, t, T', L, E, ce, h0, X', hL, e1, e2, ⟨hp, hW1, hF⟩, hce, hcv, hcl, st⟩
  · obtain ⟨-, -, hS1⟩ := vx_keep h0 e1 hS (fun q _ h => hfree q h) hfree hL hF
    cases hv
    obtain ⟨t2, a1, b1⟩ := kk v G1 hp T'.heap (locs ++ L) ls (by rw [e1]; exact hW1.back hfree) hS1 hl T' rfl (stand_widen X' hk.1 hk.2)
    exact ⟨t2, st t2 a1, b1⟩
  · obtain ⟨-, -, hS1⟩ := vx_keep h0 e1 hS (fun q _ h => hfree q h) hfree hL hF
    obtain ⟨t2, a1, b1⟩ := kx E hp T'.heap (locs ++ L) ls q ce (by rw [e1]; exact hW1.back hfree) hS1 hl (by rw [e1]; exact hce) hcv hcl T' rfl (stand_widen X' hk.1 hk.2)
    exact ⟨t2, st.trans a1, b1⟩
/-- links -/
def jj_nm (y : MethodName) (n : Nat) : Prop := y.cls ≠ "java/lang/invoke/MethodHandle" ∧ y.cls ≠ "java/lang/invoke/VarHandle" ∧ (parseMethodDescriptor y.desc).map (fun d => d.parameters.length) = some n
def jj_lkV (own : String) (index : Nat) (y : MethodName) (bytes : ByteArray) (maxL : Nat) (ret : Option FieldType) (n : Nat) : Prop :=
  jj_nm y n ∧ Cond.methodLink own index y ∈ jj_GW ∧ Cond.instanceMethod y ∈ jj_GW ∧ Cond.selects y.cls y y ∈ jj_GW ∧ Cond.initialized y.cls ∈ jj_GW ∧ Cond.code y bytes maxL ret ∈ jj_GW
def jj_lkS (own : String) (index : Nat) (y : MethodName) (bytes : ByteArray) (maxL : Nat) (ret : Option FieldType) (n : Nat) : Prop :=
  jj_nm y n ∧ Cond.methodLink own index y ∈ jj_GW ∧ Cond.static y ∈ jj_GW ∧ Cond.initialized y.cls ∈ jj_GW ∧ Cond.code y bytes maxL ret ∈ jj_GW
def jj_lkI (own : String) (index : Nat) (y : MethodName) (bytes : ByteArray) (maxL : Nat) (n : Nat) : Prop :=
  jj_nm y n ∧ y.name = "<init>" ∧ Cond.methodLink own index y ∈ jj_GW ∧ Cond.instanceMethod y ∈ jj_GW ∧ Cond.initialized y.cls ∈ jj_GW ∧ Cond.code y bytes maxL none ∈ jj_GW
def jj_lkN (own : String) (index : Nat) (y : MethodName) (host : String) (bytes : ByteArray) (maxL : Nat) (n : Nat) : Prop :=
  jj_nm y n ∧ y.name = "<init>" ∧ Cond.methodLinkNest own index y host ∈ jj_T ∧ Cond.instanceMethod y ∈ jj_GW ∧ Cond.initialized y.cls ∈ jj_GW ∧ Cond.code y bytes maxL none ∈ jj_GW
theorem jj_good {w : Cond} (h : w ∈ jj_GW) : w ∈ jj_GW ∧ ((w.onTables && w.keeps) = true ∨ ∃ ty, w = .arrayClass ty) := ⟨h, good_of_word (jj_gw_good h)⟩
theorem jj_one {w : Cond} (h : w ∈ jj_GW) : GoodIn jj_GW [w] := fun x hx => by rw [List.mem_singleton.mp hx]; exact jj_good h
/-- the contract's world at a call -/
theorem jj_pre {D : va_G} {ac : Nat → ClassId} {A : Nat → Prop} {s : State} {H : Heap} {locs : List Loc} {av : List Value} (hA : ∀ q, s.heap.size ≤ q → A q) (hE : jj_E D ac A s s.heap) (hW : jj_W D A G H) (hS : va_S A s.heap H locs) : ∀ U : State, U.heap = H → s.WarmedH U.vm → jj_Pc D ac av G H.size av.toArray U := by
  intro U hU hWm
  have hfree : ∀ q, jj_A G H.size q → A q := fun q hq => hq.elim (fun h => (hW.dom h).1) (fun h => hA q (Nat.le_trans hS.1 h))
  exact ⟨rfl, by rw [hU], by rw [hU]; exact hW.into, by rw [hU]; exact hE.warm hWm (fun a h1 h2 => hS.2.1 a h1 h2) hfree⟩
def jj_l0 : jj_X → Launch
  | (_, l, _, _, _, _, _, _, _, _, _, _, _, _, _) => l
def jj_dg : jj_X → va_G
  | (_, _, _, _, _, _, _, _, _, _, _, _, D, _, _) => D
theorem jj_runV (F : jj_F X own cc rm) {index b ci N maxL : Nat} {y : MethodName} {bytes : ByteArray} {rt : Option FieldType} {rmy : Room} {As : List Value} {fs : List Value} {C : String} {T : u_T} {ty : Nat → FieldType} {post' : Option Value → jj_G → Prop} {px' : String → Prop} (hC : jj_C (jj_l0 X) (jj_dg X) (jj_ac X) y (.code y bytes maxL rt) rmy (.ref b :: As) G post' px') (hk : jj_lkV own index y bytes maxL rt As.length) (hb : G b = some (jj_o ci fs)) (hc : jj_cls ci C T N ty) (hyc : y.cls = C) (hst : st = As.reverse ++ .ref b :: rest) (hr : rmy.frames + 1 ≤ rm.frames ∧ 8 + (maxL + 11) + rmy.locals ≤ rm.locals ∧ kc + rmy.cells ≤ rm.cells ∧ kn + rmy.slots ≤ rm.slots ∧ (rest.map fun v => v.category).sum ≤ 8) (d : jj_D cc pc (.invokevirtual index) 3 nx) : jj_Run X G kc kn pc lv st rest rmy.cells rmy.slots (Value.ref b :: As).toArray post' px' := by
  obtain ⟨p, l, e, R, s, m, args, below, meth, c, nL, A, D, ac, Q⟩ := X
  obtain ⟨hx, hb0, hml, hown, hR, hA, hE, hs, hlk, hts, -⟩ := F
  obtain ⟨rfl, hd⟩ := d
  obtain ⟨hn, k1, k2, k3, k4, k5⟩ := hk
  subst hR; subst hyc
  intro H locs ls hW hS hl
  refine vx_runV (As := As) (rest := rest) ⟨hx, hb0, hml, hown, hts⟩ (hC H.size) (cwV As.length hts (fun w hw => ?_) rfl rfl rfl ⟨rfl, hn⟩ ⟨hr.1, hr.2.1⟩) ⟨jj_blind, va_recv hE.2.1 (hW.at hb).1 (ci := ci) (q0 := 0) hc.1 rfl, jj_pre hA hE hW hS⟩ rfl rfl hl.1 hst (lv_room hr.2.2.2.2) hd ⟨hr.2.2.1, hr.2.2.2.1⟩
  simp only [wsV, List.mem_append, List.mem_cons, List.not_mem_nil, or_false] at hw
  rcases hw with (rfl | rfl | rfl | rfl) | rfl <;> apply jj_good <;> assumption
theorem jj_runS (F : jj_F X own cc rm) {index maxL : Nat} {y : MethodName} {bytes : ByteArray} {rt : Option FieldType} {rmy : Room} {As : List Value} {post' : Option Value → jj_G → Prop} {px' : String → Prop} (hC : jj_C (jj_l0 X) (jj_dg X) (jj_ac X) y (.code y bytes maxL rt) rmy As G post' px') (hk : jj_lkS own index y bytes maxL rt As.length) (hst : st = As.reverse ++ rest) (hr : rmy.frames + 1 ≤ rm.frames ∧ 8 + (maxL + 11) + rmy.locals ≤ rm.locals ∧ kc + rmy.cells ≤ rm.cells ∧ kn + rmy.slots ≤ rm.slots ∧ (rest.map fun v => v.category).sum ≤ 8) (d : jj_D cc pc (.invokestatic index) 3 nx) : jj_Run X G kc kn pc lv st rest rmy.cells rmy.slots As.toArray post' px' := by
  obtain ⟨p, l, e, R, s, m, args, below, meth, c, nL, A, D, ac, Q⟩ := X
  obtain ⟨hx, hb0, hml, hown, hR, hA, hE, hs, hlk, hts, -⟩ := F
  obtain ⟨rfl, hd⟩ := d
  obtain ⟨hn, k1, k2, k4, k5⟩ := hk
  subst hR
  intro H locs ls hW hS hl
  exact vx_runS (As := As) (rest := rest) ⟨hx, hb0, hml, hown, hts⟩ (hC H.size) ⟨callB_of As.length hts (jj_one k5) rfl rfl rfl (hts _ k4) (hts _ k1) hn ⟨hr.1, hr.2.1⟩, hts _ k2⟩ ⟨jj_blind, jj_pre hA hE hW hS⟩ rfl rfl hl.1 hst (lv_room hr.2.2.2.2) hd ⟨hr.2.2.1, hr.2.2.2.1⟩
theorem jj_runI (F : jj_F X own cc rm) {index b maxL : Nat} {y : MethodName} {bytes : ByteArray} {rmy : Room} {As : List Value} {post' : Option Value → jj_G → Prop} {px' : String → Prop} (hC : jj_C (jj_l0 X) (jj_dg X) (jj_ac X) y (.code y bytes maxL none) rmy (.ref b :: As) G post' px') (hk : jj_lkI own index y bytes maxL As.length) (hst : st = As.reverse ++ .ref b :: rest) (hr : rmy.frames + 1 ≤ rm.frames ∧ 8 + (maxL + 11) + rmy.locals ≤ rm.locals ∧ kc + rmy.cells ≤ rm.cells ∧ kn + rmy.slots ≤ rm.slots ∧ (rest.map fun v => v.category).sum ≤ 8) (d : jj_D cc pc (.invokespecial index) 3 nx) : jj_Run X G kc kn pc lv st rest rmy.cells rmy.slots (Value.ref b :: As).toArray post' px' := by
  obtain ⟨p, l, e, R, s, m, args, below, meth, c, nL, A, D, ac, Q⟩ := X
  obtain ⟨hx, hb0, hml, hown, hR, hA, hE, hs, hlk, hts, -⟩ := F
  obtain ⟨rfl, hd⟩ := d
  obtain ⟨hn, k0, k1, k2, k4, k5⟩ := hk
  subst hR
  intro H locs ls hW hS hl
  exact vx_runI (As := As) (rest := rest) ⟨hx, hb0, hml, hown, hts⟩ (hC H.size) (cwI As.length hts (jj_one k5) rfl rfl rfl (hts _ k4) (hts _ k1) (hts _ k2) k0 hn ⟨hr.1, hr.2.1⟩) ⟨jj_blind, jj_pre hA hE hW hS⟩ rfl rfl hl.1 hst (lv_room hr.2.2.2.2) hd ⟨hr.2.2.1, hr.2.2.2.1⟩

theorem jj_runIN (F : jj_F X own cc rm) {index b maxL : Nat} {y : MethodName} {host : String} {bytes : ByteArray} {rmy : Room} {As : List Value} {post' : Option Value → jj_G → Prop} {px' : String → Prop} (hC : jj_C (jj_l0 X) (jj_dg X) (jj_ac X) y (.code y bytes maxL none) rmy (.ref b :: As) G post' px') (hk : jj_lkN own index y host bytes maxL As.length) (hst : st = As.reverse ++ .ref b :: rest) (hr : rmy.frames + 1 ≤ rm.frames ∧ 8 + (maxL + 11) + rmy.locals ≤ rm.locals ∧ kc + rmy.cells ≤ rm.cells ∧ kn + rmy.slots ≤ rm.slots ∧ (rest.map fun v => v.category).sum ≤ 8) (d : jj_D cc pc (.invokespecial index) 3 nx) : jj_Run X G kc kn pc lv st rest rmy.cells rmy.slots (Value.ref b :: As).toArray post' px' := by
  obtain ⟨p, l, e, R, s, m, args, below, meth, c, nL, A, D, ac, Q⟩ := X
  obtain ⟨hx, hb0, hml, hown, hR, hA, hE, hs, hlk, hts, -⟩ := F
  obtain ⟨rfl, hd⟩ := d
  obtain ⟨hn, k0, k1, k2, k4, k5⟩ := hk
  subst hR
  intro H locs ls hW hS hl
  exact vx_runIN (As := As) (rest := rest) ⟨hx, hb0, hml, hown, hts⟩ (hC H.size) ⟨va_cnB As.length hts (jj_one k5) rfl rfl rfl (hE.2.2.2.1 _ k1) (hts _ k4) hn ⟨hr.1, hr.2.1⟩, k0, hts _ k2⟩ ⟨jj_blind, jj_pre hA hE hW hS⟩ rfl rfl hl.1 hst (lv_room hr.2.2.2.2) hd ⟨hr.2.2.1, hr.2.2.2.1⟩
/-! .. and the rows of calls, by what comes back -/
/-- where an exception of a callee goes: out, in a body without handlers -/
def jj_tx (px' : String → Prop) (G G0 : jj_G) (px : String → Prop) : Prop := ∀ E, px' E → G = G0 ∧ px E
theorem jj_tx0 : jj_tx jj_nx G G0 px := fun _ h => h.elim
theorem jj_callVi (B : jj_B X own cc rm ret G0 post px) {index b ci N maxL k n : Nat} {y : MethodName} {bytes : ByteArray} {rt : Option FieldType} {rmy : Room} {As : List Value} {fs : List Value} {C : String} {T : u_T} {ty : Nat → FieldType} {P : Int → jj_G → Prop} {px' : String → Prop} (hC : jj_C (jj_l0 X) (jj_dg X) (jj_ac X) y (.code y bytes maxL rt) rmy (.ref b :: As) G (jj_pi P) px') (hk : jj_lkV own index y bytes maxL rt As.length) (hb : G b = some (jj_o ci fs)) (hc : jj_cls ci C T N ty) (hyc : y.cls = C) (hst : st = As.reverse ++ .ref b :: rest) (hr : rmy.frames + 1 ≤ rm.frames ∧ 8 + (maxL + 11) + rmy.locals ≤ rm.locals ∧ kc + rmy.cells ≤ rm.cells ∧ kn + rmy.slots ≤ rm.slots ∧ (rest.map fun v => v.category).sum ≤ 8) (hkn : kc + rmy.cells ≤ k ∧ kn + rmy.slots ≤ n ∧ k ≤ rm.cells ∧ n ≤ rm.slots) (hx : jj_tx px' G G0 px) (d : jj_D cc pc (.invokevirtual index) 3 nx) (kk : ∀ (r : Int) (G1 : jj_G), P r G1 → jj_J X G1 k n nx lv (.int (jI r) :: rest)) : jj_J X G kc kn pc lv st := by
  have F := B.F
  refine jj_run F (jj_runV F hC hk hb hc hyc hst hr d) ⟨hkn.1, hkn.2.1⟩ d.1 (fun E hE => jj_out B (hx E hE).1 (hx E hE).2 hkn.2.2) ?_
  rintro v G1 ⟨r, rfl, hP⟩
  exact kk r G1 hP
theorem jj_callVx (B : jj_B X own cc rm ret G0 post px) {index b ci N maxL k n : Nat} {y : MethodName} {bytes : ByteArray} {rt : Option FieldType} {rmy : Room} {As : List Value} {fs : List Value} {C : String} {T : u_T} {ty : Nat → FieldType} {P : Int32 → jj_G → Prop} {px' : String → Prop} (hC : jj_C (jj_l0 X) (jj_dg X) (jj_ac X) y (.code y bytes maxL rt) rmy (.ref b :: As) G (jj_px P) px') (hk : jj_lkV own index y bytes maxL rt As.length) (hb : G b = some (jj_o ci fs)) (hc : jj_cls ci C T N ty) (hyc : y.cls = C) (hst : st = As.reverse ++ .ref b :: rest) (hr : rmy.frames + 1 ≤ rm.frames ∧ 8 + (maxL + 11) + rmy.locals ≤ rm.locals ∧ kc + rmy.cells ≤ rm.cells ∧ kn + rmy.slots ≤ rm.slots ∧ (rest.map fun v => v.category).sum ≤ 8) (hkn : kc + rmy.cells ≤ k ∧ kn + rmy.slots ≤ n ∧ k ≤ rm.cells ∧ n ≤ rm.slots) (hx : jj_tx px' G G0 px) (d : jj_D cc pc (.invokevirtual index) 3 nx) (kk : ∀ (r : Int32) (G1 : jj_G), P r G1 → jj_J X G1 k n nx lv (.int r :: rest)) : jj_J X G kc kn pc lv st := by
  have F := B.F
  refine jj_run F (jj_runV F hC hk hb hc hyc hst hr d) ⟨hkn.1, hkn.2.1⟩ d.1 (fun E hE => jj_out B (hx E hE).1 (hx E hE).2 hkn.2.2) ?_
  rintro v G1 ⟨r, rfl, hP⟩
  exact kk r G1 hP
theorem jj_callVq (B : jj_B X own cc rm ret G0 post px) {index b ci N maxL k n : Nat} {y : MethodName} {bytes : ByteArray} {rt : Option FieldType} {rmy : Room} {As : List Value} {fs : List Value} {C : String} {T : u_T} {ty : Nat → FieldType} {P : Option Nat → jj_G → Prop} {px' : String → Prop} (hC : jj_C (jj_l0 X) (jj_dg X) (jj_ac X) y (.code y bytes maxL rt) rmy (.ref b :: As) G (jj_pq P) px') (hk : jj_lkV own index y bytes maxL rt As.length) (hb : G b = some (jj_o ci fs)) (hc : jj_cls ci C T N ty) (hyc : y.cls = C) (hst : st = As.reverse ++ .ref b :: rest) (hr : rmy.frames + 1 ≤ rm.frames ∧ 8 + (maxL + 11) + rmy.locals ≤ rm.locals ∧ kc + rmy.cells ≤ rm.cells ∧ kn + rmy.slots ≤ rm.slots ∧ (rest.map fun v => v.category).sum ≤ 8) (hkn : kc + rmy.cells ≤ k ∧ kn + rmy.slots ≤ n ∧ k ≤ rm.cells ∧ n ≤ rm.slots) (hx : jj_tx px' G G0 px) (d : jj_D cc pc (.invokevirtual index) 3 nx) (kk : ∀ (r : Option Nat) (G1 : jj_G), P r G1 → jj_J X G1 k n nx lv (va_rf r :: rest)) : jj_J X G kc kn pc lv st := by
  have F := B.F
  refine jj_run F (jj_runV F hC hk hb hc hyc hst hr d) ⟨hkn.1, hkn.2.1⟩ d.1 (fun E hE => jj_out B (hx E hE).1 (hx E hE).2 hkn.2.2) ?_
  rintro v G1 ⟨r, rfl, hP⟩
  exact kk r G1 hP
theorem jj_callVv (B : jj_B X own cc rm ret G0 post px) {index b ci N maxL k n : Nat} {y : MethodName} {bytes : ByteArray} {rt : Option FieldType} {rmy : Room} {As : List Value} {fs : List Value} {C : String} {T : u_T} {ty : Nat → FieldType} {P : jj_G → Prop} {px' : String → Prop} (hC : jj_C (jj_l0 X) (jj_dg X) (jj_ac X) y (.code y bytes maxL rt) rmy (.ref b :: As) G (jj_pv P) px') (hk : jj_lkV own index y bytes maxL rt As.length) (hb : G b = some (jj_o ci fs)) (hc : jj_cls ci C T N ty) (hyc : y.cls = C) (hst : st = As.reverse ++ .ref b :: rest) (hr : rmy.frames + 1 ≤ rm.frames ∧ 8 + (maxL + 11) + rmy.locals ≤ rm.locals ∧ kc + rmy.cells ≤ rm.cells ∧ kn + rmy.slots ≤ rm.slots ∧ (rest.map fun v => v.category).sum ≤ 8) (hkn : kc + rmy.cells ≤ k ∧ kn + rmy.slots ≤ n ∧ k ≤ rm.cells ∧ n ≤ rm.slots) (hx : jj_tx px' G G0 px) (d : jj_D cc pc (.invokevirtual index) 3 nx) (kk : ∀ (G1 : jj_G), P G1 → jj_J X G1 k n nx lv rest) : jj_J X G kc kn pc lv st := by
  have F := B.F
  refine jj_run F (jj_runV F hC hk hb hc hyc hst hr d) ⟨hkn.1, hkn.2.1⟩ d.1 (fun E hE => jj_out B (hx E hE).1 (hx E hE).2 hkn.2.2) ?_
  rintro v G1 ⟨rfl, hP⟩
  exact kk G1 hP
theorem jj_callSi (B : jj_B X own cc rm ret G0 post px) {index maxL k n : Nat} {y : MethodName} {bytes : ByteArray} {rt : Option FieldType} {rmy : Room} {As : List Value} {P : Int → jj_G → Prop} {px' : String → Prop} (hC : jj_C (jj_l0 X) (jj_dg X) (jj_ac X) y (.code y bytes maxL rt) rmy As G (jj_pi P) px') (hk : jj_lkS own index y bytes maxL rt As.length) (hst : st = As.reverse ++ rest) (hr : rmy.frames + 1 ≤ rm.frames ∧ 8 + (maxL + 11) + rmy.locals ≤ rm.locals ∧ kc + rmy.cells ≤ rm.cells ∧ kn + rmy.slots ≤ rm.slots ∧ (rest.map fun v => v.category).sum ≤ 8) (hkn : kc + rmy.cells ≤ k ∧ kn + rmy.slots ≤ n ∧ k ≤ rm.cells ∧ n ≤ rm.slots) (hx : jj_tx px' G G0 px) (d : jj_D cc pc (.invokestatic index) 3 nx) (kk : ∀ (r : Int) (G1 : jj_G), P r G1 → jj_J X G1 k n nx lv (.int (jI r) :: rest)) : jj_J X G kc kn pc lv st := by
  have F := B.F
  refine jj_run F (jj_runS F hC hk hst hr d) ⟨hkn.1, hkn.2.1⟩ d.1 (fun E hE => jj_out B (hx E hE).1 (hx E hE).2 hkn.2.2) ?_
  rintro v G1 ⟨r, rfl, hP⟩
  exact kk r G1 hP
theorem jj_callSx (B : jj_B X own cc rm ret G0 post px) {index maxL k n : Nat} {y : MethodName} {bytes : ByteArray} {rt : Option FieldType} {rmy : Room} {As : List Value} {P : Int32 → jj_G → Prop} {px' : String → Prop} (hC : jj_C (jj_l0 X) (jj_dg X) (jj_ac X) y (.code y bytes maxL rt) rmy As G (jj_px P) px') (hk : jj_lkS own index y bytes maxL rt As.length) (hst : st = As.reverse ++ rest) (hr : rmy.frames + 1 ≤ rm.frames ∧ 8 + (maxL + 11) + rmy.locals ≤ rm.locals ∧ kc + rmy.cells ≤ rm.cells ∧ kn + rmy.slots ≤ rm.slots ∧ (rest.map fun v => v.category).sum ≤ 8) (hkn : kc + rmy.cells ≤ k ∧ kn + rmy.slots ≤ n ∧ k ≤ rm.cells ∧ n ≤ rm.slots) (hx : jj_tx px' G G0 px) (d : jj_D cc pc (.invokestatic index) 3 nx) (kk : ∀ (r : Int32) (G1 : jj_G), P r G1 → jj_J X G1 k n nx lv (.int r :: rest)) : jj_J X G kc kn pc lv st := by
  have F := B.F
  refine jj_run F (jj_runS F hC hk hst hr d) ⟨hkn.1, hkn.2.1⟩ d.1 (fun E hE => jj_out B (hx E hE).1 (hx E hE).2 hkn.2.2) ?_
  rintro v G1 ⟨r, rfl, hP⟩
  exact kk r G1 hP
theorem jj_callSq (B : jj_B X own cc rm ret G0 post px) {index maxL k n : Nat} {y : MethodName} {bytes : ByteArray} {rt : Option FieldType} {rmy : Room} {As : List Value} {P : Option Nat → jj_G → Prop} {px' : String → Prop} (hC : jj_C (jj_l0 X) (jj_dg X) (jj_ac X) y (.code y bytes maxL rt) rmy As G (jj_pq P) px') (hk : jj_lkS own index y bytes maxL rt As.length) (hst : st = As.reverse ++ rest) (hr : rmy.frames + 1 ≤ rm.frames ∧ 8 + (maxL + 11) + rmy.locals ≤ rm.locals ∧ kc + rmy.cells ≤ rm.cells ∧ kn + rmy.slots ≤ rm.slots ∧ (rest.map fun v => v.category).sum ≤ 8) (hkn : kc + rmy.cells ≤ k ∧ kn + rmy.slots ≤ n ∧ k ≤ rm.cells ∧ n ≤ rm.slots) (hx : jj_tx px' G G0 px) (d : jj_D cc pc (.invokestatic index) 3 nx) (kk : ∀ (r : Option Nat) (G1 : jj_G), P r G1 → jj_J X G1 k n nx lv (va_rf r :: rest)) : jj_J X G kc kn pc lv st := by
  have F := B.F
  refine jj_run F (jj_runS F hC hk hst hr d) ⟨hkn.1, hkn.2.1⟩ d.1 (fun E hE => jj_out B (hx E hE).1 (hx E hE).2 hkn.2.2) ?_
  rintro v G1 ⟨r, rfl, hP⟩
  exact kk r G1 hP
theorem jj_callSv (B : jj_B X own cc rm ret G0 post px) {index maxL k n : Nat} {y : MethodName} {bytes : ByteArray} {rt : Option FieldType} {rmy : Room} {As : List Value} {P : jj_G → Prop} {px' : String → Prop} (hC : jj_C (jj_l0 X) (jj_dg X) (jj_ac X) y (.code y bytes maxL rt) rmy As G (jj_pv P) px') (hk : jj_lkS own index y bytes maxL rt As.length) (hst : st = As.reverse ++ rest) (hr : rmy.frames + 1 ≤ rm.frames ∧ 8 + (maxL + 11) + rmy.locals ≤ rm.locals ∧ kc + rmy.cells ≤ rm.cells ∧ kn + rmy.slots ≤ rm.slots ∧ (rest.map fun v => v.category).sum ≤ 8) (hkn : kc + rmy.cells ≤ k ∧ kn + rmy.slots ≤ n ∧ k ≤ rm.cells ∧ n ≤ rm.slots) (hx : jj_tx px' G G0 px) (d : jj_D cc pc (.invokestatic index) 3 nx) (kk : ∀ (G1 : jj_G), P G1 → jj_J X G1 k n nx lv rest) : jj_J X G kc kn pc lv st := by
  have F := B.F
  refine jj_run F (jj_runS F hC hk hst hr d) ⟨hkn.1, hkn.2.1⟩ d.1 (fun E hE => jj_out B (hx E hE).1 (hx E hE).2 hkn.2.2) ?_
  rintro v G1 ⟨rfl, hP⟩
  exact kk G1 hP
theorem jj_callIv (B : jj_B X own cc rm ret G0 post px) {index b maxL k n : Nat} {y : MethodName} {bytes : ByteArray} {rmy : Room} {As : List Value} {P : jj_G → Prop} {px' : String → Prop} (hC : jj_C (jj_l0 X) (jj_dg X) (jj_ac X) y (.code y bytes maxL none) rmy (.ref b :: As) G (jj_pv P) px') (hk : jj_lkI own index y bytes maxL As.length) (hst : st = As.reverse ++ .ref b :: rest) (hr : rmy.frames + 1 ≤ rm.frames ∧ 8 + (maxL + 11) + rmy.locals ≤ rm.locals ∧ kc + rmy.cells ≤ rm.cells ∧ kn + rmy.slots ≤ rm.slots ∧ (rest.map fun v => v.category).sum ≤ 8) (hkn : kc + rmy.cells ≤ k ∧ kn + rmy.slots ≤ n ∧ k ≤ rm.cells ∧ n ≤ rm.slots) (hx : jj_tx px' G G0 px) (d : jj_D cc pc (.invokespecial index) 3 nx) (kk : ∀ (G1 : jj_G), P G1 → jj_J X G1 k n nx lv rest) : jj_J X G kc kn pc lv st := by
  have F := B.F
  refine jj_run F (jj_runI F hC hk hst hr d) ⟨hkn.1, hkn.2.1⟩ d.1 (fun E hE => jj_out B (hx E hE).1 (hx E hE).2 hkn.2.2) ?_
  rintro v G1 ⟨rfl, hP⟩
  exact kk G1 hP
theorem jj_callNv (B : jj_B X own cc rm ret G0 post px) {index b maxL k n : Nat} {y : MethodName} {host : String} {bytes : ByteArray} {rmy : Room} {As : List Value} {P : jj_G → Prop} {px' : String → Prop} (hC : jj_C (jj_l0 X) (jj_dg X) (jj_ac X) y (.code y bytes maxL none) rmy (.ref b :: As) G (jj_pv P) px') (hk : jj_lkN own index y host bytes maxL As.length) (hst : st = As.reverse ++ .ref b :: rest) (hr : rmy.frames + 1 ≤ rm.frames ∧ 8 + (maxL + 11) + rmy.locals ≤ rm.locals ∧ kc + rmy.cells ≤ rm.cells ∧ kn + rmy.slots ≤ rm.slots ∧ (rest.map fun v => v.category).sum ≤ 8) (hkn : kc + rmy.cells ≤ k ∧ kn + rmy.slots ≤ n ∧ k ≤ rm.cells ∧ n ≤ rm.slots) (hx : jj_tx px' G G0 px) (d : jj_D cc pc (.invokespecial index) 3 nx) (kk : ∀ (G1 : jj_G), P G1 → jj_J X G1 k n nx lv rest) : jj_J X G kc kn pc lv st := by
  have F := B.F
  refine jj_run F (jj_runIN F hC hk hst hr d) ⟨hkn.1, hkn.2.1⟩ d.1 (fun E hE => jj_out B (hx E hE).1 (hx E hE).2 hkn.2.2) ?_
  rintro v G1 ⟨rfl, hP⟩
  exact kk G1 hP

end JE
end
