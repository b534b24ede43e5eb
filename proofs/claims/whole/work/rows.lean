section
-- ===== PART A: goes FIRST, ahead of the names: the tables' words, and 'selects' of the private methods out of them =====
/-- a private method of a class that the tables say can be made, by its rows of tables_1 -/
def lw_okq (q : MethodName × Nat) : Prop := (q.1.cls ≠ "java/lang/invoke/MethodHandle" ∧ q.1.cls ≠ "java/lang/invoke/VarHandle") ∧ Cond.instantiable q.1.cls q.2 ∈ tables_1 ∧ Cond.privateMethod q.1 ∈ tables_1 ∧ Cond.instanceMethod q.1 ∈ tables_1
theorem lw_p0 : lw_okq (⟨"java/util/ArrayList", "add", "(Ljava/lang/Object;[Ljava/lang/Object;I)V"⟩, 3) := ⟨⟨by decide +kernel, by decide +kernel⟩, List.mem_of_getElem? (i := 31) (by decide +kernel), List.mem_of_getElem? (i := 97) (by decide +kernel), List.mem_of_getElem? (i := 98) (by decide +kernel)⟩
theorem lw_p1 : lw_okq (⟨"java/util/ArrayList", "grow", "()[Ljava/lang/Object;"⟩, 3) := ⟨⟨by decide +kernel, by decide +kernel⟩, List.mem_of_getElem? (i := 31) (by decide +kernel), List.mem_of_getElem? (i := 101) (by decide +kernel), List.mem_of_getElem? (i := 102) (by decide +kernel)⟩
theorem lw_p2 : lw_okq (⟨"java/util/ArrayList", "grow", "(I)[Ljava/lang/Object;"⟩, 3) := ⟨⟨by decide +kernel, by decide +kernel⟩, List.mem_of_getElem? (i := 31) (by decide +kernel), List.mem_of_getElem? (i := 105) (by decide +kernel), List.mem_of_getElem? (i := 106) (by decide +kernel)⟩
theorem lw_p3 : lw_okq (⟨"Voxelmint$State", "endsRun", "(II)Z"⟩, 3) := ⟨⟨by decide +kernel, by decide +kernel⟩, List.mem_of_getElem? (i := 74) (by decide +kernel), List.mem_of_getElem? (i := 174) (by decide +kernel), List.mem_of_getElem? (i := 175) (by decide +kernel)⟩
theorem lw_p4 : lw_okq (⟨"Voxelmint$PieceFinder", "reach", "(LVoxelmint$State;II)V"⟩, 3) := ⟨⟨by decide +kernel, by decide +kernel⟩, List.mem_of_getElem? (i := 57) (by decide +kernel), List.mem_of_getElem? (i := 204) (by decide +kernel), List.mem_of_getElem? (i := 205) (by decide +kernel)⟩
theorem lw_p5 : lw_okq (⟨"Voxelmint$PieceFinder", "reachRestOfPiece", "(LVoxelmint$State;I)V"⟩, 3) := ⟨⟨by decide +kernel, by decide +kernel⟩, List.mem_of_getElem? (i := 57) (by decide +kernel), List.mem_of_getElem? (i := 211) (by decide +kernel), List.mem_of_getElem? (i := 212) (by decide +kernel)⟩
theorem lw_p6 : lw_okq (⟨"Voxelmint$PieceFinder", "reachTouching", "(LVoxelmint$State;II)V"⟩, 3) := ⟨⟨by decide +kernel, by decide +kernel⟩, List.mem_of_getElem? (i := 57) (by decide +kernel), List.mem_of_getElem? (i := 215) (by decide +kernel), List.mem_of_getElem? (i := 216) (by decide +kernel)⟩
theorem lw_p7 : lw_okq (⟨"java/lang/Throwable", "fillInStackTrace", "(I)Ljava/lang/Throwable;"⟩, 6) := ⟨⟨by decide +kernel, by decide +kernel⟩, List.mem_of_getElem? (i := 301) (by decide +kernel), List.mem_of_getElem? (i := 299) (by decide +kernel), List.mem_of_getElem? (i := 300) (by decide +kernel)⟩
theorem lw_p8 : lw_okq (⟨"Voxelmint", "checkRoomForState", "()V"⟩, 5) := ⟨⟨by decide +kernel, by decide +kernel⟩, List.mem_of_getElem? (i := 23) (by decide +kernel), List.mem_of_getElem? (i := 355) (by decide +kernel), List.mem_of_getElem? (i := 356) (by decide +kernel)⟩
theorem lw_p9 : lw_okq (⟨"Voxelmint", "beginState", "()V"⟩, 5) := ⟨⟨by decide +kernel, by decide +kernel⟩, List.mem_of_getElem? (i := 23) (by decide +kernel), List.mem_of_getElem? (i := 375) (by decide +kernel), List.mem_of_getElem? (i := 376) (by decide +kernel)⟩
theorem lw_p10 : lw_okq (⟨"Voxelmint", "checkState", "(I)V"⟩, 5) := ⟨⟨by decide +kernel, by decide +kernel⟩, List.mem_of_getElem? (i := 23) (by decide +kernel), List.mem_of_getElem? (i := 459) (by decide +kernel), List.mem_of_getElem? (i := 460) (by decide +kernel)⟩
theorem lw_p11 : lw_okq (⟨"Voxelmint", "findChild", "(I)LVoxelmint$State;"⟩, 5) := ⟨⟨by decide +kernel, by decide +kernel⟩, List.mem_of_getElem? (i := 23) (by decide +kernel), List.mem_of_getElem? (i := 479) (by decide +kernel), List.mem_of_getElem? (i := 480) (by decide +kernel)⟩
theorem lw_p12 : lw_okq (⟨"Voxelmint", "checkDie", "(I)V"⟩, 5) := ⟨⟨by decide +kernel, by decide +kernel⟩, List.mem_of_getElem? (i := 23) (by decide +kernel), List.mem_of_getElem? (i := 539) (by decide +kernel), List.mem_of_getElem? (i := 540) (by decide +kernel)⟩
theorem lw_p13 : lw_okq (⟨"Voxelmint", "checkRoomForCoin", "()V"⟩, 5) := ⟨⟨by decide +kernel, by decide +kernel⟩, List.mem_of_getElem? (i := 23) (by decide +kernel), List.mem_of_getElem? (i := 544) (by decide +kernel), List.mem_of_getElem? (i := 545) (by decide +kernel)⟩
theorem lw_p14 : lw_okq (⟨"Voxelmint$Die", "wear", "()V"⟩, 3) := ⟨⟨by decide +kernel, by decide +kernel⟩, List.mem_of_getElem? (i := 504) (by decide +kernel), List.mem_of_getElem? (i := 574) (by decide +kernel), List.mem_of_getElem? (i := 575) (by decide +kernel)⟩
theorem lw_p15 : lw_okq (⟨"Voxelmint", "keepCoin", "(LVoxelmint$Coin;)I"⟩, 5) := ⟨⟨by decide +kernel, by decide +kernel⟩, List.mem_of_getElem? (i := 23) (by decide +kernel), List.mem_of_getElem? (i := 578) (by decide +kernel), List.mem_of_getElem? (i := 579) (by decide +kernel)⟩
def lw_privs_1 : List (MethodName × Nat) := [(⟨"java/util/ArrayList", "add", "(Ljava/lang/Object;[Ljava/lang/Object;I)V"⟩, 3), (⟨"java/util/ArrayList", "grow", "()[Ljava/lang/Object;"⟩, 3), (⟨"java/util/ArrayList", "grow", "(I)[Ljava/lang/Object;"⟩, 3), (⟨"Voxelmint$State", "endsRun", "(II)Z"⟩, 3), (⟨"Voxelmint$PieceFinder", "reach", "(LVoxelmint$State;II)V"⟩, 3), (⟨"Voxelmint$PieceFinder", "reachRestOfPiece", "(LVoxelmint$State;I)V"⟩, 3), (⟨"Voxelmint$PieceFinder", "reachTouching", "(LVoxelmint$State;II)V"⟩, 3), (⟨"java/lang/Throwable", "fillInStackTrace", "(I)Ljava/lang/Throwable;"⟩, 6), (⟨"Voxelmint", "checkRoomForState", "()V"⟩, 5), (⟨"Voxelmint", "beginState", "()V"⟩, 5), (⟨"Voxelmint", "checkState", "(I)V"⟩, 5), (⟨"Voxelmint", "findChild", "(I)LVoxelmint$State;"⟩, 5), (⟨"Voxelmint", "checkDie", "(I)V"⟩, 5), (⟨"Voxelmint", "checkRoomForCoin", "()V"⟩, 5), (⟨"Voxelmint$Die", "wear", "()V"⟩, 3), (⟨"Voxelmint", "keepCoin", "(LVoxelmint$Coin;)I"⟩, 5)]
theorem lw_r1 : ∀ q ∈ lw_privs_1, lw_okq q := List.forall_mem_cons.mpr ⟨lw_p0, List.forall_mem_cons.mpr ⟨lw_p1, List.forall_mem_cons.mpr ⟨lw_p2, List.forall_mem_cons.mpr ⟨lw_p3, List.forall_mem_cons.mpr ⟨lw_p4, List.forall_mem_cons.mpr ⟨lw_p5, List.forall_mem_cons.mpr ⟨lw_p6, List.forall_mem_cons.mpr ⟨lw_p7, List.forall_mem_cons.mpr ⟨lw_p8, List.forall_mem_cons.mpr ⟨lw_p9, List.forall_mem_cons.mpr ⟨lw_p10, List.forall_mem_cons.mpr ⟨lw_p11, List.forall_mem_cons.mpr ⟨lw_p12, List.forall_mem_cons.mpr ⟨lw_p13, List.forall_mem_cons.mpr ⟨lw_p14, List.forall_mem_cons.mpr ⟨lw_p15, fun _ h => absurd h List.not_mem_nil⟩⟩⟩⟩⟩⟩⟩⟩⟩⟩⟩⟩⟩⟩⟩⟩
theorem lw_p16 : lw_okq (⟨"Voxelmint", "checkCoin", "(I)V"⟩, 5) := ⟨⟨by decide +kernel, by decide +kernel⟩, List.mem_of_getElem? (i := 23) (by decide +kernel), List.mem_of_getElem? (i := 589) (by decide +kernel), List.mem_of_getElem? (i := 590) (by decide +kernel)⟩
theorem lw_p17 : lw_okq (⟨"VoxelmintModel", "grows", "()V"⟩, 15) := ⟨⟨by decide +kernel, by decide +kernel⟩, List.mem_of_getElem? (i := 640) (by decide +kernel), List.mem_of_getElem? (i := 709) (by decide +kernel), List.mem_of_getElem? (i := 710) (by decide +kernel)⟩
theorem lw_p18 : lw_okq (⟨"VoxelmintModel", "puts", "(III)V"⟩, 15) := ⟨⟨by decide +kernel, by decide +kernel⟩, List.mem_of_getElem? (i := 640) (by decide +kernel), List.mem_of_getElem? (i := 713) (by decide +kernel), List.mem_of_getElem? (i := 714) (by decide +kernel)⟩
theorem lw_p19 : lw_okq (⟨"VoxelmintModel", "kindNow", "(II)I"⟩, 15) := ⟨⟨by decide +kernel, by decide +kernel⟩, List.mem_of_getElem? (i := 640) (by decide +kernel), List.mem_of_getElem? (i := 729) (by decide +kernel), List.mem_of_getElem? (i := 730) (by decide +kernel)⟩
theorem lw_p20 : lw_okq (⟨"VoxelmintModel", "kindAt", "(III)I"⟩, 15) := ⟨⟨by decide +kernel, by decide +kernel⟩, List.mem_of_getElem? (i := 640) (by decide +kernel), List.mem_of_getElem? (i := 733) (by decide +kernel), List.mem_of_getElem? (i := 734) (by decide +kernel)⟩
theorem lw_p21 : lw_okq (⟨"VoxelmintModel", "runsOf", "(I)I"⟩, 15) := ⟨⟨by decide +kernel, by decide +kernel⟩, List.mem_of_getElem? (i := 640) (by decide +kernel), List.mem_of_getElem? (i := 741) (by decide +kernel), List.mem_of_getElem? (i := 742) (by decide +kernel)⟩
theorem lw_p22 : lw_okq (⟨"VoxelmintModel", "manyBlocks", "()I"⟩, 15) := ⟨⟨by decide +kernel, by decide +kernel⟩, List.mem_of_getElem? (i := 640) (by decide +kernel), List.mem_of_getElem? (i := 753) (by decide +kernel), List.mem_of_getElem? (i := 754) (by decide +kernel)⟩
theorem lw_p23 : lw_okq (⟨"VoxelmintModel", "manyPieces", "()I"⟩, 15) := ⟨⟨by decide +kernel, by decide +kernel⟩, List.mem_of_getElem? (i := 640) (by decide +kernel), List.mem_of_getElem? (i := 765) (by decide +kernel), List.mem_of_getElem? (i := 766) (by decide +kernel)⟩
theorem lw_p24 : lw_okq (⟨"VoxelmintModel", "joinsAll", "()Z"⟩, 15) := ⟨⟨by decide +kernel, by decide +kernel⟩, List.mem_of_getElem? (i := 640) (by decide +kernel), List.mem_of_getElem? (i := 769) (by decide +kernel), List.mem_of_getElem? (i := 770) (by decide +kernel)⟩
theorem lw_p25 : lw_okq (⟨"VoxelmintModel", "joins", "(II)Z"⟩, 15) := ⟨⟨by decide +kernel, by decide +kernel⟩, List.mem_of_getElem? (i := 640) (by decide +kernel), List.mem_of_getElem? (i := 773) (by decide +kernel), List.mem_of_getElem? (i := 774) (by decide +kernel)⟩
theorem lw_p26 : lw_okq (⟨"VoxelmintModel", "heightNow", "(I)I"⟩, 15) := ⟨⟨by decide +kernel, by decide +kernel⟩, List.mem_of_getElem? (i := 640) (by decide +kernel), List.mem_of_getElem? (i := 781) (by decide +kernel), List.mem_of_getElem? (i := 782) (by decide +kernel)⟩
theorem lw_p27 : lw_okq (⟨"VoxelmintModel", "isState", "(I)Z"⟩, 15) := ⟨⟨by decide +kernel, by decide +kernel⟩, List.mem_of_getElem? (i := 640) (by decide +kernel), List.mem_of_getElem? (i := 797) (by decide +kernel), List.mem_of_getElem? (i := 798) (by decide +kernel)⟩
theorem lw_p28 : lw_okq (⟨"VoxelmintModel", "manyBranches", "()I"⟩, 15) := ⟨⟨by decide +kernel, by decide +kernel⟩, List.mem_of_getElem? (i := 640) (by decide +kernel), List.mem_of_getElem? (i := 809) (by decide +kernel), List.mem_of_getElem? (i := 810) (by decide +kernel)⟩
theorem lw_p29 : lw_okq (⟨"VoxelmintModel", "isDie", "(I)Z"⟩, 15) := ⟨⟨by decide +kernel, by decide +kernel⟩, List.mem_of_getElem? (i := 640) (by decide +kernel), List.mem_of_getElem? (i := 829) (by decide +kernel), List.mem_of_getElem? (i := 830) (by decide +kernel)⟩
theorem lw_p30 : lw_okq (⟨"VoxelmintModel", "isCoin", "(I)Z"⟩, 15) := ⟨⟨by decide +kernel, by decide +kernel⟩, List.mem_of_getElem? (i := 640) (by decide +kernel), List.mem_of_getElem? (i := 837) (by decide +kernel), List.mem_of_getElem? (i := 838) (by decide +kernel)⟩
theorem lw_p31 : lw_okq (⟨"VoxelmintModel", "laysThen", "(II)V"⟩, 15) := ⟨⟨by decide +kernel, by decide +kernel⟩, List.mem_of_getElem? (i := 640) (by decide +kernel), List.mem_of_getElem? (i := 860) (by decide +kernel), List.mem_of_getElem? (i := 861) (by decide +kernel)⟩
def lw_privs_2 : List (MethodName × Nat) := [(⟨"Voxelmint", "checkCoin", "(I)V"⟩, 5), (⟨"VoxelmintModel", "grows", "()V"⟩, 15), (⟨"VoxelmintModel", "puts", "(III)V"⟩, 15), (⟨"VoxelmintModel", "kindNow", "(II)I"⟩, 15), (⟨"VoxelmintModel", "kindAt", "(III)I"⟩, 15), (⟨"VoxelmintModel", "runsOf", "(I)I"⟩, 15), (⟨"VoxelmintModel", "manyBlocks", "()I"⟩, 15), (⟨"VoxelmintModel", "manyPieces", "()I"⟩, 15), (⟨"VoxelmintModel", "joinsAll", "()Z"⟩, 15), (⟨"VoxelmintModel", "joins", "(II)Z"⟩, 15), (⟨"VoxelmintModel", "heightNow", "(I)I"⟩, 15), (⟨"VoxelmintModel", "isState", "(I)Z"⟩, 15), (⟨"VoxelmintModel", "manyBranches", "()I"⟩, 15), (⟨"VoxelmintModel", "isDie", "(I)Z"⟩, 15), (⟨"VoxelmintModel", "isCoin", "(I)Z"⟩, 15), (⟨"VoxelmintModel", "laysThen", "(II)V"⟩, 15)]
theorem lw_r2 : ∀ q ∈ lw_privs_2, lw_okq q := List.forall_mem_cons.mpr ⟨lw_p16, List.forall_mem_cons.mpr ⟨lw_p17, List.forall_mem_cons.mpr ⟨lw_p18, List.forall_mem_cons.mpr ⟨lw_p19, List.forall_mem_cons.mpr ⟨lw_p20, List.forall_mem_cons.mpr ⟨lw_p21, List.forall_mem_cons.mpr ⟨lw_p22, List.forall_mem_cons.mpr ⟨lw_p23, List.forall_mem_cons.mpr ⟨lw_p24, List.forall_mem_cons.mpr ⟨lw_p25, List.forall_mem_cons.mpr ⟨lw_p26, List.forall_mem_cons.mpr ⟨lw_p27, List.forall_mem_cons.mpr ⟨lw_p28, List.forall_mem_cons.mpr ⟨lw_p29, List.forall_mem_cons.mpr ⟨lw_p30, List.forall_mem_cons.mpr ⟨lw_p31, fun _ h => absurd h List.not_mem_nil⟩⟩⟩⟩⟩⟩⟩⟩⟩⟩⟩⟩⟩⟩⟩⟩
def lw_privs : List (MethodName × Nat) := lw_privs_1 ++ (lw_privs_2)
def lw_tbl : List Cond := k2_sels lw_privs ++ tables_1
theorem lw_privs_ok : ∀ q ∈ lw_privs, lw_okq q := by
  show ∀ q ∈ lw_privs_1 ++ (lw_privs_2), lw_okq q
  exact List.forall_mem_append.mpr ⟨lw_r1, lw_r2⟩
end
section
/-! ===== BEGIN words of one list among another's, by their places ===== -/
theorem goodIn_r {big : List Cond} (ws : List Cond) (ps : List Nat) (hp : ws = ps.filterMap (fun i => big[i]?)) (h : ws.all goodWord = true) : GoodIn big ws := by
  intro w hw
  have h1 := List.all_eq_true.mp h w hw
  rw [hp] at hw
  obtain ⟨i, -, hi⟩ := List.mem_filterMap.mp hw
  have hm : w ∈ big := by first | exact List.mem_of_getElem? hi | exact List.getElem?_mem hi
  exact ⟨hm, good_of_word h1⟩
theorem goodIn_app {big a b : List Cond} (ha : GoodIn big a) (hb : GoodIn big b) : GoodIn big (a ++ b) := fun w h => (List.mem_append.mp h).elim (ha w) (hb w)
theorem goodIn_ca {big a b : List Cond} {c : Cond} (ha : GoodIn big (c :: a)) (hb : GoodIn big b) : GoodIn big (c :: (a ++ b)) := fun w h => (List.mem_cons.mp h).elim (fun e => ha w (List.mem_cons.mpr (Or.inl e))) (fun h => (List.mem_append.mp h).elim (fun h => ha w (List.mem_cons.mpr (Or.inr h))) (hb w))
theorem goodIn_sub {big ws : List Cond} (hm : ∀ w ∈ ws, w ∈ big) (h : ws.all goodWord = true) : GoodIn big ws := fun w hw => ⟨hm w hw, good_of_word (List.all_eq_true.mp h w hw)⟩
/-! ===== END ===== -/

/-! ===== BEGIN exceptions that leave a method, and their catching by the caller (launches without stack traces) ===== -/
section VXA
/-! The laws vx_back, vx_callV, vx_callS, vx_callSW, vx_throw0, vx_throwS follow proofs of the library, with one case more: JvmDerived/Free/Laws.lean (Back.of_free), Shelf42/LK1.lean (callV, callS), Shelf/KitTraced.lean (throwNew0V, throwNewS). -/
/-- where a method has thrown q: the class by its name, the cell, what was written, the world -/
def vx_T (XC : String → State → State → Prop) (st : State) (q : Addr) (t : State) (mc ms : Nat) (free : Addr → Prop) : Prop :=
  ∃ (E : String) (ce : Cell) (L : List Loc), XC E st t ∧ t.heap[q]? = some ce ∧ ce.vm = .none ∧ st.vm.findClass E = some ce.cls ∧ st.WarmedH t.vm ∧ st.sameButNew ({ t with vm := st.vm } : State) L mc ms ∧ ∀ z ∈ L, free z.base
def vx_Q (Qc : Array Value → State → Outcome → State → Prop) (XC : String → State → State → Prop) (mc ms : Nat) (free : Addr → Prop) : Array Value → State → Outcome → State → Prop := fun a st o t =>
  (Qc a st o t ∧ ∃ L, FrameEnd st o t L mc ms ∧ ∀ q ∈ L, free q.base) ∨ ∃ q, o = .threw q ∧ vx_T XC st q t mc ms free
/-- a callee that returns or throws -/
def vx_Met (l : Launch) (y : MethodName) (ws : List Cond) (rm : Room) (Pc : Array Value → State → Prop) (Qc : Array Value → State → Outcome → State → Prop) (XC : String → State → State → Prop) (mc ms : Nat) (free : Addr → Prop) : Prop :=
  MetFree l y (headSpec ws rm) Pc (fun _ _ _ _ _ => True) (vx_Q Qc XC mc ms free)
def vx_Post (XC : String → State → State → Prop) (mc ms : Nat) (free : Addr → Prop) : Pt → Array Value → Addr → Pt → Prop := fun A a q B =>
  ∃ (g : JFrame) (mk : MethodId) (t : State) (L : List Loc) (E : String) (ce : Cell), B.U.heap = t.heap ∧ B.U.vm = t.vm ∧ XC E (A.U.calling g mk a) t ∧ t.heap[q]? = some ce ∧ ce.vm = .none ∧ A.U.vm.findClass E = some ce.cls ∧ B.locs = A.locs ++ L ∧ (∀ z ∈ L, free z.base) ∧ B.cells = A.cells + mc ∧ B.slots = A.slots + ms
def vx_Back (l : Launch) (R : Room) (p : Program) (e : Env) (below : List Frame) (s : State) (sargs : Array Value) (y : MethodName) (len W9 : Nat)
    (Pre : Pt → Array Value → Prop) (Post : Pt → Array Value → Option Value → Pt → Prop) (PostX : Pt → Array Value → Addr → Pt → Prop) : Prop :=
  ∀ (m : MethodId) (meth : Method) (c : Code) (A : Pt) (g : JFrame) (ig : Instr) (mk : MethodId) (a : Array Value),
    Stand p l e R s m sargs below meth c A.U A.locs A.cells A.slots → g.method = m → g.locals.size = c.maxLocals → decode c.code g.pc = .ok (ig, len) →
    2 * g.monitorRoom + (g.stack.map fun v => v.category).sum ≤ W9 → A.U.methodNamed? y = some mk → Pre A a →
    (∃ (v : Option Value) (B : Pt), Stand p l e R s m sargs below meth c B.U B.locs B.cells B.slots ∧ Post A a v B ∧
      Steps p.tables e below (doInvoke e (A.U.setTop g) [] mk a).1 (B.U.setTop { g with pc := g.pc + len, stack := v.toList ++ g.stack })) ∨
    (∃ (q : Addr) (B : Pt), Stand p l e R s m sargs below meth c B.U B.locs B.cells B.slots ∧ PostX A a q B ∧
      Steps p.tables e below (doInvoke e (A.U.setTop g) [] mk a).1 ((B.U.setTop g).pushFrame (.throwing q)))
section Payer
variable {l : Launch} {R : Room} {p : Program} {e : Env} {below : List Frame} {s : State} {sargs : Array Value} {y : MethodName} {len W9 : Nat}
theorem vx_back {ws : List Cond} {rm : Room} {Pc : Array Value → State → Prop} {Qc : Array Value → State → Outcome → State → Prop} {XC : String → State → State → Prop} {mc ms : Nat} {free : Addr → Prop} {bytes : ByteArray} {maxL : Nat} {ret : Option FieldType}
    (hM : vx_Met l y ws rm Pc Qc XC mc ms free) (hblind : FrameBlind Pc) (hrc : rm.cells = mc) (hrs : rm.slots = ms)
    (hframes : rm.frames + 1 ≤ R.frames) (hlocals : W9 + (maxL + 11) + rm.locals ≤ R.locals)
    (hws : ∀ w ∈ ws, ∀ a' U, s.WarmedH U.vm → w.before a' U = true) (hcode : Cond.code y bytes maxL ret ∈ ws) (hinit : ∀ a' U, s.WarmedH U.vm → (Cond.initialized y.cls).before a' U = true) :
    vx_Back l R p e below s sargs y len W9 (PreOf R mc ms Pc) (PostOf Qc mc ms free) (vx_Post XC mc ms free) := by
  intro m meth c A g ig mk a X hg hsize hdg hW hn hp
  have h1 : (headSpec ws rm).pre.before a A.U = true := atoms_intro fun w hw => hws w hw _ _ X.warmed
  have h2 : (Cond.code y bytes maxL ret).before a A.U = true := hws _ hcode _ _ X.warmed
  have h3 : (Cond.initialized y.cls).before a A.U = true := hinit _ _ X.warmed
  have h4 : A.cells + (headSpec ws rm).room.cells ≤ R.cells := by rw [show (headSpec ws rm).room.cells = mc from hrc]; exact hp.1
  have h5 : A.slots + (headSpec ws rm).room.slots ≤ R.slots := by rw [show (headSpec ws rm).room.slots = ms from hrs]; exact hp.2.1
  have hPc : Pc a (A.U.calling g mk a) := hblind _ _ _ _ hp.2.2
  obtain ⟨U, Ls, c0, s0⟩ := A
  dsimp only [Pt.U, Pt.locs, Pt.cells, Pt.slots] at h1 h2 h3 h4 h5 X hn hPc ⊢
  obtain ⟨methY, cY, hmY, hcY, -, hlY, -, -, -, -⟩ := Cond.code_spec hn h2
  obtain ⟨kY, hkY, -⟩ := className_of_methodNamed hn
  have hinitY : kY.init = .initialized := Cond.initialized_spec (findClass_of_methodNamed hn) hkY h3
  have h : At U g.method c below := by rw [hg]; exact X.here
  have hlocals9 : W9 + (maxL + 11) + (headSpec ws rm).room.locals ≤ R.locals := hlocals
  have happ : (headSpec ws rm).appliesLoose y e.platform (U.calling g mk a) = true :=
    Spec.appliesLoose_calling (g := g) h hdg hn hkY hinitY
      (X.room_calling (g := g) (R' := (headSpec ws rm).room) hsize hmY hcY hframes (by rw [hlY]; omega) h4 h5) h1
  obtain ⟨mid, hmid⟩ := h.above
  have hfr : (U.setTop g).frames = (.java g :: mid) ++ below := by rw [State.frames_setTop' g h.top, hmid]; rfl
  obtain ⟨o, s₂, hsteps, -, hend, hq⟩ := Steps.callFree hM p X.admits X.cas X.clock (acts := []) hfr happ hPc trivial
  have hq' : vx_Q Qc XC mc ms free a (U.calling g mk a) o s₂ := hq
  rw [State.frames_setTop' g h.top] at hend
  obtain ⟨g₀, hg0⟩ := Option.isSome_iff_exists.mp h.top
  obtain ⟨r, hr⟩ := State.topJava?_eq_some.mp hg0
  have hr' : (({ U with heap := s₂.heap, slotsUsed := s₂.slotsUsed } : State).setVm s₂.vm).frames = .java g₀ :: r := hr
  rcases hq' with ⟨hqc, L, hfe, hL⟩ | ⟨q, rfl, E, ce, L, hx, hce, hcv, hcl, hW₂, hsm, hL⟩
  · obtain ⟨⟨v, rfl⟩, hW₂, e2, q2, q3, q4, q5, q6⟩ := id hfe
    have e3 : s₂ = ({ (U.calling g mk a).setFrames s₂.frames with heap := s₂.heap, slotsUsed := s₂.slotsUsed } : State).setVm s₂.vm := by
      have : s₂ = ({ s₂ with vm := (U.calling g mk a).vm } : State).setVm s₂.vm := rfl
      rw [e2] at this
      exact this
    obtain ⟨c₂, i₂, len₂, hc₂, hd₂, hf₂⟩ := hend
    have hW' : U.WarmedH s₂.vm := hW₂
    have hcc : c₂ = c := by
      have h1 : s₂.code? g.method = U.code? g.method := by
        rw [State.code?_eq, State.code?_eq, hW'.alike.method?]
      exact Option.some.inj (hc₂.symm.trans (h1.trans h.code))
    subst hcc
    have hlen : len₂ = len := by rw [hdg] at hd₂; cases hd₂; rfl
    subst hlen
    have hs₂ : s₂ = (({ U with heap := s₂.heap, slotsUsed := s₂.slotsUsed } : State).setVm s₂.vm).setTop { g with pc := g.pc + len₂, stack := v.toList ++ g.stack } := by
      refine e3.trans ?_
      rw [hf₂, State.calling_eq h.top, State.setFrames_setFrames, State.setTop_of_frames _ hr', hr]
      rfl
    have hsame : U.sameButNew ({ U with heap := s₂.heap, slotsUsed := s₂.slotsUsed } : State) L mc ms := by
      refine ⟨?_, q2, q3, q4, q5, q6⟩
      obtain ⟨t, ht, -⟩ := State.frames_cons hr
      show ({ U with heap := s₂.heap, slotsUsed := s₂.slotsUsed } : State) = { U.setFrames U.frames with heap := s₂.heap, slotsUsed := s₂.slotsUsed }
      rw [State.setFrames_self ht]
    subst hg
    refine Or.inl ⟨v, ⟨(({ U with heap := s₂.heap, slotsUsed := s₂.slotsUsed } : State).setVm s₂.vm), Ls ++ L, c0 + mc, s0 + ms⟩,
      ⟨X.admits, X.cas, X.clock, X.frames, X.room, X.hears, X.method, X.code, (X.here.setHeapUsed s₂.heap s₂.slotsUsed).setVm hW'.alike, X.tail, State.WarmedH.trans X.warmed hW', X.limits, X.bytes, X.same.trans (hsame.setVm s.vm)⟩,
      ⟨g, mk, s₂, L, rfl, rfl, hqc, rfl, hL, rfl, rfl⟩, ?_⟩
    show Steps p.tables e below _ ((({ U with heap := s₂.heap, slotsUsed := s₂.slotsUsed } : State).setVm s₂.vm).setTop { g with pc := g.pc + len₂, stack := v.toList ++ g.stack })
    rw [← hs₂]
    exact hsteps
  · obtain ⟨e2, q2, q3, q4, q5, q6⟩ := id hsm
    have e3 : s₂ = ({ (U.calling g mk a).setFrames s₂.frames with heap := s₂.heap, slotsUsed := s₂.slotsUsed } : State).setVm s₂.vm := by
      have : s₂ = ({ s₂ with vm := (U.calling g mk a).vm } : State).setVm s₂.vm := rfl
      rw [e2] at this
      exact this
    have hf₂ : s₂.frames = .throwing q :: .java g :: U.frames.tail := hend
    have hW' : U.WarmedH s₂.vm := hW₂
    have hs₂ : s₂ = ((({ U with heap := s₂.heap, slotsUsed := s₂.slotsUsed } : State).setVm s₂.vm).setTop g).pushFrame (.throwing q) := by
      refine e3.trans ?_
      rw [hf₂, State.calling_eq h.top, State.setFrames_setFrames, State.pushFrame, State.frames_setTop _ hr', State.setTop_of_frames _ hr', State.setFrames_setFrames, hr]
      rfl
    have hsame : U.sameButNew ({ U with heap := s₂.heap, slotsUsed := s₂.slotsUsed } : State) L mc ms := by
      refine ⟨?_, q2, q3, q4, q5, q6⟩
      obtain ⟨t, ht, -⟩ := State.frames_cons hr
      show ({ U with heap := s₂.heap, slotsUsed := s₂.slotsUsed } : State) = { U.setFrames U.frames with heap := s₂.heap, slotsUsed := s₂.slotsUsed }
      rw [State.setFrames_self ht]
    subst hg
    refine Or.inr ⟨q, ⟨(({ U with heap := s₂.heap, slotsUsed := s₂.slotsUsed } : State).setVm s₂.vm), Ls ++ L, c0 + mc, s0 + ms⟩,
      ⟨X.admits, X.cas, X.clock, X.frames, X.room, X.hears, X.method, X.code, (X.here.setHeapUsed s₂.heap s₂.slotsUsed).setVm hW'.alike, X.tail, State.WarmedH.trans X.warmed hW', X.limits, X.bytes, X.same.trans (hsame.setVm s.vm)⟩,
      ⟨g, mk, s₂, L, E, ce, rfl, rfl, hx, hce, hcv, hcl, rfl, hL, rfl, rfl⟩, ?_⟩
    show Steps p.tables e below _ (((({ U with heap := s₂.heap, slotsUsed := s₂.slotsUsed } : State).setVm s₂.vm).setTop g).pushFrame (.throwing q))
    rw [← hs₂]
    exact hsteps
end Payer
section Calls
variable {p : Program} {l : Launch} {e : Env} {R : Room} {s : State} {m : MethodId} {args : Array Value} {below : List Frame} {meth : Method} {c : Code} {T : State} {locs : List Loc} {cells slots : Nat}
theorem vx_callV (X : Stand p l e R s m args below meth c T locs cells slots) (hexec : p.tables.exec = Jvm.exec) {own C : String} {index : Nat} {y : MethodName} {bytes : ByteArray} {maxL : Nat} {ret : Option FieldType}
    (hown : s.vm.findClass own = some m.cls) (hlink : (Cond.methodLink own index y).before args s = true) (hinst : (Cond.instanceMethod y).before args s = true) (hsel : (Cond.selects C y y).before args s = true)
    (hcode : (Cond.code y bytes maxL ret).before args s = true) (hy : y.cls ≠ "java/lang/invoke/MethodHandle" ∧ y.cls ≠ "java/lang/invoke/VarHandle")
    {W9 : Nat} {Pre : Pt → Array Value → Prop} {Post : Pt → Array Value → Option Value → Pt → Prop} {PostX : Pt → Array Value → Addr → Pt → Prop} (hK : vx_Back l R p e below s args y 3 W9 Pre Post PostX)
    {b : Addr} {cellB : Cell} (hcell : T.heap[b]? = some cellB) (hobj : cellB.vm.isStatics = false) (hcls : s.vm.findClass C = some cellB.cls)
    {g : JFrame} (hg : g.method = m) (hsize : g.locals.size = c.maxLocals) {argsL rest : List Value} (hlen : ∀ sig, parseMethodDescriptor y.desc = some sig → argsL.length = sig.parameters.length)
    (hstack : g.stack = argsL.reverse ++ .ref b :: rest) (hW : 2 * g.monitorRoom + (rest.map fun v => v.category).sum ≤ W9) (hdg : decode c.code g.pc = .ok (.invokevirtual index, 3))
    (hpre : ∀ vm₁, s.WarmedH vm₁ → Pre ⟨T.setVm vm₁, locs, cells, slots⟩ (Value.ref b :: argsL).toArray) :
    (∃ (v : Option Value) (vm₁ : Vm) (B : Pt), s.WarmedH vm₁ ∧ Stand p l e R s m args below meth c B.U B.locs B.cells B.slots ∧ Post ⟨T.setVm vm₁, locs, cells, slots⟩ (Value.ref b :: argsL).toArray v B ∧
      ∀ target, Steps p.tables e below (B.U.setTop { g with pc := g.pc + 3, stack := v.toList ++ rest }) target → Steps p.tables e below (T.setTop g) target) ∨
    (∃ (q : Addr) (vm₁ : Vm) (B : Pt), s.WarmedH vm₁ ∧ Stand p l e R s m args below meth c B.U B.locs B.cells B.slots ∧ PostX ⟨T.setVm vm₁, locs, cells, slots⟩ (Value.ref b :: argsL).toArray q B ∧
      Steps p.tables e below (T.setTop g) ((B.U.setTop { g with stack := rest }).pushFrame (.throwing q))) := by
  obtain ⟨mk, methM, hnamed, hmethM, hstM, habM⟩ := Cond.instanceMethod_spec hinst
  obtain ⟨methM', cM, hmethM', -, -, -, -, -, -, hsigM⟩ := Cond.code_spec hnamed hcode
  cases hmethM.symm.trans hmethM'
  obtain ⟨c2, r2, m2, q1, q2, q3, q4, kP, hkP, hkPi⟩ := Cond.selects_spec hsel
  cases hcls.symm.trans q1
  cases (State.methodFound?_of_named hnamed hy).symm.trans q2
  cases hnamed.symm.trans q3
  have hselP : selectMethod e.platform s.vm cellB.cls mk = .method mk := by rw [Launch.admits_selectMethod X.admits]; exact q4
  obtain ⟨vm₁, X₁, hstep₁⟩ := X.invokevirtual hexec hown hlink hnamed hmethM hstM hkP hkPi hy (a := b) (cell := cellB) hcell
    (fun z h => by rw [h] at hobj; cases hobj) hselP hmethM habM hkP hkPi (g := g) hg (argsL := argsL) (rest := rest) (hlen _ hsigM) hstack hdg
  rcases hK m meth c ⟨T.setVm vm₁, locs, cells, slots⟩ { g with stack := rest } (.invokevirtual index) mk (Value.ref b :: argsL).toArray X₁ hg hsize hdg hW (X₁.named hnamed) (hpre vm₁ X₁.warmed) with ⟨v, B, X', hpost, hsteps⟩ | ⟨q, B, X', hpost, hsteps⟩
  · exact Or.inl ⟨v, vm₁, B, X₁.warmed, X', hpost, fun target h => hstep₁ _ fun acts => by rw [doInvoke_state]; exact hsteps.trans h⟩
  · exact Or.inr ⟨q, vm₁, B, X₁.warmed, X', hpost, hstep₁ _ fun acts => by rw [doInvoke_state]; exact hsteps⟩
theorem vx_callS (X : Stand p l e R s m args below meth c T locs cells slots) (hexec : p.tables.exec = Jvm.exec) {own : String} {index : Nat} {y : MethodName} {bytes : ByteArray} {maxL : Nat} {ret : Option FieldType}
    (hown : s.vm.findClass own = some m.cls) (hlink : (Cond.methodLink own index y).before args s = true) (hstat : (Cond.static y).before args s = true) (hinit : (Cond.initialized y.cls).before args s = true)
    (hcode : (Cond.code y bytes maxL ret).before args s = true) (hy : y.cls ≠ "java/lang/invoke/MethodHandle" ∧ y.cls ≠ "java/lang/invoke/VarHandle")
    {W9 : Nat} {Pre : Pt → Array Value → Prop} {Post : Pt → Array Value → Option Value → Pt → Prop} {PostX : Pt → Array Value → Addr → Pt → Prop} (hK : vx_Back l R p e below s args y 3 W9 Pre Post PostX)
    {g : JFrame} (hg : g.method = m) (hsize : g.locals.size = c.maxLocals) {argsL rest : List Value} (hlen : ∀ sig, parseMethodDescriptor y.desc = some sig → argsL.length = sig.parameters.length)
    (hstack : g.stack = argsL.reverse ++ rest) (hW : 2 * g.monitorRoom + (rest.map fun v => v.category).sum ≤ W9) (hdg : decode c.code g.pc = .ok (.invokestatic index, 3))
    (hpre : ∀ vm₁, s.WarmedH vm₁ → Pre ⟨T.setVm vm₁, locs, cells, slots⟩ argsL.toArray) :
    (∃ (v : Option Value) (vm₁ : Vm) (B : Pt), s.WarmedH vm₁ ∧ Stand p l e R s m args below meth c B.U B.locs B.cells B.slots ∧ Post ⟨T.setVm vm₁, locs, cells, slots⟩ argsL.toArray v B ∧
      ∀ target, Steps p.tables e below (B.U.setTop { g with pc := g.pc + 3, stack := v.toList ++ rest }) target → Steps p.tables e below (T.setTop g) target) ∨
    (∃ (q : Addr) (vm₁ : Vm) (B : Pt), s.WarmedH vm₁ ∧ Stand p l e R s m args below meth c B.U B.locs B.cells B.slots ∧ PostX ⟨T.setVm vm₁, locs, cells, slots⟩ argsL.toArray q B ∧
      Steps p.tables e below (T.setTop g) ((B.U.setTop { g with stack := rest }).pushFrame (.throwing q))) := by
  obtain ⟨mk, hnamed⟩ := Cond.code_named hcode
  obtain ⟨methM, cM, hmethM, -, -, -, -, -, -, hsigM⟩ := Cond.code_spec hnamed hcode
  have hstatic : methM.isStatic = true := Cond.static_spec hnamed hmethM hstat
  obtain ⟨kP, hkP, -⟩ := className_of_methodNamed hnamed
  have hinitP : kP.init = .initialized := Cond.initialized_spec (findClass_of_methodNamed hnamed) hkP hinit
  obtain ⟨vm₁, X₁, hstep₁⟩ := X.invokestatic hexec hown hlink hnamed hmethM hstatic hkP hinitP hy (g := g) hg (argsL := argsL) (rest := rest) (hlen _ hsigM) hstack hdg
  rcases hK m meth c ⟨T.setVm vm₁, locs, cells, slots⟩ { g with stack := rest } (.invokestatic index) mk argsL.toArray X₁ hg hsize hdg hW (X₁.named hnamed) (hpre vm₁ X₁.warmed) with ⟨v, B, X', hpost, hsteps⟩ | ⟨q, B, X', hpost, hsteps⟩
  · exact Or.inl ⟨v, vm₁, B, X₁.warmed, X', hpost, fun target h => hstep₁ _ fun acts => by rw [doInvoke_state]; exact hsteps.trans h⟩
  · exact Or.inr ⟨q, vm₁, B, X₁.warmed, X', hpost, hstep₁ _ fun acts => by rw [doInvoke_state]; exact hsteps⟩
end Calls
theorem vx_cls {s : State} {T : State} {vm₁ : Vm} {E : String} {k : ClassId} (hW : s.WarmedH vm₁) (h : (T.setVm vm₁).vm.findClass E = some k) : s.vm.findClass E = some k := by
  have h1 : vm₁.findClass E = some k := h
  rw [hW.alike.findClass] at h1
  exact h1
/-- the method's frame g, with q thrown over it -/
def vx_W (p : Program) (l : Launch) (e : Env) (R : Room) (s : State) (m : MethodId) (args : Array Value) (below : List Frame) (meth : Method) (c : Code) (H : Heap) (locs : List Loc) (cells slots : Nat) (Q : State → Prop) (g : JFrame) (q : Addr) : Prop :=
  ∀ T : State, T.heap = H → Stand p l e R s m args below meth c T locs cells slots → ∃ t, Steps p.tables e below ((T.setTop g).pushFrame (.throwing q)) t ∧ Q t
def vx_Run (p : Program) (l : Launch) (e : Env) (R : Room) (s : State) (m : MethodId) (args : Array Value) (below : List Frame) (meth : Method) (c : Code) (H : Heap) (locs : List Loc) (cells slots mc ms : Nat) (g : JFrame) (rest : List Value) (Qa : State → Outcome → State → Prop) (XC : String → State → State → Prop) (free : Addr → Prop) : Prop :=
  ∀ T : State, T.heap = H → Stand p l e R s m args below meth c T locs cells slots →
    (∃ (v : Option Value) (st₀ t T' : State) (L : List Loc), st₀.heap = H ∧ Stand p l e R s m args below meth c T' (locs ++ L) (cells + mc) (slots + ms) ∧ (∀ q ∈ L, free q.base) ∧ T'.heap = t.heap ∧ T'.vm = t.vm ∧ Qa st₀ (.returned v) t ∧
      Goes p e below T g T' { g with pc := g.pc + 3, stack := v.toList ++ rest }) ∨
    (∃ (q : Addr) (st₀ t T' : State) (L : List Loc) (E : String) (ce : Cell), st₀.heap = H ∧ Stand p l e R s m args below meth c T' (locs ++ L) (cells + mc) (slots + ms) ∧ (∀ z ∈ L, free z.base) ∧ T'.heap = t.heap ∧ T'.vm = t.vm ∧ XC E st₀ t ∧ t.heap[q]? = some ce ∧ ce.vm = .none ∧ s.vm.findClass E = some ce.cls ∧
      Steps p.tables e below (T.setTop g) ((T'.setTop { g with stack := rest }).pushFrame (.throwing q)))
def vx_X {S : Type} (px : S → Prop) (B : String → S → State → Prop) (A : Nat → Prop) : String → State → State → Prop := fun E st t => ∃ u : S, px u ∧ B E u t ∧ va_F A st t
section Runs
variable {p : Program} {l : Launch} {e : Env} {R : Room} {s : State} {m : MethodId} {args : Array Value} {below : List Frame} {meth : Method} {c : Code} {H : Heap} {locs : List Loc} {cells slots : Nat}
variable {y : MethodName} {bytes cc : ByteArray} {maxL nL mc ms n index : Nat} {ret : Option FieldType} {ws : List Cond} {rm : Room} {Pc : Array Value → State → Prop} {Qc : Array Value → State → Outcome → State → Prop} {XC : String → State → State → Prop} {free : Addr → Prop} {Ts : List Cond} {own C : String} {b : Addr} {As rest : List Value} {g : JFrame}
theorem vx_callBack (cb : CallB R s args own index y bytes maxL ret ws rm mc ms n) (hM : vx_Met l y ws rm Pc Qc XC mc ms free) (hbl : FrameBlind Pc) : vx_Back l R p e below s args y 3 8 (PreOf R mc ms Pc) (PostOf Qc mc ms free) (vx_Post XC mc ms free) := by
  obtain ⟨hrc, hrs, hfr, hlo, hws, hcw, -, hini, -⟩ := cb
  exact vx_back (bytes := bytes) (maxL := maxL) (ret := ret) hM hbl hrc hrs hfr hlo hws hcw (fun a' U hW => word_at hW (Or.inl (by first | rfl | simp [Cond.onTables, Cond.keeps, Cond.steady])) hini)
theorem vx_runV (S : CallFix p m c cc nL s args Ts own) (hM : vx_Met l y ws rm Pc Qc XC mc ms free) (cw : CallW R s args own C index y bytes maxL ret ws rm mc ms n) (hp : PreV s H C b Pc As)
    (hg : g.method = m) (hn : As.length = n) (hsize : g.locals.size = nL) (hstack : g.stack = As.reverse ++ .ref b :: rest) (hW : 2 * g.monitorRoom + (rest.map fun v => v.category).sum ≤ 8) (hdg : decode cc g.pc = .ok (.invokevirtual index, 3)) (hf : cells + mc ≤ R.cells ∧ slots + ms ≤ R.slots) :
    vx_Run p l e R s m args below meth c H locs cells slots mc ms g rest (Qc (Value.ref b :: As).toArray) XC free := by
  have hK : vx_Back l R p e below s args y 3 8 (PreOf R mc ms Pc) (PostOf Qc mc ms free) (vx_Post XC mc ms free) := vx_callBack cw.1 hM hp.1
  obtain ⟨⟨-, -, -, -, -, -, hcode, -, hy, hlen, hl⟩, hin, hse⟩ := cw
  obtain ⟨hx, hb, hml, ho, -⟩ := S
  obtain ⟨-, ⟨cellB, hcB, hoB, hclB⟩, hPc⟩ := hp
  intro T hT X
  rcases vx_callV X hx (C := C) (bytes := bytes) (maxL := maxL) (ret := ret) ho hl hin hse hcode hy hK (by rw [hT]; exact hcB) hoB hclB hg (hsize.trans hml.symm) (argsL := As) (rest := rest) (fun sig h => hn.trans (hlen sig h)) hstack hW (by rw [hb]; exact hdg)
    (fun vm₁ hW₁ => ⟨hf.1, hf.2, hPc (T.setVm vm₁) hT hW₁⟩) with ⟨v, vm₁, ⟨U', l2, c2, s2⟩, hW₁, X', ⟨g', mk, t, L, e1, e2, hq, h1, hL, h2, h3⟩, st⟩ | ⟨q, vm₁, ⟨U', l2, c2, s2⟩, hW₁, X', ⟨g', mk, t, L, E, ce, e1, e2, hq, hce, hcv, hcl, h1, hL, h2, h3⟩, st⟩
  · dsimp only [Pt.U, Pt.locs, Pt.cells, Pt.slots] at X' e1 e2 h1 h2 h3 st
    subst h1; subst h2; subst h3
    exact Or.inl ⟨v, (T.setVm vm₁).calling g' mk (Value.ref b :: As).toArray, t, U', L, hT, X', hL, e1, e2, hq, st⟩
  · dsimp only [Pt.U, Pt.locs, Pt.cells, Pt.slots] at X' e1 e2 h1 h2 h3 st hcl
    subst h1; subst h2; subst h3
    exact Or.inr ⟨q, (T.setVm vm₁).calling g' mk (Value.ref b :: As).toArray, t, U', L, E, ce, hT, X', hL, e1, e2, hq, hce, hcv, vx_cls hW₁ hcl, st⟩
theorem vx_runS (S : CallFix p m c cc nL s args Ts own) (hM : vx_Met l y ws rm Pc Qc XC mc ms free) (cw : CallB R s args own index y bytes maxL ret ws rm mc ms n ∧ (Cond.static y).before args s = true) (hp : PreS s H Pc As)
    (hg : g.method = m) (hn : As.length = n) (hsize : g.locals.size = nL) (hstack : g.stack = As.reverse ++ rest) (hW : 2 * g.monitorRoom + (rest.map fun v => v.category).sum ≤ 8) (hdg : decode cc g.pc = .ok (.invokestatic index, 3)) (hf : cells + mc ≤ R.cells ∧ slots + ms ≤ R.slots) :
    vx_Run p l e R s m args below meth c H locs cells slots mc ms g rest (Qc As.toArray) XC free := by
  have hK : vx_Back l R p e below s args y 3 8 (PreOf R mc ms Pc) (PostOf Qc mc ms free) (vx_Post XC mc ms free) := vx_callBack cw.1 hM hp.1
  obtain ⟨⟨-, -, -, -, -, -, hcode, hini, hy, hlen, hl⟩, hstt⟩ := cw
  obtain ⟨hx, hb, hml, ho, -⟩ := S
  intro T hT X
  rcases vx_callS X hx (bytes := bytes) (maxL := maxL) (ret := ret) ho hl hstt hini hcode hy hK hg (hsize.trans hml.symm) (argsL := As) (rest := rest) (fun sig h => hn.trans (hlen sig h)) hstack hW (by rw [hb]; exact hdg)
    (fun vm₁ hW₁ => ⟨hf.1, hf.2, hp.2 (T.setVm vm₁) hT hW₁⟩) with ⟨v, vm₁, ⟨U', l2, c2, s2⟩, hW₁, X', ⟨g', mk, t, L, e1, e2, hq, h1, hL, h2, h3⟩, st⟩ | ⟨q, vm₁, ⟨U', l2, c2, s2⟩, hW₁, X', ⟨g', mk, t, L, E, ce, e1, e2, hq, hce, hcv, hcl, h1, hL, h2, h3⟩, st⟩
  · dsimp only [Pt.U, Pt.locs, Pt.cells, Pt.slots] at X' e1 e2 h1 h2 h3 st
    subst h1; subst h2; subst h3
    exact Or.inl ⟨v, (T.setVm vm₁).calling g' mk As.toArray, t, U', L, hT, X', hL, e1, e2, hq, st⟩
  · dsimp only [Pt.U, Pt.locs, Pt.cells, Pt.slots] at X' e1 e2 h1 h2 h3 st hcl
    subst h1; subst h2; subst h3
    exact Or.inr ⟨q, (T.setVm vm₁).calling g' mk As.toArray, t, U', L, E, ce, hT, X', hL, e1, e2, hq, hce, hcv, vx_cls hW₁ hcl, st⟩
end Runs
section Rows
variable {p : Program} {l : Launch} {e : Env} {R : Room} {s : State} {m : MethodId} {args : Array Value} {below : List Frame} {meth : Method} {c : Code} {H : Heap} {locs : List Loc} {cells slots : Nat} {Q : State → Prop}
variable {mc ms : Nat} {free : Addr → Prop} {A0 A1 : Nat → Prop} {H0 : Heap} {a : Array Value} {pc : Nat} {ls : Array Slot} {st0 rest : List Value}
theorem vx_keep {st₀ t T' : State} {L : List Loc} (h0 : st₀.heap = H) (e1 : T'.heap = t.heap) (hS : va_S A0 H0 H locs) (hA : ∀ q, q < H.size → A1 q → A0 q) (hf : ∀ q, free q → A0 q) (hL : ∀ q ∈ L, free q.base) (hF : va_F A1 st₀ t) :
    H.size ≤ T'.heap.size ∧ (∀ q : Nat, q < H.size → ¬ A1 q → T'.heap[q]? = H[q]?) ∧ va_S A0 H0 T'.heap (locs ++ L) := by
  obtain ⟨hz, hk⟩ := hF
  rw [h0] at hz hk
  exact ⟨by rw [e1]; exact hz, fun q h1 h2 => by rw [e1]; exact hk q h1 h2,
    ⟨Nat.le_trans hS.1 (by rw [e1]; exact hz), fun q h1 h2 => by rw [e1, hk q (Nat.lt_of_lt_of_le h1 hS.1) (fun z => h2 (hA q (Nat.lt_of_lt_of_le h1 hS.1) z))]; exact hS.2.1 q h1 h2, fun q hq => by
      rcases List.mem_append.mp hq with h | h
      · exact hS.2.2 q h
      · exact hf _ (hL q h)⟩⟩
theorem vx_calli {S SX : Type} {post : Int32 → S → Prop} {px : SX → Prop} {B : S → State → Prop} {BX : String → SX → State → Prop} {AX : Nat → Prop} (hr : vx_Run p l e R s m args below meth c H locs cells slots mc ms (F0 m pc ls st0) rest (va_Qi post B A1 a) (vx_X px BX AX) free) (hS : va_S A0 H0 H locs) (hA : ∀ q, q < H.size → A1 q → A0 q) (hf : ∀ q, free q → A0 q) (hAX : ∀ q, q < H.size → AX q → A0 q)
    (kx : ∀ (E : String) (ce : Cell) (q9 : Addr) (u : SX) (t : State) (H1 : Heap) (locs1 : List Loc), t.heap = H1 → s.vm.Alike t.vm → px u → BX E u t → H.size ≤ H1.size → (∀ q : Nat, q < H.size → ¬ AX q → H1[q]? = H[q]?) → va_S A0 H0 H1 locs1 → H1[q9]? = some ce → ce.vm = .none → s.vm.findClass E = some ce.cls → vx_W p l e R s m args below meth c H1 locs1 (cells + mc) (slots + ms) Q (F0 m pc ls rest) q9)
    (kk : ∀ (r : Int32) (u : S) (t : State) (H1 : Heap) (locs1 : List Loc), t.heap = H1 → s.vm.Alike t.vm → post r u → B u t → H.size ≤ H1.size → (∀ q : Nat, q < H.size → ¬ A1 q → H1[q]? = H[q]?) → va_S A0 H0 H1 locs1 → W p l e R s m args below meth c H1 locs1 (cells + mc) (slots + ms) Q (F0 m (pc + 3) ls (.int r :: rest))) : W p l e R s m args below meth c H locs cells slots Q (F0 m pc ls st0) := by
  intro T hT X
  rcases hr T hT X with ⟨v, st₀, t, T', L, h0, X', hL, e1, e2, ⟨⟨r, u, hv, hp, hb⟩, hF⟩, st⟩ | ⟨q, st₀, t, T', L, E, ce, h0, X', hL, e1, e2, ⟨u, hp, hb, hF⟩, hce, hcv, hcl, st⟩
  · cases hv
    obtain ⟨k1, k2, k3⟩ := vx_keep h0 e1 hS hA hf hL hF
    obtain ⟨t2, a1, b1⟩ := kk r u t T'.heap (locs ++ L) e1.symm (by rw [← e2]; exact X'.warmed.alike) hp hb k1 k2 k3 T' rfl X'
    exact ⟨t2, st t2 a1, b1⟩
  · obtain ⟨k1, k2, k3⟩ := vx_keep h0 e1 hS hAX hf hL hF
    obtain ⟨t2, a1, b1⟩ := kx E ce q u t T'.heap (locs ++ L) e1.symm (by rw [← e2]; exact X'.warmed.alike) hp hb k1 k2 k3 (by rw [e1]; exact hce) hcv hcl T' rfl X'
    exact ⟨t2, st.trans a1, b1⟩
theorem vx_calll {S SX : Type} {post : Int64 → S → Prop} {px : SX → Prop} {B : S → State → Prop} {BX : String → SX → State → Prop} {AX : Nat → Prop} (hr : vx_Run p l e R s m args below meth c H locs cells slots mc ms (F0 m pc ls st0) rest (va_Ql post B A1 a) (vx_X px BX AX) free) (hS : va_S A0 H0 H locs) (hA : ∀ q, q < H.size → A1 q → A0 q) (hf : ∀ q, free q → A0 q) (hAX : ∀ q, q < H.size → AX q → A0 q)
    (kx : ∀ (E : String) (ce : Cell) (q9 : Addr) (u : SX) (t : State) (H1 : Heap) (locs1 : List Loc), t.heap = H1 → s.vm.Alike t.vm → px u → BX E u t → H.size ≤ H1.size → (∀ q : Nat, q < H.size → ¬ AX q → H1[q]? = H[q]?) → va_S A0 H0 H1 locs1 → H1[q9]? = some ce → ce.vm = .none → s.vm.findClass E = some ce.cls → vx_W p l e R s m args below meth c H1 locs1 (cells + mc) (slots + ms) Q (F0 m pc ls rest) q9)
    (kk : ∀ (r : Int64) (u : S) (t : State) (H1 : Heap) (locs1 : List Loc), t.heap = H1 → s.vm.Alike t.vm → post r u → B u t → H.size ≤ H1.size → (∀ q : Nat, q < H.size → ¬ A1 q → H1[q]? = H[q]?) → va_S A0 H0 H1 locs1 → W p l e R s m args below meth c H1 locs1 (cells + mc) (slots + ms) Q (F0 m (pc + 3) ls (.long r :: rest))) : W p l e R s m args below meth c H locs cells slots Q (F0 m pc ls st0) := by
  intro T hT X
  rcases hr T hT X with ⟨v, st₀, t, T', L, h0, X', hL, e1, e2, ⟨⟨r, u, hv, hp, hb⟩, hF⟩, st⟩ | ⟨q, st₀, t, T', L, E, ce, h0, X', hL, e1, e2, ⟨u, hp, hb, hF⟩, hce, hcv, hcl, st⟩
  · cases hv
    obtain ⟨k1, k2, k3⟩ := vx_keep h0 e1 hS hA hf hL hF
    obtain ⟨t2, a1, b1⟩ := kk r u t T'.heap (locs ++ L) e1.symm (by rw [← e2]; exact X'.warmed.alike) hp hb k1 k2 k3 T' rfl X'
    exact ⟨t2, st t2 a1, b1⟩
  · obtain ⟨k1, k2, k3⟩ := vx_keep h0 e1 hS hAX hf hL hF
    obtain ⟨t2, a1, b1⟩ := kx E ce q u t T'.heap (locs ++ L) e1.symm (by rw [← e2]; exact X'.warmed.alike) hp hb k1 k2 k3 (by rw [e1]; exact hce) hcv hcl T' rfl X'
    exact ⟨t2, st.trans a1, b1⟩
theorem vx_callf {S SX : Type} {post : UInt32 → S → Prop} {px : SX → Prop} {B : S → State → Prop} {BX : String → SX → State → Prop} {AX : Nat → Prop} (hr : vx_Run p l e R s m args below meth c H locs cells slots mc ms (F0 m pc ls st0) rest (va_Qf post B A1 a) (vx_X px BX AX) free) (hS : va_S A0 H0 H locs) (hA : ∀ q, q < H.size → A1 q → A0 q) (hf : ∀ q, free q → A0 q) (hAX : ∀ q, q < H.size → AX q → A0 q)
    (kx : ∀ (E : String) (ce : Cell) (q9 : Addr) (u : SX) (t : State) (H1 : Heap) (locs1 : List Loc), t.heap = H1 → s.vm.Alike t.vm → px u → BX E u t → H.size ≤ H1.size → (∀ q : Nat, q < H.size → ¬ AX q → H1[q]? = H[q]?) → va_S A0 H0 H1 locs1 → H1[q9]? = some ce → ce.vm = .none → s.vm.findClass E = some ce.cls → vx_W p l e R s m args below meth c H1 locs1 (cells + mc) (slots + ms) Q (F0 m pc ls rest) q9)
    (kk : ∀ (r : UInt32) (u : S) (t : State) (H1 : Heap) (locs1 : List Loc), t.heap = H1 → s.vm.Alike t.vm → post r u → B u t → H.size ≤ H1.size → (∀ q : Nat, q < H.size → ¬ A1 q → H1[q]? = H[q]?) → va_S A0 H0 H1 locs1 → W p l e R s m args below meth c H1 locs1 (cells + mc) (slots + ms) Q (F0 m (pc + 3) ls (.float r :: rest))) : W p l e R s m args below meth c H locs cells slots Q (F0 m pc ls st0) := by
  intro T hT X
  rcases hr T hT X with ⟨v, st₀, t, T', L, h0, X', hL, e1, e2, ⟨⟨r, u, hv, hp, hb⟩, hF⟩, st⟩ | ⟨q, st₀, t, T', L, E, ce, h0, X', hL, e1, e2, ⟨u, hp, hb, hF⟩, hce, hcv, hcl, st⟩
  · cases hv
    obtain ⟨k1, k2, k3⟩ := vx_keep h0 e1 hS hA hf hL hF
    obtain ⟨t2, a1, b1⟩ := kk r u t T'.heap (locs ++ L) e1.symm (by rw [← e2]; exact X'.warmed.alike) hp hb k1 k2 k3 T' rfl X'
    exact ⟨t2, st t2 a1, b1⟩
  · obtain ⟨k1, k2, k3⟩ := vx_keep h0 e1 hS hAX hf hL hF
    obtain ⟨t2, a1, b1⟩ := kx E ce q u t T'.heap (locs ++ L) e1.symm (by rw [← e2]; exact X'.warmed.alike) hp hb k1 k2 k3 (by rw [e1]; exact hce) hcv hcl T' rfl X'
    exact ⟨t2, st.trans a1, b1⟩
theorem vx_calld {S SX : Type} {post : UInt64 → S → Prop} {px : SX → Prop} {B : S → State → Prop} {BX : String → SX → State → Prop} {AX : Nat → Prop} (hr : vx_Run p l e R s m args below meth c H locs cells slots mc ms (F0 m pc ls st0) rest (va_Qd post B A1 a) (vx_X px BX AX) free) (hS : va_S A0 H0 H locs) (hA : ∀ q, q < H.size → A1 q → A0 q) (hf : ∀ q, free q → A0 q) (hAX : ∀ q, q < H.size → AX q → A0 q)
    (kx : ∀ (E : String) (ce : Cell) (q9 : Addr) (u : SX) (t : State) (H1 : Heap) (locs1 : List Loc), t.heap = H1 → s.vm.Alike t.vm → px u → BX E u t → H.size ≤ H1.size → (∀ q : Nat, q < H.size → ¬ AX q → H1[q]? = H[q]?) → va_S A0 H0 H1 locs1 → H1[q9]? = some ce → ce.vm = .none → s.vm.findClass E = some ce.cls → vx_W p l e R s m args below meth c H1 locs1 (cells + mc) (slots + ms) Q (F0 m pc ls rest) q9)
    (kk : ∀ (r : UInt64) (u : S) (t : State) (H1 : Heap) (locs1 : List Loc), t.heap = H1 → s.vm.Alike t.vm → post r u → B u t → H.size ≤ H1.size → (∀ q : Nat, q < H.size → ¬ A1 q → H1[q]? = H[q]?) → va_S A0 H0 H1 locs1 → W p l e R s m args below meth c H1 locs1 (cells + mc) (slots + ms) Q (F0 m (pc + 3) ls (.double r :: rest))) : W p l e R s m args below meth c H locs cells slots Q (F0 m pc ls st0) := by
  intro T hT X
  rcases hr T hT X with ⟨v, st₀, t, T', L, h0, X', hL, e1, e2, ⟨⟨r, u, hv, hp, hb⟩, hF⟩, st⟩ | ⟨q, st₀, t, T', L, E, ce, h0, X', hL, e1, e2, ⟨u, hp, hb, hF⟩, hce, hcv, hcl, st⟩
  · cases hv
    obtain ⟨k1, k2, k3⟩ := vx_keep h0 e1 hS hA hf hL hF
    obtain ⟨t2, a1, b1⟩ := kk r u t T'.heap (locs ++ L) e1.symm (by rw [← e2]; exact X'.warmed.alike) hp hb k1 k2 k3 T' rfl X'
    exact ⟨t2, st t2 a1, b1⟩
  · obtain ⟨k1, k2, k3⟩ := vx_keep h0 e1 hS hAX hf hL hF
    obtain ⟨t2, a1, b1⟩ := kx E ce q u t T'.heap (locs ++ L) e1.symm (by rw [← e2]; exact X'.warmed.alike) hp hb k1 k2 k3 (by rw [e1]; exact hce) hcv hcl T' rfl X'
    exact ⟨t2, st.trans a1, b1⟩
theorem vx_callv {S SX : Type} {post : S → Prop} {px : SX → Prop} {B : S → State → Prop} {BX : String → SX → State → Prop} {AX : Nat → Prop} (hr : vx_Run p l e R s m args below meth c H locs cells slots mc ms (F0 m pc ls st0) rest (va_Qv post B A1 a) (vx_X px BX AX) free) (hS : va_S A0 H0 H locs) (hA : ∀ q, q < H.size → A1 q → A0 q) (hf : ∀ q, free q → A0 q) (hAX : ∀ q, q < H.size → AX q → A0 q)
    (kx : ∀ (E : String) (ce : Cell) (q9 : Addr) (u : SX) (t : State) (H1 : Heap) (locs1 : List Loc), t.heap = H1 → s.vm.Alike t.vm → px u → BX E u t → H.size ≤ H1.size → (∀ q : Nat, q < H.size → ¬ AX q → H1[q]? = H[q]?) → va_S A0 H0 H1 locs1 → H1[q9]? = some ce → ce.vm = .none → s.vm.findClass E = some ce.cls → vx_W p l e R s m args below meth c H1 locs1 (cells + mc) (slots + ms) Q (F0 m pc ls rest) q9)
    (kk : ∀ (u : S) (t : State) (H1 : Heap) (locs1 : List Loc), t.heap = H1 → s.vm.Alike t.vm → post u → B u t → H.size ≤ H1.size → (∀ q : Nat, q < H.size → ¬ A1 q → H1[q]? = H[q]?) → va_S A0 H0 H1 locs1 → W p l e R s m args below meth c H1 locs1 (cells + mc) (slots + ms) Q (F0 m (pc + 3) ls (rest))) : W p l e R s m args below meth c H locs cells slots Q (F0 m pc ls st0) := by
  intro T hT X
  rcases hr T hT X with ⟨v, st₀, t, T', L, h0, X', hL, e1, e2, ⟨⟨u, hv, hp, hb⟩, hF⟩, st⟩ | ⟨q, st₀, t, T', L, E, ce, h0, X', hL, e1, e2, ⟨u, hp, hb, hF⟩, hce, hcv, hcl, st⟩
  · cases hv
    obtain ⟨k1, k2, k3⟩ := vx_keep h0 e1 hS hA hf hL hF
    obtain ⟨t2, a1, b1⟩ := kk u t T'.heap (locs ++ L) e1.symm (by rw [← e2]; exact X'.warmed.alike) hp hb k1 k2 k3 T' rfl X'
    exact ⟨t2, st t2 a1, b1⟩
  · obtain ⟨k1, k2, k3⟩ := vx_keep h0 e1 hS hAX hf hL hF
    obtain ⟨t2, a1, b1⟩ := kx E ce q u t T'.heap (locs ++ L) e1.symm (by rw [← e2]; exact X'.warmed.alike) hp hb k1 k2 k3 (by rw [e1]; exact hce) hcv hcl T' rfl X'
    exact ⟨t2, st.trans a1, b1⟩
/-- caught by the row x of this method's table; the rows ahead don't take it -/
theorem vx_catch {own name : String} {E : String} {ce : Cell} {q : Addr} (hown : s.vm.findClass own = some m.cls) (pre : List ExceptionTableEntry) (x : ExceptionTableEntry) (suf : List ExceptionTableEntry) (hsplit : c.exceptionTable.toList = pre ++ x :: suf)
    (hpass : ∀ z ∈ pre, covers z pc = false ∨ (z.catchType ≠ 0 ∧ ∃ nm : String, (Cond.classLink own z.catchType nm).before args s = true ∧ va_Nc E nm s)) (hx : covers x pc = true) (h0 : x.catchType ≠ 0)
    (hlink : (Cond.classLink own x.catchType name).before args s = true) (hcast : (Cond.castable E name).before args s = true) (hcell : H[q]? = some ce) (hv : ce.vm = .none) (hcl : s.vm.findClass E = some ce.cls)
    (kk : W p l e R s m args below meth c H locs cells slots Q (F0 m x.handlerPc ls [.ref q])) : vx_W p l e R s m args below meth c H locs cells slots Q (F0 m pc ls rest) q := by
  intro T hT X
  have hpl : e.platform.magicAccessors = ({} : Platform).magicAccessors := by rw [X.admits.platform]
  obtain ⟨c3, c4, hc3, hc4, hasg⟩ := Cond.castable_spec hcast
  cases Option.some.inj (hc3.symm.trans hcl)
  obtain ⟨c5, hc5, hcl5⟩ := Cond.classLink_spec hown hlink e.platform hpl
  cases Option.some.inj (hc4.symm.trans hc5)
  obtain ⟨vm', X', st⟩ := X.thenCaughtThrough q (g := F0 m pc ls rest) rfl (Steps.refl _) (by rw [hT]; exact hcell) (by rw [hv]; rfl) (by obtain ⟨k9, h9, -⟩ := Vm.findClass_spec hcl; exact ⟨k9, h9⟩) pre x suf hsplit
    (fun z hz => by
      rcases hpass z hz with h | ⟨hz0, nm, hl1, hn1⟩
      · exact Or.inl h
      · obtain ⟨c6, hc6, hcl6⟩ := Cond.classLink_spec hown hl1 e.platform hpl
        obtain ⟨a8, b8, h1, h2, h3⟩ := hn1
        cases Option.some.inj (h1.symm.trans hcl)
        cases Option.some.inj (h2.symm.trans hc6)
        exact Or.inr ⟨hz0, _, hcl6, h3⟩) hx (Or.inr ⟨h0, c4, hcl5, hasg⟩)
  obtain ⟨t, a1, b1⟩ := kk (T.setVm vm') hT X'
  exact ⟨t, st.trans a1, b1⟩
end Rows
section Ends
variable {p : Program} {l : Launch} {e : Env} {R : Room} {s : State} {m : MethodId} {args : Array Value} {below : List Frame} {meth : Method} {c : Code} {H : Heap} {locs : List Loc} {cells slots : Nat} {Q : State → Prop}
variable {mc ms : Nat} {free : Addr → Prop} {A0 A1 : Nat → Prop} {H0 : Heap} {a : Array Value} {ls : Array Slot} {st0 rest : List Value}
variable {Qc : Array Value → State → Outcome → State → Prop} {XC : String → State → State → Prop}
/-- what a body that may throw owes at its end -/
def vx_MQ (below : List Frame) (Qc : Array Value → State → Outcome → State → Prop) (XC : String → State → State → Prop) (a : Array Value) (s : State) (mc ms : Nat) (free : Addr → Prop) : State → Prop := fun t =>
  ∃ o, t.status = .running ∧ Ended t below o ∧ vx_Q Qc XC mc ms free a s o t
theorem vx_ret {g : JFrame} {mc ms : Nat} (k : W p l e R s m args below meth c H locs cells slots (MQ below Qc args s mc ms free) g) : W p l e R s m args below meth c H locs cells slots (vx_MQ below Qc XC args s mc ms free) g := by
  intro T hT X
  obtain ⟨t, a1, o, b1, b2, b3, b4⟩ := k T hT X
  exact ⟨t, a1, o, b1, b2, Or.inl ⟨b3, b4⟩⟩
/-- not caught here: it goes on to the caller -/
theorem vx_widen {g : JFrame} {q : Addr} {k n : Nat} (h1 : cells ≤ k) (h2 : slots ≤ n) (kk : vx_W p l e R s m args below meth c H locs k n Q g q) : vx_W p l e R s m args below meth c H locs cells slots Q g q := fun T hT X => kk T hT (stand_widen X h1 h2)
theorem vx_out {pc : Nat} {E : String} {ce : Cell} {q : Addr} {mc ms : Nat} (hout : ∀ x ∈ c.exceptionTable.toList, covers x pc = false) (hlocks : meth.locks = false) (hcell : H[q]? = some ce) (hv : ce.vm = .none) (hcl : s.vm.findClass E = some ce.cls)
    (hx : ∀ t : State, t.heap = H → s.vm.Alike t.vm → XC E s t) (hf : ∀ z ∈ locs, free z.base) (hc : cells ≤ mc) (hs : slots ≤ ms) :
    vx_W p l e R s m args below meth c H locs cells slots (vx_MQ below Qc XC args s mc ms free) (F0 m pc ls rest) q := by
  intro T hT X
  obtain ⟨st1, hrun, hend, hW, hsm⟩ := X.leaveThrown q (g := F0 m pc ls rest) rfl rfl rfl hout hlocks
  have hcell9 : (T.setFrames (.throwing q :: below)).heap[q]? = some ce := by
    show T.heap[q]? = some ce
    rw [hT]; exact hcell
  exact ⟨_, st1, .threw q, hrun, hend, Or.inr ⟨q, rfl, E, ce, locs, hx _ hT hW.alike, hcell9, hv, hcl, hW, hsm.mono hc hs, hf⟩⟩
theorem vx_frame {U : State} {k n : Nat} (h : s.sameButNew ({ U with vm := s.vm } : State) locs k n) : s.heap.size ≤ U.heap.size ∧ ∀ q : Nat, q < s.heap.size → (∀ z ∈ locs, z.base ≠ q) → U.heap[q]? = s.heap[q]? := by
  obtain ⟨-, h2, -, -, -, h6⟩ := h
  refine ⟨h2, fun q hq hz => ?_⟩
  obtain ⟨c9, e1, e2, e3, e4⟩ := h6 q _ (Array.getElem?_eq_getElem hq)
  have hs : c9.slots = (s.heap[q]).slots := Array.ext_getElem? fun i => e4 i fun hm => hz _ hm rfl
  have h9 : c9 = s.heap[q] := by
    rw [hs] at e2
    exact e2
  have e5 : U.heap[q]? = some c9 := e1
  rw [e5, h9, Array.getElem?_eq_getElem hq]
/-- the words of a throw but the four that speak of the heap -/
def vx_no (w : Cond) : Bool := decide (w ≠ .isRef (.static Bundle.tN "UNASSIGNED_STACK" Bundle.steD)) && decide (w ≠ .isRef (.static Bundle.tN "SUPPRESSED_SENTINEL" Bundle.listD)) && decide (w ≠ .laysStatic Bundle.tN "UNASSIGNED_STACK" Bundle.steD) && decide (w ≠ .laysStatic Bundle.tN "SUPPRESSED_SENTINEL" Bundle.listD)
def vx_at0 (own : String) (ic : Nat) (X : String) (names : List String) : List Cond := (Bundle.ownAtoms0 own ic X names).filter vx_no
def vx_atS (own : String) (ic : Nat) (X : String) (names : List String) : List Cond := (Bundle.ownAtoms own ic X names).filter vx_no
/-- a word that the tables alone decide, or a good one -/
def vx_ot (w : Cond) : Bool := w.onTables || goodWord w
theorem vx_ot_at {args a' : Array Value} {s U : State} {w : Cond} (hW : s.WarmedH U.vm) (hvm : s.vm = U.vm) (hg : vx_ot w = true) (h : w.before args s = true) : w.before a' U = true := by
  simp only [vx_ot, Bool.or_eq_true] at hg
  rcases hg with hg | hg
  · exact va_tabs hg hvm h
  · exact word_at hW (good_of_word hg) h
/-- a list's words: the good ones out of the method's own list, the others by premises of their own -/
theorem vx_hat {args : Array Value} {s : State} {L B : List Cond} (h1 : ∀ w ∈ L.filter goodWord, w.before args s = true) (h2 : ∀ w ∈ L.filter (fun w => !goodWord w), w ∈ B) (h3 : ∀ w ∈ B, w.before args s = true) : ∀ w ∈ L, w.before args s = true := by
  intro w hw
  by_cases g : goodWord w = true
  · exact h1 w (List.mem_filter.mpr ⟨hw, g⟩)
  · refine h3 w (h2 w (List.mem_filter.mpr ⟨hw, ?_⟩))
    show (!goodWord w) = true
    cases hgw : goodWord w
    · rfl
    · exact absurd hgw g
theorem vx_c {args : Array Value} {s : State} {w : Cond} {B : List Cond} (h : w.before args s = true) (t : ∀ w ∈ B, w.before args s = true) : ∀ w' ∈ w :: B, w'.before args s = true := fun w' h' => (List.mem_cons.mp h').elim (fun e => by rw [e]; exact h) (t w')
theorem vx_n {args : Array Value} {s : State} : ∀ w ∈ ([] : List Cond), w.before args s = true := fun _ h => nomatch h
theorem vx_own {args : Array Value} {s : State} {L : List Cond} (h1 : ∀ w ∈ L.filter vx_no, w.before args s = true)
    (hU : (Cond.isRef (.static Bundle.tN "UNASSIGNED_STACK" Bundle.steD)).before args s = true) (hN : (Cond.isRef (.static Bundle.tN "SUPPRESSED_SENTINEL" Bundle.listD)).before args s = true)
    (lU : (Cond.laysStatic Bundle.tN "UNASSIGNED_STACK" Bundle.steD).before args s = true) (lN : (Cond.laysStatic Bundle.tN "SUPPRESSED_SENTINEL" Bundle.listD).before args s = true) : ∀ w ∈ L, w.before args s = true := by
  intro w hw
  by_cases e1 : w = .isRef (.static Bundle.tN "UNASSIGNED_STACK" Bundle.steD)
  · rw [e1]; exact hU
  · by_cases e2 : w = .isRef (.static Bundle.tN "SUPPRESSED_SENTINEL" Bundle.listD)
    · rw [e2]; exact hN
    · by_cases e3 : w = .laysStatic Bundle.tN "UNASSIGNED_STACK" Bundle.steD
      · rw [e3]; exact lU
      · by_cases e4 : w = .laysStatic Bundle.tN "SUPPRESSED_SENTINEL" Bundle.listD
        · rw [e4]; exact lN
        · exact h1 w (List.mem_filter.mpr ⟨hw, by unfold vx_no; rw [decide_eq_true e1, decide_eq_true e2, decide_eq_true e3, decide_eq_true e4]; rfl⟩)
/-- where a static field lies, its class's statics cell in H -/
def vx_L (C n d : String) (A : Nat → Prop) (U : State) (H : Heap) : Prop := ∃ (c : ClassId) (k : Class) (i : Nat) (f : Field) (a : Nat) (cell : Cell), U.vm.findClass C = some c ∧ U.fieldFound? C n d = some (c, k, i, f) ∧ f.isStatic = true ∧ k.statics = some a ∧ H[a]? = some cell ∧ cell.vm.isStatics = true ∧ cell.cls = c ∧ f.slot < cell.slots.size ∧ k.staticTypes[f.slot]? = some f.type ∧ ¬ A a
theorem vx_L.moved {C n d : String} {A : Nat → Prop} {u U : State} {H : Heap} (hvm : u.vm.Alike U.vm) (h : vx_L C n d A u H) : vx_L C n d A U H := by
  obtain ⟨c, k, i, f, a, cell, h1, h2, h3, h4, h5, h6, h7, h8, h9, h10⟩ := h
  obtain ⟨k', hi', he⟩ := State.fieldFound?_setVm hvm h2
  exact ⟨c, k', i, f, a, cell, by rw [hvm.findClass]; exact h1, hi', h3, by rw [he]; exact h4, h5, h6, h7, h8, by rw [he]; exact h9, h10⟩
theorem vx_L.kept {C n d : String} {A : Nat → Prop} {U : State} {H H1 : Heap} (h : vx_L C n d A U H) (hq : ∀ a : Nat, a < H.size → ¬ A a → H1[a]? = H[a]?) : vx_L C n d A U H1 := by
  obtain ⟨c, k, i, f, a, cell, h1, h2, h3, h4, h5, h6, h7, h8, h9, h10⟩ := h
  exact ⟨c, k, i, f, a, cell, h1, h2, h3, h4, by rw [hq a (Array.getElem?_eq_some_iff.mp h5).1 h10]; exact h5, h6, h7, h8, h9, h10⟩
theorem vx_L.narrow {C n d : String} {A B : Nat → Prop} {U : State} {H : Heap} (h : vx_L C n d A U H) (hAB : ∀ q, B q → A q) : vx_L C n d B U H := by
  obtain ⟨c, k, i, f, a, cell, h1, h2, h3, h4, h5, h6, h7, h8, h9, h10⟩ := h
  exact ⟨c, k, i, f, a, cell, h1, h2, h3, h4, h5, h6, h7, h8, h9, fun z => h10 (hAB _ z)⟩
theorem vx_L.word {C n d : String} {A : Nat → Prop} {s : State} {args : Array Value} (h : vx_L C n d A s s.heap) : (Cond.laysStatic C n d).before args s = true := by
  obtain ⟨c, k, i, f, a, cell, h1, h2, h3, h4, h5, h6, h7, h8, h9, -⟩ := h
  show (Cond.laysStatic C n d).holds args s none s [] = true
  exact Cond.laysStatic_of h1 h2 h3 h4 h5 h6 h7 h8 h9
/-- .. and what it holds: null or some reference -/
def vx_Zq (C n d : String) (A : Nat → Prop) (U : State) (H : Heap) : Prop := va_Zq C n d A U H ∧ vx_L C n d A U H
theorem vx_Zq.moved {C n d : String} {A : Nat → Prop} {u U : State} {H : Heap} (hvm : u.vm.Alike U.vm) (h : vx_Zq C n d A u H) : vx_Zq C n d A U H := ⟨va_Zq.moved hvm h.1, vx_L.moved hvm h.2⟩
theorem vx_Zq.kept {C n d : String} {A : Nat → Prop} {U : State} {H H1 : Heap} (h : vx_Zq C n d A U H) (hq : ∀ a : Nat, a < H.size → ¬ A a → H1[a]? = H[a]?) : vx_Zq C n d A U H1 := ⟨va_Zq.kept h.1 hq, vx_L.kept h.2 hq⟩
theorem vx_Zq.narrow {C n d : String} {A B : Nat → Prop} {U : State} {H : Heap} (h : vx_Zq C n d A U H) (hAB : ∀ q, B q → A q) : vx_Zq C n d B U H := ⟨va_Zq.narrow h.1 hAB, vx_L.narrow h.2 hAB⟩
theorem vx_Zqof {args : Array Value} {s : State} {C n d : String} {A : Nat → Prop} (hl : (Cond.laysStatic C n d).before args s = true) (hini : (Cond.initialized C).before args s = true) (h : (Cond.isRef (.static C n d)).before args s = true) (hA : ∀ a : Nat, a < s.heap.size → ¬ A a) : vx_Zq C n d A s s.heap := by
  refine ⟨va_Zqof hl hini h hA, ?_⟩
  obtain ⟨c, k, i, f, a, cell, h1, h2, h3, h4, h5, h6, h7, h8, h9⟩ := Cond.laysStatic_spec hl
  exact ⟨c, k, i, f, a, cell, h1, h2, h3, h4, h5, h6, h7, h8, h9, hA a (Array.getElem?_eq_some_iff.mp h5).1⟩
theorem vx_isRef {C n d : String} {v : Value} {A : Nat → Prop} {s : State} {args : Array Value} (h : va_Z C n d v A s s.heap) (hv : v.isRef = true) : (Cond.isRef (.static C n d)).before args s = true := by
  obtain ⟨cf, kf, fi, f, a, cell, h1, h2, h3, h4, h5, h6, h7, -⟩ := h
  have he : (Term.static C n d).eval args s none [] s = some v := by
    simp [Term.eval, State.fieldNamed?, h1, h2, h4, h5, h6, h7]
  simp only [Cond.before, Cond.holds, Cond.value, he]
  cases v <;> simp_all [Value.isRef]
theorem vx_isRefq {C n d : String} {A : Nat → Prop} {s : State} {args : Array Value} (h : va_Zq C n d A s s.heap) : (Cond.isRef (.static C n d)).before args s = true := by
  rcases h with h | ⟨t, h⟩
  · exact vx_isRef h rfl
  · exact vx_isRef h rfl
/-- the same frame, seen from here: as if the method were called anew in this heap -/
theorem vx_rebase {T : State} (X : Stand p l e R s m args below meth c T locs cells slots) {R' : Room} (hf : R'.frames ≤ R.frames) (hl : R'.locals ≤ R.locals) (hc : cells + R'.cells ≤ R.cells) (hs : slots + R'.slots ≤ R.slots) :
    Stand p l e R' ((T.setVm s.vm).setFrames (.invoking m args :: below)) m args below meth c T [] 0 0 := by
  have htop : (T.setVm s.vm).topJava?.isSome := X.here.top
  have hF : ((T.setVm s.vm).setFrames (.invoking m args :: below)).frames = .invoking m args :: below := State.frames_setFrames _ (State.cur_lt_of_top htop)
  obtain ⟨g₀, hg0⟩ := Option.isSome_iff_exists.mp htop
  obtain ⟨r, hr⟩ := State.topJava?_eq_some.mp hg0
  have hl9 : e.platform.stackLimits (T.setVm s.vm).me = e.platform.stackLimits s.me := X.limits
  have hb9 : (T.setVm s.vm).me.stackBytes = s.me.stackBytes := X.bytes
  refine ⟨X.admits, X.cas, X.clock, hF, ?_, X.hears, X.method, X.code, X.here, X.tail, X.warmed, ?_, ?_, ?_⟩
  · have h := X.room
    have hU : ((T.setVm s.vm).setFrames (.invoking m args :: below)).localsInUse = s.localsInUse := by
      rw [State.localsInUse_invoking hF (meth := meth) (c := c) X.method X.code, State.localsInUse_invoking X.frames X.method X.code]
    simp only [State.hasRoom, Bool.and_eq_true, decide_eq_true_eq] at h ⊢
    obtain ⟨⟨⟨⟨h1, h2, h3, h4, h5, h6⟩, h7⟩, h8⟩, h9⟩ := h
    rw [X.frames, List.length_cons] at h2 h3
    have q1 := X.heapSize
    have q2 := X.used
    simp only [hF, hU, List.length_cons, State.stackLimits_setFrames, State.stackBytes_setFrames, hl9, hb9]
    refine ⟨⟨⟨⟨by omega, by omega, by omega, by omega, by omega, h6⟩, ?_⟩, ?_⟩, X.book⟩
    · show T.heap.size + R'.cells ≤ e.platform.maxCells
      omega
    · show T.slotsUsed + R'.slots ≤ e.platform.maxSlots
      omega
  · rw [State.stackLimits_setFrames]; rfl
  · rw [State.stackBytes_setFrames]; rfl
  · refine ⟨?_, Nat.le_refl _, Nat.le_refl _, ?_, ?_, fun a c9 h9 => ⟨c9, h9, rfl, rfl, fun _ _ => rfl⟩⟩
    · obtain ⟨t, ht, -⟩ := State.frames_cons hr
      show T.setVm s.vm = { ((T.setVm s.vm).setFrames (.invoking m args :: below)).setFrames (T.setVm s.vm).frames with heap := T.heap, slotsUsed := T.slotsUsed }
      rw [State.setFrames_setFrames, State.setFrames_self ht]
      rfl
    · show T.slotsUsed = T.slotsUsed + ((T.heap.toList.drop T.heap.size).map (·.slots.size)).sum
      rw [List.drop_eq_nil_of_le (Nat.le_of_eq Array.length_toList)]
      rfl
    · show ((T.heap.toList.drop T.heap.size).map (·.slots.size)).sum ≤ 0
      rw [List.drop_eq_nil_of_le (Nat.le_of_eq Array.length_toList)]
      exact Nat.le_refl _
/-- 'throw new E()': new; dup; invokespecial; athrow -/
theorem vx_throw0 {cc : ByteArray} {pc : Nat} (hexec : p.tables.exec = Jvm.exec) (hb : c.code = cc) (hl : l.stackTraces = false) {own cls : String} {names : List String} {ik ic mc ms : Nat} {A : Nat → Prop}
    (hown : s.vm.findClass own = some m.cls) (hcls : Bundle.fit cls = true) (hnames : ∀ n ∈ names, Bundle.fit n = true)
    (hk : (Cond.classLink own ik cls).before args s = true) (hini : (Cond.initialized cls).before args s = true) (hat : ∀ w ∈ vx_at0 own ic cls names, w.before args s = true)
    (hgood : ∀ w ∈ Cond.classLink own ik cls :: Cond.initialized cls :: vx_at0 own ic cls names, vx_ot w = true)
    (hU : vx_Zq Bundle.tN "UNASSIGNED_STACK" Bundle.steD A s s.heap) (hN : vx_Zq Bundle.tN "SUPPRESSED_SENTINEL" Bundle.listD A s s.heap) (hS : va_S A s.heap H locs) (hsize : ls.size = c.maxLocals)
    (d0 : decode cc pc = .ok (.new ik, 3)) (d3 : decode cc (pc + 3) = .ok (.dup, 1)) (d4 : decode cc (pc + 4) = .ok (.invokespecial ic, 3)) (d7 : decode cc (pc + 7) = .ok (.athrow, 1))
    (hout : ∀ x ∈ c.exceptionTable.toList, covers x (pc + 7) = false)
    (hRframes : names.length + 3 < R.frames) (hRlocals : (rest.map fun v => v.category).sum + (13 * (names.length + 1) + 42) ≤ R.locals) (hRcells : cells + 1 ≤ R.cells) (hRslots : slots + 6 ≤ R.slots) (hlocks : meth.locks = false)
    (hx : ∀ t : State, s.vm.Alike t.vm → H.size ≤ t.heap.size → (∀ q : Nat, q < H.size → t.heap[q]? = H[q]?) → XC cls s t)
    (hf : ∀ z ∈ locs, free z.base) (hc : cells + 1 ≤ mc) (hs : slots + 6 ≤ ms) :
    W p l e R s m args below meth c H locs cells slots (vx_MQ below Qc XC args s mc ms free) (F0 m pc ls rest) := by
  intro T hT X
  have htr : e.platform.stackTraces = false := (show e.platform.stackTraces = l.stackTraces by rw [X.admits.platform]).trans hl
  have Y := vx_rebase X (R' := { frames := R.frames, locals := R.locals, cells := 1, slots := 6 }) (Nat.le_refl _) (Nat.le_refl _) hRcells hRslots
  obtain ⟨s', hA⟩ : ∃ z, z = (T.setVm s.vm).setFrames (.invoking m args :: below) := ⟨_, rfl⟩
  rw [← hA] at Y
  have hvm : s'.vm = s.vm := by rw [hA]; rfl
  have hhp : s'.heap = H := by rw [hA]; exact hT
  have hW0 : s.WarmedH s'.vm := by rw [hvm]; exact State.WarmedH.refl s
  have hat' : ∀ w ∈ vx_at0 own ic cls names, w.before args s' = true := fun w hw => vx_ot_at hW0 hvm.symm (hgood w (List.mem_cons_of_mem _ (List.mem_cons_of_mem _ hw))) (hat w hw)
  have hk' : (Cond.classLink own ik cls).before args s' = true := vx_ot_at hW0 hvm.symm (hgood _ List.mem_cons_self) hk
  have hini' : (Cond.initialized cls).before args s' = true := vx_ot_at hW0 hvm.symm (hgood _ (List.mem_cons_of_mem _ List.mem_cons_self)) hini
  have hU' : vx_Zq Bundle.tN "UNASSIGNED_STACK" Bundle.steD A s' s'.heap := by rw [hhp]; exact vx_Zq.moved hW0.alike (hU.kept hS.2.1)
  have hN' : vx_Zq Bundle.tN "SUPPRESSED_SENTINEL" Bundle.listD A s' s'.heap := by rw [hhp]; exact vx_Zq.moved hW0.alike (hN.kept hS.2.1)
  have h : ∀ w ∈ Bundle.ownAtoms0 own ic cls names, w.before args s' = true := vx_own hat' (vx_isRefq hU'.1) (vx_isRefq hN'.1) hU'.2.word hN'.2.word
  have hown' : s'.vm.findClass own = some m.cls := by rw [hvm]; exact hown
  have hins : (Cond.instantiable cls 6).before args s' = true := h _ (by simp [Bundle.ownAtoms0])
  obtain ⟨vm₁, cX, kX, hfX, hkX, -, -, X₁, st1⟩ := Y.newCold hexec (own := own) (C := cls) (index := ik) (n := 6) hown' hk' hins hini'
    (g := F0 m pc ls rest) rfl (by rw [hb]; exact d0) (Nat.le_refl _) (Nat.le_refl _)
  generalize hT1 : (T.setVm vm₁).pushCell { cls := cX, slots := kX.instanceTypes.map defaultValue, vm := .none } = T1 at X₁ st1
  have hcat : (Value.ref T.heap.size).category = 1 := rfl
  have hcellA : T1.heap[T.heap.size]? = some (freshCell cX kX) := by rw [← hT1]; exact State.heap_pushCell_size _ _
  have d3' : decode c.code (pc + 3) = .ok (.dup, 1) := by rw [hb]; exact d3
  obtain ⟨U, hsteps, hrun, hend, hW, hsame, ce, hce, hO⟩ := X₁.ctorThrow0 hexec htr (own := own) (cls := cls) (names := names) (ic := ic) hown' hcls hnames h (fun x hx => nomatch hx) hfX hkX hcellA (by rw [hhp, hT]; exact Nat.le_refl _)
    (g := { method := m, pc := pc + 4, locals := ls, stack := .ref T.heap.size :: .ref T.heap.size :: rest, locked := none }) rfl hsize rfl rfl (rest := rest) rfl
    (by rw [hb]; exact d4) (by rw [hb]; exact d7) hout hRframes (by simp only [List.map_cons, List.sum_cons, hcat]; omega) hlocks
  obtain ⟨f1, f2⟩ := vx_frame hsame
  rw [hhp] at f1 f2
  have hWs : s.WarmedH U.vm := State.WarmedH.trans hW0 hW
  have hcl : s.vm.findClass cls = some ce.cls := by
    have h9 := hO.cls
    rw [hvm] at h9
    exact h9
  have hall : s.sameButNew ({ U with vm := s.vm } : State) locs mc ms := by
    subst hA
    obtain ⟨e1, e2⟩ := hsame
    rw [State.setFrames_setFrames] at e1
    have h2 : (T.setVm s.vm).sameButNew ({ U with vm := s.vm } : State) [] (0 + 1) (0 + 6) := ⟨e1, e2⟩
    have h3 := X.same.trans h2
    rw [List.append_nil] at h3
    exact h3.mono hc hs
  refine ⟨U, ?_, .threw T.heap.size, hrun, hend, Or.inr ⟨T.heap.size, rfl, cls, ce, locs, hx U hWs.alike f1 (fun q hq => f2 q hq (fun z hz => nomatch hz)), hce, hO.vm, hcl, hWs, hall, hf⟩⟩
  refine st1 _ ?_
  show Steps p.tables e below (T1.setTop { method := m, pc := pc + 3, locals := ls, stack := .ref T.heap.size :: rest, locked := none }) _
  jvm_step X₁.here [X₁.here.top, hexec, d3', Value.category]
  exact hsteps
/-- 'throw new E("text")': new; dup; ldc; invokespecial; athrow -/
theorem vx_throwS {cc : ByteArray} {pc : Nat} (hexec : p.tables.exec = Jvm.exec) (hb : c.code = cc) (hl : l.stackTraces = false) {own cls text : String} {names : List String} {ik is ic mc ms sa : Nat} {A : Nat → Prop}
    (hown : s.vm.findClass own = some m.cls) (hcls : Bundle.fit cls = true) (hnames : ∀ n ∈ names, Bundle.fit n = true)
    (hk : (Cond.classLink own ik cls).before args s = true) (hini : (Cond.initialized cls).before args s = true) (hstr : vk_R own is text sa s) (hat : ∀ w ∈ vx_atS own ic cls names, w.before args s = true)
    (hgood : ∀ w ∈ Cond.classLink own ik cls :: Cond.initialized cls :: vx_atS own ic cls names, vx_ot w = true)
    (hU : vx_Zq Bundle.tN "UNASSIGNED_STACK" Bundle.steD A s s.heap) (hN : vx_Zq Bundle.tN "SUPPRESSED_SENTINEL" Bundle.listD A s s.heap) (hS : va_S A s.heap H locs) (hsize : ls.size = c.maxLocals)
    (d0 : decode cc pc = .ok (.new ik, 3)) (d3 : decode cc (pc + 3) = .ok (.dup, 1)) (d4 : decode cc (pc + 4) = .ok (.ldc is, 2)) (d6 : decode cc (pc + 6) = .ok (.invokespecial ic, 3)) (d9 : decode cc (pc + 9) = .ok (.athrow, 1))
    (hout : ∀ x ∈ c.exceptionTable.toList, covers x (pc + 9) = false)
    (hRframes : names.length + 3 < R.frames) (hRlocals : (rest.map fun v => v.category).sum + (13 * (names.length + 1) + 43) ≤ R.locals) (hRcells : cells + 1 ≤ R.cells) (hRslots : slots + 6 ≤ R.slots) (hlocks : meth.locks = false)
    (hx : ∀ t : State, s.vm.Alike t.vm → H.size ≤ t.heap.size → (∀ q : Nat, q < H.size → t.heap[q]? = H[q]?) → XC cls s t)
    (hf : ∀ z ∈ locs, free z.base) (hc : cells + 1 ≤ mc) (hs : slots + 6 ≤ ms) :
    W p l e R s m args below meth c H locs cells slots (vx_MQ below Qc XC args s mc ms free) (F0 m pc ls rest) := by
  intro T hT X
  have htr : e.platform.stackTraces = false := (show e.platform.stackTraces = l.stackTraces by rw [X.admits.platform]).trans hl
  have Y := vx_rebase X (R' := { frames := R.frames, locals := R.locals, cells := 1, slots := 6 }) (Nat.le_refl _) (Nat.le_refl _) hRcells hRslots
  obtain ⟨s', hA⟩ : ∃ z, z = (T.setVm s.vm).setFrames (.invoking m args :: below) := ⟨_, rfl⟩
  rw [← hA] at Y
  have hvm : s'.vm = s.vm := by rw [hA]; rfl
  have hhp : s'.heap = H := by rw [hA]; exact hT
  have hW0 : s.WarmedH s'.vm := by rw [hvm]; exact State.WarmedH.refl s
  have hat' : ∀ w ∈ vx_atS own ic cls names, w.before args s' = true := fun w hw => vx_ot_at hW0 hvm.symm (hgood w (List.mem_cons_of_mem _ (List.mem_cons_of_mem _ hw))) (hat w hw)
  have hk' : (Cond.classLink own ik cls).before args s' = true := vx_ot_at hW0 hvm.symm (hgood _ List.mem_cons_self) hk
  have hini' : (Cond.initialized cls).before args s' = true := vx_ot_at hW0 hvm.symm (hgood _ (List.mem_cons_of_mem _ List.mem_cons_self)) hini
  have hU' : vx_Zq Bundle.tN "UNASSIGNED_STACK" Bundle.steD A s' s'.heap := by rw [hhp]; exact vx_Zq.moved hW0.alike (hU.kept hS.2.1)
  have hN' : vx_Zq Bundle.tN "SUPPRESSED_SENTINEL" Bundle.listD A s' s'.heap := by rw [hhp]; exact vx_Zq.moved hW0.alike (hN.kept hS.2.1)
  have h : ∀ w ∈ Bundle.ownAtoms own ic cls names, w.before args s' = true := vx_own hat' (vx_isRefq hU'.1) (vx_isRefq hN'.1) hU'.2.word hN'.2.word
  have hown' : s'.vm.findClass own = some m.cls := by rw [hvm]; exact hown
  have hins : (Cond.instantiable cls 6).before args s' = true := h _ (by simp [Bundle.ownAtoms])
  obtain ⟨vm₁, cX, kX, hfX, hkX, -, -, X₁, st1⟩ := Y.newCold hexec (own := own) (C := cls) (index := ik) (n := 6) hown' hk' hins hini'
    (g := F0 m pc ls rest) rfl (by rw [hb]; exact d0) (Nat.le_refl _) (Nat.le_refl _)
  generalize hT1 : (T.setVm vm₁).pushCell { cls := cX, slots := kX.instanceTypes.map defaultValue, vm := .none } = T1 at X₁ st1
  have hcat : (Value.ref T.heap.size).category = 1 := rfl
  have hcellA : T1.heap[T.heap.size]? = some (freshCell cX kX) := by rw [← hT1]; exact State.heap_pushCell_size _ _
  have d3' : decode c.code (pc + 3) = .ok (.dup, 1) := by rw [hb]; exact d3
  have d4' : decode c.code (pc + 4) = .ok (.ldc is, 2) := by rw [hb]; exact d4
  have hstr' : vk_R own is text sa s' := vk_R.warm hW0 hstr
  obtain ⟨U, hsteps, hrun, hend, hW, hsame, ce, hce, hO⟩ := X₁.ctorThrowS hexec htr (own := own) (cls := cls) (names := names) (ic := ic) hown' hcls hnames h (fun x hx => nomatch hx) hfX hkX hcellA (by rw [hhp, hT]; exact Nat.le_refl _) (msg := .ref sa) rfl
    (g := { method := m, pc := pc + 6, locals := ls, stack := .ref sa :: .ref T.heap.size :: .ref T.heap.size :: rest, locked := none }) rfl hsize rfl rfl (rest := rest) rfl
    (by rw [hb]; exact d6) (by rw [hb]; exact d9) hout hRframes (by simp only [List.map_cons, List.sum_cons, hcat]; omega) hlocks
  obtain ⟨f1, f2⟩ := vx_frame hsame
  rw [hhp] at f1 f2
  have hWs : s.WarmedH U.vm := State.WarmedH.trans hW0 hW
  have hcl : s.vm.findClass cls = some ce.cls := by
    have h9 := hO.cls
    rw [hvm] at h9
    exact h9
  have hall : s.sameButNew ({ U with vm := s.vm } : State) locs mc ms := by
    subst hA
    obtain ⟨e1, e2⟩ := hsame
    rw [State.setFrames_setFrames] at e1
    have h2 : (T.setVm s.vm).sameButNew ({ U with vm := s.vm } : State) [] (0 + 1) (0 + 6) := ⟨e1, e2⟩
    have h3 := X.same.trans h2
    rw [List.append_nil] at h3
    exact h3.mono hc hs
  refine ⟨U, ?_, .threw T.heap.size, hrun, hend, Or.inr ⟨T.heap.size, rfl, cls, ce, locs, hx U hWs.alike f1 (fun q hq => f2 q hq (fun z hz => nomatch hz)), hce, hO.vm, hcl, hWs, hall, hf⟩⟩
  refine st1 _ ?_
  show Steps p.tables e below (T1.setTop { method := m, pc := pc + 3, locals := ls, stack := .ref T.heap.size :: rest, locked := none }) _
  jvm_step X₁.here [X₁.here.top, hexec, d3', Value.category]
  exact X₁.ldcString hexec (own := own) (text := text) (index := is) (a := sa) hown' hstr'.1 hstr'.2
    (g := { method := m, pc := pc + 4, locals := ls, stack := .ref T.heap.size :: .ref T.heap.size :: rest, locked := none }) rfl d4' _ hsteps
/-- 'throw new E("text")', the text by a wide index -/
theorem vx_throwSW {cc : ByteArray} {pc : Nat} (hexec : p.tables.exec = Jvm.exec) (hb : c.code = cc) (hl : l.stackTraces = false) {own cls text : String} {names : List String} {ik is ic mc ms sa : Nat} {A : Nat → Prop}
    (hown : s.vm.findClass own = some m.cls) (hcls : Bundle.fit cls = true) (hnames : ∀ n ∈ names, Bundle.fit n = true)
    (hk : (Cond.classLink own ik cls).before args s = true) (hini : (Cond.initialized cls).before args s = true) (hstr : vk_R own is text sa s) (hat : ∀ w ∈ vx_atS own ic cls names, w.before args s = true)
    (hgood : ∀ w ∈ Cond.classLink own ik cls :: Cond.initialized cls :: vx_atS own ic cls names, vx_ot w = true)
    (hU : vx_Zq Bundle.tN "UNASSIGNED_STACK" Bundle.steD A s s.heap) (hN : vx_Zq Bundle.tN "SUPPRESSED_SENTINEL" Bundle.listD A s s.heap) (hS : va_S A s.heap H locs) (hsize : ls.size = c.maxLocals)
    (d0 : decode cc pc = .ok (.new ik, 3)) (d3 : decode cc (pc + 3) = .ok (.dup, 1)) (d4 : decode cc (pc + 4) = .ok (.ldc_w is, 3)) (d7 : decode cc (pc + 7) = .ok (.invokespecial ic, 3)) (d10 : decode cc (pc + 10) = .ok (.athrow, 1))
    (hout : ∀ x ∈ c.exceptionTable.toList, covers x (pc + 10) = false)
    (hRframes : names.length + 3 < R.frames) (hRlocals : (rest.map fun v => v.category).sum + (13 * (names.length + 1) + 43) ≤ R.locals) (hRcells : cells + 1 ≤ R.cells) (hRslots : slots + 6 ≤ R.slots) (hlocks : meth.locks = false)
    (hx : ∀ t : State, s.vm.Alike t.vm → H.size ≤ t.heap.size → (∀ q : Nat, q < H.size → t.heap[q]? = H[q]?) → XC cls s t)
    (hf : ∀ z ∈ locs, free z.base) (hc : cells + 1 ≤ mc) (hs : slots + 6 ≤ ms) :
    W p l e R s m args below meth c H locs cells slots (vx_MQ below Qc XC args s mc ms free) (F0 m pc ls rest) := by
  intro T hT X
  have htr : e.platform.stackTraces = false := (show e.platform.stackTraces = l.stackTraces by rw [X.admits.platform]).trans hl
  have Y := vx_rebase X (R' := { frames := R.frames, locals := R.locals, cells := 1, slots := 6 }) (Nat.le_refl _) (Nat.le_refl _) hRcells hRslots
  obtain ⟨s', hA⟩ : ∃ z, z = (T.setVm s.vm).setFrames (.invoking m args :: below) := ⟨_, rfl⟩
  rw [← hA] at Y
  have hvm : s'.vm = s.vm := by rw [hA]; rfl
  have hhp : s'.heap = H := by rw [hA]; exact hT
  have hW0 : s.WarmedH s'.vm := by rw [hvm]; exact State.WarmedH.refl s
  have hat' : ∀ w ∈ vx_atS own ic cls names, w.before args s' = true := fun w hw => vx_ot_at hW0 hvm.symm (hgood w (List.mem_cons_of_mem _ (List.mem_cons_of_mem _ hw))) (hat w hw)
  have hk' : (Cond.classLink own ik cls).before args s' = true := vx_ot_at hW0 hvm.symm (hgood _ List.mem_cons_self) hk
  have hini' : (Cond.initialized cls).before args s' = true := vx_ot_at hW0 hvm.symm (hgood _ (List.mem_cons_of_mem _ List.mem_cons_self)) hini
  have hU' : vx_Zq Bundle.tN "UNASSIGNED_STACK" Bundle.steD A s' s'.heap := by rw [hhp]; exact vx_Zq.moved hW0.alike (hU.kept hS.2.1)
  have hN' : vx_Zq Bundle.tN "SUPPRESSED_SENTINEL" Bundle.listD A s' s'.heap := by rw [hhp]; exact vx_Zq.moved hW0.alike (hN.kept hS.2.1)
  have h : ∀ w ∈ Bundle.ownAtoms own ic cls names, w.before args s' = true := vx_own hat' (vx_isRefq hU'.1) (vx_isRefq hN'.1) hU'.2.word hN'.2.word
  have hown' : s'.vm.findClass own = some m.cls := by rw [hvm]; exact hown
  have hins : (Cond.instantiable cls 6).before args s' = true := h _ (by simp [Bundle.ownAtoms])
  obtain ⟨vm₁, cX, kX, hfX, hkX, -, -, X₁, st1⟩ := Y.newCold hexec (own := own) (C := cls) (index := ik) (n := 6) hown' hk' hins hini'
    (g := F0 m pc ls rest) rfl (by rw [hb]; exact d0) (Nat.le_refl _) (Nat.le_refl _)
  generalize hT1 : (T.setVm vm₁).pushCell { cls := cX, slots := kX.instanceTypes.map defaultValue, vm := .none } = T1 at X₁ st1
  have hcat : (Value.ref T.heap.size).category = 1 := rfl
  have hcellA : T1.heap[T.heap.size]? = some (freshCell cX kX) := by rw [← hT1]; exact State.heap_pushCell_size _ _
  have d3' : decode c.code (pc + 3) = .ok (.dup, 1) := by rw [hb]; exact d3
  have d4' : decode c.code (pc + 4) = .ok (.ldc_w is, 3) := by rw [hb]; exact d4
  have hstr' : vk_R own is text sa s' := vk_R.warm hW0 hstr
  obtain ⟨U, hsteps, hrun, hend, hW, hsame, ce, hce, hO⟩ := X₁.ctorThrowS hexec htr (own := own) (cls := cls) (names := names) (ic := ic) hown' hcls hnames h (fun x hx => nomatch hx) hfX hkX hcellA (by rw [hhp, hT]; exact Nat.le_refl _) (msg := .ref sa) rfl
    (g := { method := m, pc := pc + 7, locals := ls, stack := .ref sa :: .ref T.heap.size :: .ref T.heap.size :: rest, locked := none }) rfl hsize rfl rfl (rest := rest) rfl
    (by rw [hb]; exact d7) (by rw [hb]; exact d10) hout hRframes (by simp only [List.map_cons, List.sum_cons, hcat]; omega) hlocks
  obtain ⟨f1, f2⟩ := vx_frame hsame
  rw [hhp] at f1 f2
  have hWs : s.WarmedH U.vm := State.WarmedH.trans hW0 hW
  have hcl : s.vm.findClass cls = some ce.cls := by
    have h9 := hO.cls
    rw [hvm] at h9
    exact h9
  have hall : s.sameButNew ({ U with vm := s.vm } : State) locs mc ms := by
    subst hA
    obtain ⟨e1, e2⟩ := hsame
    rw [State.setFrames_setFrames] at e1
    have h2 : (T.setVm s.vm).sameButNew ({ U with vm := s.vm } : State) [] (0 + 1) (0 + 6) := ⟨e1, e2⟩
    have h3 := X.same.trans h2
    rw [List.append_nil] at h3
    exact h3.mono hc hs
  refine ⟨U, ?_, .threw T.heap.size, hrun, hend, Or.inr ⟨T.heap.size, rfl, cls, ce, locs, hx U hWs.alike f1 (fun q hq => f2 q hq (fun z hz => nomatch hz)), hce, hO.vm, hcl, hWs, hall, hf⟩⟩
  refine st1 _ ?_
  show Steps p.tables e below (T1.setTop { method := m, pc := pc + 3, locals := ls, stack := .ref T.heap.size :: rest, locked := none }) _
  jvm_step X₁.here [X₁.here.top, hexec, d3', Value.category]
  exact X₁.ldcStringW hexec (own := own) (text := text) (index := is) (a := sa) hown' hstr'.1 hstr'.2
    (g := { method := m, pc := pc + 4, locals := ls, stack := .ref T.heap.size :: .ref T.heap.size :: rest, locked := none }) rfl d4' _ hsteps
end Ends
section Bodies
variable {l : Launch}
theorem vx_ofW {y : MethodName} {ws ws' : List Cond} {rm : Room} {Pc : Array Value → State → Prop} {Qc : Array Value → State → Outcome → State → Prop} {XC : String → State → State → Prop} {mc ms : Nat} {free : Addr → Prop} {cc : ByteArray} {maxL : Nat} {ret : Option FieldType}
    (hy : plainName y.cls = true) (hw : ws = Cond.code y cc maxL ret :: ws')
    (body : ∀ p e s m args below meth c s₁, BodyLoose p l y (headSpec ws rm) cc maxL ret e s m args below meth c s₁ → c.maxLocals = maxL → (∀ x ∈ c.exceptionTable.toList, False) → Pc args s →
      W p l e (headSpec ws rm).room s m args below meth c s.heap [] 0 0 (vx_MQ below Qc XC args s mc ms free) (entryFrame m args maxL)) : vx_Met l y ws rm Pc Qc XC mc ms free := by
  refine MetFree.of_bodyS (code := cc) (maxLocals := maxL) (ret := ret) hy ?_ ?_
  · intro args s m h hn
    obtain ⟨meth, c, h1, h2, h3, h4, h5, h6, -, -⟩ := Cond.code_spec hn (atoms_spec (ws := ws) h _ (by rw [hw]; exact List.mem_cons_self))
    exact ⟨meth, c, h1, h2, h3, h4, h5, h6⟩
  · intro p e s m args below meth c s₁ B hml hP _
    have hh0 : s₁.heap = s.heap := by rw [B.state]; rfl
    have ht : ∀ x ∈ c.exceptionTable.toList, False := by
      obtain ⟨meth9, c9, h1, h2, -, -, -, -, h7, -⟩ := Cond.code_spec B.named (atoms_spec (ws := ws) B.pre _ (by rw [hw]; exact List.mem_cons_self))
      cases Option.some.inj (h1.symm.trans B.method)
      cases Option.some.inj (h2.symm.trans (Stand.of_body B).code)
      intro x hx
      rw [Array.isEmpty_iff.mp h7] at hx
      cases hx
    obtain ⟨t, a1, o, b1, b2, b3⟩ := body p e s m args below meth c s₁ B hml ht hP s₁ hh0 (Stand.of_body B)
    exact ⟨t, o, a1, b1, b2, b3⟩
/-- the table of a body with handlers -/
theorem vx_table {p : Program} {x y : MethodName} {S : Spec} {cc bytes : ByteArray} {maxL maxL' : Nat} {ret ret' : Option FieldType} {e : Env} {s s₁ : State} {m : MethodId} {args : Array Value} {below : List Frame} {meth : Method} {c : Code} {hh : List (Nat × Nat × Nat × Nat)}
    (B : BodyLoose p l y S cc maxL ret e s m args below meth c s₁) (h : (Cond.codeWith y bytes maxL' ret' hh).before args s = true) : c.exceptionTable.toList = tableOf hh := by
  obtain ⟨m9, meth9, c9, hn9, h1, h2, -, -, h6, -⟩ := Cond.codeWith_spec h
  cases Option.some.inj (hn9.symm.trans B.named)
  cases Option.some.inj (h1.symm.trans B.method)
  cases Option.some.inj (h2.symm.trans (Stand.of_body B).code)
  rw [← h6, table_eq]
end Bodies
end VXA
/-! ===== END ===== -/
/-! ===== BEGIN a static call of a method with an exception table ===== -/
section VXS
variable {p : Program} {l : Launch} {e : Env} {R : Room} {s : State} {m : MethodId} {args : Array Value} {below : List Frame} {meth : Method} {c : Code} {T : State} {H : Heap} {locs : List Loc} {cells slots : Nat}
abbrev vx_CSW (R : Room) (s : State) (args : Array Value) (own : String) (index : Nat) (y : MethodName) (bytes : ByteArray) (maxL : Nat) (ret : Option FieldType) (hh : List (Nat × Nat × Nat × Nat)) (ws : List Cond) (rm : Room) (mc ms n : Nat) : Prop :=
  (rm.cells = mc ∧ rm.slots = ms ∧ rm.frames + 1 ≤ R.frames ∧ 8 + (maxL + 11) + rm.locals ≤ R.locals ∧ (∀ w ∈ ws, ∀ (a' : Array Value) (U : State), s.WarmedH U.vm → w.before a' U = true) ∧ Cond.codeWith y bytes maxL ret hh ∈ ws) ∧
  (Cond.codeWith y bytes maxL ret hh).before args s = true ∧ (Cond.initialized y.cls).before args s = true ∧ (y.cls ≠ "java/lang/invoke/MethodHandle" ∧ y.cls ≠ "java/lang/invoke/VarHandle") ∧
  (∀ sig, parseMethodDescriptor y.desc = some sig → n = sig.parameters.length) ∧ (Cond.methodLink own index y).before args s = true ∧ (Cond.static y).before args s = true
theorem vx_cwSW {own : String} {index maxL mc ms : Nat} {y : MethodName} {bytes : ByteArray} {ret : Option FieldType} {hh : List (Nat × Nat × Nat × Nat)} {Ts ws ws' : List Cond} {rm : Room} (n : Nat) (ht : ∀ w ∈ Ts, w.before args s = true) (hT : GoodIn Ts (va_wsS own index y ws)) (hw : ws = Cond.codeWith y bytes maxL ret hh :: ws') (hrc : rm.cells = mc) (hrs : rm.slots = ms)
    (hd : y.cls ≠ "java/lang/invoke/MethodHandle" ∧ y.cls ≠ "java/lang/invoke/VarHandle" ∧ (parseMethodDescriptor y.desc).map (fun d => d.parameters.length) = some n) (hR : rm.frames + 1 ≤ R.frames ∧ 8 + (maxL + 11) + rm.locals ≤ R.locals) :
    vx_CSW R s args own index y bytes maxL ret hh ws rm mc ms n := by
  have ok : ∀ w ∈ va_wsS own index y ws, w.before args s = true := fun w h => ht w (hT w h).1
  have hG : GoodIn Ts ws := fun w h => hT w (by unfold va_wsS; exact List.mem_append_right _ h)
  have hc : Cond.codeWith y bytes maxL ret hh ∈ ws := by rw [hw]; exact List.mem_cons_self
  refine ⟨⟨hrc, hrs, hR.1, hR.2, pay_in ht hG, hc⟩, ht _ (hG _ hc).1, ok _ (by simp [va_wsS]), ⟨hd.1, hd.2.1⟩, fun sig h => ?_, ok _ (by simp [va_wsS]), ok _ (by simp [va_wsS])⟩
  have h2 := hd.2.2
  rw [h] at h2
  exact (Option.some.inj h2).symm
theorem vx_callSW (X : Stand p l e R s m args below meth c T locs cells slots) (hexec : p.tables.exec = Jvm.exec) {own : String} {index : Nat} {y : MethodName} {bytes : ByteArray} {maxL : Nat} {ret : Option FieldType} {hh : List (Nat × Nat × Nat × Nat)}
    (hown : s.vm.findClass own = some m.cls) (hlink : (Cond.methodLink own index y).before args s = true) (hstat : (Cond.static y).before args s = true) (hinit : (Cond.initialized y.cls).before args s = true)
    (hcode : (Cond.codeWith y bytes maxL ret hh).before args s = true) (hy : y.cls ≠ "java/lang/invoke/MethodHandle" ∧ y.cls ≠ "java/lang/invoke/VarHandle")
    {W9 : Nat} {Pre : Pt → Array Value → Prop} {Post : Pt → Array Value → Option Value → Pt → Prop} (hK : Back l R p e below s args y 3 W9 Pre Post)
    {g : JFrame} (hg : g.method = m) (hsize : g.locals.size = c.maxLocals) {argsL rest : List Value} (hlen : ∀ sig, parseMethodDescriptor y.desc = some sig → argsL.length = sig.parameters.length)
    (hstack : g.stack = argsL.reverse ++ rest) (hW : 2 * g.monitorRoom + (rest.map fun v => v.category).sum ≤ W9) (hdg : decode c.code g.pc = .ok (.invokestatic index, 3))
    (hpre : ∀ vm₁, s.WarmedH vm₁ → Pre ⟨T.setVm vm₁, locs, cells, slots⟩ argsL.toArray) :
    ∃ (v : Option Value) (vm₁ : Vm) (B : Pt), s.WarmedH vm₁ ∧ Stand p l e R s m args below meth c B.U B.locs B.cells B.slots ∧ Post ⟨T.setVm vm₁, locs, cells, slots⟩ argsL.toArray v B ∧
      ∀ target, Steps p.tables e below (B.U.setTop { g with pc := g.pc + 3, stack := v.toList ++ rest }) target → Steps p.tables e below (T.setTop g) target := by
  obtain ⟨mk, methM, cM, hnamed, hmethM, -, -, -, -, -, -, hsigM⟩ := Cond.codeWith_spec hcode
  have hstatic : methM.isStatic = true := Cond.static_spec hnamed hmethM hstat
  obtain ⟨kP, hkP, -⟩ := className_of_methodNamed hnamed
  have hinitP : kP.init = .initialized := Cond.initialized_spec (findClass_of_methodNamed hnamed) hkP hinit
  obtain ⟨vm₁, X₁, hstep₁⟩ := X.invokestatic hexec hown hlink hnamed hmethM hstatic hkP hinitP hy (g := g) hg (argsL := argsL) (rest := rest) (hlen _ hsigM) hstack hdg
  obtain ⟨v, B, X', hpost, hsteps⟩ := hK m meth c ⟨T.setVm vm₁, locs, cells, slots⟩ { g with stack := rest } (.invokestatic index) mk argsL.toArray X₁ hg hsize hdg hW (X₁.named hnamed) (hpre vm₁ X₁.warmed)
  exact ⟨v, vm₁, B, X₁.warmed, X', hpost, fun target h => hstep₁ _ fun acts => by rw [doInvoke_state]; exact hsteps.trans h⟩
theorem vx_runSW {y : MethodName} {bytes cc : ByteArray} {maxL nL mc ms n index : Nat} {ret : Option FieldType} {hh : List (Nat × Nat × Nat × Nat)} {ws : List Cond} {rm : Room} {Pc : Array Value → State → Prop} {Qc : Array Value → State → Outcome → State → Prop} {free : Addr → Prop} {Ts : List Cond} {own : String} {As rest : List Value} {g : JFrame}
    (S : CallFix p m c cc nL s args Ts own) (hM : Met l y ws rm Pc Qc mc ms free) (cw : vx_CSW R s args own index y bytes maxL ret hh ws rm mc ms n) (hp : PreS s H Pc As)
    (hg : g.method = m) (hn : As.length = n) (hsize : g.locals.size = nL) (hstack : g.stack = As.reverse ++ rest) (hW : 2 * g.monitorRoom + (rest.map fun v => v.category).sum ≤ 8) (hdg : decode cc g.pc = .ok (.invokestatic index, 3)) (hf : cells + mc ≤ R.cells ∧ slots + ms ≤ R.slots) :
    va_Run p l e R s m args below meth c H locs cells slots mc ms g rest (Qc As.toArray) (free) := by
  obtain ⟨⟨hrc, hrs, hfr, hlo, hws, hcw⟩, hcode, hini, hy, hlen, hl, hstt⟩ := cw
  have hK : Back l R p e below s args y 3 8 (PreOf R mc ms Pc) (PostOf Qc mc ms free) := va_backW (hh := hh) (bytes := bytes) (maxL := maxL) (ret := ret) hM hp.1 hrc hrs hfr hlo hws hcw (fun a' U hW => word_at hW (Or.inl (by first | rfl | simp [Cond.onTables, Cond.keeps, Cond.steady])) hini)
  obtain ⟨hx, hb, hml, ho, -⟩ := S
  intro T hT X
  obtain ⟨v, vm₁, ⟨U', l2, c2, s2⟩, hW₁, X', ⟨g', mk, t, L, e1, e2, hq, h1, hL, h2, h3⟩, st⟩ := vx_callSW X hx (hh := hh) (bytes := bytes) (maxL := maxL) (ret := ret) ho hl hstt hini hcode hy hK hg (hsize.trans hml.symm) (argsL := As) (rest := rest) (fun sig h => hn.trans (hlen sig h)) hstack hW (by rw [hb]; exact hdg)
    (fun vm₁ hW₁ => ⟨hf.1, hf.2, hp.2 (T.setVm vm₁) hT hW₁⟩)
  dsimp only [Pt.U, Pt.locs, Pt.cells, Pt.slots] at X' e1 e2 h1 h2 h3 st
  subst h1; subst h2; subst h3
  exact ⟨v, (T.setVm vm₁).calling g' mk As.toArray, t, U', L, hT, X', hL, e1, e2, hq, st⟩
/-- not caught here, past rows that name other classes: it goes on to the caller -/
theorem vx_outP {p : Program} {l : Launch} {e : Env} {R : Room} {s : State} {m : MethodId} {args : Array Value} {below : List Frame} {meth : Method} {c : Code} {H : Heap} {locs : List Loc} {cells slots : Nat} {free : Addr → Prop} {ls : Array Slot} {rest : List Value} {Qc : Array Value → State → Outcome → State → Prop} {XC : String → State → State → Prop}
    {pc : Nat} {own E : String} {ce : Cell} {q : Addr} {mc ms : Nat} (hown : s.vm.findClass own = some m.cls) (hlocks : meth.locks = false)
    (hpass : ∀ z ∈ c.exceptionTable.toList, covers z pc = false ∨ (z.catchType ≠ 0 ∧ ∃ nm : String, (Cond.classLink own z.catchType nm).before args s = true ∧ va_Nc E nm s)) (hcell : H[q]? = some ce) (hv : ce.vm = .none) (hcl : s.vm.findClass E = some ce.cls)
    (hx : ∀ t : State, t.heap = H → s.vm.Alike t.vm → XC E s t) (hf : ∀ z ∈ locs, free z.base) (hc : cells ≤ mc) (hs : slots ≤ ms) :
    vx_W p l e R s m args below meth c H locs cells slots (vx_MQ below Qc XC args s mc ms free) (F0 m pc ls rest) q := by
  intro T hT X
  have hpl : e.platform.magicAccessors = ({} : Platform).magicAccessors := by rw [X.admits.platform]
  obtain ⟨vm', hW', X', st⟩ := X.outThrough hlocks q (g := F0 m pc ls rest) rfl rfl rfl (cell := ce) (by rw [hT]; exact hcell) (by rw [hv]; rfl)
    (by obtain ⟨k9, h9, -⟩ := Vm.findClass_spec hcl; exact ⟨k9, h9⟩) (fun z hz => by
      rcases hpass z hz with h | ⟨hz0, nm, hl1, hn1⟩
      · exact Or.inl h
      · obtain ⟨c6, hc6, hcl6⟩ := Cond.classLink_spec hown hl1 e.platform hpl
        obtain ⟨a8, b8, h1, h2, h3⟩ := hn1
        cases Option.some.inj (h1.symm.trans hcl)
        cases Option.some.inj (h2.symm.trans hc6)
        exact Or.inr ⟨hz0, _, hcl6, h3⟩)
  obtain ⟨g₀, hfr⟩ := X'.frames_eq
  have hcell9 : ((T.setVm vm').setFrames (.throwing q :: below)).heap[q]? = some ce := by
    show T.heap[q]? = some ce
    rw [hT]; exact hcell
  have hend : Ended ((T.setVm vm').setFrames (.throwing q :: below)) below (.threw q) := State.frames_setFrames _ (State.cur_lt_of_frames hfr)
  refine ⟨(T.setVm vm').setFrames (.throwing q :: below), ?_, .threw q, X'.here.running, hend, Or.inr ⟨q, rfl, E, ce, locs, hx _ hT (X'.ends _).1.alike, hcell9, hv, hcl, (X'.ends _).1, (X'.ends _).2.mono hc hs, hf⟩⟩
  rw [X.pushThrowing_eq]
  exact st
/-- a thing of a world lies in the heap -/
theorem vx_lt {D : va_G} {cl : List vw_C} {ws : va_W} {H1 : Heap} (h : va_P D cl ws H1) {k : Nat} {q : Nat × va_E} (hk : ws[k]? = some q) : q.1 < H1.size := (h k q hk).lt
end VXS
/-! ===== END ===== -/
/-! ===== BEGIN methods with a table of their own: called by a name, returning or throwing ===== -/
section VXH
/-! vx_backW, vx_callVX, vx_callSX, vx_callVW, vx_runVW, vx_runVX, vx_runSX, vx_ofWH follow the same proofs as their sisters above (Free/Laws.lean, Shelf42/LK1.lean); vx_outP calls Shelf42/NT130.lean (outThrough). -/
section
variable {l : Launch} {R : Room} {p : Program} {e : Env} {below : List Frame} {s : State} {sargs : Array Value} {y : MethodName} {len W9 : Nat}
theorem vx_backW {ws : List Cond} {rm : Room} {Pc : Array Value → State → Prop} {Qc : Array Value → State → Outcome → State → Prop} {XC : String → State → State → Prop} {mc ms : Nat} {free : Addr → Prop} {bytes : ByteArray} {maxL : Nat} {ret : Option FieldType} {hh : List (Nat × Nat × Nat × Nat)}
    (hM : vx_Met l y ws rm Pc Qc XC mc ms free) (hblind : FrameBlind Pc) (hrc : rm.cells = mc) (hrs : rm.slots = ms)
    (hframes : rm.frames + 1 ≤ R.frames) (hlocals : W9 + (maxL + 11) + rm.locals ≤ R.locals)
    (hws : ∀ w ∈ ws, ∀ a' U, s.WarmedH U.vm → w.before a' U = true) (hcode : Cond.codeWith y bytes maxL ret hh ∈ ws) (hinit : ∀ a' U, s.WarmedH U.vm → (Cond.initialized y.cls).before a' U = true) :
    vx_Back l R p e below s sargs y len W9 (PreOf R mc ms Pc) (PostOf Qc mc ms free) (vx_Post XC mc ms free) := by
  intro m meth c A g ig mk a X hg hsize hdg hW hn hp
  have h1 : (headSpec ws rm).pre.before a A.U = true := atoms_intro fun w hw => hws w hw _ _ X.warmed
  have h2 : (Cond.codeWith y bytes maxL ret hh).before a A.U = true := hws _ hcode _ _ X.warmed
  have h3 : (Cond.initialized y.cls).before a A.U = true := hinit _ _ X.warmed
  have h4 : A.cells + (headSpec ws rm).room.cells ≤ R.cells := by rw [show (headSpec ws rm).room.cells = mc from hrc]; exact hp.1
  have h5 : A.slots + (headSpec ws rm).room.slots ≤ R.slots := by rw [show (headSpec ws rm).room.slots = ms from hrs]; exact hp.2.1
  have hPc : Pc a (A.U.calling g mk a) := hblind _ _ _ _ hp.2.2
  obtain ⟨U, Ls, c0, s0⟩ := A
  dsimp only [Pt.U, Pt.locs, Pt.cells, Pt.slots] at h1 h2 h3 h4 h5 X hn hPc ⊢
  obtain ⟨m9, methY, cY, hn9, hmY, hcY, -, hlY, -⟩ := Cond.codeWith_spec h2
  cases Option.some.inj (hn9.symm.trans hn)
  obtain ⟨kY, hkY, -⟩ := className_of_methodNamed hn
  have hinitY : kY.init = .initialized := Cond.initialized_spec (findClass_of_methodNamed hn) hkY h3
  have h : At U g.method c below := by rw [hg]; exact X.here
  have hlocals9 : W9 + (maxL + 11) + (headSpec ws rm).room.locals ≤ R.locals := hlocals
  have happ : (headSpec ws rm).appliesLoose y e.platform (U.calling g mk a) = true :=
    Spec.appliesLoose_calling (g := g) h hdg hn hkY hinitY
      (X.room_calling (g := g) (R' := (headSpec ws rm).room) hsize hmY hcY hframes (by rw [hlY]; omega) h4 h5) h1
  obtain ⟨mid, hmid⟩ := h.above
  have hfr : (U.setTop g).frames = (.java g :: mid) ++ below := by rw [State.frames_setTop' g h.top, hmid]; rfl
  obtain ⟨o, s₂, hsteps, -, hend, hq⟩ := Steps.callFree hM p X.admits X.cas X.clock (acts := []) hfr happ hPc trivial
  have hq' : vx_Q Qc XC mc ms free a (U.calling g mk a) o s₂ := hq
  rw [State.frames_setTop' g h.top] at hend
  obtain ⟨g₀, hg0⟩ := Option.isSome_iff_exists.mp h.top
  obtain ⟨r, hr⟩ := State.topJava?_eq_some.mp hg0
  have hr' : (({ U with heap := s₂.heap, slotsUsed := s₂.slotsUsed } : State).setVm s₂.vm).frames = .java g₀ :: r := hr
  rcases hq' with ⟨hqc, L, hfe, hL⟩ | ⟨q, rfl, E, ce, L, hx, hce, hcv, hcl, hW₂, hsm, hL⟩
  · obtain ⟨⟨v, rfl⟩, hW₂, e2, q2, q3, q4, q5, q6⟩ := id hfe
    have e3 : s₂ = ({ (U.calling g mk a).setFrames s₂.frames with heap := s₂.heap, slotsUsed := s₂.slotsUsed } : State).setVm s₂.vm := by
      have : s₂ = ({ s₂ with vm := (U.calling g mk a).vm } : State).setVm s₂.vm := rfl
      rw [e2] at this
      exact this
    obtain ⟨c₂, i₂, len₂, hc₂, hd₂, hf₂⟩ := hend
    have hW' : U.WarmedH s₂.vm := hW₂
    have hcc : c₂ = c := by
      have h1 : s₂.code? g.method = U.code? g.method := by
        rw [State.code?_eq, State.code?_eq, hW'.alike.method?]
      exact Option.some.inj (hc₂.symm.trans (h1.trans h.code))
    subst hcc
    have hlen : len₂ = len := by rw [hdg] at hd₂; cases hd₂; rfl
    subst hlen
    have hs₂ : s₂ = (({ U with heap := s₂.heap, slotsUsed := s₂.slotsUsed } : State).setVm s₂.vm).setTop { g with pc := g.pc + len₂, stack := v.toList ++ g.stack } := by
      refine e3.trans ?_
      rw [hf₂, State.calling_eq h.top, State.setFrames_setFrames, State.setTop_of_frames _ hr', hr]
      rfl
    have hsame : U.sameButNew ({ U with heap := s₂.heap, slotsUsed := s₂.slotsUsed } : State) L mc ms := by
      refine ⟨?_, q2, q3, q4, q5, q6⟩
      obtain ⟨t, ht, -⟩ := State.frames_cons hr
      show ({ U with heap := s₂.heap, slotsUsed := s₂.slotsUsed } : State) = { U.setFrames U.frames with heap := s₂.heap, slotsUsed := s₂.slotsUsed }
      rw [State.setFrames_self ht]
    subst hg
    refine Or.inl ⟨v, ⟨(({ U with heap := s₂.heap, slotsUsed := s₂.slotsUsed } : State).setVm s₂.vm), Ls ++ L, c0 + mc, s0 + ms⟩,
      ⟨X.admits, X.cas, X.clock, X.frames, X.room, X.hears, X.method, X.code, (X.here.setHeapUsed s₂.heap s₂.slotsUsed).setVm hW'.alike, X.tail, State.WarmedH.trans X.warmed hW', X.limits, X.bytes, X.same.trans (hsame.setVm s.vm)⟩,
      ⟨g, mk, s₂, L, rfl, rfl, hqc, rfl, hL, rfl, rfl⟩, ?_⟩
    show Steps p.tables e below _ ((({ U with heap := s₂.heap, slotsUsed := s₂.slotsUsed } : State).setVm s₂.vm).setTop { g with pc := g.pc + len₂, stack := v.toList ++ g.stack })
    rw [← hs₂]
    exact hsteps
  · obtain ⟨e2, q2, q3, q4, q5, q6⟩ := id hsm
    have e3 : s₂ = ({ (U.calling g mk a).setFrames s₂.frames with heap := s₂.heap, slotsUsed := s₂.slotsUsed } : State).setVm s₂.vm := by
      have : s₂ = ({ s₂ with vm := (U.calling g mk a).vm } : State).setVm s₂.vm := rfl
      rw [e2] at this
      exact this
    have hf₂ : s₂.frames = .throwing q :: .java g :: U.frames.tail := hend
    have hW' : U.WarmedH s₂.vm := hW₂
    have hs₂ : s₂ = ((({ U with heap := s₂.heap, slotsUsed := s₂.slotsUsed } : State).setVm s₂.vm).setTop g).pushFrame (.throwing q) := by
      refine e3.trans ?_
      rw [hf₂, State.calling_eq h.top, State.setFrames_setFrames, State.pushFrame, State.frames_setTop _ hr', State.setTop_of_frames _ hr', State.setFrames_setFrames, hr]
      rfl
    have hsame : U.sameButNew ({ U with heap := s₂.heap, slotsUsed := s₂.slotsUsed } : State) L mc ms := by
      refine ⟨?_, q2, q3, q4, q5, q6⟩
      obtain ⟨t, ht, -⟩ := State.frames_cons hr
      show ({ U with heap := s₂.heap, slotsUsed := s₂.slotsUsed } : State) = { U.setFrames U.frames with heap := s₂.heap, slotsUsed := s₂.slotsUsed }
      rw [State.setFrames_self ht]
    subst hg
    refine Or.inr ⟨q, ⟨(({ U with heap := s₂.heap, slotsUsed := s₂.slotsUsed } : State).setVm s₂.vm), Ls ++ L, c0 + mc, s0 + ms⟩,
      ⟨X.admits, X.cas, X.clock, X.frames, X.room, X.hears, X.method, X.code, (X.here.setHeapUsed s₂.heap s₂.slotsUsed).setVm hW'.alike, X.tail, State.WarmedH.trans X.warmed hW', X.limits, X.bytes, X.same.trans (hsame.setVm s.vm)⟩,
      ⟨g, mk, s₂, L, E, ce, rfl, rfl, hx, hce, hcv, hcl, rfl, hL, rfl, rfl⟩, ?_⟩
    show Steps p.tables e below _ (((({ U with heap := s₂.heap, slotsUsed := s₂.slotsUsed } : State).setVm s₂.vm).setTop g).pushFrame (.throwing q))
    rw [← hs₂]
    exact hsteps
end
variable {p : Program} {l : Launch} {e : Env} {R : Room} {s : State} {m : MethodId} {args : Array Value} {below : List Frame} {meth : Method} {c : Code} {T : State} {H : Heap} {locs : List Loc} {cells slots : Nat}
theorem vx_callVX (X : Stand p l e R s m args below meth c T locs cells slots) (hexec : p.tables.exec = Jvm.exec) {own C : String} {index : Nat} {y : MethodName} {bytes : ByteArray} {maxL : Nat} {ret : Option FieldType} {hh : List (Nat × Nat × Nat × Nat)}
    (hown : s.vm.findClass own = some m.cls) (hlink : (Cond.methodLink own index y).before args s = true) (hinst : (Cond.instanceMethod y).before args s = true) (hsel : (Cond.selects C y y).before args s = true)
    (hcode : (Cond.codeWith y bytes maxL ret hh).before args s = true) (hy : y.cls ≠ "java/lang/invoke/MethodHandle" ∧ y.cls ≠ "java/lang/invoke/VarHandle")
    {W9 : Nat} {Pre : Pt → Array Value → Prop} {Post : Pt → Array Value → Option Value → Pt → Prop} {PostX : Pt → Array Value → Addr → Pt → Prop} (hK : vx_Back l R p e below s args y 3 W9 Pre Post PostX)
    {b : Addr} {cellB : Cell} (hcell : T.heap[b]? = some cellB) (hobj : cellB.vm.isStatics = false) (hcls : s.vm.findClass C = some cellB.cls)
    {g : JFrame} (hg : g.method = m) (hsize : g.locals.size = c.maxLocals) {argsL rest : List Value} (hlen : ∀ sig, parseMethodDescriptor y.desc = some sig → argsL.length = sig.parameters.length)
    (hstack : g.stack = argsL.reverse ++ .ref b :: rest) (hW : 2 * g.monitorRoom + (rest.map fun v => v.category).sum ≤ W9) (hdg : decode c.code g.pc = .ok (.invokevirtual index, 3))
    (hpre : ∀ vm₁, s.WarmedH vm₁ → Pre ⟨T.setVm vm₁, locs, cells, slots⟩ (Value.ref b :: argsL).toArray) :
    (∃ (v : Option Value) (vm₁ : Vm) (B : Pt), s.WarmedH vm₁ ∧ Stand p l e R s m args below meth c B.U B.locs B.cells B.slots ∧ Post ⟨T.setVm vm₁, locs, cells, slots⟩ (Value.ref b :: argsL).toArray v B ∧
      ∀ target, Steps p.tables e below (B.U.setTop { g with pc := g.pc + 3, stack := v.toList ++ rest }) target → Steps p.tables e below (T.setTop g) target) ∨
    (∃ (q : Addr) (vm₁ : Vm) (B : Pt), s.WarmedH vm₁ ∧ Stand p l e R s m args below meth c B.U B.locs B.cells B.slots ∧ PostX ⟨T.setVm vm₁, locs, cells, slots⟩ (Value.ref b :: argsL).toArray q B ∧
      Steps p.tables e below (T.setTop g) ((B.U.setTop { g with stack := rest }).pushFrame (.throwing q))) := by
  obtain ⟨mk, methM, hnamed, hmethM, hstM, habM⟩ := Cond.instanceMethod_spec hinst
  obtain ⟨m8, methM', cM, hn8, hmethM', -, -, -, -, -, -, hsigM⟩ := Cond.codeWith_spec hcode
  cases Option.some.inj (hn8.symm.trans hnamed)
  cases hmethM.symm.trans hmethM'
  obtain ⟨c2, r2, m2, q1, q2, q3, q4, kP, hkP, hkPi⟩ := Cond.selects_spec hsel
  cases hcls.symm.trans q1
  cases (State.methodFound?_of_named hnamed hy).symm.trans q2
  cases hnamed.symm.trans q3
  have hselP : selectMethod e.platform s.vm cellB.cls mk = .method mk := by rw [Launch.admits_selectMethod X.admits]; exact q4
  obtain ⟨vm₁, X₁, hstep₁⟩ := X.invokevirtual hexec hown hlink hnamed hmethM hstM hkP hkPi hy (a := b) (cell := cellB) hcell
    (fun z h => by rw [h] at hobj; cases hobj) hselP hmethM habM hkP hkPi (g := g) hg (argsL := argsL) (rest := rest) (hlen _ hsigM) hstack hdg
  rcases hK m meth c ⟨T.setVm vm₁, locs, cells, slots⟩ { g with stack := rest } (.invokevirtual index) mk (Value.ref b :: argsL).toArray X₁ hg hsize hdg hW (X₁.named hnamed) (hpre vm₁ X₁.warmed) with ⟨v, B, X', hpost, hsteps⟩ | ⟨q, B, X', hpost, hsteps⟩
  · exact Or.inl ⟨v, vm₁, B, X₁.warmed, X', hpost, fun target h => hstep₁ _ fun acts => by rw [doInvoke_state]; exact hsteps.trans h⟩
  · exact Or.inr ⟨q, vm₁, B, X₁.warmed, X', hpost, hstep₁ _ fun acts => by rw [doInvoke_state]; exact hsteps⟩
theorem vx_callSX (X : Stand p l e R s m args below meth c T locs cells slots) (hexec : p.tables.exec = Jvm.exec) {own : String} {index : Nat} {y : MethodName} {bytes : ByteArray} {maxL : Nat} {ret : Option FieldType} {hh : List (Nat × Nat × Nat × Nat)}
    (hown : s.vm.findClass own = some m.cls) (hlink : (Cond.methodLink own index y).before args s = true) (hstat : (Cond.static y).before args s = true) (hinit : (Cond.initialized y.cls).before args s = true)
    (hcode : (Cond.codeWith y bytes maxL ret hh).before args s = true) (hy : y.cls ≠ "java/lang/invoke/MethodHandle" ∧ y.cls ≠ "java/lang/invoke/VarHandle")
    {W9 : Nat} {Pre : Pt → Array Value → Prop} {Post : Pt → Array Value → Option Value → Pt → Prop} {PostX : Pt → Array Value → Addr → Pt → Prop} (hK : vx_Back l R p e below s args y 3 W9 Pre Post PostX)
    {g : JFrame} (hg : g.method = m) (hsize : g.locals.size = c.maxLocals) {argsL rest : List Value} (hlen : ∀ sig, parseMethodDescriptor y.desc = some sig → argsL.length = sig.parameters.length)
    (hstack : g.stack = argsL.reverse ++ rest) (hW : 2 * g.monitorRoom + (rest.map fun v => v.category).sum ≤ W9) (hdg : decode c.code g.pc = .ok (.invokestatic index, 3))
    (hpre : ∀ vm₁, s.WarmedH vm₁ → Pre ⟨T.setVm vm₁, locs, cells, slots⟩ argsL.toArray) :
    (∃ (v : Option Value) (vm₁ : Vm) (B : Pt), s.WarmedH vm₁ ∧ Stand p l e R s m args below meth c B.U B.locs B.cells B.slots ∧ Post ⟨T.setVm vm₁, locs, cells, slots⟩ argsL.toArray v B ∧
      ∀ target, Steps p.tables e below (B.U.setTop { g with pc := g.pc + 3, stack := v.toList ++ rest }) target → Steps p.tables e below (T.setTop g) target) ∨
    (∃ (q : Addr) (vm₁ : Vm) (B : Pt), s.WarmedH vm₁ ∧ Stand p l e R s m args below meth c B.U B.locs B.cells B.slots ∧ PostX ⟨T.setVm vm₁, locs, cells, slots⟩ argsL.toArray q B ∧
      Steps p.tables e below (T.setTop g) ((B.U.setTop { g with stack := rest }).pushFrame (.throwing q))) := by
  obtain ⟨mk, methM, cM, hnamed, hmethM, -, -, -, -, -, -, hsigM⟩ := Cond.codeWith_spec hcode
  have hstatic : methM.isStatic = true := Cond.static_spec hnamed hmethM hstat
  obtain ⟨kP, hkP, -⟩ := className_of_methodNamed hnamed
  have hinitP : kP.init = .initialized := Cond.initialized_spec (findClass_of_methodNamed hnamed) hkP hinit
  obtain ⟨vm₁, X₁, hstep₁⟩ := X.invokestatic hexec hown hlink hnamed hmethM hstatic hkP hinitP hy (g := g) hg (argsL := argsL) (rest := rest) (hlen _ hsigM) hstack hdg
  rcases hK m meth c ⟨T.setVm vm₁, locs, cells, slots⟩ { g with stack := rest } (.invokestatic index) mk argsL.toArray X₁ hg hsize hdg hW (X₁.named hnamed) (hpre vm₁ X₁.warmed) with ⟨v, B, X', hpost, hsteps⟩ | ⟨q, B, X', hpost, hsteps⟩
  · exact Or.inl ⟨v, vm₁, B, X₁.warmed, X', hpost, fun target h => hstep₁ _ fun acts => by rw [doInvoke_state]; exact hsteps.trans h⟩
  · exact Or.inr ⟨q, vm₁, B, X₁.warmed, X', hpost, hstep₁ _ fun acts => by rw [doInvoke_state]; exact hsteps⟩
theorem vx_callVW (X : Stand p l e R s m args below meth c T locs cells slots) (hexec : p.tables.exec = Jvm.exec) {own C : String} {index : Nat} {y : MethodName} {bytes : ByteArray} {maxL : Nat} {ret : Option FieldType} {hh : List (Nat × Nat × Nat × Nat)}
    (hown : s.vm.findClass own = some m.cls) (hlink : (Cond.methodLink own index y).before args s = true) (hinst : (Cond.instanceMethod y).before args s = true) (hsel : (Cond.selects C y y).before args s = true)
    (hcode : (Cond.codeWith y bytes maxL ret hh).before args s = true) (hy : y.cls ≠ "java/lang/invoke/MethodHandle" ∧ y.cls ≠ "java/lang/invoke/VarHandle")
    {W9 : Nat} {Pre : Pt → Array Value → Prop} {Post : Pt → Array Value → Option Value → Pt → Prop} (hK : Back l R p e below s args y 3 W9 Pre Post)
    {b : Addr} {cellB : Cell} (hcell : T.heap[b]? = some cellB) (hobj : cellB.vm.isStatics = false) (hcls : s.vm.findClass C = some cellB.cls)
    {g : JFrame} (hg : g.method = m) (hsize : g.locals.size = c.maxLocals) {argsL rest : List Value} (hlen : ∀ sig, parseMethodDescriptor y.desc = some sig → argsL.length = sig.parameters.length)
    (hstack : g.stack = argsL.reverse ++ .ref b :: rest) (hW : 2 * g.monitorRoom + (rest.map fun v => v.category).sum ≤ W9) (hdg : decode c.code g.pc = .ok (.invokevirtual index, 3))
    (hpre : ∀ vm₁, s.WarmedH vm₁ → Pre ⟨T.setVm vm₁, locs, cells, slots⟩ (Value.ref b :: argsL).toArray) :
    ∃ (v : Option Value) (vm₁ : Vm) (B : Pt), s.WarmedH vm₁ ∧ Stand p l e R s m args below meth c B.U B.locs B.cells B.slots ∧ Post ⟨T.setVm vm₁, locs, cells, slots⟩ (Value.ref b :: argsL).toArray v B ∧
      ∀ target, Steps p.tables e below (B.U.setTop { g with pc := g.pc + 3, stack := v.toList ++ rest }) target → Steps p.tables e below (T.setTop g) target := by
  obtain ⟨mk, methM, hnamed, hmethM, hstM, habM⟩ := Cond.instanceMethod_spec hinst
  obtain ⟨m8, methM', cM, hn8, hmethM', -, -, -, -, -, -, hsigM⟩ := Cond.codeWith_spec hcode
  cases Option.some.inj (hn8.symm.trans hnamed)
  cases hmethM.symm.trans hmethM'
  obtain ⟨c2, r2, m2, q1, q2, q3, q4, kP, hkP, hkPi⟩ := Cond.selects_spec hsel
  cases hcls.symm.trans q1
  cases (State.methodFound?_of_named hnamed hy).symm.trans q2
  cases hnamed.symm.trans q3
  have hselP : selectMethod e.platform s.vm cellB.cls mk = .method mk := by rw [Launch.admits_selectMethod X.admits]; exact q4
  obtain ⟨vm₁, X₁, hstep₁⟩ := X.invokevirtual hexec hown hlink hnamed hmethM hstM hkP hkPi hy (a := b) (cell := cellB) hcell
    (fun z h => by rw [h] at hobj; cases hobj) hselP hmethM habM hkP hkPi (g := g) hg (argsL := argsL) (rest := rest) (hlen _ hsigM) hstack hdg
  obtain ⟨v, B, X', hpost, hsteps⟩ := hK m meth c ⟨T.setVm vm₁, locs, cells, slots⟩ { g with stack := rest } (.invokevirtual index) mk (Value.ref b :: argsL).toArray X₁ hg hsize hdg hW (X₁.named hnamed) (hpre vm₁ X₁.warmed)
  exact ⟨v, vm₁, B, X₁.warmed, X', hpost, fun target h => hstep₁ _ fun acts => by rw [doInvoke_state]; exact hsteps.trans h⟩
abbrev vx_CVW (R : Room) (s : State) (args : Array Value) (own C : String) (index : Nat) (y : MethodName) (bytes : ByteArray) (maxL : Nat) (ret : Option FieldType) (hh : List (Nat × Nat × Nat × Nat)) (ws : List Cond) (rm : Room) (mc ms n : Nat) : Prop :=
  (rm.cells = mc ∧ rm.slots = ms ∧ rm.frames + 1 ≤ R.frames ∧ 8 + (maxL + 11) + rm.locals ≤ R.locals ∧ (∀ w ∈ ws, ∀ (a' : Array Value) (U : State), s.WarmedH U.vm → w.before a' U = true) ∧ Cond.codeWith y bytes maxL ret hh ∈ ws) ∧
  (Cond.codeWith y bytes maxL ret hh).before args s = true ∧ (Cond.initialized y.cls).before args s = true ∧ (y.cls ≠ "java/lang/invoke/MethodHandle" ∧ y.cls ≠ "java/lang/invoke/VarHandle") ∧
  (∀ sig, parseMethodDescriptor y.desc = some sig → n = sig.parameters.length) ∧ (Cond.methodLink own index y).before args s = true ∧ (Cond.instanceMethod y).before args s = true ∧ (Cond.selects C y y).before args s = true
theorem vx_cwVW {own C : String} {index maxL mc ms : Nat} {y : MethodName} {bytes : ByteArray} {ret : Option FieldType} {hh : List (Nat × Nat × Nat × Nat)} {Ts ws ws' : List Cond} {rm : Room} (n : Nat) (ht : ∀ w ∈ Ts, w.before args s = true) (hT : GoodIn Ts (wsV own index C y ws)) (hw : ws = Cond.codeWith y bytes maxL ret hh :: ws') (hrc : rm.cells = mc) (hrs : rm.slots = ms)
    (hd : y.cls = C ∧ y.cls ≠ "java/lang/invoke/MethodHandle" ∧ y.cls ≠ "java/lang/invoke/VarHandle" ∧ (parseMethodDescriptor y.desc).map (fun d => d.parameters.length) = some n) (hR : rm.frames + 1 ≤ R.frames ∧ 8 + (maxL + 11) + rm.locals ≤ R.locals) :
    vx_CVW R s args own C index y bytes maxL ret hh ws rm mc ms n := by
  obtain ⟨hC, hd⟩ := hd
  subst hC
  have ok : ∀ w ∈ wsV own index y.cls y ws, w.before args s = true := fun w h => ht w (hT w h).1
  have hG : GoodIn Ts ws := fun w h => hT w (by unfold wsV; exact List.mem_append_right _ h)
  have hc : Cond.codeWith y bytes maxL ret hh ∈ ws := by rw [hw]; exact List.mem_cons_self
  refine ⟨⟨hrc, hrs, hR.1, hR.2, pay_in ht hG, hc⟩, ht _ (hG _ hc).1, ok _ (by simp [wsV]), ⟨hd.1, hd.2.1⟩, fun sig h => ?_, ok _ (by simp [wsV]), ok _ (by simp [wsV]), ok _ (by simp [wsV])⟩
  have h2 := hd.2.2
  rw [h] at h2
  exact (Option.some.inj h2).symm
theorem vx_runVW {y : MethodName} {bytes cc : ByteArray} {maxL nL mc ms n index : Nat} {ret : Option FieldType} {hh : List (Nat × Nat × Nat × Nat)} {ws : List Cond} {rm : Room} {Pc : Array Value → State → Prop} {Qc : Array Value → State → Outcome → State → Prop} {free : Addr → Prop} {Ts : List Cond} {own C : String} {b : Addr} {As rest : List Value} {g : JFrame}
    (S : CallFix p m c cc nL s args Ts own) (hM : Met l y ws rm Pc Qc mc ms free) (cw : vx_CVW R s args own C index y bytes maxL ret hh ws rm mc ms n) (hp : PreV s H C b Pc As)
    (hg : g.method = m) (hn : As.length = n) (hsize : g.locals.size = nL) (hstack : g.stack = As.reverse ++ .ref b :: rest) (hW : 2 * g.monitorRoom + (rest.map fun v => v.category).sum ≤ 8) (hdg : decode cc g.pc = .ok (.invokevirtual index, 3)) (hf : cells + mc ≤ R.cells ∧ slots + ms ≤ R.slots) :
    va_Run p l e R s m args below meth c H locs cells slots mc ms g rest (Qc (Value.ref b :: As).toArray) free := by
  obtain ⟨⟨hrc, hrs, hfr, hlo, hws, hcw⟩, hcode, hini, hy, hlen, hl, hin, hse⟩ := cw
  have hK : Back l R p e below s args y 3 8 (PreOf R mc ms Pc) (PostOf Qc mc ms free) := va_backW (hh := hh) (bytes := bytes) (maxL := maxL) (ret := ret) hM hp.1 hrc hrs hfr hlo hws hcw (fun a' U hW => word_at hW (Or.inl (by first | rfl | simp [Cond.onTables, Cond.keeps, Cond.steady])) hini)
  obtain ⟨hx, hb, hml, ho, -⟩ := S
  obtain ⟨-, ⟨cellB, hcB, hoB, hclB⟩, hPc⟩ := hp
  intro T hT X
  obtain ⟨v, vm₁, ⟨U', l2, c2, s2⟩, hW₁, X', ⟨g', mk, t, L, e1, e2, hq, h1, hL, h2, h3⟩, st⟩ := vx_callVW X hx (C := C) (hh := hh) (bytes := bytes) (maxL := maxL) (ret := ret) ho hl hin hse hcode hy hK (by rw [hT]; exact hcB) hoB hclB hg (hsize.trans hml.symm) (argsL := As) (rest := rest) (fun sig h => hn.trans (hlen sig h)) hstack hW (by rw [hb]; exact hdg)
    (fun vm₁ hW₁ => ⟨hf.1, hf.2, hPc (T.setVm vm₁) hT hW₁⟩)
  dsimp only [Pt.U, Pt.locs, Pt.cells, Pt.slots] at X' e1 e2 h1 h2 h3 st
  subst h1; subst h2; subst h3
  exact ⟨v, (T.setVm vm₁).calling g' mk (Value.ref b :: As).toArray, t, U', L, hT, X', hL, e1, e2, hq, st⟩
section
variable {y : MethodName} {bytes cc : ByteArray} {maxL nL mc ms n index : Nat} {ret : Option FieldType} {ws : List Cond} {rm : Room} {Pc : Array Value → State → Prop} {Qc : Array Value → State → Outcome → State → Prop} {XC : String → State → State → Prop} {free : Addr → Prop} {Ts : List Cond} {own C : String} {b : Addr} {As rest : List Value} {g : JFrame}
theorem vx_runVX {hh : List (Nat × Nat × Nat × Nat)} (S : CallFix p m c cc nL s args Ts own) (hM : vx_Met l y ws rm Pc Qc XC mc ms free) (cw : vx_CVW R s args own C index y bytes maxL ret hh ws rm mc ms n) (hp : PreV s H C b Pc As)
    (hg : g.method = m) (hn : As.length = n) (hsize : g.locals.size = nL) (hstack : g.stack = As.reverse ++ .ref b :: rest) (hW : 2 * g.monitorRoom + (rest.map fun v => v.category).sum ≤ 8) (hdg : decode cc g.pc = .ok (.invokevirtual index, 3)) (hf : cells + mc ≤ R.cells ∧ slots + ms ≤ R.slots) :
    vx_Run p l e R s m args below meth c H locs cells slots mc ms g rest (Qc (Value.ref b :: As).toArray) XC free := by
  obtain ⟨⟨hrc, hrs, hfr, hlo, hws, hcw⟩, hcode, hini, hy, hlen, hl, hin, hse⟩ := cw
  have hK : vx_Back l R p e below s args y 3 8 (PreOf R mc ms Pc) (PostOf Qc mc ms free) (vx_Post XC mc ms free) := vx_backW (hh := hh) (bytes := bytes) (maxL := maxL) (ret := ret) hM hp.1 hrc hrs hfr hlo hws hcw (fun a' U hW => word_at hW (Or.inl (by first | rfl | simp [Cond.onTables, Cond.keeps, Cond.steady])) hini)
  obtain ⟨hx, hb, hml, ho, -⟩ := S
  obtain ⟨-, ⟨cellB, hcB, hoB, hclB⟩, hPc⟩ := hp
  intro T hT X
  rcases vx_callVX X hx (C := C) (hh := hh) (bytes := bytes) (maxL := maxL) (ret := ret) ho hl hin hse hcode hy hK (by rw [hT]; exact hcB) hoB hclB hg (hsize.trans hml.symm) (argsL := As) (rest := rest) (fun sig h => hn.trans (hlen sig h)) hstack hW (by rw [hb]; exact hdg)
    (fun vm₁ hW₁ => ⟨hf.1, hf.2, hPc (T.setVm vm₁) hT hW₁⟩) with ⟨v, vm₁, ⟨U', l2, c2, s2⟩, hW₁, X', ⟨g', mk, t, L, e1, e2, hq, h1, hL, h2, h3⟩, st⟩ | ⟨q, vm₁, ⟨U', l2, c2, s2⟩, hW₁, X', ⟨g', mk, t, L, E, ce, e1, e2, hq, hce, hcv, hcl, h1, hL, h2, h3⟩, st⟩
  · dsimp only [Pt.U, Pt.locs, Pt.cells, Pt.slots] at X' e1 e2 h1 h2 h3 st
    subst h1; subst h2; subst h3
    exact Or.inl ⟨v, (T.setVm vm₁).calling g' mk (Value.ref b :: As).toArray, t, U', L, hT, X', hL, e1, e2, hq, st⟩
  · dsimp only [Pt.U, Pt.locs, Pt.cells, Pt.slots] at X' e1 e2 h1 h2 h3 st hcl
    subst h1; subst h2; subst h3
    exact Or.inr ⟨q, (T.setVm vm₁).calling g' mk (Value.ref b :: As).toArray, t, U', L, E, ce, hT, X', hL, e1, e2, hq, hce, hcv, vx_cls hW₁ hcl, st⟩
theorem vx_runSX {hh : List (Nat × Nat × Nat × Nat)} (S : CallFix p m c cc nL s args Ts own) (hM : vx_Met l y ws rm Pc Qc XC mc ms free) (cw : vx_CSW R s args own index y bytes maxL ret hh ws rm mc ms n) (hp : PreS s H Pc As)
    (hg : g.method = m) (hn : As.length = n) (hsize : g.locals.size = nL) (hstack : g.stack = As.reverse ++ rest) (hW : 2 * g.monitorRoom + (rest.map fun v => v.category).sum ≤ 8) (hdg : decode cc g.pc = .ok (.invokestatic index, 3)) (hf : cells + mc ≤ R.cells ∧ slots + ms ≤ R.slots) :
    vx_Run p l e R s m args below meth c H locs cells slots mc ms g rest (Qc As.toArray) XC free := by
  obtain ⟨⟨hrc, hrs, hfr, hlo, hws, hcw⟩, hcode, hini, hy, hlen, hl, hstt⟩ := cw
  have hK : vx_Back l R p e below s args y 3 8 (PreOf R mc ms Pc) (PostOf Qc mc ms free) (vx_Post XC mc ms free) := vx_backW (hh := hh) (bytes := bytes) (maxL := maxL) (ret := ret) hM hp.1 hrc hrs hfr hlo hws hcw (fun a' U hW => word_at hW (Or.inl (by first | rfl | simp [Cond.onTables, Cond.keeps, Cond.steady])) hini)
  obtain ⟨hx, hb, hml, ho, -⟩ := S
  intro T hT X
  rcases vx_callSX X hx (hh := hh) (bytes := bytes) (maxL := maxL) (ret := ret) ho hl hstt hini hcode hy hK hg (hsize.trans hml.symm) (argsL := As) (rest := rest) (fun sig h => hn.trans (hlen sig h)) hstack hW (by rw [hb]; exact hdg)
    (fun vm₁ hW₁ => ⟨hf.1, hf.2, hp.2 (T.setVm vm₁) hT hW₁⟩) with ⟨v, vm₁, ⟨U', l2, c2, s2⟩, hW₁, X', ⟨g', mk, t, L, e1, e2, hq, h1, hL, h2, h3⟩, st⟩ | ⟨q, vm₁, ⟨U', l2, c2, s2⟩, hW₁, X', ⟨g', mk, t, L, E, ce, e1, e2, hq, hce, hcv, hcl, h1, hL, h2, h3⟩, st⟩
  · dsimp only [Pt.U, Pt.locs, Pt.cells, Pt.slots] at X' e1 e2 h1 h2 h3 st
    subst h1; subst h2; subst h3
    exact Or.inl ⟨v, (T.setVm vm₁).calling g' mk As.toArray, t, U', L, hT, X', hL, e1, e2, hq, st⟩
  · dsimp only [Pt.U, Pt.locs, Pt.cells, Pt.slots] at X' e1 e2 h1 h2 h3 st hcl
    subst h1; subst h2; subst h3
    exact Or.inr ⟨q, (T.setVm vm₁).calling g' mk As.toArray, t, U', L, E, ce, hT, X', hL, e1, e2, hq, hce, hcv, vx_cls hW₁ hcl, st⟩
end
end VXH
theorem vx_ofWH {l : Launch} {y : MethodName} {ws ws' : List Cond} {rm : Room} {Pc : Array Value → State → Prop} {Qc : Array Value → State → Outcome → State → Prop} {XC : String → State → State → Prop} {mc ms : Nat} {free : Addr → Prop} {cc : ByteArray} {maxL : Nat} {ret : Option FieldType} {hh : List (Nat × Nat × Nat × Nat)}
    (hy : plainName y.cls = true) (hw : ws = Cond.codeWith y cc maxL ret hh :: ws')
    (body : ∀ p e s m args below meth c s₁, BodyLoose p l y (headSpec ws rm) cc maxL ret e s m args below meth c s₁ → c.maxLocals = maxL → Pc args s →
      W p l e (headSpec ws rm).room s m args below meth c s.heap [] 0 0 (vx_MQ below Qc XC args s mc ms free) (entryFrame m args maxL)) : vx_Met l y ws rm Pc Qc XC mc ms free := by
  refine MetFree.of_bodyS (code := cc) (maxLocals := maxL) (ret := ret) hy ?_ ?_
  · intro args s m h hn
    obtain ⟨m9, meth, c, hn9, h1, h2, h3, h4, -, h5, h6, -⟩ := Cond.codeWith_spec (atoms_spec (ws := ws) h _ (by rw [hw]; exact List.mem_cons_self))
    cases hn.symm.trans hn9
    exact ⟨meth, c, h1, h2, h3, h4, h5, h6⟩
  · intro p e s m args below meth c s₁ B hml hP _
    have hh0 : s₁.heap = s.heap := by rw [B.state]; rfl
    obtain ⟨t, a1, o, b1, b2, b3⟩ := body p e s m args below meth c s₁ B hml hP s₁ hh0 (Stand.of_body B)
    exact ⟨t, o, a1, b1, b2, b3⟩
/-! ===== END ===== -/
end
section
def RX0 : String := "Voxelmint$Coin"
def TX0 : u_T := fun k => match k with
  | 0 => ("Voxelmint$Coin", "die", "LVoxelmint$Die;", true)
  | 1 => ("Voxelmint$Coin", "heights", "[I", true)
  | _ => ("Voxelmint$Coin", "genuineHeights", "[I", true)
def tyX0 : Nat → FieldType := fun k => match k with
  | 0 => .object "Voxelmint$Die"
  | 1 => .array .int
  | _ => .array .int
abbrev wsX00 : List Cond := u_ws RX0 TX0 3
theorem nmX0 : ∀ a, a < 3 → ∀ b, b < 3 → a ≠ b → (TX0 a).2.1 ≠ (TX0 b).2.1 := by decide +kernel
theorem tyX0_ok : ∀ k, k < 3 → parseFieldDescriptor (TX0 k).2.2.1 = some (tyX0 k) := by decide +kernel
abbrev cX0_init : ByteArray := prog_2_method_1_code
def yX0_init : MethodName := ⟨RX0, "<init>", "(LVoxelmint$Die;[I[I)V"⟩
def RX1 : String := "Voxelmint$Die"
def TX1 : u_T := fun k => match k with
  | 0 => ("Voxelmint$Die", "firstHeights", "[I", true)
  | 1 => ("Voxelmint$Die", "heights", "[I", true)
  | _ => ("Voxelmint$Die", "struck", "Ljava/util/ArrayList;", true)
def tyX1 : Nat → FieldType := fun k => match k with
  | 0 => .array .int
  | 1 => .array .int
  | _ => .object "java/util/ArrayList"
abbrev wsX10 : List Cond := u_ws RX1 TX1 3
theorem nmX1 : ∀ a, a < 3 → ∀ b, b < 3 → a ≠ b → (TX1 a).2.1 ≠ (TX1 b).2.1 := by decide +kernel
theorem tyX1_ok : ∀ k, k < 3 → parseFieldDescriptor (TX1 k).2.2.1 = some (tyX1 k) := by decide +kernel
abbrev cX1_init : ByteArray := prog_3_method_1_code
def yX1_init : MethodName := ⟨RX1, "<init>", "([I)V"⟩
abbrev cX1_makeCoin : ByteArray := prog_3_method_2_code
def yX1_makeCoin : MethodName := ⟨RX1, "makeCoin", "()LVoxelmint$Coin;"⟩
abbrev cX1_wear : ByteArray := prog_3_method_3_code
def yX1_wear : MethodName := ⟨RX1, "wear", "()V"⟩
def RX2 : String := "Voxelmint$PieceFinder"
def TX2 : u_T := fun k => match k with
  | 0 => ("Voxelmint$PieceFinder", "marks", "[I", true)
  | 1 => ("Voxelmint$PieceFinder", "queue", "[I", true)
  | _ => ("Voxelmint$PieceFinder", "queued", "I", false)
def tyX2 : Nat → FieldType := fun k => match k with
  | 0 => .array .int
  | 1 => .array .int
  | _ => .int
abbrev wsX20 : List Cond := u_ws RX2 TX2 3
theorem nmX2 : ∀ a, a < 3 → ∀ b, b < 3 → a ≠ b → (TX2 a).2.1 ≠ (TX2 b).2.1 := by decide +kernel
theorem tyX2_ok : ∀ k, k < 3 → parseFieldDescriptor (TX2 k).2.2.1 = some (tyX2 k) := by decide +kernel
abbrev cX2_init : ByteArray := prog_4_method_1_code
def yX2_init : MethodName := ⟨RX2, "<init>", "()V"⟩
abbrev cX2_countPieces : ByteArray := prog_4_method_2_code
def yX2_countPieces : MethodName := ⟨RX2, "countPieces", "(LVoxelmint$State;)I"⟩
abbrev cX2_reachRestOfPiece : ByteArray := prog_4_method_3_code
def yX2_reachRestOfPiece : MethodName := ⟨RX2, "reachRestOfPiece", "(LVoxelmint$State;I)V"⟩
abbrev cX2_reachTouching : ByteArray := prog_4_method_4_code
def yX2_reachTouching : MethodName := ⟨RX2, "reachTouching", "(LVoxelmint$State;II)V"⟩
abbrev cX2_reach : ByteArray := prog_4_method_5_code
def yX2_reach : MethodName := ⟨RX2, "reach", "(LVoxelmint$State;II)V"⟩
def RX3 : String := "Voxelmint$State"
def TX3 : u_T := fun k => match k with
  | 0 => ("Voxelmint$State", "number", "I", true)
  | 1 => ("Voxelmint$State", "parent", "LVoxelmint$State;", true)
  | _ => ("Voxelmint$State", "kinds", "[I", true)
def tyX3 : Nat → FieldType := fun k => match k with
  | 0 => .int
  | 1 => .object "Voxelmint$State"
  | _ => .array .int
abbrev wsX30 : List Cond := u_ws RX3 TX3 3
theorem nmX3 : ∀ a, a < 3 → ∀ b, b < 3 → a ≠ b → (TX3 a).2.1 ≠ (TX3 b).2.1 := by decide +kernel
theorem tyX3_ok : ∀ k, k < 3 → parseFieldDescriptor (TX3 k).2.2.1 = some (tyX3 k) := by decide +kernel
abbrev cX3_init : ByteArray := prog_5_method_1_code
def yX3_init : MethodName := ⟨RX3, "<init>", "(ILVoxelmint$State;[I)V"⟩
abbrev cX3_kindAt : ByteArray := prog_5_method_2_code
def yX3_kindAt : MethodName := ⟨RX3, "kindAt", "(II)I"⟩
abbrev cX3_put : ByteArray := prog_5_method_3_code
def yX3_put : MethodName := ⟨RX3, "put", "(III)V"⟩
abbrev cX3_endsRun : ByteArray := prog_5_method_4_code
def yX3_endsRun : MethodName := ⟨RX3, "endsRun", "(II)Z"⟩
abbrev cX3_countRuns : ByteArray := prog_5_method_5_code
def yX3_countRuns : MethodName := ⟨RX3, "countRuns", "(I)I"⟩
abbrev cX3_lengthOfRun : ByteArray := prog_5_method_6_code
def yX3_lengthOfRun : MethodName := ⟨RX3, "lengthOfRun", "(II)I"⟩
abbrev cX3_countBlocksByRuns : ByteArray := prog_5_method_7_code
def yX3_countBlocksByRuns : MethodName := ⟨RX3, "countBlocksByRuns", "(I)I"⟩
abbrev cX3_heightOf : ByteArray := prog_5_method_8_code
def yX3_heightOf : MethodName := ⟨RX3, "heightOf", "(I)I"⟩
abbrev cX3_copyHeights : ByteArray := prog_5_method_9_code
def yX3_copyHeights : MethodName := ⟨RX3, "copyHeights", "()[I"⟩
abbrev cX3_hasColumnAlike : ByteArray := prog_5_method_10_code
def yX3_hasColumnAlike : MethodName := ⟨RX3, "hasColumnAlike", "(LVoxelmint$State;I)Z"⟩
def RX4 : String := "Voxelmint"
def TX4 : u_T := fun k => match k with
  | 0 => ("Voxelmint", "history", "Ljava/util/ArrayList;", true)
  | 1 => ("Voxelmint", "cutDies", "Ljava/util/ArrayList;", true)
  | 2 => ("Voxelmint", "madeCoins", "Ljava/util/ArrayList;", true)
  | 3 => ("Voxelmint", "pieceFinder", "LVoxelmint$PieceFinder;", true)
  | _ => ("Voxelmint", "now", "LVoxelmint$State;", false)
def tyX4 : Nat → FieldType := fun k => match k with
  | 0 => .object "java/util/ArrayList"
  | 1 => .object "java/util/ArrayList"
  | 2 => .object "java/util/ArrayList"
  | 3 => .object "Voxelmint$PieceFinder"
  | _ => .object "Voxelmint$State"
abbrev wsX40 : List Cond := u_ws RX4 TX4 5
theorem nmX4 : ∀ a, a < 5 → ∀ b, b < 5 → a ≠ b → (TX4 a).2.1 ≠ (TX4 b).2.1 := by decide +kernel
theorem tyX4_ok : ∀ k, k < 5 → parseFieldDescriptor (TX4 k).2.2.1 = some (tyX4 k) := by decide +kernel
abbrev cX4_init : ByteArray := prog_1_method_1_code
def yX4_init : MethodName := ⟨RX4, "<init>", "()V"⟩
abbrev cX4_set : ByteArray := prog_1_method_2_code
def yX4_set : MethodName := ⟨RX4, "set", "(III)I"⟩
abbrev cX4_raise : ByteArray := prog_1_method_3_code
def yX4_raise : MethodName := ⟨RX4, "raise", "(III)I"⟩
abbrev cX4_layer : ByteArray := prog_1_method_4_code
def yX4_layer : MethodName := ⟨RX4, "layer", "(II)I"⟩
abbrev cX4_kind : ByteArray := prog_1_method_5_code
def yX4_kind : MethodName := ⟨RX4, "kind", "(II)I"⟩
abbrev cX4_runs : ByteArray := prog_1_method_6_code
def yX4_runs : MethodName := ⟨RX4, "runs", "(I)I"⟩
abbrev cX4_runLength : ByteArray := prog_1_method_7_code
def yX4_runLength : MethodName := ⟨RX4, "runLength", "(II)I"⟩
abbrev cX4_blocks : ByteArray := prog_1_method_8_code
def yX4_blocks : MethodName := ⟨RX4, "blocks", "()I"⟩
abbrev cX4_blocksOneByOne : ByteArray := prog_1_method_9_code
def yX4_blocksOneByOne : MethodName := ⟨RX4, "blocksOneByOne", "()I"⟩
abbrev cX4_pieces : ByteArray := prog_1_method_10_code
def yX4_pieces : MethodName := ⟨RX4, "pieces", "()I"⟩
abbrev cX4_height : ByteArray := prog_1_method_11_code
def yX4_height : MethodName := ⟨RX4, "height", "(I)I"⟩
abbrev cX4_state : ByteArray := prog_1_method_12_code
def yX4_state : MethodName := ⟨RX4, "state", "()I"⟩
abbrev cX4_states : ByteArray := prog_1_method_13_code
def yX4_states : MethodName := ⟨RX4, "states", "()I"⟩
abbrev cX4_visit : ByteArray := prog_1_method_14_code
def yX4_visit : MethodName := ⟨RX4, "visit", "(I)I"⟩
abbrev cX4_undo : ByteArray := prog_1_method_15_code
def yX4_undo : MethodName := ⟨RX4, "undo", "()I"⟩
abbrev cX4_redo : ByteArray := prog_1_method_16_code
def yX4_redo : MethodName := ⟨RX4, "redo", "(I)I"⟩
abbrev cX4_branches : ByteArray := prog_1_method_17_code
def yX4_branches : MethodName := ⟨RX4, "branches", "()I"⟩
abbrev cX4_unlike : ByteArray := prog_1_method_18_code
def yX4_unlike : MethodName := ⟨RX4, "unlike", "(II)I"⟩
abbrev cX4_cut : ByteArray := prog_1_method_19_code
def yX4_cut : MethodName := ⟨RX4, "cut", "()I"⟩
abbrev cX4_strike : ByteArray := prog_1_method_20_code
def yX4_strike : MethodName := ⟨RX4, "strike", "(I)I"⟩
abbrev cX4_forge : ByteArray := prog_1_method_21_code
def yX4_forge : MethodName := ⟨RX4, "forge", "(III)I"⟩
abbrev cX4_dieHeight : ByteArray := prog_1_method_22_code
def yX4_dieHeight : MethodName := ⟨RX4, "dieHeight", "(II)I"⟩
abbrev cX4_coinHeight : ByteArray := prog_1_method_23_code
def yX4_coinHeight : MethodName := ⟨RX4, "coinHeight", "(II)I"⟩
abbrev cX4_grade : ByteArray := prog_1_method_24_code
def yX4_grade : MethodName := ⟨RX4, "grade", "(I)I"⟩
abbrev cX4_isForged : ByteArray := prog_1_method_25_code
def yX4_isForged : MethodName := ⟨RX4, "isForged", "(I)Z"⟩
abbrev cX4_distance : ByteArray := prog_1_method_26_code
def yX4_distance : MethodName := ⟨RX4, "distance", "(II)I"⟩
abbrev cX4_beginState : ByteArray := prog_1_method_27_code
def yX4_beginState : MethodName := ⟨RX4, "beginState", "()V"⟩
abbrev cX4_findChild : ByteArray := prog_1_method_28_code
def yX4_findChild : MethodName := ⟨RX4, "findChild", "(I)LVoxelmint$State;"⟩
abbrev cX4_keepCoin : ByteArray := prog_1_method_29_code
def yX4_keepCoin : MethodName := ⟨RX4, "keepCoin", "(LVoxelmint$Coin;)I"⟩
abbrev cX4_distanceOfRows : ByteArray := prog_1_method_30_code
def yX4_distanceOfRows : MethodName := ⟨RX4, "distanceOfRows", "([I[I)I"⟩
abbrev cX4_isColumn : ByteArray := prog_1_method_31_code
def yX4_isColumn : MethodName := ⟨RX4, "isColumn", "(I)Z"⟩
abbrev cX4_isLevel : ByteArray := prog_1_method_32_code
def yX4_isLevel : MethodName := ⟨RX4, "isLevel", "(I)Z"⟩
abbrev cX4_checkColumn : ByteArray := prog_1_method_33_code
def yX4_checkColumn : MethodName := ⟨RX4, "checkColumn", "(I)V"⟩
abbrev cX4_checkLevel : ByteArray := prog_1_method_34_code
def yX4_checkLevel : MethodName := ⟨RX4, "checkLevel", "(I)V"⟩
abbrev cX4_checkHeight : ByteArray := prog_1_method_35_code
def yX4_checkHeight : MethodName := ⟨RX4, "checkHeight", "(I)V"⟩
abbrev cX4_checkKindOrAir : ByteArray := prog_1_method_36_code
def yX4_checkKindOrAir : MethodName := ⟨RX4, "checkKindOrAir", "(I)V"⟩
abbrev cX4_checkKindOfBlock : ByteArray := prog_1_method_37_code
def yX4_checkKindOfBlock : MethodName := ⟨RX4, "checkKindOfBlock", "(I)V"⟩
abbrev cX4_checkState : ByteArray := prog_1_method_38_code
def yX4_checkState : MethodName := ⟨RX4, "checkState", "(I)V"⟩
abbrev cX4_checkDie : ByteArray := prog_1_method_39_code
def yX4_checkDie : MethodName := ⟨RX4, "checkDie", "(I)V"⟩
abbrev cX4_checkCoin : ByteArray := prog_1_method_40_code
def yX4_checkCoin : MethodName := ⟨RX4, "checkCoin", "(I)V"⟩
abbrev cX4_checkRoomForState : ByteArray := prog_1_method_41_code
def yX4_checkRoomForState : MethodName := ⟨RX4, "checkRoomForState", "()V"⟩
abbrev cX4_checkRoomForCoin : ByteArray := prog_1_method_42_code
def yX4_checkRoomForCoin : MethodName := ⟨RX4, "checkRoomForCoin", "()V"⟩
def RX5 : String := "VoxelmintModel"
def TX5 : u_T := fun k => match k with
  | 0 => ("VoxelmintModel", "thrown", "I", false)
  | 1 => ("VoxelmintModel", "states", "I", false)
  | 2 => ("VoxelmintModel", "now", "I", false)
  | 3 => ("VoxelmintModel", "parent", "[I", true)
  | 4 => ("VoxelmintModel", "column", "[I", true)
  | 5 => ("VoxelmintModel", "label", "[I", true)
  | 6 => ("VoxelmintModel", "dies", "I", false)
  | 7 => ("VoxelmintModel", "first", "[I", true)
  | 8 => ("VoxelmintModel", "worn", "[I", true)
  | 9 => ("VoxelmintModel", "strikes", "[I", true)
  | 10 => ("VoxelmintModel", "coins", "I", false)
  | 11 => ("VoxelmintModel", "heights", "[I", true)
  | 12 => ("VoxelmintModel", "die", "[I", true)
  | 13 => ("VoxelmintModel", "number", "[I", true)
  | _ => ("VoxelmintModel", "then", "[I", true)
def tyX5 : Nat → FieldType := fun k => match k with
  | 0 => .int
  | 1 => .int
  | 2 => .int
  | 3 => .array .int
  | 4 => .array .int
  | 5 => .array .int
  | 6 => .int
  | 7 => .array .int
  | 8 => .array .int
  | 9 => .array .int
  | 10 => .int
  | 11 => .array .int
  | 12 => .array .int
  | 13 => .array .int
  | _ => .array .int
abbrev wsX50 : List Cond := u_ws RX5 TX5 15
theorem nmX5 : ∀ a, a < 15 → ∀ b, b < 15 → a ≠ b → (TX5 a).2.1 ≠ (TX5 b).2.1 := by decide +kernel
theorem tyX5_ok : ∀ k, k < 15 → parseFieldDescriptor (TX5 k).2.2.1 = some (tyX5 k) := by decide +kernel
abbrev cX5_init : ByteArray := prog_7_method_1_code
def yX5_init : MethodName := ⟨RX5, "<init>", "()V"⟩
abbrev cX5_thrown : ByteArray := prog_7_method_2_code
def yX5_thrown : MethodName := ⟨RX5, "thrown", "()I"⟩
abbrev cX5_in : ByteArray := prog_7_method_3_code
def yX5_in : MethodName := ⟨RX5, "in", "(III)Z"⟩
abbrev cX5_isColumn : ByteArray := prog_7_method_4_code
def yX5_isColumn : MethodName := ⟨RX5, "isColumn", "(I)Z"⟩
abbrev cX5_isLevel : ByteArray := prog_7_method_5_code
def yX5_isLevel : MethodName := ⟨RX5, "isLevel", "(I)Z"⟩
abbrev cX5_kindAt : ByteArray := prog_7_method_6_code
def yX5_kindAt : MethodName := ⟨RX5, "kindAt", "(III)I"⟩
abbrev cX5_kindNow : ByteArray := prog_7_method_7_code
def yX5_kindNow : MethodName := ⟨RX5, "kindNow", "(II)I"⟩
abbrev cX5_grows : ByteArray := prog_7_method_8_code
def yX5_grows : MethodName := ⟨RX5, "grows", "()V"⟩
abbrev cX5_puts : ByteArray := prog_7_method_9_code
def yX5_puts : MethodName := ⟨RX5, "puts", "(III)V"⟩
abbrev cX5_set : ByteArray := prog_7_method_10_code
def yX5_set : MethodName := ⟨RX5, "set", "(III)I"⟩
abbrev cX5_raise : ByteArray := prog_7_method_11_code
def yX5_raise : MethodName := ⟨RX5, "raise", "(III)I"⟩
abbrev cX5_layer : ByteArray := prog_7_method_12_code
def yX5_layer : MethodName := ⟨RX5, "layer", "(II)I"⟩
abbrev cX5_kind : ByteArray := prog_7_method_13_code
def yX5_kind : MethodName := ⟨RX5, "kind", "(II)I"⟩
abbrev cX5_runsOf : ByteArray := prog_7_method_14_code
def yX5_runsOf : MethodName := ⟨RX5, "runsOf", "(I)I"⟩
abbrev cX5_runs : ByteArray := prog_7_method_15_code
def yX5_runs : MethodName := ⟨RX5, "runs", "(I)I"⟩
abbrev cX5_runLength : ByteArray := prog_7_method_16_code
def yX5_runLength : MethodName := ⟨RX5, "runLength", "(II)I"⟩
abbrev cX5_manyBlocks : ByteArray := prog_7_method_17_code
def yX5_manyBlocks : MethodName := ⟨RX5, "manyBlocks", "()I"⟩
abbrev cX5_blocks : ByteArray := prog_7_method_18_code
def yX5_blocks : MethodName := ⟨RX5, "blocks", "()I"⟩
abbrev cX5_blocksOneByOne : ByteArray := prog_7_method_19_code
def yX5_blocksOneByOne : MethodName := ⟨RX5, "blocksOneByOne", "()I"⟩
abbrev cX5_joins : ByteArray := prog_7_method_20_code
def yX5_joins : MethodName := ⟨RX5, "joins", "(II)Z"⟩
abbrev cX5_joinsAll : ByteArray := prog_7_method_21_code
def yX5_joinsAll : MethodName := ⟨RX5, "joinsAll", "()Z"⟩
abbrev cX5_manyPieces : ByteArray := prog_7_method_22_code
def yX5_manyPieces : MethodName := ⟨RX5, "manyPieces", "()I"⟩
abbrev cX5_pieces : ByteArray := prog_7_method_23_code
def yX5_pieces : MethodName := ⟨RX5, "pieces", "()I"⟩
abbrev cX5_heightNow : ByteArray := prog_7_method_24_code
def yX5_heightNow : MethodName := ⟨RX5, "heightNow", "(I)I"⟩
abbrev cX5_height : ByteArray := prog_7_method_25_code
def yX5_height : MethodName := ⟨RX5, "height", "(I)I"⟩
abbrev cX5_state : ByteArray := prog_7_method_26_code
def yX5_state : MethodName := ⟨RX5, "state", "()I"⟩
abbrev cX5_states : ByteArray := prog_7_method_27_code
def yX5_states : MethodName := ⟨RX5, "states", "()I"⟩
abbrev cX5_isState : ByteArray := prog_7_method_28_code
def yX5_isState : MethodName := ⟨RX5, "isState", "(I)Z"⟩
abbrev cX5_visit : ByteArray := prog_7_method_29_code
def yX5_visit : MethodName := ⟨RX5, "visit", "(I)I"⟩
abbrev cX5_undo : ByteArray := prog_7_method_30_code
def yX5_undo : MethodName := ⟨RX5, "undo", "()I"⟩
abbrev cX5_manyBranches : ByteArray := prog_7_method_31_code
def yX5_manyBranches : MethodName := ⟨RX5, "manyBranches", "()I"⟩
abbrev cX5_redo : ByteArray := prog_7_method_32_code
def yX5_redo : MethodName := ⟨RX5, "redo", "(I)I"⟩
abbrev cX5_branches : ByteArray := prog_7_method_33_code
def yX5_branches : MethodName := ⟨RX5, "branches", "()I"⟩
abbrev cX5_unlike : ByteArray := prog_7_method_34_code
def yX5_unlike : MethodName := ⟨RX5, "unlike", "(II)I"⟩
abbrev cX5_isDie : ByteArray := prog_7_method_35_code
def yX5_isDie : MethodName := ⟨RX5, "isDie", "(I)Z"⟩
abbrev cX5_isCoin : ByteArray := prog_7_method_36_code
def yX5_isCoin : MethodName := ⟨RX5, "isCoin", "(I)Z"⟩
abbrev cX5_cut : ByteArray := prog_7_method_37_code
def yX5_cut : MethodName := ⟨RX5, "cut", "()I"⟩
abbrev cX5_strike : ByteArray := prog_7_method_38_code
def yX5_strike : MethodName := ⟨RX5, "strike", "(I)I"⟩
abbrev cX5_forge : ByteArray := prog_7_method_39_code
def yX5_forge : MethodName := ⟨RX5, "forge", "(III)I"⟩
abbrev cX5_dieHeight : ByteArray := prog_7_method_40_code
def yX5_dieHeight : MethodName := ⟨RX5, "dieHeight", "(II)I"⟩
abbrev cX5_coinHeight : ByteArray := prog_7_method_41_code
def yX5_coinHeight : MethodName := ⟨RX5, "coinHeight", "(II)I"⟩
abbrev cX5_far : ByteArray := prog_7_method_42_code
def yX5_far : MethodName := ⟨RX5, "far", "(II)I"⟩
abbrev cX5_grade : ByteArray := prog_7_method_43_code
def yX5_grade : MethodName := ⟨RX5, "grade", "(I)I"⟩
abbrev cX5_laysThen : ByteArray := prog_7_method_44_code
def yX5_laysThen : MethodName := ⟨RX5, "laysThen", "(II)V"⟩
abbrev cX5_isForged : ByteArray := prog_7_method_45_code
def yX5_isForged : MethodName := ⟨RX5, "isForged", "(I)Z"⟩
abbrev cX5_distance : ByteArray := prog_7_method_46_code
def yX5_distance : MethodName := ⟨RX5, "distance", "(II)I"⟩
def RJx145de : String := "java/io/Serializable"
def TJx145de : u_T := fun k => match k with
  | _ => ("", "", "", false)
def tyJx145de : Nat → FieldType := fun k => match k with
  | _ => .int
abbrev wsJx145de0 : List Cond := u_ws RJx145de TJx145de 0
theorem nmJx145de : ∀ a, a < 0 → ∀ b, b < 0 → a ≠ b → (TJx145de a).2.1 ≠ (TJx145de b).2.1 := by decide +kernel
theorem tyJx145de_ok : ∀ k, k < 0 → parseFieldDescriptor (TJx145de k).2.2.1 = some (tyJx145de k) := by decide +kernel
def RJx8e188 : String := "java/lang/Cloneable"
def TJx8e188 : u_T := fun k => match k with
  | _ => ("", "", "", false)
def tyJx8e188 : Nat → FieldType := fun k => match k with
  | _ => .int
abbrev wsJx8e1880 : List Cond := u_ws RJx8e188 TJx8e188 0
theorem nmJx8e188 : ∀ a, a < 0 → ∀ b, b < 0 → a ≠ b → (TJx8e188 a).2.1 ≠ (TJx8e188 b).2.1 := by decide +kernel
theorem tyJx8e188_ok : ∀ k, k < 0 → parseFieldDescriptor (TJx8e188 k).2.2.1 = some (tyJx8e188 k) := by decide +kernel
def RJxab1ab : String := "java/lang/Iterable"
def TJxab1ab : u_T := fun k => match k with
  | _ => ("", "", "", false)
def tyJxab1ab : Nat → FieldType := fun k => match k with
  | _ => .int
abbrev wsJxab1ab0 : List Cond := u_ws RJxab1ab TJxab1ab 0
theorem nmJxab1ab : ∀ a, a < 0 → ∀ b, b < 0 → a ≠ b → (TJxab1ab a).2.1 ≠ (TJxab1ab b).2.1 := by decide +kernel
theorem tyJxab1ab_ok : ∀ k, k < 0 → parseFieldDescriptor (TJxab1ab k).2.2.1 = some (tyJxab1ab k) := by decide +kernel
def RJ9 : String := "java/lang/Math"
def TJ9 : u_T := fun k => match k with
  | _ => ("", "", "", false)
def tyJ9 : Nat → FieldType := fun k => match k with
  | _ => .int
abbrev wsJ90 : List Cond := u_ws RJ9 TJ9 0
theorem nmJ9 : ∀ a, a < 0 → ∀ b, b < 0 → a ≠ b → (TJ9 a).2.1 ≠ (TJ9 b).2.1 := by decide +kernel
theorem tyJ9_ok : ∀ k, k < 0 → parseFieldDescriptor (TJ9 k).2.2.1 = some (tyJ9 k) := by decide +kernel
abbrev cJ9_abs_0f7a4 : ByteArray := prog_15_method_59_code
def yJ9_abs_0f7a4 : MethodName := ⟨RJ9, "abs", "(I)I"⟩
abbrev cJ9_max_7cf53 : ByteArray := prog_15_method_65_code
def yJ9_max_7cf53 : MethodName := ⟨RJ9, "max", "(II)I"⟩
abbrev cJ9_min_7cf53 : ByteArray := prog_15_method_69_code
def yJ9_min_7cf53 : MethodName := ⟨RJ9, "min", "(II)I"⟩
def RJ0 : String := "java/lang/String"
def TJ0 : u_T := fun k => match k with
  | _ => ("", "", "", false)
def tyJ0 : Nat → FieldType := fun k => match k with
  | _ => .int
abbrev wsJ00 : List Cond := u_ws RJ0 TJ0 0
theorem nmJ0 : ∀ a, a < 0 → ∀ b, b < 0 → a ≠ b → (TJ0 a).2.1 ≠ (TJ0 b).2.1 := by decide +kernel
theorem tyJ0_ok : ∀ k, k < 0 → parseFieldDescriptor (TJ0 k).2.2.1 = some (tyJ0 k) := by decide +kernel
def RJ10 : String := "java/lang/System"
def TJ10 : u_T := fun k => match k with
  | _ => ("", "", "", false)
def tyJ10 : Nat → FieldType := fun k => match k with
  | _ => .int
abbrev wsJ100 : List Cond := u_ws RJ10 TJ10 0
theorem nmJ10 : ∀ a, a < 0 → ∀ b, b < 0 → a ≠ b → (TJ10 a).2.1 ≠ (TJ10 b).2.1 := by decide +kernel
theorem tyJ10_ok : ∀ k, k < 0 → parseFieldDescriptor (TJ10 k).2.2.1 = some (tyJ10 k) := by decide +kernel
def RJxa1e45 : String := "java/util/AbstractCollection"
def TJxa1e45 : u_T := fun k => match k with
  | _ => ("", "", "", false)
def tyJxa1e45 : Nat → FieldType := fun k => match k with
  | _ => .int
abbrev wsJxa1e450 : List Cond := u_ws RJxa1e45 TJxa1e45 0
theorem nmJxa1e45 : ∀ a, a < 0 → ∀ b, b < 0 → a ≠ b → (TJxa1e45 a).2.1 ≠ (TJxa1e45 b).2.1 := by decide +kernel
theorem tyJxa1e45_ok : ∀ k, k < 0 → parseFieldDescriptor (TJxa1e45 k).2.2.1 = some (tyJxa1e45 k) := by decide +kernel
abbrev cJxa1e45_init_da8c8 : ByteArray := prog_20_method_1_code
def yJxa1e45_init_da8c8 : MethodName := ⟨RJxa1e45, "<init>", "()V"⟩
def RJxc12de : String := "java/util/AbstractList"
def TJxc12de : u_T := fun k => match k with
  | _ => ("", "", "", false)
def tyJxc12de : Nat → FieldType := fun k => match k with
  | _ => .int
abbrev wsJxc12de0 : List Cond := u_ws RJxc12de TJxc12de 0
theorem nmJxc12de : ∀ a, a < 0 → ∀ b, b < 0 → a ≠ b → (TJxc12de a).2.1 ≠ (TJxc12de b).2.1 := by decide +kernel
theorem tyJxc12de_ok : ∀ k, k < 0 → parseFieldDescriptor (TJxc12de k).2.2.1 = some (tyJxc12de k) := by decide +kernel
abbrev cJxc12de_init_da8c8 : ByteArray := prog_21_method_1_code
def yJxc12de_init_da8c8 : MethodName := ⟨RJxc12de, "<init>", "()V"⟩
def RJx4a65c : String := "java/util/ArrayList"
def TJx4a65c : u_T := fun k => match k with
  | 0 => ("java/util/AbstractList", "modCount", "I", false)
  | 1 => ("java/util/ArrayList", "elementData", "[Ljava/lang/Object;", false)
  | _ => ("java/util/ArrayList", "size", "I", false)
def tyJx4a65c : Nat → FieldType := fun k => match k with
  | 0 => .int
  | 1 => .array (.object "java/lang/Object")
  | _ => .int
abbrev wsJx4a65c0 : List Cond := u_ws RJx4a65c TJx4a65c 3
theorem nmJx4a65c : ∀ a, a < 3 → ∀ b, b < 3 → a ≠ b → (TJx4a65c a).2.1 ≠ (TJx4a65c b).2.1 := by decide +kernel
theorem tyJx4a65c_ok : ∀ k, k < 3 → parseFieldDescriptor (TJx4a65c k).2.2.1 = some (tyJx4a65c k) := by decide +kernel
abbrev cJx4a65c_init_da8c8 : ByteArray := prog_22_method_2_code
def yJx4a65c_init_da8c8 : MethodName := ⟨RJx4a65c, "<init>", "()V"⟩
abbrev cJx4a65c_grow_92f84 : ByteArray := prog_22_method_6_code
def yJx4a65c_grow_92f84 : MethodName := ⟨RJx4a65c, "grow", "(I)[Ljava/lang/Object;"⟩
abbrev cJx4a65c_grow_d5877 : ByteArray := prog_22_method_7_code
def yJx4a65c_grow_d5877 : MethodName := ⟨RJx4a65c, "grow", "()[Ljava/lang/Object;"⟩
abbrev cJx4a65c_size_8abf5 : ByteArray := prog_22_method_8_code
def yJx4a65c_size_8abf5 : MethodName := ⟨RJx4a65c, "size", "()I"⟩
abbrev cJx4a65c_elementData_915e3 : ByteArray := prog_22_method_18_code
def yJx4a65c_elementData_915e3 : MethodName := ⟨RJx4a65c, "elementData", "(I)Ljava/lang/Object;"⟩
abbrev cJx4a65c_get_915e3 : ByteArray := prog_22_method_20_code
def yJx4a65c_get_915e3 : MethodName := ⟨RJx4a65c, "get", "(I)Ljava/lang/Object;"⟩
abbrev cJx4a65c_add_72be8 : ByteArray := prog_22_method_24_code
def yJx4a65c_add_72be8 : MethodName := ⟨RJx4a65c, "add", "(Ljava/lang/Object;[Ljava/lang/Object;I)V"⟩
abbrev cJx4a65c_add_9ea2d : ByteArray := prog_22_method_25_code
def yJx4a65c_add_9ea2d : MethodName := ⟨RJx4a65c, "add", "(Ljava/lang/Object;)Z"⟩
def RJ7 : String := "java/util/Arrays"
def TJ7 : u_T := fun k => match k with
  | _ => ("", "", "", false)
def tyJ7 : Nat → FieldType := fun k => match k with
  | _ => .int
abbrev wsJ70 : List Cond := u_ws RJ7 TJ7 0
theorem nmJ7 : ∀ a, a < 0 → ∀ b, b < 0 → a ≠ b → (TJ7 a).2.1 ≠ (TJ7 b).2.1 := by decide +kernel
theorem tyJ7_ok : ∀ k, k < 0 → parseFieldDescriptor (TJ7 k).2.2.1 = some (tyJ7 k) := by decide +kernel
abbrev cJ7_fill_53178 : ByteArray := prog_23_method_103_code
def yJ7_fill_53178 : MethodName := ⟨RJ7, "fill", "([II)V"⟩
abbrev cJ7_copyOf_1904c : ByteArray := prog_23_method_119_code
def yJ7_copyOf_1904c : MethodName := ⟨RJ7, "copyOf", "([Ljava/lang/Object;I)[Ljava/lang/Object;"⟩
abbrev cJ7_copyOf_6403c : ByteArray := prog_23_method_120_code
def yJ7_copyOf_6403c : MethodName := ⟨RJ7, "copyOf", "([Ljava/lang/Object;ILjava/lang/Class;)[Ljava/lang/Object;"⟩
def RJx5ef63 : String := "java/util/Collection"
def TJx5ef63 : u_T := fun k => match k with
  | _ => ("", "", "", false)
def tyJx5ef63 : Nat → FieldType := fun k => match k with
  | _ => .int
abbrev wsJx5ef630 : List Cond := u_ws RJx5ef63 TJx5ef63 0
theorem nmJx5ef63 : ∀ a, a < 0 → ∀ b, b < 0 → a ≠ b → (TJx5ef63 a).2.1 ≠ (TJx5ef63 b).2.1 := by decide +kernel
theorem tyJx5ef63_ok : ∀ k, k < 0 → parseFieldDescriptor (TJx5ef63 k).2.2.1 = some (tyJx5ef63 k) := by decide +kernel
def RJxbd725 : String := "java/util/List"
def TJxbd725 : u_T := fun k => match k with
  | _ => ("", "", "", false)
def tyJxbd725 : Nat → FieldType := fun k => match k with
  | _ => .int
abbrev wsJxbd7250 : List Cond := u_ws RJxbd725 TJxbd725 0
theorem nmJxbd725 : ∀ a, a < 0 → ∀ b, b < 0 → a ≠ b → (TJxbd725 a).2.1 ≠ (TJxbd725 b).2.1 := by decide +kernel
theorem tyJxbd725_ok : ∀ k, k < 0 → parseFieldDescriptor (TJxbd725 k).2.2.1 = some (tyJxbd725 k) := by decide +kernel
def RJ15 : String := "java/util/Objects"
def TJ15 : u_T := fun k => match k with
  | _ => ("", "", "", false)
def tyJ15 : Nat → FieldType := fun k => match k with
  | _ => .int
abbrev wsJ150 : List Cond := u_ws RJ15 TJ15 0
theorem nmJ15 : ∀ a, a < 0 → ∀ b, b < 0 → a ≠ b → (TJ15 a).2.1 ≠ (TJ15 b).2.1 := by decide +kernel
theorem tyJ15_ok : ∀ k, k < 0 → parseFieldDescriptor (TJ15 k).2.2.1 = some (tyJ15 k) := by decide +kernel
abbrev cJ15_checkIndex_7cf53 : ByteArray := prog_26_method_17_code
def yJ15_checkIndex_7cf53 : MethodName := ⟨RJ15, "checkIndex", "(II)I"⟩
def RJxf0a74 : String := "java/util/RandomAccess"
def TJxf0a74 : u_T := fun k => match k with
  | _ => ("", "", "", false)
def tyJxf0a74 : Nat → FieldType := fun k => match k with
  | _ => .int
abbrev wsJxf0a740 : List Cond := u_ws RJxf0a74 TJxf0a74 0
theorem nmJxf0a74 : ∀ a, a < 0 → ∀ b, b < 0 → a ≠ b → (TJxf0a74 a).2.1 ≠ (TJxf0a74 b).2.1 := by decide +kernel
theorem tyJxf0a74_ok : ∀ k, k < 0 → parseFieldDescriptor (TJxf0a74 k).2.2.1 = some (tyJxf0a74 k) := by decide +kernel
def RJxa66e6 : String := "java/util/SequencedCollection"
def TJxa66e6 : u_T := fun k => match k with
  | _ => ("", "", "", false)
def tyJxa66e6 : Nat → FieldType := fun k => match k with
  | _ => .int
abbrev wsJxa66e60 : List Cond := u_ws RJxa66e6 TJxa66e6 0
theorem nmJxa66e6 : ∀ a, a < 0 → ∀ b, b < 0 → a ≠ b → (TJxa66e6 a).2.1 ≠ (TJxa66e6 b).2.1 := by decide +kernel
theorem tyJxa66e6_ok : ∀ k, k < 0 → parseFieldDescriptor (TJxa66e6 k).2.2.1 = some (tyJxa66e6 k) := by decide +kernel
def RJ8 : String := "jdk/internal/util/ArraysSupport"
def TJ8 : u_T := fun k => match k with
  | _ => ("", "", "", false)
def tyJ8 : Nat → FieldType := fun k => match k with
  | _ => .int
abbrev wsJ80 : List Cond := u_ws RJ8 TJ8 0
theorem nmJ8 : ∀ a, a < 0 → ∀ b, b < 0 → a ≠ b → (TJ8 a).2.1 ≠ (TJ8 b).2.1 := by decide +kernel
theorem tyJ8_ok : ∀ k, k < 0 → parseFieldDescriptor (TJ8 k).2.2.1 = some (tyJ8 k) := by decide +kernel
abbrev cJ8_newLength_cabcc : ByteArray := prog_29_method_27_code
def yJ8_newLength_cabcc : MethodName := ⟨RJ8, "newLength", "(III)I"⟩
abbrev cJ8_hugeLength_7cf53 : ByteArray := prog_29_method_28_code
def yJ8_hugeLength_7cf53 : MethodName := ⟨RJ8, "hugeLength", "(II)I"⟩
def RJ3 : String := "jdk/internal/util/Preconditions"
def TJ3 : u_T := fun k => match k with
  | _ => ("", "", "", false)
def tyJ3 : Nat → FieldType := fun k => match k with
  | _ => .int
abbrev wsJ30 : List Cond := u_ws RJ3 TJ3 0
theorem nmJ3 : ∀ a, a < 0 → ∀ b, b < 0 → a ≠ b → (TJ3 a).2.1 ≠ (TJ3 b).2.1 := by decide +kernel
theorem tyJ3_ok : ∀ k, k < 0 → parseFieldDescriptor (TJ3 k).2.2.1 = some (tyJ3 k) := by decide +kernel
abbrev cJ3_checkIndex_8e157 : ByteArray := prog_30_method_11_code
def yJ3_checkIndex_8e157 : MethodName := ⟨RJ3, "checkIndex", "(IILjava/util/function/BiFunction;)I"⟩
def RL : String := "VoxelmintLaw"
abbrev cL_set : ByteArray := method_3_code
def yL_set : MethodName := ⟨RL, "set", "(LVoxelmint;III[J)I"⟩
abbrev cL_raise : ByteArray := method_4_code
def yL_raise : MethodName := ⟨RL, "raise", "(LVoxelmint;III[J)I"⟩
abbrev cL_layer : ByteArray := method_5_code
def yL_layer : MethodName := ⟨RL, "layer", "(LVoxelmint;II[J)I"⟩
abbrev cL_kind : ByteArray := method_6_code
def yL_kind : MethodName := ⟨RL, "kind", "(LVoxelmint;II[J)I"⟩
abbrev cL_runs : ByteArray := method_7_code
def yL_runs : MethodName := ⟨RL, "runs", "(LVoxelmint;I[J)I"⟩
abbrev cL_runLength : ByteArray := method_8_code
def yL_runLength : MethodName := ⟨RL, "runLength", "(LVoxelmint;II[J)I"⟩
abbrev cL_height : ByteArray := method_9_code
def yL_height : MethodName := ⟨RL, "height", "(LVoxelmint;I[J)I"⟩
abbrev cL_visit : ByteArray := method_10_code
def yL_visit : MethodName := ⟨RL, "visit", "(LVoxelmint;I[J)I"⟩
abbrev cL_undo : ByteArray := method_11_code
def yL_undo : MethodName := ⟨RL, "undo", "(LVoxelmint;[J)I"⟩
abbrev cL_redo : ByteArray := method_12_code
def yL_redo : MethodName := ⟨RL, "redo", "(LVoxelmint;I[J)I"⟩
abbrev cL_unlike : ByteArray := method_13_code
def yL_unlike : MethodName := ⟨RL, "unlike", "(LVoxelmint;II[J)I"⟩
abbrev cL_cut : ByteArray := method_14_code
def yL_cut : MethodName := ⟨RL, "cut", "(LVoxelmint;[J)I"⟩
abbrev cL_strike : ByteArray := method_15_code
def yL_strike : MethodName := ⟨RL, "strike", "(LVoxelmint;I[J)I"⟩
abbrev cL_forge : ByteArray := method_16_code
def yL_forge : MethodName := ⟨RL, "forge", "(LVoxelmint;III[J)I"⟩
abbrev cL_dieHeight : ByteArray := method_17_code
def yL_dieHeight : MethodName := ⟨RL, "dieHeight", "(LVoxelmint;II[J)I"⟩
abbrev cL_coinHeight : ByteArray := method_18_code
def yL_coinHeight : MethodName := ⟨RL, "coinHeight", "(LVoxelmint;II[J)I"⟩
abbrev cL_grade : ByteArray := method_19_code
def yL_grade : MethodName := ⟨RL, "grade", "(LVoxelmint;I[J)I"⟩
abbrev cL_isForged : ByteArray := method_20_code
def yL_isForged : MethodName := ⟨RL, "isForged", "(LVoxelmint;I[J)I"⟩
abbrev cL_distance : ByteArray := method_21_code
def yL_distance : MethodName := ⟨RL, "distance", "(LVoxelmint;II[J)I"⟩
abbrev cL_law : ByteArray := code
def yL_law : MethodName := ⟨RL, "law", "([I)Z"⟩
abbrev vwCl : List vw_C := [(RJx4a65c, TJx4a65c, 3), (RX0, TX0, 3), (RX1, TX1, 3), (RX2, TX2, 3), (RX3, TX3, 3), (RX4, TX4, 5), (RX5, TX5, 15)]
end
section
theorem dX0_init_0 : decode cX0_init 0 = .ok (.aload_n 0, 1) := by decide +kernel
theorem dX0_init_1 : decode cX0_init 1 = .ok (.invokespecial 1, 3) := by decide +kernel
theorem dX0_init_4 : decode cX0_init 4 = .ok (.aload_n 0, 1) := by decide +kernel
theorem dX0_init_5 : decode cX0_init 5 = .ok (.aload_n 1, 1) := by decide +kernel
theorem dX0_init_6 : decode cX0_init 6 = .ok (.putfield 7, 3) := by decide +kernel
theorem dX0_init_9 : decode cX0_init 9 = .ok (.aload_n 0, 1) := by decide +kernel
theorem dX0_init_10 : decode cX0_init 10 = .ok (.aload_n 2, 1) := by decide +kernel
theorem dX0_init_11 : decode cX0_init 11 = .ok (.putfield 13, 3) := by decide +kernel
theorem dX0_init_14 : decode cX0_init 14 = .ok (.aload_n 0, 1) := by decide +kernel
theorem dX0_init_15 : decode cX0_init 15 = .ok (.aload_n 3, 1) := by decide +kernel
theorem dX0_init_16 : decode cX0_init 16 = .ok (.putfield 17, 3) := by decide +kernel
theorem dX0_init_19 : decode cX0_init 19 = .ok (.return_, 1) := by decide +kernel
theorem dX1_init_0 : decode cX1_init 0 = .ok (.aload_n 0, 1) := by decide +kernel
theorem dX1_init_1 : decode cX1_init 1 = .ok (.invokespecial 3, 3) := by decide +kernel
theorem dX1_init_4 : decode cX1_init 4 = .ok (.aload_n 0, 1) := by decide +kernel
theorem dX1_init_5 : decode cX1_init 5 = .ok (.aload_n 1, 1) := by decide +kernel
theorem dX1_init_6 : decode cX1_init 6 = .ok (.putfield 9, 3) := by decide +kernel
theorem dX1_init_9 : decode cX1_init 9 = .ok (.aload_n 0, 1) := by decide +kernel
theorem dX1_init_10 : decode cX1_init 10 = .ok (.aload_n 1, 1) := by decide +kernel
theorem dX1_init_11 : decode cX1_init 11 = .ok (.invokevirtual 15, 3) := by decide +kernel
theorem dX1_init_14 : decode cX1_init 14 = .ok (.checkcast 16, 3) := by decide +kernel
theorem dX1_init_17 : decode cX1_init 17 = .ok (.putfield 20, 3) := by decide +kernel
theorem dX1_init_20 : decode cX1_init 20 = .ok (.aload_n 0, 1) := by decide +kernel
theorem dX1_init_21 : decode cX1_init 21 = .ok (.new 23, 3) := by decide +kernel
theorem dX1_init_24 : decode cX1_init 24 = .ok (.dup, 1) := by decide +kernel
theorem dX1_init_25 : decode cX1_init 25 = .ok (.invokespecial 25, 3) := by decide +kernel
theorem dX1_init_28 : decode cX1_init 28 = .ok (.putfield 26, 3) := by decide +kernel
theorem dX1_init_31 : decode cX1_init 31 = .ok (.return_, 1) := by decide +kernel
theorem dX1_makeCoin_0 : decode cX1_makeCoin 0 = .ok (.aload_n 0, 1) := by decide +kernel
theorem dX1_makeCoin_1 : decode cX1_makeCoin 1 = .ok (.getfield 20, 3) := by decide +kernel
theorem dX1_makeCoin_4 : decode cX1_makeCoin 4 = .ok (.invokevirtual 15, 3) := by decide +kernel
theorem dX1_makeCoin_7 : decode cX1_makeCoin 7 = .ok (.checkcast 16, 3) := by decide +kernel
theorem dX1_makeCoin_10 : decode cX1_makeCoin 10 = .ok (.astore_n 1, 1) := by decide +kernel
theorem dX1_makeCoin_11 : decode cX1_makeCoin 11 = .ok (.new 30, 3) := by decide +kernel
theorem dX1_makeCoin_14 : decode cX1_makeCoin 14 = .ok (.dup, 1) := by decide +kernel
theorem dX1_makeCoin_15 : decode cX1_makeCoin 15 = .ok (.aload_n 0, 1) := by decide +kernel
theorem dX1_makeCoin_16 : decode cX1_makeCoin 16 = .ok (.aload_n 1, 1) := by decide +kernel
theorem dX1_makeCoin_17 : decode cX1_makeCoin 17 = .ok (.aload_n 1, 1) := by decide +kernel
theorem dX1_makeCoin_18 : decode cX1_makeCoin 18 = .ok (.invokespecial 32, 3) := by decide +kernel
theorem dX1_makeCoin_21 : decode cX1_makeCoin 21 = .ok (.astore_n 2, 1) := by decide +kernel
theorem dX1_makeCoin_22 : decode cX1_makeCoin 22 = .ok (.aload_n 0, 1) := by decide +kernel
theorem dX1_makeCoin_23 : decode cX1_makeCoin 23 = .ok (.getfield 26, 3) := by decide +kernel
theorem dX1_makeCoin_26 : decode cX1_makeCoin 26 = .ok (.aload_n 2, 1) := by decide +kernel
theorem dX1_makeCoin_27 : decode cX1_makeCoin 27 = .ok (.invokevirtual 35, 3) := by decide +kernel
theorem dX1_makeCoin_30 : decode cX1_makeCoin 30 = .ok (.pop, 1) := by decide +kernel
theorem dX1_makeCoin_31 : decode cX1_makeCoin 31 = .ok (.aload_n 0, 1) := by decide +kernel
theorem dX1_makeCoin_32 : decode cX1_makeCoin 32 = .ok (.getfield 26, 3) := by decide +kernel
theorem dX1_makeCoin_35 : decode cX1_makeCoin 35 = .ok (.invokevirtual 39, 3) := by decide +kernel
theorem dX1_makeCoin_38 : decode cX1_makeCoin 38 = .ok (.iconst 2, 1) := by decide +kernel
theorem dX1_makeCoin_39 : decode cX1_makeCoin 39 = .ok (.irem, 1) := by decide +kernel
theorem dX1_makeCoin_40 : decode cX1_makeCoin 40 = .ok (.ifCond .ne 7, 3) := by decide +kernel
theorem dX1_makeCoin_43 : decode cX1_makeCoin 43 = .ok (.aload_n 0, 1) := by decide +kernel
theorem dX1_makeCoin_44 : decode cX1_makeCoin 44 = .ok (.invokevirtual 43, 3) := by decide +kernel
theorem dX1_makeCoin_47 : decode cX1_makeCoin 47 = .ok (.aload_n 2, 1) := by decide +kernel
theorem dX1_makeCoin_48 : decode cX1_makeCoin 48 = .ok (.areturn, 1) := by decide +kernel
theorem dX1_wear_0 : decode cX1_wear 0 = .ok (.iconst 0, 1) := by decide +kernel
theorem dX1_wear_1 : decode cX1_wear 1 = .ok (.istore_n 1, 1) := by decide +kernel
theorem dX1_wear_2 : decode cX1_wear 2 = .ok (.iconst 1, 1) := by decide +kernel
theorem dX1_wear_3 : decode cX1_wear 3 = .ok (.istore_n 2, 1) := by decide +kernel
theorem dX1_wear_4 : decode cX1_wear 4 = .ok (.iload_n 2, 1) := by decide +kernel
theorem dX1_wear_5 : decode cX1_wear 5 = .ok (.bipush 16, 2) := by decide +kernel
theorem dX1_wear_7 : decode cX1_wear 7 = .ok (.if_icmp .ge 26, 3) := by decide +kernel
theorem dX1_wear_10 : decode cX1_wear 10 = .ok (.aload_n 0, 1) := by decide +kernel
theorem dX1_wear_11 : decode cX1_wear 11 = .ok (.getfield 20, 3) := by decide +kernel
theorem dX1_wear_14 : decode cX1_wear 14 = .ok (.iload_n 2, 1) := by decide +kernel
theorem dX1_wear_15 : decode cX1_wear 15 = .ok (.iaload, 1) := by decide +kernel
theorem dX1_wear_16 : decode cX1_wear 16 = .ok (.aload_n 0, 1) := by decide +kernel
theorem dX1_wear_17 : decode cX1_wear 17 = .ok (.getfield 20, 3) := by decide +kernel
theorem dX1_wear_20 : decode cX1_wear 20 = .ok (.iload_n 1, 1) := by decide +kernel
theorem dX1_wear_21 : decode cX1_wear 21 = .ok (.iaload, 1) := by decide +kernel
theorem dX1_wear_22 : decode cX1_wear 22 = .ok (.if_icmp .le 5, 3) := by decide +kernel
theorem dX1_wear_25 : decode cX1_wear 25 = .ok (.iload_n 2, 1) := by decide +kernel
theorem dX1_wear_26 : decode cX1_wear 26 = .ok (.istore_n 1, 1) := by decide +kernel
theorem dX1_wear_27 : decode cX1_wear 27 = .ok (.iinc 2 1, 3) := by decide +kernel
theorem dX1_wear_30 : decode cX1_wear 30 = .ok (.goto (-26), 3) := by decide +kernel
theorem dX1_wear_33 : decode cX1_wear 33 = .ok (.aload_n 0, 1) := by decide +kernel
theorem dX1_wear_34 : decode cX1_wear 34 = .ok (.getfield 20, 3) := by decide +kernel
theorem dX1_wear_37 : decode cX1_wear 37 = .ok (.iload_n 1, 1) := by decide +kernel
theorem dX1_wear_38 : decode cX1_wear 38 = .ok (.iaload, 1) := by decide +kernel
theorem dX1_wear_39 : decode cX1_wear 39 = .ok (.ifCond .le 13, 3) := by decide +kernel
theorem dX1_wear_42 : decode cX1_wear 42 = .ok (.aload_n 0, 1) := by decide +kernel
theorem dX1_wear_43 : decode cX1_wear 43 = .ok (.getfield 20, 3) := by decide +kernel
theorem dX1_wear_46 : decode cX1_wear 46 = .ok (.iload_n 1, 1) := by decide +kernel
theorem dX1_wear_47 : decode cX1_wear 47 = .ok (.dup2, 1) := by decide +kernel
theorem dX1_wear_48 : decode cX1_wear 48 = .ok (.iaload, 1) := by decide +kernel
theorem dX1_wear_49 : decode cX1_wear 49 = .ok (.iconst 1, 1) := by decide +kernel
theorem dX1_wear_50 : decode cX1_wear 50 = .ok (.isub, 1) := by decide +kernel
theorem dX1_wear_51 : decode cX1_wear 51 = .ok (.iastore, 1) := by decide +kernel
theorem dX1_wear_52 : decode cX1_wear 52 = .ok (.return_, 1) := by decide +kernel
theorem dX2_init_0 : decode cX2_init 0 = .ok (.aload_n 0, 1) := by decide +kernel
theorem dX2_init_1 : decode cX2_init 1 = .ok (.invokespecial 3, 3) := by decide +kernel
theorem dX2_init_4 : decode cX2_init 4 = .ok (.aload_n 0, 1) := by decide +kernel
theorem dX2_init_5 : decode cX2_init 5 = .ok (.sipush 128, 3) := by decide +kernel
theorem dX2_init_8 : decode cX2_init 8 = .ok (.newarray .int, 2) := by decide +kernel
theorem dX2_init_10 : decode cX2_init 10 = .ok (.putfield 9, 3) := by decide +kernel
theorem dX2_init_13 : decode cX2_init 13 = .ok (.aload_n 0, 1) := by decide +kernel
theorem dX2_init_14 : decode cX2_init 14 = .ok (.sipush 128, 3) := by decide +kernel
theorem dX2_init_17 : decode cX2_init 17 = .ok (.newarray .int, 2) := by decide +kernel
theorem dX2_init_19 : decode cX2_init 19 = .ok (.putfield 15, 3) := by decide +kernel
theorem dX2_init_22 : decode cX2_init 22 = .ok (.return_, 1) := by decide +kernel
theorem dX2_countPieces_0 : decode cX2_countPieces 0 = .ok (.aload_n 0, 1) := by decide +kernel
theorem dX2_countPieces_1 : decode cX2_countPieces 1 = .ok (.getfield 9, 3) := by decide +kernel
theorem dX2_countPieces_4 : decode cX2_countPieces 4 = .ok (.iconst 0, 1) := by decide +kernel
theorem dX2_countPieces_5 : decode cX2_countPieces 5 = .ok (.invokestatic 18, 3) := by decide +kernel
theorem dX2_countPieces_8 : decode cX2_countPieces 8 = .ok (.aload_n 0, 1) := by decide +kernel
theorem dX2_countPieces_9 : decode cX2_countPieces 9 = .ok (.iconst 0, 1) := by decide +kernel
theorem dX2_countPieces_10 : decode cX2_countPieces 10 = .ok (.putfield 24, 3) := by decide +kernel
theorem dX2_countPieces_13 : decode cX2_countPieces 13 = .ok (.iconst 0, 1) := by decide +kernel
theorem dX2_countPieces_14 : decode cX2_countPieces 14 = .ok (.istore_n 2, 1) := by decide +kernel
theorem dX2_countPieces_15 : decode cX2_countPieces 15 = .ok (.iconst 0, 1) := by decide +kernel
theorem dX2_countPieces_16 : decode cX2_countPieces 16 = .ok (.istore_n 3, 1) := by decide +kernel
theorem dX2_countPieces_17 : decode cX2_countPieces 17 = .ok (.iload_n 3, 1) := by decide +kernel
theorem dX2_countPieces_18 : decode cX2_countPieces 18 = .ok (.bipush 16, 2) := by decide +kernel
theorem dX2_countPieces_20 : decode cX2_countPieces 20 = .ok (.if_icmp .ge 58, 3) := by decide +kernel
theorem dX2_countPieces_23 : decode cX2_countPieces 23 = .ok (.iconst 0, 1) := by decide +kernel
theorem dX2_countPieces_24 : decode cX2_countPieces 24 = .ok (.istore 4, 2) := by decide +kernel
theorem dX2_countPieces_26 : decode cX2_countPieces 26 = .ok (.iload 4, 2) := by decide +kernel
theorem dX2_countPieces_28 : decode cX2_countPieces 28 = .ok (.bipush 8, 2) := by decide +kernel
theorem dX2_countPieces_30 : decode cX2_countPieces 30 = .ok (.if_icmp .ge 42, 3) := by decide +kernel
theorem dX2_countPieces_33 : decode cX2_countPieces 33 = .ok (.aload_n 0, 1) := by decide +kernel
theorem dX2_countPieces_34 : decode cX2_countPieces 34 = .ok (.getfield 24, 3) := by decide +kernel
theorem dX2_countPieces_37 : decode cX2_countPieces 37 = .ok (.istore 5, 2) := by decide +kernel
theorem dX2_countPieces_39 : decode cX2_countPieces 39 = .ok (.aload_n 0, 1) := by decide +kernel
theorem dX2_countPieces_40 : decode cX2_countPieces 40 = .ok (.aload_n 1, 1) := by decide +kernel
theorem dX2_countPieces_41 : decode cX2_countPieces 41 = .ok (.iload_n 3, 1) := by decide +kernel
theorem dX2_countPieces_42 : decode cX2_countPieces 42 = .ok (.iload 4, 2) := by decide +kernel
theorem dX2_countPieces_44 : decode cX2_countPieces 44 = .ok (.invokevirtual 28, 3) := by decide +kernel
theorem dX2_countPieces_47 : decode cX2_countPieces 47 = .ok (.aload_n 0, 1) := by decide +kernel
theorem dX2_countPieces_48 : decode cX2_countPieces 48 = .ok (.getfield 24, 3) := by decide +kernel
theorem dX2_countPieces_51 : decode cX2_countPieces 51 = .ok (.iload 5, 2) := by decide +kernel
theorem dX2_countPieces_53 : decode cX2_countPieces 53 = .ok (.if_icmp .le 13, 3) := by decide +kernel
theorem dX2_countPieces_56 : decode cX2_countPieces 56 = .ok (.iinc 2 1, 3) := by decide +kernel
theorem dX2_countPieces_59 : decode cX2_countPieces 59 = .ok (.aload_n 0, 1) := by decide +kernel
theorem dX2_countPieces_60 : decode cX2_countPieces 60 = .ok (.aload_n 1, 1) := by decide +kernel
theorem dX2_countPieces_61 : decode cX2_countPieces 61 = .ok (.iload 5, 2) := by decide +kernel
theorem dX2_countPieces_63 : decode cX2_countPieces 63 = .ok (.invokevirtual 32, 3) := by decide +kernel
theorem dX2_countPieces_66 : decode cX2_countPieces 66 = .ok (.iinc 4 1, 3) := by decide +kernel
theorem dX2_countPieces_69 : decode cX2_countPieces 69 = .ok (.goto (-43), 3) := by decide +kernel
theorem dX2_countPieces_72 : decode cX2_countPieces 72 = .ok (.iinc 3 1, 3) := by decide +kernel
theorem dX2_countPieces_75 : decode cX2_countPieces 75 = .ok (.goto (-58), 3) := by decide +kernel
theorem dX2_countPieces_78 : decode cX2_countPieces 78 = .ok (.iload_n 2, 1) := by decide +kernel
theorem dX2_countPieces_79 : decode cX2_countPieces 79 = .ok (.ireturn, 1) := by decide +kernel
theorem dX2_reachRestOfPiece_0 : decode cX2_reachRestOfPiece 0 = .ok (.iload_n 2, 1) := by decide +kernel
theorem dX2_reachRestOfPiece_1 : decode cX2_reachRestOfPiece 1 = .ok (.istore_n 3, 1) := by decide +kernel
theorem dX2_reachRestOfPiece_2 : decode cX2_reachRestOfPiece 2 = .ok (.iload_n 3, 1) := by decide +kernel
theorem dX2_reachRestOfPiece_3 : decode cX2_reachRestOfPiece 3 = .ok (.aload_n 0, 1) := by decide +kernel
theorem dX2_reachRestOfPiece_4 : decode cX2_reachRestOfPiece 4 = .ok (.getfield 24, 3) := by decide +kernel
theorem dX2_reachRestOfPiece_7 : decode cX2_reachRestOfPiece 7 = .ok (.if_icmp .ge 39, 3) := by decide +kernel
theorem dX2_reachRestOfPiece_10 : decode cX2_reachRestOfPiece 10 = .ok (.iload_n 3, 1) := by decide +kernel
theorem dX2_reachRestOfPiece_11 : decode cX2_reachRestOfPiece 11 = .ok (.sipush 128, 3) := by decide +kernel
theorem dX2_reachRestOfPiece_14 : decode cX2_reachRestOfPiece 14 = .ok (.if_icmp .ge 32, 3) := by decide +kernel
theorem dX2_reachRestOfPiece_17 : decode cX2_reachRestOfPiece 17 = .ok (.aload_n 0, 1) := by decide +kernel
theorem dX2_reachRestOfPiece_18 : decode cX2_reachRestOfPiece 18 = .ok (.aload_n 1, 1) := by decide +kernel
theorem dX2_reachRestOfPiece_19 : decode cX2_reachRestOfPiece 19 = .ok (.aload_n 0, 1) := by decide +kernel
theorem dX2_reachRestOfPiece_20 : decode cX2_reachRestOfPiece 20 = .ok (.getfield 15, 3) := by decide +kernel
theorem dX2_reachRestOfPiece_23 : decode cX2_reachRestOfPiece 23 = .ok (.iload_n 3, 1) := by decide +kernel
theorem dX2_reachRestOfPiece_24 : decode cX2_reachRestOfPiece 24 = .ok (.iaload, 1) := by decide +kernel
theorem dX2_reachRestOfPiece_25 : decode cX2_reachRestOfPiece 25 = .ok (.bipush 8, 2) := by decide +kernel
theorem dX2_reachRestOfPiece_27 : decode cX2_reachRestOfPiece 27 = .ok (.idiv, 1) := by decide +kernel
theorem dX2_reachRestOfPiece_28 : decode cX2_reachRestOfPiece 28 = .ok (.aload_n 0, 1) := by decide +kernel
theorem dX2_reachRestOfPiece_29 : decode cX2_reachRestOfPiece 29 = .ok (.getfield 15, 3) := by decide +kernel
theorem dX2_reachRestOfPiece_32 : decode cX2_reachRestOfPiece 32 = .ok (.iload_n 3, 1) := by decide +kernel
theorem dX2_reachRestOfPiece_33 : decode cX2_reachRestOfPiece 33 = .ok (.iaload, 1) := by decide +kernel
theorem dX2_reachRestOfPiece_34 : decode cX2_reachRestOfPiece 34 = .ok (.bipush 8, 2) := by decide +kernel
theorem dX2_reachRestOfPiece_36 : decode cX2_reachRestOfPiece 36 = .ok (.irem, 1) := by decide +kernel
theorem dX2_reachRestOfPiece_37 : decode cX2_reachRestOfPiece 37 = .ok (.invokevirtual 36, 3) := by decide +kernel
theorem dX2_reachRestOfPiece_40 : decode cX2_reachRestOfPiece 40 = .ok (.iinc 3 1, 3) := by decide +kernel
theorem dX2_reachRestOfPiece_43 : decode cX2_reachRestOfPiece 43 = .ok (.goto (-41), 3) := by decide +kernel
theorem dX2_reachRestOfPiece_46 : decode cX2_reachRestOfPiece 46 = .ok (.return_, 1) := by decide +kernel
theorem dX2_reachTouching_0 : decode cX2_reachTouching 0 = .ok (.aload_n 0, 1) := by decide +kernel
theorem dX2_reachTouching_1 : decode cX2_reachTouching 1 = .ok (.aload_n 1, 1) := by decide +kernel
theorem dX2_reachTouching_2 : decode cX2_reachTouching 2 = .ok (.iload_n 2, 1) := by decide +kernel
theorem dX2_reachTouching_3 : decode cX2_reachTouching 3 = .ok (.iload_n 3, 1) := by decide +kernel
theorem dX2_reachTouching_4 : decode cX2_reachTouching 4 = .ok (.iconst 1, 1) := by decide +kernel
theorem dX2_reachTouching_5 : decode cX2_reachTouching 5 = .ok (.isub, 1) := by decide +kernel
theorem dX2_reachTouching_6 : decode cX2_reachTouching 6 = .ok (.invokevirtual 28, 3) := by decide +kernel
theorem dX2_reachTouching_9 : decode cX2_reachTouching 9 = .ok (.aload_n 0, 1) := by decide +kernel
theorem dX2_reachTouching_10 : decode cX2_reachTouching 10 = .ok (.aload_n 1, 1) := by decide +kernel
theorem dX2_reachTouching_11 : decode cX2_reachTouching 11 = .ok (.iload_n 2, 1) := by decide +kernel
theorem dX2_reachTouching_12 : decode cX2_reachTouching 12 = .ok (.iload_n 3, 1) := by decide +kernel
theorem dX2_reachTouching_13 : decode cX2_reachTouching 13 = .ok (.iconst 1, 1) := by decide +kernel
theorem dX2_reachTouching_14 : decode cX2_reachTouching 14 = .ok (.iadd, 1) := by decide +kernel
theorem dX2_reachTouching_15 : decode cX2_reachTouching 15 = .ok (.invokevirtual 28, 3) := by decide +kernel
theorem dX2_reachTouching_18 : decode cX2_reachTouching 18 = .ok (.aload_n 0, 1) := by decide +kernel
theorem dX2_reachTouching_19 : decode cX2_reachTouching 19 = .ok (.aload_n 1, 1) := by decide +kernel
theorem dX2_reachTouching_20 : decode cX2_reachTouching 20 = .ok (.iload_n 2, 1) := by decide +kernel
theorem dX2_reachTouching_21 : decode cX2_reachTouching 21 = .ok (.iconst 4, 1) := by decide +kernel
theorem dX2_reachTouching_22 : decode cX2_reachTouching 22 = .ok (.isub, 1) := by decide +kernel
theorem dX2_reachTouching_23 : decode cX2_reachTouching 23 = .ok (.iload_n 3, 1) := by decide +kernel
theorem dX2_reachTouching_24 : decode cX2_reachTouching 24 = .ok (.invokevirtual 28, 3) := by decide +kernel
theorem dX2_reachTouching_27 : decode cX2_reachTouching 27 = .ok (.aload_n 0, 1) := by decide +kernel
theorem dX2_reachTouching_28 : decode cX2_reachTouching 28 = .ok (.aload_n 1, 1) := by decide +kernel
theorem dX2_reachTouching_29 : decode cX2_reachTouching 29 = .ok (.iload_n 2, 1) := by decide +kernel
theorem dX2_reachTouching_30 : decode cX2_reachTouching 30 = .ok (.iconst 4, 1) := by decide +kernel
theorem dX2_reachTouching_31 : decode cX2_reachTouching 31 = .ok (.iadd, 1) := by decide +kernel
theorem dX2_reachTouching_32 : decode cX2_reachTouching 32 = .ok (.iload_n 3, 1) := by decide +kernel
theorem dX2_reachTouching_33 : decode cX2_reachTouching 33 = .ok (.invokevirtual 28, 3) := by decide +kernel
theorem dX2_reachTouching_36 : decode cX2_reachTouching 36 = .ok (.iload_n 2, 1) := by decide +kernel
theorem dX2_reachTouching_37 : decode cX2_reachTouching 37 = .ok (.iconst 4, 1) := by decide +kernel
theorem dX2_reachTouching_38 : decode cX2_reachTouching 38 = .ok (.irem, 1) := by decide +kernel
theorem dX2_reachTouching_39 : decode cX2_reachTouching 39 = .ok (.ifCond .le 12, 3) := by decide +kernel
theorem dX2_reachTouching_42 : decode cX2_reachTouching 42 = .ok (.aload_n 0, 1) := by decide +kernel
theorem dX2_reachTouching_43 : decode cX2_reachTouching 43 = .ok (.aload_n 1, 1) := by decide +kernel
theorem dX2_reachTouching_44 : decode cX2_reachTouching 44 = .ok (.iload_n 2, 1) := by decide +kernel
theorem dX2_reachTouching_45 : decode cX2_reachTouching 45 = .ok (.iconst 1, 1) := by decide +kernel
theorem dX2_reachTouching_46 : decode cX2_reachTouching 46 = .ok (.isub, 1) := by decide +kernel
theorem dX2_reachTouching_47 : decode cX2_reachTouching 47 = .ok (.iload_n 3, 1) := by decide +kernel
theorem dX2_reachTouching_48 : decode cX2_reachTouching 48 = .ok (.invokevirtual 28, 3) := by decide +kernel
theorem dX2_reachTouching_51 : decode cX2_reachTouching 51 = .ok (.iload_n 2, 1) := by decide +kernel
theorem dX2_reachTouching_52 : decode cX2_reachTouching 52 = .ok (.iconst 4, 1) := by decide +kernel
theorem dX2_reachTouching_53 : decode cX2_reachTouching 53 = .ok (.irem, 1) := by decide +kernel
theorem dX2_reachTouching_54 : decode cX2_reachTouching 54 = .ok (.iconst 3, 1) := by decide +kernel
theorem dX2_reachTouching_55 : decode cX2_reachTouching 55 = .ok (.if_icmp .ge 12, 3) := by decide +kernel
theorem dX2_reachTouching_58 : decode cX2_reachTouching 58 = .ok (.aload_n 0, 1) := by decide +kernel
theorem dX2_reachTouching_59 : decode cX2_reachTouching 59 = .ok (.aload_n 1, 1) := by decide +kernel
theorem dX2_reachTouching_60 : decode cX2_reachTouching 60 = .ok (.iload_n 2, 1) := by decide +kernel
theorem dX2_reachTouching_61 : decode cX2_reachTouching 61 = .ok (.iconst 1, 1) := by decide +kernel
theorem dX2_reachTouching_62 : decode cX2_reachTouching 62 = .ok (.iadd, 1) := by decide +kernel
theorem dX2_reachTouching_63 : decode cX2_reachTouching 63 = .ok (.iload_n 3, 1) := by decide +kernel
theorem dX2_reachTouching_64 : decode cX2_reachTouching 64 = .ok (.invokevirtual 28, 3) := by decide +kernel
theorem dX2_reachTouching_67 : decode cX2_reachTouching 67 = .ok (.return_, 1) := by decide +kernel
theorem dX2_reach_0 : decode cX2_reach 0 = .ok (.iload_n 2, 1) := by decide +kernel
theorem dX2_reach_1 : decode cX2_reach 1 = .ok (.invokestatic 39, 3) := by decide +kernel
theorem dX2_reach_4 : decode cX2_reach 4 = .ok (.ifCond .eq 19, 3) := by decide +kernel
theorem dX2_reach_7 : decode cX2_reach 7 = .ok (.iload_n 3, 1) := by decide +kernel
theorem dX2_reach_8 : decode cX2_reach 8 = .ok (.invokestatic 43, 3) := by decide +kernel
theorem dX2_reach_11 : decode cX2_reach 11 = .ok (.ifCond .eq 12, 3) := by decide +kernel
theorem dX2_reach_14 : decode cX2_reach 14 = .ok (.aload_n 1, 1) := by decide +kernel
theorem dX2_reach_15 : decode cX2_reach 15 = .ok (.iload_n 2, 1) := by decide +kernel
theorem dX2_reach_16 : decode cX2_reach 16 = .ok (.iload_n 3, 1) := by decide +kernel
theorem dX2_reach_17 : decode cX2_reach 17 = .ok (.invokevirtual 46, 3) := by decide +kernel
theorem dX2_reach_20 : decode cX2_reach 20 = .ok (.ifCond .ne 4, 3) := by decide +kernel
theorem dX2_reach_23 : decode cX2_reach 23 = .ok (.return_, 1) := by decide +kernel
theorem dX2_reach_24 : decode cX2_reach 24 = .ok (.iload_n 2, 1) := by decide +kernel
theorem dX2_reach_25 : decode cX2_reach 25 = .ok (.bipush 8, 2) := by decide +kernel
theorem dX2_reach_27 : decode cX2_reach 27 = .ok (.imul, 1) := by decide +kernel
theorem dX2_reach_28 : decode cX2_reach 28 = .ok (.iload_n 3, 1) := by decide +kernel
theorem dX2_reach_29 : decode cX2_reach 29 = .ok (.iadd, 1) := by decide +kernel
theorem dX2_reach_30 : decode cX2_reach 30 = .ok (.istore 4, 2) := by decide +kernel
theorem dX2_reach_32 : decode cX2_reach 32 = .ok (.aload_n 0, 1) := by decide +kernel
theorem dX2_reach_33 : decode cX2_reach 33 = .ok (.getfield 9, 3) := by decide +kernel
theorem dX2_reach_36 : decode cX2_reach 36 = .ok (.iload 4, 2) := by decide +kernel
theorem dX2_reach_38 : decode cX2_reach 38 = .ok (.iaload, 1) := by decide +kernel
theorem dX2_reach_39 : decode cX2_reach 39 = .ok (.ifCond .ne 42, 3) := by decide +kernel
theorem dX2_reach_42 : decode cX2_reach 42 = .ok (.aload_n 0, 1) := by decide +kernel
theorem dX2_reach_43 : decode cX2_reach 43 = .ok (.getfield 24, 3) := by decide +kernel
theorem dX2_reach_46 : decode cX2_reach 46 = .ok (.sipush 128, 3) := by decide +kernel
theorem dX2_reach_49 : decode cX2_reach 49 = .ok (.if_icmp .ge 32, 3) := by decide +kernel
theorem dX2_reach_52 : decode cX2_reach 52 = .ok (.aload_n 0, 1) := by decide +kernel
theorem dX2_reach_53 : decode cX2_reach 53 = .ok (.getfield 9, 3) := by decide +kernel
theorem dX2_reach_56 : decode cX2_reach 56 = .ok (.iload 4, 2) := by decide +kernel
theorem dX2_reach_58 : decode cX2_reach 58 = .ok (.iconst 1, 1) := by decide +kernel
theorem dX2_reach_59 : decode cX2_reach 59 = .ok (.iastore, 1) := by decide +kernel
theorem dX2_reach_60 : decode cX2_reach 60 = .ok (.aload_n 0, 1) := by decide +kernel
theorem dX2_reach_61 : decode cX2_reach 61 = .ok (.getfield 15, 3) := by decide +kernel
theorem dX2_reach_64 : decode cX2_reach 64 = .ok (.aload_n 0, 1) := by decide +kernel
theorem dX2_reach_65 : decode cX2_reach 65 = .ok (.getfield 24, 3) := by decide +kernel
theorem dX2_reach_68 : decode cX2_reach 68 = .ok (.iload 4, 2) := by decide +kernel
theorem dX2_reach_70 : decode cX2_reach 70 = .ok (.iastore, 1) := by decide +kernel
theorem dX2_reach_71 : decode cX2_reach 71 = .ok (.aload_n 0, 1) := by decide +kernel
theorem dX2_reach_72 : decode cX2_reach 72 = .ok (.dup, 1) := by decide +kernel
theorem dX2_reach_73 : decode cX2_reach 73 = .ok (.getfield 24, 3) := by decide +kernel
theorem dX2_reach_76 : decode cX2_reach 76 = .ok (.iconst 1, 1) := by decide +kernel
theorem dX2_reach_77 : decode cX2_reach 77 = .ok (.iadd, 1) := by decide +kernel
theorem dX2_reach_78 : decode cX2_reach 78 = .ok (.putfield 24, 3) := by decide +kernel
theorem dX2_reach_81 : decode cX2_reach 81 = .ok (.return_, 1) := by decide +kernel
theorem dX3_init_0 : decode cX3_init 0 = .ok (.aload_n 0, 1) := by decide +kernel
theorem dX3_init_1 : decode cX3_init 1 = .ok (.invokespecial 3, 3) := by decide +kernel
theorem dX3_init_4 : decode cX3_init 4 = .ok (.aload_n 0, 1) := by decide +kernel
theorem dX3_init_5 : decode cX3_init 5 = .ok (.iload_n 1, 1) := by decide +kernel
theorem dX3_init_6 : decode cX3_init 6 = .ok (.putfield 9, 3) := by decide +kernel
theorem dX3_init_9 : decode cX3_init 9 = .ok (.aload_n 0, 1) := by decide +kernel
theorem dX3_init_10 : decode cX3_init 10 = .ok (.aload_n 2, 1) := by decide +kernel
theorem dX3_init_11 : decode cX3_init 11 = .ok (.putfield 15, 3) := by decide +kernel
theorem dX3_init_14 : decode cX3_init 14 = .ok (.aload_n 0, 1) := by decide +kernel
theorem dX3_init_15 : decode cX3_init 15 = .ok (.aload_n 3, 1) := by decide +kernel
theorem dX3_init_16 : decode cX3_init 16 = .ok (.putfield 19, 3) := by decide +kernel
theorem dX3_init_19 : decode cX3_init 19 = .ok (.return_, 1) := by decide +kernel
theorem dX3_kindAt_0 : decode cX3_kindAt 0 = .ok (.iload_n 1, 1) := by decide +kernel
theorem dX3_kindAt_1 : decode cX3_kindAt 1 = .ok (.invokestatic 23, 3) := by decide +kernel
theorem dX3_kindAt_4 : decode cX3_kindAt 4 = .ok (.ifCond .eq 10, 3) := by decide +kernel
theorem dX3_kindAt_7 : decode cX3_kindAt 7 = .ok (.iload_n 2, 1) := by decide +kernel
theorem dX3_kindAt_8 : decode cX3_kindAt 8 = .ok (.invokestatic 27, 3) := by decide +kernel
theorem dX3_kindAt_11 : decode cX3_kindAt 11 = .ok (.ifCond .ne 5, 3) := by decide +kernel
theorem dX3_kindAt_14 : decode cX3_kindAt 14 = .ok (.iconst 0, 1) := by decide +kernel
theorem dX3_kindAt_15 : decode cX3_kindAt 15 = .ok (.ireturn, 1) := by decide +kernel
theorem dX3_kindAt_16 : decode cX3_kindAt 16 = .ok (.aload_n 0, 1) := by decide +kernel
theorem dX3_kindAt_17 : decode cX3_kindAt 17 = .ok (.getfield 19, 3) := by decide +kernel
theorem dX3_kindAt_20 : decode cX3_kindAt 20 = .ok (.iload_n 1, 1) := by decide +kernel
theorem dX3_kindAt_21 : decode cX3_kindAt 21 = .ok (.bipush 8, 2) := by decide +kernel
theorem dX3_kindAt_23 : decode cX3_kindAt 23 = .ok (.imul, 1) := by decide +kernel
theorem dX3_kindAt_24 : decode cX3_kindAt 24 = .ok (.iload_n 2, 1) := by decide +kernel
theorem dX3_kindAt_25 : decode cX3_kindAt 25 = .ok (.iadd, 1) := by decide +kernel
theorem dX3_kindAt_26 : decode cX3_kindAt 26 = .ok (.iaload, 1) := by decide +kernel
theorem dX3_kindAt_27 : decode cX3_kindAt 27 = .ok (.ireturn, 1) := by decide +kernel
theorem dX3_put_0 : decode cX3_put 0 = .ok (.iload_n 1, 1) := by decide +kernel
theorem dX3_put_1 : decode cX3_put 1 = .ok (.invokestatic 23, 3) := by decide +kernel
theorem dX3_put_4 : decode cX3_put 4 = .ok (.ifCond .eq 22, 3) := by decide +kernel
theorem dX3_put_7 : decode cX3_put 7 = .ok (.iload_n 2, 1) := by decide +kernel
theorem dX3_put_8 : decode cX3_put 8 = .ok (.invokestatic 27, 3) := by decide +kernel
theorem dX3_put_11 : decode cX3_put 11 = .ok (.ifCond .eq 15, 3) := by decide +kernel
theorem dX3_put_14 : decode cX3_put 14 = .ok (.aload_n 0, 1) := by decide +kernel
theorem dX3_put_15 : decode cX3_put 15 = .ok (.getfield 19, 3) := by decide +kernel
theorem dX3_put_18 : decode cX3_put 18 = .ok (.iload_n 1, 1) := by decide +kernel
theorem dX3_put_19 : decode cX3_put 19 = .ok (.bipush 8, 2) := by decide +kernel
theorem dX3_put_21 : decode cX3_put 21 = .ok (.imul, 1) := by decide +kernel
theorem dX3_put_22 : decode cX3_put 22 = .ok (.iload_n 2, 1) := by decide +kernel
theorem dX3_put_23 : decode cX3_put 23 = .ok (.iadd, 1) := by decide +kernel
theorem dX3_put_24 : decode cX3_put 24 = .ok (.iload_n 3, 1) := by decide +kernel
theorem dX3_put_25 : decode cX3_put 25 = .ok (.iastore, 1) := by decide +kernel
theorem dX3_put_26 : decode cX3_put 26 = .ok (.return_, 1) := by decide +kernel
theorem dX3_endsRun_0 : decode cX3_endsRun 0 = .ok (.iload_n 2, 1) := by decide +kernel
theorem dX3_endsRun_1 : decode cX3_endsRun 1 = .ok (.bipush 7, 2) := by decide +kernel
theorem dX3_endsRun_3 : decode cX3_endsRun 3 = .ok (.if_icmp .eq 20, 3) := by decide +kernel
theorem dX3_endsRun_6 : decode cX3_endsRun 6 = .ok (.aload_n 0, 1) := by decide +kernel
theorem dX3_endsRun_7 : decode cX3_endsRun 7 = .ok (.iload_n 1, 1) := by decide +kernel
theorem dX3_endsRun_8 : decode cX3_endsRun 8 = .ok (.iload_n 2, 1) := by decide +kernel
theorem dX3_endsRun_9 : decode cX3_endsRun 9 = .ok (.invokevirtual 30, 3) := by decide +kernel
theorem dX3_endsRun_12 : decode cX3_endsRun 12 = .ok (.aload_n 0, 1) := by decide +kernel
theorem dX3_endsRun_13 : decode cX3_endsRun 13 = .ok (.iload_n 1, 1) := by decide +kernel
theorem dX3_endsRun_14 : decode cX3_endsRun 14 = .ok (.iload_n 2, 1) := by decide +kernel
theorem dX3_endsRun_15 : decode cX3_endsRun 15 = .ok (.iconst 1, 1) := by decide +kernel
theorem dX3_endsRun_16 : decode cX3_endsRun 16 = .ok (.iadd, 1) := by decide +kernel
theorem dX3_endsRun_17 : decode cX3_endsRun 17 = .ok (.invokevirtual 30, 3) := by decide +kernel
theorem dX3_endsRun_20 : decode cX3_endsRun 20 = .ok (.if_icmp .eq 7, 3) := by decide +kernel
theorem dX3_endsRun_23 : decode cX3_endsRun 23 = .ok (.iconst 1, 1) := by decide +kernel
theorem dX3_endsRun_24 : decode cX3_endsRun 24 = .ok (.goto 4, 3) := by decide +kernel
theorem dX3_endsRun_27 : decode cX3_endsRun 27 = .ok (.iconst 0, 1) := by decide +kernel
theorem dX3_endsRun_28 : decode cX3_endsRun 28 = .ok (.ireturn, 1) := by decide +kernel
theorem dX3_countRuns_0 : decode cX3_countRuns 0 = .ok (.iconst 0, 1) := by decide +kernel
theorem dX3_countRuns_1 : decode cX3_countRuns 1 = .ok (.istore_n 2, 1) := by decide +kernel
theorem dX3_countRuns_2 : decode cX3_countRuns 2 = .ok (.iconst 0, 1) := by decide +kernel
theorem dX3_countRuns_3 : decode cX3_countRuns 3 = .ok (.istore_n 3, 1) := by decide +kernel
theorem dX3_countRuns_4 : decode cX3_countRuns 4 = .ok (.iload_n 3, 1) := by decide +kernel
theorem dX3_countRuns_5 : decode cX3_countRuns 5 = .ok (.bipush 8, 2) := by decide +kernel
theorem dX3_countRuns_7 : decode cX3_countRuns 7 = .ok (.if_icmp .ge 21, 3) := by decide +kernel
theorem dX3_countRuns_10 : decode cX3_countRuns 10 = .ok (.aload_n 0, 1) := by decide +kernel
theorem dX3_countRuns_11 : decode cX3_countRuns 11 = .ok (.iload_n 1, 1) := by decide +kernel
theorem dX3_countRuns_12 : decode cX3_countRuns 12 = .ok (.iload_n 3, 1) := by decide +kernel
theorem dX3_countRuns_13 : decode cX3_countRuns 13 = .ok (.invokevirtual 34, 3) := by decide +kernel
theorem dX3_countRuns_16 : decode cX3_countRuns 16 = .ok (.ifCond .eq 6, 3) := by decide +kernel
theorem dX3_countRuns_19 : decode cX3_countRuns 19 = .ok (.iinc 2 1, 3) := by decide +kernel
theorem dX3_countRuns_22 : decode cX3_countRuns 22 = .ok (.iinc 3 1, 3) := by decide +kernel
theorem dX3_countRuns_25 : decode cX3_countRuns 25 = .ok (.goto (-21), 3) := by decide +kernel
theorem dX3_countRuns_28 : decode cX3_countRuns 28 = .ok (.iload_n 2, 1) := by decide +kernel
theorem dX3_countRuns_29 : decode cX3_countRuns 29 = .ok (.ireturn, 1) := by decide +kernel
theorem dX3_lengthOfRun_0 : decode cX3_lengthOfRun 0 = .ok (.iconst 0, 1) := by decide +kernel
theorem dX3_lengthOfRun_1 : decode cX3_lengthOfRun 1 = .ok (.istore_n 3, 1) := by decide +kernel
theorem dX3_lengthOfRun_2 : decode cX3_lengthOfRun 2 = .ok (.iconst 0, 1) := by decide +kernel
theorem dX3_lengthOfRun_3 : decode cX3_lengthOfRun 3 = .ok (.istore 4, 2) := by decide +kernel
theorem dX3_lengthOfRun_5 : decode cX3_lengthOfRun 5 = .ok (.iconst 0, 1) := by decide +kernel
theorem dX3_lengthOfRun_6 : decode cX3_lengthOfRun 6 = .ok (.istore 5, 2) := by decide +kernel
theorem dX3_lengthOfRun_8 : decode cX3_lengthOfRun 8 = .ok (.iload 5, 2) := by decide +kernel
theorem dX3_lengthOfRun_10 : decode cX3_lengthOfRun 10 = .ok (.bipush 8, 2) := by decide +kernel
theorem dX3_lengthOfRun_12 : decode cX3_lengthOfRun 12 = .ok (.if_icmp .ge 30, 3) := by decide +kernel
theorem dX3_lengthOfRun_15 : decode cX3_lengthOfRun 15 = .ok (.iload_n 3, 1) := by decide +kernel
theorem dX3_lengthOfRun_16 : decode cX3_lengthOfRun 16 = .ok (.iload_n 2, 1) := by decide +kernel
theorem dX3_lengthOfRun_17 : decode cX3_lengthOfRun 17 = .ok (.if_icmp .ne 6, 3) := by decide +kernel
theorem dX3_lengthOfRun_20 : decode cX3_lengthOfRun 20 = .ok (.iinc 4 1, 3) := by decide +kernel
theorem dX3_lengthOfRun_23 : decode cX3_lengthOfRun 23 = .ok (.aload_n 0, 1) := by decide +kernel
theorem dX3_lengthOfRun_24 : decode cX3_lengthOfRun 24 = .ok (.iload_n 1, 1) := by decide +kernel
theorem dX3_lengthOfRun_25 : decode cX3_lengthOfRun 25 = .ok (.iload 5, 2) := by decide +kernel
theorem dX3_lengthOfRun_27 : decode cX3_lengthOfRun 27 = .ok (.invokevirtual 34, 3) := by decide +kernel
theorem dX3_lengthOfRun_30 : decode cX3_lengthOfRun 30 = .ok (.ifCond .eq 6, 3) := by decide +kernel
theorem dX3_lengthOfRun_33 : decode cX3_lengthOfRun 33 = .ok (.iinc 3 1, 3) := by decide +kernel
theorem dX3_lengthOfRun_36 : decode cX3_lengthOfRun 36 = .ok (.iinc 5 1, 3) := by decide +kernel
theorem dX3_lengthOfRun_39 : decode cX3_lengthOfRun 39 = .ok (.goto (-31), 3) := by decide +kernel
theorem dX3_lengthOfRun_42 : decode cX3_lengthOfRun 42 = .ok (.iload 4, 2) := by decide +kernel
theorem dX3_lengthOfRun_44 : decode cX3_lengthOfRun 44 = .ok (.ireturn, 1) := by decide +kernel
theorem dX3_countBlocksByRuns_0 : decode cX3_countBlocksByRuns 0 = .ok (.iconst 0, 1) := by decide +kernel
theorem dX3_countBlocksByRuns_1 : decode cX3_countBlocksByRuns 1 = .ok (.istore_n 2, 1) := by decide +kernel
theorem dX3_countBlocksByRuns_2 : decode cX3_countBlocksByRuns 2 = .ok (.iconst 0, 1) := by decide +kernel
theorem dX3_countBlocksByRuns_3 : decode cX3_countBlocksByRuns 3 = .ok (.istore_n 3, 1) := by decide +kernel
theorem dX3_countBlocksByRuns_4 : decode cX3_countBlocksByRuns 4 = .ok (.iconst 0, 1) := by decide +kernel
theorem dX3_countBlocksByRuns_5 : decode cX3_countBlocksByRuns 5 = .ok (.istore 4, 2) := by decide +kernel
theorem dX3_countBlocksByRuns_7 : decode cX3_countBlocksByRuns 7 = .ok (.iload 4, 2) := by decide +kernel
theorem dX3_countBlocksByRuns_9 : decode cX3_countBlocksByRuns 9 = .ok (.bipush 8, 2) := by decide +kernel
theorem dX3_countBlocksByRuns_11 : decode cX3_countBlocksByRuns 11 = .ok (.if_icmp .ge 38, 3) := by decide +kernel
theorem dX3_countBlocksByRuns_14 : decode cX3_countBlocksByRuns 14 = .ok (.iinc 3 1, 3) := by decide +kernel
theorem dX3_countBlocksByRuns_17 : decode cX3_countBlocksByRuns 17 = .ok (.aload_n 0, 1) := by decide +kernel
theorem dX3_countBlocksByRuns_18 : decode cX3_countBlocksByRuns 18 = .ok (.iload_n 1, 1) := by decide +kernel
theorem dX3_countBlocksByRuns_19 : decode cX3_countBlocksByRuns 19 = .ok (.iload 4, 2) := by decide +kernel
theorem dX3_countBlocksByRuns_21 : decode cX3_countBlocksByRuns 21 = .ok (.invokevirtual 34, 3) := by decide +kernel
theorem dX3_countBlocksByRuns_24 : decode cX3_countBlocksByRuns 24 = .ok (.ifCond .eq 19, 3) := by decide +kernel
theorem dX3_countBlocksByRuns_27 : decode cX3_countBlocksByRuns 27 = .ok (.aload_n 0, 1) := by decide +kernel
theorem dX3_countBlocksByRuns_28 : decode cX3_countBlocksByRuns 28 = .ok (.iload_n 1, 1) := by decide +kernel
theorem dX3_countBlocksByRuns_29 : decode cX3_countBlocksByRuns 29 = .ok (.iload 4, 2) := by decide +kernel
theorem dX3_countBlocksByRuns_31 : decode cX3_countBlocksByRuns 31 = .ok (.invokevirtual 30, 3) := by decide +kernel
theorem dX3_countBlocksByRuns_34 : decode cX3_countBlocksByRuns 34 = .ok (.ifCond .eq 7, 3) := by decide +kernel
theorem dX3_countBlocksByRuns_37 : decode cX3_countBlocksByRuns 37 = .ok (.iload_n 2, 1) := by decide +kernel
theorem dX3_countBlocksByRuns_38 : decode cX3_countBlocksByRuns 38 = .ok (.iload_n 3, 1) := by decide +kernel
theorem dX3_countBlocksByRuns_39 : decode cX3_countBlocksByRuns 39 = .ok (.iadd, 1) := by decide +kernel
theorem dX3_countBlocksByRuns_40 : decode cX3_countBlocksByRuns 40 = .ok (.istore_n 2, 1) := by decide +kernel
theorem dX3_countBlocksByRuns_41 : decode cX3_countBlocksByRuns 41 = .ok (.iconst 0, 1) := by decide +kernel
theorem dX3_countBlocksByRuns_42 : decode cX3_countBlocksByRuns 42 = .ok (.istore_n 3, 1) := by decide +kernel
theorem dX3_countBlocksByRuns_43 : decode cX3_countBlocksByRuns 43 = .ok (.iinc 4 1, 3) := by decide +kernel
theorem dX3_countBlocksByRuns_46 : decode cX3_countBlocksByRuns 46 = .ok (.goto (-39), 3) := by decide +kernel
theorem dX3_countBlocksByRuns_49 : decode cX3_countBlocksByRuns 49 = .ok (.iload_n 2, 1) := by decide +kernel
theorem dX3_countBlocksByRuns_50 : decode cX3_countBlocksByRuns 50 = .ok (.ireturn, 1) := by decide +kernel
theorem dX3_heightOf_0 : decode cX3_heightOf 0 = .ok (.bipush 7, 2) := by decide +kernel
theorem dX3_heightOf_2 : decode cX3_heightOf 2 = .ok (.istore_n 2, 1) := by decide +kernel
theorem dX3_heightOf_3 : decode cX3_heightOf 3 = .ok (.iload_n 2, 1) := by decide +kernel
theorem dX3_heightOf_4 : decode cX3_heightOf 4 = .ok (.ifCond .lt 22, 3) := by decide +kernel
theorem dX3_heightOf_7 : decode cX3_heightOf 7 = .ok (.aload_n 0, 1) := by decide +kernel
theorem dX3_heightOf_8 : decode cX3_heightOf 8 = .ok (.iload_n 1, 1) := by decide +kernel
theorem dX3_heightOf_9 : decode cX3_heightOf 9 = .ok (.iload_n 2, 1) := by decide +kernel
theorem dX3_heightOf_10 : decode cX3_heightOf 10 = .ok (.invokevirtual 30, 3) := by decide +kernel
theorem dX3_heightOf_13 : decode cX3_heightOf 13 = .ok (.ifCond .eq 7, 3) := by decide +kernel
theorem dX3_heightOf_16 : decode cX3_heightOf 16 = .ok (.iload_n 2, 1) := by decide +kernel
theorem dX3_heightOf_17 : decode cX3_heightOf 17 = .ok (.iconst 1, 1) := by decide +kernel
theorem dX3_heightOf_18 : decode cX3_heightOf 18 = .ok (.iadd, 1) := by decide +kernel
theorem dX3_heightOf_19 : decode cX3_heightOf 19 = .ok (.ireturn, 1) := by decide +kernel
theorem dX3_heightOf_20 : decode cX3_heightOf 20 = .ok (.iinc 2 (-1), 3) := by decide +kernel
theorem dX3_heightOf_23 : decode cX3_heightOf 23 = .ok (.goto (-20), 3) := by decide +kernel
theorem dX3_heightOf_26 : decode cX3_heightOf 26 = .ok (.iconst 0, 1) := by decide +kernel
theorem dX3_heightOf_27 : decode cX3_heightOf 27 = .ok (.ireturn, 1) := by decide +kernel
theorem dX3_copyHeights_0 : decode cX3_copyHeights 0 = .ok (.bipush 16, 2) := by decide +kernel
theorem dX3_copyHeights_2 : decode cX3_copyHeights 2 = .ok (.newarray .int, 2) := by decide +kernel
theorem dX3_copyHeights_4 : decode cX3_copyHeights 4 = .ok (.astore_n 1, 1) := by decide +kernel
theorem dX3_copyHeights_5 : decode cX3_copyHeights 5 = .ok (.iconst 0, 1) := by decide +kernel
theorem dX3_copyHeights_6 : decode cX3_copyHeights 6 = .ok (.istore_n 2, 1) := by decide +kernel
theorem dX3_copyHeights_7 : decode cX3_copyHeights 7 = .ok (.iload_n 2, 1) := by decide +kernel
theorem dX3_copyHeights_8 : decode cX3_copyHeights 8 = .ok (.bipush 16, 2) := by decide +kernel
theorem dX3_copyHeights_10 : decode cX3_copyHeights 10 = .ok (.if_icmp .ge 17, 3) := by decide +kernel
theorem dX3_copyHeights_13 : decode cX3_copyHeights 13 = .ok (.aload_n 1, 1) := by decide +kernel
theorem dX3_copyHeights_14 : decode cX3_copyHeights 14 = .ok (.iload_n 2, 1) := by decide +kernel
theorem dX3_copyHeights_15 : decode cX3_copyHeights 15 = .ok (.aload_n 0, 1) := by decide +kernel
theorem dX3_copyHeights_16 : decode cX3_copyHeights 16 = .ok (.iload_n 2, 1) := by decide +kernel
theorem dX3_copyHeights_17 : decode cX3_copyHeights 17 = .ok (.invokevirtual 38, 3) := by decide +kernel
theorem dX3_copyHeights_20 : decode cX3_copyHeights 20 = .ok (.iastore, 1) := by decide +kernel
theorem dX3_copyHeights_21 : decode cX3_copyHeights 21 = .ok (.iinc 2 1, 3) := by decide +kernel
theorem dX3_copyHeights_24 : decode cX3_copyHeights 24 = .ok (.goto (-17), 3) := by decide +kernel
theorem dX3_copyHeights_27 : decode cX3_copyHeights 27 = .ok (.aload_n 1, 1) := by decide +kernel
theorem dX3_copyHeights_28 : decode cX3_copyHeights 28 = .ok (.areturn, 1) := by decide +kernel
theorem dX3_hasColumnAlike_0 : decode cX3_hasColumnAlike 0 = .ok (.iconst 0, 1) := by decide +kernel
theorem dX3_hasColumnAlike_1 : decode cX3_hasColumnAlike 1 = .ok (.istore_n 3, 1) := by decide +kernel
theorem dX3_hasColumnAlike_2 : decode cX3_hasColumnAlike 2 = .ok (.iload_n 3, 1) := by decide +kernel
theorem dX3_hasColumnAlike_3 : decode cX3_hasColumnAlike 3 = .ok (.bipush 8, 2) := by decide +kernel
theorem dX3_hasColumnAlike_5 : decode cX3_hasColumnAlike 5 = .ok (.if_icmp .ge 26, 3) := by decide +kernel
theorem dX3_hasColumnAlike_8 : decode cX3_hasColumnAlike 8 = .ok (.aload_n 0, 1) := by decide +kernel
theorem dX3_hasColumnAlike_9 : decode cX3_hasColumnAlike 9 = .ok (.iload_n 2, 1) := by decide +kernel
theorem dX3_hasColumnAlike_10 : decode cX3_hasColumnAlike 10 = .ok (.iload_n 3, 1) := by decide +kernel
theorem dX3_hasColumnAlike_11 : decode cX3_hasColumnAlike 11 = .ok (.invokevirtual 30, 3) := by decide +kernel
theorem dX3_hasColumnAlike_14 : decode cX3_hasColumnAlike 14 = .ok (.aload_n 1, 1) := by decide +kernel
theorem dX3_hasColumnAlike_15 : decode cX3_hasColumnAlike 15 = .ok (.iload_n 2, 1) := by decide +kernel
theorem dX3_hasColumnAlike_16 : decode cX3_hasColumnAlike 16 = .ok (.iload_n 3, 1) := by decide +kernel
theorem dX3_hasColumnAlike_17 : decode cX3_hasColumnAlike 17 = .ok (.invokevirtual 30, 3) := by decide +kernel
theorem dX3_hasColumnAlike_20 : decode cX3_hasColumnAlike 20 = .ok (.if_icmp .eq 5, 3) := by decide +kernel
theorem dX3_hasColumnAlike_23 : decode cX3_hasColumnAlike 23 = .ok (.iconst 0, 1) := by decide +kernel
theorem dX3_hasColumnAlike_24 : decode cX3_hasColumnAlike 24 = .ok (.ireturn, 1) := by decide +kernel
theorem dX3_hasColumnAlike_25 : decode cX3_hasColumnAlike 25 = .ok (.iinc 3 1, 3) := by decide +kernel
theorem dX3_hasColumnAlike_28 : decode cX3_hasColumnAlike 28 = .ok (.goto (-26), 3) := by decide +kernel
theorem dX3_hasColumnAlike_31 : decode cX3_hasColumnAlike 31 = .ok (.iconst 1, 1) := by decide +kernel
theorem dX3_hasColumnAlike_32 : decode cX3_hasColumnAlike 32 = .ok (.ireturn, 1) := by decide +kernel
theorem dX4_init_0 : decode cX4_init 0 = .ok (.aload_n 0, 1) := by decide +kernel
theorem dX4_init_1 : decode cX4_init 1 = .ok (.invokespecial 3, 3) := by decide +kernel
theorem dX4_init_4 : decode cX4_init 4 = .ok (.aload_n 0, 1) := by decide +kernel
theorem dX4_init_5 : decode cX4_init 5 = .ok (.new 9, 3) := by decide +kernel
theorem dX4_init_8 : decode cX4_init 8 = .ok (.dup, 1) := by decide +kernel
theorem dX4_init_9 : decode cX4_init 9 = .ok (.invokespecial 11, 3) := by decide +kernel
theorem dX4_init_12 : decode cX4_init 12 = .ok (.putfield 12, 3) := by decide +kernel
theorem dX4_init_15 : decode cX4_init 15 = .ok (.aload_n 0, 1) := by decide +kernel
theorem dX4_init_16 : decode cX4_init 16 = .ok (.new 9, 3) := by decide +kernel
theorem dX4_init_19 : decode cX4_init 19 = .ok (.dup, 1) := by decide +kernel
theorem dX4_init_20 : decode cX4_init 20 = .ok (.invokespecial 11, 3) := by decide +kernel
theorem dX4_init_23 : decode cX4_init 23 = .ok (.putfield 16, 3) := by decide +kernel
theorem dX4_init_26 : decode cX4_init 26 = .ok (.aload_n 0, 1) := by decide +kernel
theorem dX4_init_27 : decode cX4_init 27 = .ok (.new 9, 3) := by decide +kernel
theorem dX4_init_30 : decode cX4_init 30 = .ok (.dup, 1) := by decide +kernel
theorem dX4_init_31 : decode cX4_init 31 = .ok (.invokespecial 11, 3) := by decide +kernel
theorem dX4_init_34 : decode cX4_init 34 = .ok (.putfield 19, 3) := by decide +kernel
theorem dX4_init_37 : decode cX4_init 37 = .ok (.aload_n 0, 1) := by decide +kernel
theorem dX4_init_38 : decode cX4_init 38 = .ok (.new 22, 3) := by decide +kernel
theorem dX4_init_41 : decode cX4_init 41 = .ok (.dup, 1) := by decide +kernel
theorem dX4_init_42 : decode cX4_init 42 = .ok (.invokespecial 24, 3) := by decide +kernel
theorem dX4_init_45 : decode cX4_init 45 = .ok (.putfield 25, 3) := by decide +kernel
theorem dX4_init_48 : decode cX4_init 48 = .ok (.aload_n 0, 1) := by decide +kernel
theorem dX4_init_49 : decode cX4_init 49 = .ok (.new 29, 3) := by decide +kernel
theorem dX4_init_52 : decode cX4_init 52 = .ok (.dup, 1) := by decide +kernel
theorem dX4_init_53 : decode cX4_init 53 = .ok (.iconst 0, 1) := by decide +kernel
theorem dX4_init_54 : decode cX4_init 54 = .ok (.aconst_null, 1) := by decide +kernel
theorem dX4_init_55 : decode cX4_init 55 = .ok (.sipush 128, 3) := by decide +kernel
theorem dX4_init_58 : decode cX4_init 58 = .ok (.newarray .int, 2) := by decide +kernel
theorem dX4_init_60 : decode cX4_init 60 = .ok (.invokespecial 31, 3) := by decide +kernel
theorem dX4_init_63 : decode cX4_init 63 = .ok (.putfield 34, 3) := by decide +kernel
theorem dX4_init_66 : decode cX4_init 66 = .ok (.aload_n 0, 1) := by decide +kernel
theorem dX4_init_67 : decode cX4_init 67 = .ok (.getfield 12, 3) := by decide +kernel
theorem dX4_init_70 : decode cX4_init 70 = .ok (.aload_n 0, 1) := by decide +kernel
theorem dX4_init_71 : decode cX4_init 71 = .ok (.getfield 34, 3) := by decide +kernel
theorem dX4_init_74 : decode cX4_init 74 = .ok (.invokevirtual 38, 3) := by decide +kernel
theorem dX4_init_77 : decode cX4_init 77 = .ok (.pop, 1) := by decide +kernel
theorem dX4_init_78 : decode cX4_init 78 = .ok (.return_, 1) := by decide +kernel
theorem dX4_set_0 : decode cX4_set 0 = .ok (.iload_n 1, 1) := by decide +kernel
theorem dX4_set_1 : decode cX4_set 1 = .ok (.invokestatic 42, 3) := by decide +kernel
theorem dX4_set_4 : decode cX4_set 4 = .ok (.iload_n 2, 1) := by decide +kernel
theorem dX4_set_5 : decode cX4_set 5 = .ok (.invokestatic 46, 3) := by decide +kernel
theorem dX4_set_8 : decode cX4_set 8 = .ok (.iload_n 3, 1) := by decide +kernel
theorem dX4_set_9 : decode cX4_set 9 = .ok (.invokestatic 49, 3) := by decide +kernel
theorem dX4_set_12 : decode cX4_set 12 = .ok (.aload_n 0, 1) := by decide +kernel
theorem dX4_set_13 : decode cX4_set 13 = .ok (.invokevirtual 52, 3) := by decide +kernel
theorem dX4_set_16 : decode cX4_set 16 = .ok (.aload_n 0, 1) := by decide +kernel
theorem dX4_set_17 : decode cX4_set 17 = .ok (.invokevirtual 55, 3) := by decide +kernel
theorem dX4_set_20 : decode cX4_set 20 = .ok (.aload_n 0, 1) := by decide +kernel
theorem dX4_set_21 : decode cX4_set 21 = .ok (.getfield 34, 3) := by decide +kernel
theorem dX4_set_24 : decode cX4_set 24 = .ok (.iload_n 1, 1) := by decide +kernel
theorem dX4_set_25 : decode cX4_set 25 = .ok (.iload_n 2, 1) := by decide +kernel
theorem dX4_set_26 : decode cX4_set 26 = .ok (.iload_n 3, 1) := by decide +kernel
theorem dX4_set_27 : decode cX4_set 27 = .ok (.invokevirtual 58, 3) := by decide +kernel
theorem dX4_set_30 : decode cX4_set 30 = .ok (.aload_n 0, 1) := by decide +kernel
theorem dX4_set_31 : decode cX4_set 31 = .ok (.getfield 34, 3) := by decide +kernel
theorem dX4_set_34 : decode cX4_set 34 = .ok (.getfield 62, 3) := by decide +kernel
theorem dX4_set_37 : decode cX4_set 37 = .ok (.ireturn, 1) := by decide +kernel
theorem dX4_raise_0 : decode cX4_raise 0 = .ok (.iload_n 1, 1) := by decide +kernel
theorem dX4_raise_1 : decode cX4_raise 1 = .ok (.invokestatic 42, 3) := by decide +kernel
theorem dX4_raise_4 : decode cX4_raise 4 = .ok (.iload_n 2, 1) := by decide +kernel
theorem dX4_raise_5 : decode cX4_raise 5 = .ok (.invokestatic 66, 3) := by decide +kernel
theorem dX4_raise_8 : decode cX4_raise 8 = .ok (.iload_n 3, 1) := by decide +kernel
theorem dX4_raise_9 : decode cX4_raise 9 = .ok (.invokestatic 69, 3) := by decide +kernel
theorem dX4_raise_12 : decode cX4_raise 12 = .ok (.aload_n 0, 1) := by decide +kernel
theorem dX4_raise_13 : decode cX4_raise 13 = .ok (.invokevirtual 52, 3) := by decide +kernel
theorem dX4_raise_16 : decode cX4_raise 16 = .ok (.aload_n 0, 1) := by decide +kernel
theorem dX4_raise_17 : decode cX4_raise 17 = .ok (.invokevirtual 55, 3) := by decide +kernel
theorem dX4_raise_20 : decode cX4_raise 20 = .ok (.iconst 0, 1) := by decide +kernel
theorem dX4_raise_21 : decode cX4_raise 21 = .ok (.istore 4, 2) := by decide +kernel
theorem dX4_raise_23 : decode cX4_raise 23 = .ok (.iload 4, 2) := by decide +kernel
theorem dX4_raise_25 : decode cX4_raise 25 = .ok (.bipush 8, 2) := by decide +kernel
theorem dX4_raise_27 : decode cX4_raise 27 = .ok (.if_icmp .ge 30, 3) := by decide +kernel
theorem dX4_raise_30 : decode cX4_raise 30 = .ok (.aload_n 0, 1) := by decide +kernel
theorem dX4_raise_31 : decode cX4_raise 31 = .ok (.getfield 34, 3) := by decide +kernel
theorem dX4_raise_34 : decode cX4_raise 34 = .ok (.iload_n 1, 1) := by decide +kernel
theorem dX4_raise_35 : decode cX4_raise 35 = .ok (.iload 4, 2) := by decide +kernel
theorem dX4_raise_37 : decode cX4_raise 37 = .ok (.iload 4, 2) := by decide +kernel
theorem dX4_raise_39 : decode cX4_raise 39 = .ok (.iload_n 2, 1) := by decide +kernel
theorem dX4_raise_40 : decode cX4_raise 40 = .ok (.if_icmp .ge 7, 3) := by decide +kernel
theorem dX4_raise_43 : decode cX4_raise 43 = .ok (.iload_n 3, 1) := by decide +kernel
theorem dX4_raise_44 : decode cX4_raise 44 = .ok (.goto 4, 3) := by decide +kernel
theorem dX4_raise_47 : decode cX4_raise 47 = .ok (.iconst 0, 1) := by decide +kernel
theorem dX4_raise_48 : decode cX4_raise 48 = .ok (.invokevirtual 58, 3) := by decide +kernel
theorem dX4_raise_51 : decode cX4_raise 51 = .ok (.iinc 4 1, 3) := by decide +kernel
theorem dX4_raise_54 : decode cX4_raise 54 = .ok (.goto (-31), 3) := by decide +kernel
theorem dX4_raise_57 : decode cX4_raise 57 = .ok (.aload_n 0, 1) := by decide +kernel
theorem dX4_raise_58 : decode cX4_raise 58 = .ok (.getfield 34, 3) := by decide +kernel
theorem dX4_raise_61 : decode cX4_raise 61 = .ok (.getfield 62, 3) := by decide +kernel
theorem dX4_raise_64 : decode cX4_raise 64 = .ok (.ireturn, 1) := by decide +kernel
theorem dX4_layer_0 : decode cX4_layer 0 = .ok (.iload_n 1, 1) := by decide +kernel
theorem dX4_layer_1 : decode cX4_layer 1 = .ok (.invokestatic 46, 3) := by decide +kernel
theorem dX4_layer_4 : decode cX4_layer 4 = .ok (.iload_n 2, 1) := by decide +kernel
theorem dX4_layer_5 : decode cX4_layer 5 = .ok (.invokestatic 49, 3) := by decide +kernel
theorem dX4_layer_8 : decode cX4_layer 8 = .ok (.aload_n 0, 1) := by decide +kernel
theorem dX4_layer_9 : decode cX4_layer 9 = .ok (.invokevirtual 52, 3) := by decide +kernel
theorem dX4_layer_12 : decode cX4_layer 12 = .ok (.aload_n 0, 1) := by decide +kernel
theorem dX4_layer_13 : decode cX4_layer 13 = .ok (.invokevirtual 55, 3) := by decide +kernel
theorem dX4_layer_16 : decode cX4_layer 16 = .ok (.iconst 0, 1) := by decide +kernel
theorem dX4_layer_17 : decode cX4_layer 17 = .ok (.istore_n 3, 1) := by decide +kernel
theorem dX4_layer_18 : decode cX4_layer 18 = .ok (.iload_n 3, 1) := by decide +kernel
theorem dX4_layer_19 : decode cX4_layer 19 = .ok (.bipush 16, 2) := by decide +kernel
theorem dX4_layer_21 : decode cX4_layer 21 = .ok (.if_icmp .ge 19, 3) := by decide +kernel
theorem dX4_layer_24 : decode cX4_layer 24 = .ok (.aload_n 0, 1) := by decide +kernel
theorem dX4_layer_25 : decode cX4_layer 25 = .ok (.getfield 34, 3) := by decide +kernel
theorem dX4_layer_28 : decode cX4_layer 28 = .ok (.iload_n 3, 1) := by decide +kernel
theorem dX4_layer_29 : decode cX4_layer 29 = .ok (.iload_n 1, 1) := by decide +kernel
theorem dX4_layer_30 : decode cX4_layer 30 = .ok (.iload_n 2, 1) := by decide +kernel
theorem dX4_layer_31 : decode cX4_layer 31 = .ok (.invokevirtual 58, 3) := by decide +kernel
theorem dX4_layer_34 : decode cX4_layer 34 = .ok (.iinc 3 1, 3) := by decide +kernel
theorem dX4_layer_37 : decode cX4_layer 37 = .ok (.goto (-19), 3) := by decide +kernel
theorem dX4_layer_40 : decode cX4_layer 40 = .ok (.aload_n 0, 1) := by decide +kernel
theorem dX4_layer_41 : decode cX4_layer 41 = .ok (.getfield 34, 3) := by decide +kernel
theorem dX4_layer_44 : decode cX4_layer 44 = .ok (.getfield 62, 3) := by decide +kernel
theorem dX4_layer_47 : decode cX4_layer 47 = .ok (.ireturn, 1) := by decide +kernel
theorem dX4_kind_0 : decode cX4_kind 0 = .ok (.iload_n 1, 1) := by decide +kernel
theorem dX4_kind_1 : decode cX4_kind 1 = .ok (.invokestatic 42, 3) := by decide +kernel
theorem dX4_kind_4 : decode cX4_kind 4 = .ok (.iload_n 2, 1) := by decide +kernel
theorem dX4_kind_5 : decode cX4_kind 5 = .ok (.invokestatic 46, 3) := by decide +kernel
theorem dX4_kind_8 : decode cX4_kind 8 = .ok (.aload_n 0, 1) := by decide +kernel
theorem dX4_kind_9 : decode cX4_kind 9 = .ok (.getfield 34, 3) := by decide +kernel
theorem dX4_kind_12 : decode cX4_kind 12 = .ok (.iload_n 1, 1) := by decide +kernel
theorem dX4_kind_13 : decode cX4_kind 13 = .ok (.iload_n 2, 1) := by decide +kernel
theorem dX4_kind_14 : decode cX4_kind 14 = .ok (.invokevirtual 72, 3) := by decide +kernel
theorem dX4_kind_17 : decode cX4_kind 17 = .ok (.ireturn, 1) := by decide +kernel
theorem dX4_runs_0 : decode cX4_runs 0 = .ok (.iload_n 1, 1) := by decide +kernel
theorem dX4_runs_1 : decode cX4_runs 1 = .ok (.invokestatic 42, 3) := by decide +kernel
theorem dX4_runs_4 : decode cX4_runs 4 = .ok (.aload_n 0, 1) := by decide +kernel
theorem dX4_runs_5 : decode cX4_runs 5 = .ok (.getfield 34, 3) := by decide +kernel
theorem dX4_runs_8 : decode cX4_runs 8 = .ok (.iload_n 1, 1) := by decide +kernel
theorem dX4_runs_9 : decode cX4_runs 9 = .ok (.invokevirtual 76, 3) := by decide +kernel
theorem dX4_runs_12 : decode cX4_runs 12 = .ok (.ireturn, 1) := by decide +kernel
theorem dX4_runLength_0 : decode cX4_runLength 0 = .ok (.iload_n 1, 1) := by decide +kernel
theorem dX4_runLength_1 : decode cX4_runLength 1 = .ok (.invokestatic 42, 3) := by decide +kernel
theorem dX4_runLength_4 : decode cX4_runLength 4 = .ok (.iload_n 2, 1) := by decide +kernel
theorem dX4_runLength_5 : decode cX4_runLength 5 = .ok (.ifCond .lt 15, 3) := by decide +kernel
theorem dX4_runLength_8 : decode cX4_runLength 8 = .ok (.iload_n 2, 1) := by decide +kernel
theorem dX4_runLength_9 : decode cX4_runLength 9 = .ok (.aload_n 0, 1) := by decide +kernel
theorem dX4_runLength_10 : decode cX4_runLength 10 = .ok (.getfield 34, 3) := by decide +kernel
theorem dX4_runLength_13 : decode cX4_runLength 13 = .ok (.iload_n 1, 1) := by decide +kernel
theorem dX4_runLength_14 : decode cX4_runLength 14 = .ok (.invokevirtual 76, 3) := by decide +kernel
theorem dX4_runLength_17 : decode cX4_runLength 17 = .ok (.if_icmp .lt 13, 3) := by decide +kernel
theorem dX4_runLength_20 : decode cX4_runLength 20 = .ok (.new 80, 3) := by decide +kernel
theorem dX4_runLength_23 : decode cX4_runLength 23 = .ok (.dup, 1) := by decide +kernel
theorem dX4_runLength_24 : decode cX4_runLength 24 = .ok (.ldc 82, 2) := by decide +kernel
theorem dX4_runLength_26 : decode cX4_runLength 26 = .ok (.invokespecial 84, 3) := by decide +kernel
theorem dX4_runLength_29 : decode cX4_runLength 29 = .ok (.athrow, 1) := by decide +kernel
theorem dX4_runLength_30 : decode cX4_runLength 30 = .ok (.aload_n 0, 1) := by decide +kernel
theorem dX4_runLength_31 : decode cX4_runLength 31 = .ok (.getfield 34, 3) := by decide +kernel
theorem dX4_runLength_34 : decode cX4_runLength 34 = .ok (.iload_n 1, 1) := by decide +kernel
theorem dX4_runLength_35 : decode cX4_runLength 35 = .ok (.iload_n 2, 1) := by decide +kernel
theorem dX4_runLength_36 : decode cX4_runLength 36 = .ok (.invokevirtual 87, 3) := by decide +kernel
theorem dX4_runLength_39 : decode cX4_runLength 39 = .ok (.ireturn, 1) := by decide +kernel
theorem dX4_blocks_0 : decode cX4_blocks 0 = .ok (.iconst 0, 1) := by decide +kernel
theorem dX4_blocks_1 : decode cX4_blocks 1 = .ok (.istore_n 1, 1) := by decide +kernel
theorem dX4_blocks_2 : decode cX4_blocks 2 = .ok (.iconst 0, 1) := by decide +kernel
theorem dX4_blocks_3 : decode cX4_blocks 3 = .ok (.istore_n 2, 1) := by decide +kernel
theorem dX4_blocks_4 : decode cX4_blocks 4 = .ok (.iload_n 2, 1) := by decide +kernel
theorem dX4_blocks_5 : decode cX4_blocks 5 = .ok (.bipush 16, 2) := by decide +kernel
theorem dX4_blocks_7 : decode cX4_blocks 7 = .ok (.if_icmp .ge 20, 3) := by decide +kernel
theorem dX4_blocks_10 : decode cX4_blocks 10 = .ok (.iload_n 1, 1) := by decide +kernel
theorem dX4_blocks_11 : decode cX4_blocks 11 = .ok (.aload_n 0, 1) := by decide +kernel
theorem dX4_blocks_12 : decode cX4_blocks 12 = .ok (.getfield 34, 3) := by decide +kernel
theorem dX4_blocks_15 : decode cX4_blocks 15 = .ok (.iload_n 2, 1) := by decide +kernel
theorem dX4_blocks_16 : decode cX4_blocks 16 = .ok (.invokevirtual 90, 3) := by decide +kernel
theorem dX4_blocks_19 : decode cX4_blocks 19 = .ok (.iadd, 1) := by decide +kernel
theorem dX4_blocks_20 : decode cX4_blocks 20 = .ok (.istore_n 1, 1) := by decide +kernel
theorem dX4_blocks_21 : decode cX4_blocks 21 = .ok (.iinc 2 1, 3) := by decide +kernel
theorem dX4_blocks_24 : decode cX4_blocks 24 = .ok (.goto (-20), 3) := by decide +kernel
theorem dX4_blocks_27 : decode cX4_blocks 27 = .ok (.iload_n 1, 1) := by decide +kernel
theorem dX4_blocks_28 : decode cX4_blocks 28 = .ok (.ireturn, 1) := by decide +kernel
theorem dX4_blocksOneByOne_0 : decode cX4_blocksOneByOne 0 = .ok (.iconst 0, 1) := by decide +kernel
theorem dX4_blocksOneByOne_1 : decode cX4_blocksOneByOne 1 = .ok (.istore_n 1, 1) := by decide +kernel
theorem dX4_blocksOneByOne_2 : decode cX4_blocksOneByOne 2 = .ok (.iconst 0, 1) := by decide +kernel
theorem dX4_blocksOneByOne_3 : decode cX4_blocksOneByOne 3 = .ok (.istore_n 2, 1) := by decide +kernel
theorem dX4_blocksOneByOne_4 : decode cX4_blocksOneByOne 4 = .ok (.iload_n 2, 1) := by decide +kernel
theorem dX4_blocksOneByOne_5 : decode cX4_blocksOneByOne 5 = .ok (.bipush 16, 2) := by decide +kernel
theorem dX4_blocksOneByOne_7 : decode cX4_blocksOneByOne 7 = .ok (.if_icmp .ge 38, 3) := by decide +kernel
theorem dX4_blocksOneByOne_10 : decode cX4_blocksOneByOne 10 = .ok (.iconst 0, 1) := by decide +kernel
theorem dX4_blocksOneByOne_11 : decode cX4_blocksOneByOne 11 = .ok (.istore_n 3, 1) := by decide +kernel
theorem dX4_blocksOneByOne_12 : decode cX4_blocksOneByOne 12 = .ok (.iload_n 3, 1) := by decide +kernel
theorem dX4_blocksOneByOne_13 : decode cX4_blocksOneByOne 13 = .ok (.bipush 8, 2) := by decide +kernel
theorem dX4_blocksOneByOne_15 : decode cX4_blocksOneByOne 15 = .ok (.if_icmp .ge 24, 3) := by decide +kernel
theorem dX4_blocksOneByOne_18 : decode cX4_blocksOneByOne 18 = .ok (.aload_n 0, 1) := by decide +kernel
theorem dX4_blocksOneByOne_19 : decode cX4_blocksOneByOne 19 = .ok (.getfield 34, 3) := by decide +kernel
theorem dX4_blocksOneByOne_22 : decode cX4_blocksOneByOne 22 = .ok (.iload_n 2, 1) := by decide +kernel
theorem dX4_blocksOneByOne_23 : decode cX4_blocksOneByOne 23 = .ok (.iload_n 3, 1) := by decide +kernel
theorem dX4_blocksOneByOne_24 : decode cX4_blocksOneByOne 24 = .ok (.invokevirtual 72, 3) := by decide +kernel
theorem dX4_blocksOneByOne_27 : decode cX4_blocksOneByOne 27 = .ok (.ifCond .eq 6, 3) := by decide +kernel
theorem dX4_blocksOneByOne_30 : decode cX4_blocksOneByOne 30 = .ok (.iinc 1 1, 3) := by decide +kernel
theorem dX4_blocksOneByOne_33 : decode cX4_blocksOneByOne 33 = .ok (.iinc 3 1, 3) := by decide +kernel
theorem dX4_blocksOneByOne_36 : decode cX4_blocksOneByOne 36 = .ok (.goto (-24), 3) := by decide +kernel
theorem dX4_blocksOneByOne_39 : decode cX4_blocksOneByOne 39 = .ok (.iinc 2 1, 3) := by decide +kernel
theorem dX4_blocksOneByOne_42 : decode cX4_blocksOneByOne 42 = .ok (.goto (-38), 3) := by decide +kernel
theorem dX4_blocksOneByOne_45 : decode cX4_blocksOneByOne 45 = .ok (.iload_n 1, 1) := by decide +kernel
theorem dX4_blocksOneByOne_46 : decode cX4_blocksOneByOne 46 = .ok (.ireturn, 1) := by decide +kernel
theorem dX4_pieces_0 : decode cX4_pieces 0 = .ok (.aload_n 0, 1) := by decide +kernel
theorem dX4_pieces_1 : decode cX4_pieces 1 = .ok (.getfield 25, 3) := by decide +kernel
theorem dX4_pieces_4 : decode cX4_pieces 4 = .ok (.aload_n 0, 1) := by decide +kernel
theorem dX4_pieces_5 : decode cX4_pieces 5 = .ok (.getfield 34, 3) := by decide +kernel
theorem dX4_pieces_8 : decode cX4_pieces 8 = .ok (.invokevirtual 93, 3) := by decide +kernel
theorem dX4_pieces_11 : decode cX4_pieces 11 = .ok (.ireturn, 1) := by decide +kernel
theorem dX4_height_0 : decode cX4_height 0 = .ok (.iload_n 1, 1) := by decide +kernel
theorem dX4_height_1 : decode cX4_height 1 = .ok (.invokestatic 42, 3) := by decide +kernel
theorem dX4_height_4 : decode cX4_height 4 = .ok (.aload_n 0, 1) := by decide +kernel
theorem dX4_height_5 : decode cX4_height 5 = .ok (.getfield 34, 3) := by decide +kernel
theorem dX4_height_8 : decode cX4_height 8 = .ok (.iload_n 1, 1) := by decide +kernel
theorem dX4_height_9 : decode cX4_height 9 = .ok (.invokevirtual 97, 3) := by decide +kernel
theorem dX4_height_12 : decode cX4_height 12 = .ok (.ireturn, 1) := by decide +kernel
theorem dX4_state_0 : decode cX4_state 0 = .ok (.aload_n 0, 1) := by decide +kernel
theorem dX4_state_1 : decode cX4_state 1 = .ok (.getfield 34, 3) := by decide +kernel
theorem dX4_state_4 : decode cX4_state 4 = .ok (.getfield 62, 3) := by decide +kernel
theorem dX4_state_7 : decode cX4_state 7 = .ok (.ireturn, 1) := by decide +kernel
theorem dX4_states_0 : decode cX4_states 0 = .ok (.aload_n 0, 1) := by decide +kernel
theorem dX4_states_1 : decode cX4_states 1 = .ok (.getfield 12, 3) := by decide +kernel
theorem dX4_states_4 : decode cX4_states 4 = .ok (.invokevirtual 100, 3) := by decide +kernel
theorem dX4_states_7 : decode cX4_states 7 = .ok (.ireturn, 1) := by decide +kernel
theorem dX4_visit_0 : decode cX4_visit 0 = .ok (.aload_n 0, 1) := by decide +kernel
theorem dX4_visit_1 : decode cX4_visit 1 = .ok (.iload_n 1, 1) := by decide +kernel
theorem dX4_visit_2 : decode cX4_visit 2 = .ok (.invokevirtual 104, 3) := by decide +kernel
theorem dX4_visit_5 : decode cX4_visit 5 = .ok (.aload_n 0, 1) := by decide +kernel
theorem dX4_visit_6 : decode cX4_visit 6 = .ok (.getfield 34, 3) := by decide +kernel
theorem dX4_visit_9 : decode cX4_visit 9 = .ok (.getfield 62, 3) := by decide +kernel
theorem dX4_visit_12 : decode cX4_visit 12 = .ok (.istore_n 2, 1) := by decide +kernel
theorem dX4_visit_13 : decode cX4_visit 13 = .ok (.aload_n 0, 1) := by decide +kernel
theorem dX4_visit_14 : decode cX4_visit 14 = .ok (.aload_n 0, 1) := by decide +kernel
theorem dX4_visit_15 : decode cX4_visit 15 = .ok (.getfield 12, 3) := by decide +kernel
theorem dX4_visit_18 : decode cX4_visit 18 = .ok (.iload_n 1, 1) := by decide +kernel
theorem dX4_visit_19 : decode cX4_visit 19 = .ok (.invokevirtual 107, 3) := by decide +kernel
theorem dX4_visit_22 : decode cX4_visit 22 = .ok (.checkcast 29, 3) := by decide +kernel
theorem dX4_visit_25 : decode cX4_visit 25 = .ok (.putfield 34, 3) := by decide +kernel
theorem dX4_visit_28 : decode cX4_visit 28 = .ok (.iload_n 2, 1) := by decide +kernel
theorem dX4_visit_29 : decode cX4_visit 29 = .ok (.ireturn, 1) := by decide +kernel
theorem dX4_undo_0 : decode cX4_undo 0 = .ok (.aload_n 0, 1) := by decide +kernel
theorem dX4_undo_1 : decode cX4_undo 1 = .ok (.getfield 34, 3) := by decide +kernel
theorem dX4_undo_4 : decode cX4_undo 4 = .ok (.getfield 111, 3) := by decide +kernel
theorem dX4_undo_7 : decode cX4_undo 7 = .ok (.astore_n 1, 1) := by decide +kernel
theorem dX4_undo_8 : decode cX4_undo 8 = .ok (.aload_n 1, 1) := by decide +kernel
theorem dX4_undo_9 : decode cX4_undo 9 = .ok (.ifnonnull 13, 3) := by decide +kernel
theorem dX4_undo_12 : decode cX4_undo 12 = .ok (.new 114, 3) := by decide +kernel
theorem dX4_undo_15 : decode cX4_undo 15 = .ok (.dup, 1) := by decide +kernel
theorem dX4_undo_16 : decode cX4_undo 16 = .ok (.ldc 116, 2) := by decide +kernel
theorem dX4_undo_18 : decode cX4_undo 18 = .ok (.invokespecial 118, 3) := by decide +kernel
theorem dX4_undo_21 : decode cX4_undo 21 = .ok (.athrow, 1) := by decide +kernel
theorem dX4_undo_22 : decode cX4_undo 22 = .ok (.aload_n 0, 1) := by decide +kernel
theorem dX4_undo_23 : decode cX4_undo 23 = .ok (.aload_n 1, 1) := by decide +kernel
theorem dX4_undo_24 : decode cX4_undo 24 = .ok (.putfield 34, 3) := by decide +kernel
theorem dX4_undo_27 : decode cX4_undo 27 = .ok (.aload_n 0, 1) := by decide +kernel
theorem dX4_undo_28 : decode cX4_undo 28 = .ok (.getfield 34, 3) := by decide +kernel
theorem dX4_undo_31 : decode cX4_undo 31 = .ok (.getfield 62, 3) := by decide +kernel
theorem dX4_undo_34 : decode cX4_undo 34 = .ok (.ireturn, 1) := by decide +kernel
theorem dX4_redo_0 : decode cX4_redo 0 = .ok (.aload_n 0, 1) := by decide +kernel
theorem dX4_redo_1 : decode cX4_redo 1 = .ok (.iload_n 1, 1) := by decide +kernel
theorem dX4_redo_2 : decode cX4_redo 2 = .ok (.invokevirtual 119, 3) := by decide +kernel
theorem dX4_redo_5 : decode cX4_redo 5 = .ok (.astore_n 2, 1) := by decide +kernel
theorem dX4_redo_6 : decode cX4_redo 6 = .ok (.aload_n 2, 1) := by decide +kernel
theorem dX4_redo_7 : decode cX4_redo 7 = .ok (.ifnonnull 13, 3) := by decide +kernel
theorem dX4_redo_10 : decode cX4_redo 10 = .ok (.new 80, 3) := by decide +kernel
theorem dX4_redo_13 : decode cX4_redo 13 = .ok (.dup, 1) := by decide +kernel
theorem dX4_redo_14 : decode cX4_redo 14 = .ok (.ldc 123, 2) := by decide +kernel
theorem dX4_redo_16 : decode cX4_redo 16 = .ok (.invokespecial 84, 3) := by decide +kernel
theorem dX4_redo_19 : decode cX4_redo 19 = .ok (.athrow, 1) := by decide +kernel
theorem dX4_redo_20 : decode cX4_redo 20 = .ok (.aload_n 0, 1) := by decide +kernel
theorem dX4_redo_21 : decode cX4_redo 21 = .ok (.aload_n 2, 1) := by decide +kernel
theorem dX4_redo_22 : decode cX4_redo 22 = .ok (.putfield 34, 3) := by decide +kernel
theorem dX4_redo_25 : decode cX4_redo 25 = .ok (.aload_n 0, 1) := by decide +kernel
theorem dX4_redo_26 : decode cX4_redo 26 = .ok (.getfield 34, 3) := by decide +kernel
theorem dX4_redo_29 : decode cX4_redo 29 = .ok (.getfield 62, 3) := by decide +kernel
theorem dX4_redo_32 : decode cX4_redo 32 = .ok (.ireturn, 1) := by decide +kernel
theorem dX4_branches_0 : decode cX4_branches 0 = .ok (.iconst 0, 1) := by decide +kernel
theorem dX4_branches_1 : decode cX4_branches 1 = .ok (.istore_n 1, 1) := by decide +kernel
theorem dX4_branches_2 : decode cX4_branches 2 = .ok (.iconst 0, 1) := by decide +kernel
theorem dX4_branches_3 : decode cX4_branches 3 = .ok (.istore_n 2, 1) := by decide +kernel
theorem dX4_branches_4 : decode cX4_branches 4 = .ok (.iload_n 2, 1) := by decide +kernel
theorem dX4_branches_5 : decode cX4_branches 5 = .ok (.aload_n 0, 1) := by decide +kernel
theorem dX4_branches_6 : decode cX4_branches 6 = .ok (.getfield 12, 3) := by decide +kernel
theorem dX4_branches_9 : decode cX4_branches 9 = .ok (.invokevirtual 100, 3) := by decide +kernel
theorem dX4_branches_12 : decode cX4_branches 12 = .ok (.if_icmp .ge 33, 3) := by decide +kernel
theorem dX4_branches_15 : decode cX4_branches 15 = .ok (.aload_n 0, 1) := by decide +kernel
theorem dX4_branches_16 : decode cX4_branches 16 = .ok (.getfield 12, 3) := by decide +kernel
theorem dX4_branches_19 : decode cX4_branches 19 = .ok (.iload_n 2, 1) := by decide +kernel
theorem dX4_branches_20 : decode cX4_branches 20 = .ok (.invokevirtual 107, 3) := by decide +kernel
theorem dX4_branches_23 : decode cX4_branches 23 = .ok (.checkcast 29, 3) := by decide +kernel
theorem dX4_branches_26 : decode cX4_branches 26 = .ok (.getfield 111, 3) := by decide +kernel
theorem dX4_branches_29 : decode cX4_branches 29 = .ok (.aload_n 0, 1) := by decide +kernel
theorem dX4_branches_30 : decode cX4_branches 30 = .ok (.getfield 34, 3) := by decide +kernel
theorem dX4_branches_33 : decode cX4_branches 33 = .ok (.if_acmp .ne 6, 3) := by decide +kernel
theorem dX4_branches_36 : decode cX4_branches 36 = .ok (.iinc 1 1, 3) := by decide +kernel
theorem dX4_branches_39 : decode cX4_branches 39 = .ok (.iinc 2 1, 3) := by decide +kernel
theorem dX4_branches_42 : decode cX4_branches 42 = .ok (.goto (-38), 3) := by decide +kernel
theorem dX4_branches_45 : decode cX4_branches 45 = .ok (.iload_n 1, 1) := by decide +kernel
theorem dX4_branches_46 : decode cX4_branches 46 = .ok (.ireturn, 1) := by decide +kernel
theorem dX4_unlike_0 : decode cX4_unlike 0 = .ok (.aload_n 0, 1) := by decide +kernel
theorem dX4_unlike_1 : decode cX4_unlike 1 = .ok (.iload_n 1, 1) := by decide +kernel
theorem dX4_unlike_2 : decode cX4_unlike 2 = .ok (.invokevirtual 104, 3) := by decide +kernel
theorem dX4_unlike_5 : decode cX4_unlike 5 = .ok (.aload_n 0, 1) := by decide +kernel
theorem dX4_unlike_6 : decode cX4_unlike 6 = .ok (.iload_n 2, 1) := by decide +kernel
theorem dX4_unlike_7 : decode cX4_unlike 7 = .ok (.invokevirtual 104, 3) := by decide +kernel
theorem dX4_unlike_10 : decode cX4_unlike 10 = .ok (.aload_n 0, 1) := by decide +kernel
theorem dX4_unlike_11 : decode cX4_unlike 11 = .ok (.getfield 12, 3) := by decide +kernel
theorem dX4_unlike_14 : decode cX4_unlike 14 = .ok (.iload_n 1, 1) := by decide +kernel
theorem dX4_unlike_15 : decode cX4_unlike 15 = .ok (.invokevirtual 107, 3) := by decide +kernel
theorem dX4_unlike_18 : decode cX4_unlike 18 = .ok (.checkcast 29, 3) := by decide +kernel
theorem dX4_unlike_21 : decode cX4_unlike 21 = .ok (.astore_n 3, 1) := by decide +kernel
theorem dX4_unlike_22 : decode cX4_unlike 22 = .ok (.aload_n 0, 1) := by decide +kernel
theorem dX4_unlike_23 : decode cX4_unlike 23 = .ok (.getfield 12, 3) := by decide +kernel
theorem dX4_unlike_26 : decode cX4_unlike 26 = .ok (.iload_n 2, 1) := by decide +kernel
theorem dX4_unlike_27 : decode cX4_unlike 27 = .ok (.invokevirtual 107, 3) := by decide +kernel
theorem dX4_unlike_30 : decode cX4_unlike 30 = .ok (.checkcast 29, 3) := by decide +kernel
theorem dX4_unlike_33 : decode cX4_unlike 33 = .ok (.astore 4, 2) := by decide +kernel
theorem dX4_unlike_35 : decode cX4_unlike 35 = .ok (.iconst 0, 1) := by decide +kernel
theorem dX4_unlike_36 : decode cX4_unlike 36 = .ok (.istore 5, 2) := by decide +kernel
theorem dX4_unlike_38 : decode cX4_unlike 38 = .ok (.iconst 0, 1) := by decide +kernel
theorem dX4_unlike_39 : decode cX4_unlike 39 = .ok (.istore 6, 2) := by decide +kernel
theorem dX4_unlike_41 : decode cX4_unlike 41 = .ok (.iload 6, 2) := by decide +kernel
theorem dX4_unlike_43 : decode cX4_unlike 43 = .ok (.bipush 16, 2) := by decide +kernel
theorem dX4_unlike_45 : decode cX4_unlike 45 = .ok (.if_icmp .ge 23, 3) := by decide +kernel
theorem dX4_unlike_48 : decode cX4_unlike 48 = .ok (.aload_n 3, 1) := by decide +kernel
theorem dX4_unlike_49 : decode cX4_unlike 49 = .ok (.aload 4, 2) := by decide +kernel
theorem dX4_unlike_51 : decode cX4_unlike 51 = .ok (.iload 6, 2) := by decide +kernel
theorem dX4_unlike_53 : decode cX4_unlike 53 = .ok (.invokevirtual 125, 3) := by decide +kernel
theorem dX4_unlike_56 : decode cX4_unlike 56 = .ok (.ifCond .ne 6, 3) := by decide +kernel
theorem dX4_unlike_59 : decode cX4_unlike 59 = .ok (.iinc 5 1, 3) := by decide +kernel
theorem dX4_unlike_62 : decode cX4_unlike 62 = .ok (.iinc 6 1, 3) := by decide +kernel
theorem dX4_unlike_65 : decode cX4_unlike 65 = .ok (.goto (-24), 3) := by decide +kernel
theorem dX4_unlike_68 : decode cX4_unlike 68 = .ok (.iload 5, 2) := by decide +kernel
theorem dX4_unlike_70 : decode cX4_unlike 70 = .ok (.ireturn, 1) := by decide +kernel
theorem dX4_cut_0 : decode cX4_cut 0 = .ok (.aload_n 0, 1) := by decide +kernel
theorem dX4_cut_1 : decode cX4_cut 1 = .ok (.getfield 16, 3) := by decide +kernel
theorem dX4_cut_4 : decode cX4_cut 4 = .ok (.invokevirtual 100, 3) := by decide +kernel
theorem dX4_cut_7 : decode cX4_cut 7 = .ok (.bipush 8, 2) := by decide +kernel
theorem dX4_cut_9 : decode cX4_cut 9 = .ok (.if_icmp .lt 13, 3) := by decide +kernel
theorem dX4_cut_12 : decode cX4_cut 12 = .ok (.new 114, 3) := by decide +kernel
theorem dX4_cut_15 : decode cX4_cut 15 = .ok (.dup, 1) := by decide +kernel
theorem dX4_cut_16 : decode cX4_cut 16 = .ok (.ldc 129, 2) := by decide +kernel
theorem dX4_cut_18 : decode cX4_cut 18 = .ok (.invokespecial 118, 3) := by decide +kernel
theorem dX4_cut_21 : decode cX4_cut 21 = .ok (.athrow, 1) := by decide +kernel
theorem dX4_cut_22 : decode cX4_cut 22 = .ok (.aload_n 0, 1) := by decide +kernel
theorem dX4_cut_23 : decode cX4_cut 23 = .ok (.getfield 25, 3) := by decide +kernel
theorem dX4_cut_26 : decode cX4_cut 26 = .ok (.aload_n 0, 1) := by decide +kernel
theorem dX4_cut_27 : decode cX4_cut 27 = .ok (.getfield 34, 3) := by decide +kernel
theorem dX4_cut_30 : decode cX4_cut 30 = .ok (.invokevirtual 93, 3) := by decide +kernel
theorem dX4_cut_33 : decode cX4_cut 33 = .ok (.iconst 1, 1) := by decide +kernel
theorem dX4_cut_34 : decode cX4_cut 34 = .ok (.if_icmp .eq 13, 3) := by decide +kernel
theorem dX4_cut_37 : decode cX4_cut 37 = .ok (.new 114, 3) := by decide +kernel
theorem dX4_cut_40 : decode cX4_cut 40 = .ok (.dup, 1) := by decide +kernel
theorem dX4_cut_41 : decode cX4_cut 41 = .ok (.ldc 131, 2) := by decide +kernel
theorem dX4_cut_43 : decode cX4_cut 43 = .ok (.invokespecial 118, 3) := by decide +kernel
theorem dX4_cut_46 : decode cX4_cut 46 = .ok (.athrow, 1) := by decide +kernel
theorem dX4_cut_47 : decode cX4_cut 47 = .ok (.aload_n 0, 1) := by decide +kernel
theorem dX4_cut_48 : decode cX4_cut 48 = .ok (.getfield 16, 3) := by decide +kernel
theorem dX4_cut_51 : decode cX4_cut 51 = .ok (.new 133, 3) := by decide +kernel
theorem dX4_cut_54 : decode cX4_cut 54 = .ok (.dup, 1) := by decide +kernel
theorem dX4_cut_55 : decode cX4_cut 55 = .ok (.aload_n 0, 1) := by decide +kernel
theorem dX4_cut_56 : decode cX4_cut 56 = .ok (.getfield 34, 3) := by decide +kernel
theorem dX4_cut_59 : decode cX4_cut 59 = .ok (.invokevirtual 135, 3) := by decide +kernel
theorem dX4_cut_62 : decode cX4_cut 62 = .ok (.invokespecial 139, 3) := by decide +kernel
theorem dX4_cut_65 : decode cX4_cut 65 = .ok (.invokevirtual 38, 3) := by decide +kernel
theorem dX4_cut_68 : decode cX4_cut 68 = .ok (.pop, 1) := by decide +kernel
theorem dX4_cut_69 : decode cX4_cut 69 = .ok (.aload_n 0, 1) := by decide +kernel
theorem dX4_cut_70 : decode cX4_cut 70 = .ok (.getfield 16, 3) := by decide +kernel
theorem dX4_cut_73 : decode cX4_cut 73 = .ok (.invokevirtual 100, 3) := by decide +kernel
theorem dX4_cut_76 : decode cX4_cut 76 = .ok (.iconst 1, 1) := by decide +kernel
theorem dX4_cut_77 : decode cX4_cut 77 = .ok (.isub, 1) := by decide +kernel
theorem dX4_cut_78 : decode cX4_cut 78 = .ok (.ireturn, 1) := by decide +kernel
theorem dX4_strike_0 : decode cX4_strike 0 = .ok (.aload_n 0, 1) := by decide +kernel
theorem dX4_strike_1 : decode cX4_strike 1 = .ok (.iload_n 1, 1) := by decide +kernel
theorem dX4_strike_2 : decode cX4_strike 2 = .ok (.invokevirtual 142, 3) := by decide +kernel
theorem dX4_strike_5 : decode cX4_strike 5 = .ok (.aload_n 0, 1) := by decide +kernel
theorem dX4_strike_6 : decode cX4_strike 6 = .ok (.invokevirtual 145, 3) := by decide +kernel
theorem dX4_strike_9 : decode cX4_strike 9 = .ok (.aload_n 0, 1) := by decide +kernel
theorem dX4_strike_10 : decode cX4_strike 10 = .ok (.aload_n 0, 1) := by decide +kernel
theorem dX4_strike_11 : decode cX4_strike 11 = .ok (.getfield 16, 3) := by decide +kernel
theorem dX4_strike_14 : decode cX4_strike 14 = .ok (.iload_n 1, 1) := by decide +kernel
theorem dX4_strike_15 : decode cX4_strike 15 = .ok (.invokevirtual 107, 3) := by decide +kernel
theorem dX4_strike_18 : decode cX4_strike 18 = .ok (.checkcast 133, 3) := by decide +kernel
theorem dX4_strike_21 : decode cX4_strike 21 = .ok (.invokevirtual 148, 3) := by decide +kernel
theorem dX4_strike_24 : decode cX4_strike 24 = .ok (.invokevirtual 152, 3) := by decide +kernel
theorem dX4_strike_27 : decode cX4_strike 27 = .ok (.ireturn, 1) := by decide +kernel
theorem dX4_forge_0 : decode cX4_forge 0 = .ok (.aload_n 0, 1) := by decide +kernel
theorem dX4_forge_1 : decode cX4_forge 1 = .ok (.iload_n 1, 1) := by decide +kernel
theorem dX4_forge_2 : decode cX4_forge 2 = .ok (.invokevirtual 156, 3) := by decide +kernel
theorem dX4_forge_5 : decode cX4_forge 5 = .ok (.aload_n 0, 1) := by decide +kernel
theorem dX4_forge_6 : decode cX4_forge 6 = .ok (.iload_n 2, 1) := by decide +kernel
theorem dX4_forge_7 : decode cX4_forge 7 = .ok (.invokevirtual 142, 3) := by decide +kernel
theorem dX4_forge_10 : decode cX4_forge 10 = .ok (.iload_n 3, 1) := by decide +kernel
theorem dX4_forge_11 : decode cX4_forge 11 = .ok (.iconst 1, 1) := by decide +kernel
theorem dX4_forge_12 : decode cX4_forge 12 = .ok (.if_icmp .lt 9, 3) := by decide +kernel
theorem dX4_forge_15 : decode cX4_forge 15 = .ok (.iload_n 3, 1) := by decide +kernel
theorem dX4_forge_16 : decode cX4_forge 16 = .ok (.bipush 60, 2) := by decide +kernel
theorem dX4_forge_18 : decode cX4_forge 18 = .ok (.if_icmp .le 13, 3) := by decide +kernel
theorem dX4_forge_21 : decode cX4_forge 21 = .ok (.new 159, 3) := by decide +kernel
theorem dX4_forge_24 : decode cX4_forge 24 = .ok (.dup, 1) := by decide +kernel
theorem dX4_forge_25 : decode cX4_forge 25 = .ok (.ldc 161, 2) := by decide +kernel
theorem dX4_forge_27 : decode cX4_forge 27 = .ok (.invokespecial 163, 3) := by decide +kernel
theorem dX4_forge_30 : decode cX4_forge 30 = .ok (.athrow, 1) := by decide +kernel
theorem dX4_forge_31 : decode cX4_forge 31 = .ok (.aload_n 0, 1) := by decide +kernel
theorem dX4_forge_32 : decode cX4_forge 32 = .ok (.invokevirtual 145, 3) := by decide +kernel
theorem dX4_forge_35 : decode cX4_forge 35 = .ok (.aload_n 0, 1) := by decide +kernel
theorem dX4_forge_36 : decode cX4_forge 36 = .ok (.getfield 16, 3) := by decide +kernel
theorem dX4_forge_39 : decode cX4_forge 39 = .ok (.iload_n 2, 1) := by decide +kernel
theorem dX4_forge_40 : decode cX4_forge 40 = .ok (.invokevirtual 107, 3) := by decide +kernel
theorem dX4_forge_43 : decode cX4_forge 43 = .ok (.checkcast 133, 3) := by decide +kernel
theorem dX4_forge_46 : decode cX4_forge 46 = .ok (.astore 4, 2) := by decide +kernel
theorem dX4_forge_48 : decode cX4_forge 48 = .ok (.iload_n 3, 1) := by decide +kernel
theorem dX4_forge_49 : decode cX4_forge 49 = .ok (.aload 4, 2) := by decide +kernel
theorem dX4_forge_51 : decode cX4_forge 51 = .ok (.getfield 164, 3) := by decide +kernel
theorem dX4_forge_54 : decode cX4_forge 54 = .ok (.invokevirtual 100, 3) := by decide +kernel
theorem dX4_forge_57 : decode cX4_forge 57 = .ok (.if_icmp .le 13, 3) := by decide +kernel
theorem dX4_forge_60 : decode cX4_forge 60 = .ok (.new 114, 3) := by decide +kernel
theorem dX4_forge_63 : decode cX4_forge 63 = .ok (.dup, 1) := by decide +kernel
theorem dX4_forge_64 : decode cX4_forge 64 = .ok (.ldc 167, 2) := by decide +kernel
theorem dX4_forge_66 : decode cX4_forge 66 = .ok (.invokespecial 118, 3) := by decide +kernel
theorem dX4_forge_69 : decode cX4_forge 69 = .ok (.athrow, 1) := by decide +kernel
theorem dX4_forge_70 : decode cX4_forge 70 = .ok (.aload 4, 2) := by decide +kernel
theorem dX4_forge_72 : decode cX4_forge 72 = .ok (.getfield 164, 3) := by decide +kernel
theorem dX4_forge_75 : decode cX4_forge 75 = .ok (.iload_n 3, 1) := by decide +kernel
theorem dX4_forge_76 : decode cX4_forge 76 = .ok (.iconst 1, 1) := by decide +kernel
theorem dX4_forge_77 : decode cX4_forge 77 = .ok (.isub, 1) := by decide +kernel
theorem dX4_forge_78 : decode cX4_forge 78 = .ok (.invokevirtual 107, 3) := by decide +kernel
theorem dX4_forge_81 : decode cX4_forge 81 = .ok (.checkcast 169, 3) := by decide +kernel
theorem dX4_forge_84 : decode cX4_forge 84 = .ok (.getfield 171, 3) := by decide +kernel
theorem dX4_forge_87 : decode cX4_forge 87 = .ok (.astore 5, 2) := by decide +kernel
theorem dX4_forge_89 : decode cX4_forge 89 = .ok (.aload_n 0, 1) := by decide +kernel
theorem dX4_forge_90 : decode cX4_forge 90 = .ok (.new 169, 3) := by decide +kernel
theorem dX4_forge_93 : decode cX4_forge 93 = .ok (.dup, 1) := by decide +kernel
theorem dX4_forge_94 : decode cX4_forge 94 = .ok (.aload 4, 2) := by decide +kernel
theorem dX4_forge_96 : decode cX4_forge 96 = .ok (.aload_n 0, 1) := by decide +kernel
theorem dX4_forge_97 : decode cX4_forge 97 = .ok (.getfield 19, 3) := by decide +kernel
theorem dX4_forge_100 : decode cX4_forge 100 = .ok (.iload_n 1, 1) := by decide +kernel
theorem dX4_forge_101 : decode cX4_forge 101 = .ok (.invokevirtual 107, 3) := by decide +kernel
theorem dX4_forge_104 : decode cX4_forge 104 = .ok (.checkcast 169, 3) := by decide +kernel
theorem dX4_forge_107 : decode cX4_forge 107 = .ok (.getfield 171, 3) := by decide +kernel
theorem dX4_forge_110 : decode cX4_forge 110 = .ok (.aload 5, 2) := by decide +kernel
theorem dX4_forge_112 : decode cX4_forge 112 = .ok (.invokespecial 175, 3) := by decide +kernel
theorem dX4_forge_115 : decode cX4_forge 115 = .ok (.invokevirtual 152, 3) := by decide +kernel
theorem dX4_forge_118 : decode cX4_forge 118 = .ok (.ireturn, 1) := by decide +kernel
theorem dX4_dieHeight_0 : decode cX4_dieHeight 0 = .ok (.aload_n 0, 1) := by decide +kernel
theorem dX4_dieHeight_1 : decode cX4_dieHeight 1 = .ok (.iload_n 1, 1) := by decide +kernel
theorem dX4_dieHeight_2 : decode cX4_dieHeight 2 = .ok (.invokevirtual 142, 3) := by decide +kernel
theorem dX4_dieHeight_5 : decode cX4_dieHeight 5 = .ok (.iload_n 2, 1) := by decide +kernel
theorem dX4_dieHeight_6 : decode cX4_dieHeight 6 = .ok (.invokestatic 42, 3) := by decide +kernel
theorem dX4_dieHeight_9 : decode cX4_dieHeight 9 = .ok (.aload_n 0, 1) := by decide +kernel
theorem dX4_dieHeight_10 : decode cX4_dieHeight 10 = .ok (.getfield 16, 3) := by decide +kernel
theorem dX4_dieHeight_13 : decode cX4_dieHeight 13 = .ok (.iload_n 1, 1) := by decide +kernel
theorem dX4_dieHeight_14 : decode cX4_dieHeight 14 = .ok (.invokevirtual 107, 3) := by decide +kernel
theorem dX4_dieHeight_17 : decode cX4_dieHeight 17 = .ok (.checkcast 133, 3) := by decide +kernel
theorem dX4_dieHeight_20 : decode cX4_dieHeight 20 = .ok (.getfield 178, 3) := by decide +kernel
theorem dX4_dieHeight_23 : decode cX4_dieHeight 23 = .ok (.iload_n 2, 1) := by decide +kernel
theorem dX4_dieHeight_24 : decode cX4_dieHeight 24 = .ok (.iaload, 1) := by decide +kernel
theorem dX4_dieHeight_25 : decode cX4_dieHeight 25 = .ok (.ireturn, 1) := by decide +kernel
theorem dX4_coinHeight_0 : decode cX4_coinHeight 0 = .ok (.aload_n 0, 1) := by decide +kernel
theorem dX4_coinHeight_1 : decode cX4_coinHeight 1 = .ok (.iload_n 1, 1) := by decide +kernel
theorem dX4_coinHeight_2 : decode cX4_coinHeight 2 = .ok (.invokevirtual 156, 3) := by decide +kernel
theorem dX4_coinHeight_5 : decode cX4_coinHeight 5 = .ok (.iload_n 2, 1) := by decide +kernel
theorem dX4_coinHeight_6 : decode cX4_coinHeight 6 = .ok (.invokestatic 42, 3) := by decide +kernel
theorem dX4_coinHeight_9 : decode cX4_coinHeight 9 = .ok (.aload_n 0, 1) := by decide +kernel
theorem dX4_coinHeight_10 : decode cX4_coinHeight 10 = .ok (.getfield 19, 3) := by decide +kernel
theorem dX4_coinHeight_13 : decode cX4_coinHeight 13 = .ok (.iload_n 1, 1) := by decide +kernel
theorem dX4_coinHeight_14 : decode cX4_coinHeight 14 = .ok (.invokevirtual 107, 3) := by decide +kernel
theorem dX4_coinHeight_17 : decode cX4_coinHeight 17 = .ok (.checkcast 169, 3) := by decide +kernel
theorem dX4_coinHeight_20 : decode cX4_coinHeight 20 = .ok (.getfield 171, 3) := by decide +kernel
theorem dX4_coinHeight_23 : decode cX4_coinHeight 23 = .ok (.iload_n 2, 1) := by decide +kernel
theorem dX4_coinHeight_24 : decode cX4_coinHeight 24 = .ok (.iaload, 1) := by decide +kernel
theorem dX4_coinHeight_25 : decode cX4_coinHeight 25 = .ok (.ireturn, 1) := by decide +kernel
theorem dX4_grade_0 : decode cX4_grade 0 = .ok (.aload_n 0, 1) := by decide +kernel
theorem dX4_grade_1 : decode cX4_grade 1 = .ok (.iload_n 1, 1) := by decide +kernel
theorem dX4_grade_2 : decode cX4_grade 2 = .ok (.invokevirtual 156, 3) := by decide +kernel
theorem dX4_grade_5 : decode cX4_grade 5 = .ok (.aload_n 0, 1) := by decide +kernel
theorem dX4_grade_6 : decode cX4_grade 6 = .ok (.getfield 19, 3) := by decide +kernel
theorem dX4_grade_9 : decode cX4_grade 9 = .ok (.iload_n 1, 1) := by decide +kernel
theorem dX4_grade_10 : decode cX4_grade 10 = .ok (.invokevirtual 107, 3) := by decide +kernel
theorem dX4_grade_13 : decode cX4_grade 13 = .ok (.checkcast 169, 3) := by decide +kernel
theorem dX4_grade_16 : decode cX4_grade 16 = .ok (.astore_n 2, 1) := by decide +kernel
theorem dX4_grade_17 : decode cX4_grade 17 = .ok (.aload_n 2, 1) := by decide +kernel
theorem dX4_grade_18 : decode cX4_grade 18 = .ok (.getfield 171, 3) := by decide +kernel
theorem dX4_grade_21 : decode cX4_grade 21 = .ok (.aload_n 2, 1) := by decide +kernel
theorem dX4_grade_22 : decode cX4_grade 22 = .ok (.getfield 179, 3) := by decide +kernel
theorem dX4_grade_25 : decode cX4_grade 25 = .ok (.getfield 183, 3) := by decide +kernel
theorem dX4_grade_28 : decode cX4_grade 28 = .ok (.invokestatic 186, 3) := by decide +kernel
theorem dX4_grade_31 : decode cX4_grade 31 = .ok (.istore_n 3, 1) := by decide +kernel
theorem dX4_grade_32 : decode cX4_grade 32 = .ok (.iconst 0, 1) := by decide +kernel
theorem dX4_grade_33 : decode cX4_grade 33 = .ok (.bipush 100, 2) := by decide +kernel
theorem dX4_grade_35 : decode cX4_grade 35 = .ok (.iconst 5, 1) := by decide +kernel
theorem dX4_grade_36 : decode cX4_grade 36 = .ok (.iload_n 3, 1) := by decide +kernel
theorem dX4_grade_37 : decode cX4_grade 37 = .ok (.imul, 1) := by decide +kernel
theorem dX4_grade_38 : decode cX4_grade 38 = .ok (.isub, 1) := by decide +kernel
theorem dX4_grade_39 : decode cX4_grade 39 = .ok (.invokestatic 190, 3) := by decide +kernel
theorem dX4_grade_42 : decode cX4_grade 42 = .ok (.ireturn, 1) := by decide +kernel
theorem dX4_isForged_0 : decode cX4_isForged 0 = .ok (.aload_n 0, 1) := by decide +kernel
theorem dX4_isForged_1 : decode cX4_isForged 1 = .ok (.iload_n 1, 1) := by decide +kernel
theorem dX4_isForged_2 : decode cX4_isForged 2 = .ok (.invokevirtual 156, 3) := by decide +kernel
theorem dX4_isForged_5 : decode cX4_isForged 5 = .ok (.aload_n 0, 1) := by decide +kernel
theorem dX4_isForged_6 : decode cX4_isForged 6 = .ok (.getfield 19, 3) := by decide +kernel
theorem dX4_isForged_9 : decode cX4_isForged 9 = .ok (.iload_n 1, 1) := by decide +kernel
theorem dX4_isForged_10 : decode cX4_isForged 10 = .ok (.invokevirtual 107, 3) := by decide +kernel
theorem dX4_isForged_13 : decode cX4_isForged 13 = .ok (.checkcast 169, 3) := by decide +kernel
theorem dX4_isForged_16 : decode cX4_isForged 16 = .ok (.astore_n 2, 1) := by decide +kernel
theorem dX4_isForged_17 : decode cX4_isForged 17 = .ok (.aload_n 2, 1) := by decide +kernel
theorem dX4_isForged_18 : decode cX4_isForged 18 = .ok (.getfield 171, 3) := by decide +kernel
theorem dX4_isForged_21 : decode cX4_isForged 21 = .ok (.aload_n 2, 1) := by decide +kernel
theorem dX4_isForged_22 : decode cX4_isForged 22 = .ok (.getfield 195, 3) := by decide +kernel
theorem dX4_isForged_25 : decode cX4_isForged 25 = .ok (.invokestatic 186, 3) := by decide +kernel
theorem dX4_isForged_28 : decode cX4_isForged 28 = .ok (.ifCond .eq 7, 3) := by decide +kernel
theorem dX4_isForged_31 : decode cX4_isForged 31 = .ok (.iconst 1, 1) := by decide +kernel
theorem dX4_isForged_32 : decode cX4_isForged 32 = .ok (.goto 4, 3) := by decide +kernel
theorem dX4_isForged_35 : decode cX4_isForged 35 = .ok (.iconst 0, 1) := by decide +kernel
theorem dX4_isForged_36 : decode cX4_isForged 36 = .ok (.ireturn, 1) := by decide +kernel
theorem dX4_distance_0 : decode cX4_distance 0 = .ok (.aload_n 0, 1) := by decide +kernel
theorem dX4_distance_1 : decode cX4_distance 1 = .ok (.iload_n 1, 1) := by decide +kernel
theorem dX4_distance_2 : decode cX4_distance 2 = .ok (.invokevirtual 156, 3) := by decide +kernel
theorem dX4_distance_5 : decode cX4_distance 5 = .ok (.aload_n 0, 1) := by decide +kernel
theorem dX4_distance_6 : decode cX4_distance 6 = .ok (.iload_n 2, 1) := by decide +kernel
theorem dX4_distance_7 : decode cX4_distance 7 = .ok (.invokevirtual 156, 3) := by decide +kernel
theorem dX4_distance_10 : decode cX4_distance 10 = .ok (.aload_n 0, 1) := by decide +kernel
theorem dX4_distance_11 : decode cX4_distance 11 = .ok (.getfield 19, 3) := by decide +kernel
theorem dX4_distance_14 : decode cX4_distance 14 = .ok (.iload_n 1, 1) := by decide +kernel
theorem dX4_distance_15 : decode cX4_distance 15 = .ok (.invokevirtual 107, 3) := by decide +kernel
theorem dX4_distance_18 : decode cX4_distance 18 = .ok (.checkcast 169, 3) := by decide +kernel
theorem dX4_distance_21 : decode cX4_distance 21 = .ok (.getfield 171, 3) := by decide +kernel
theorem dX4_distance_24 : decode cX4_distance 24 = .ok (.aload_n 0, 1) := by decide +kernel
theorem dX4_distance_25 : decode cX4_distance 25 = .ok (.getfield 19, 3) := by decide +kernel
theorem dX4_distance_28 : decode cX4_distance 28 = .ok (.iload_n 2, 1) := by decide +kernel
theorem dX4_distance_29 : decode cX4_distance 29 = .ok (.invokevirtual 107, 3) := by decide +kernel
theorem dX4_distance_32 : decode cX4_distance 32 = .ok (.checkcast 169, 3) := by decide +kernel
theorem dX4_distance_35 : decode cX4_distance 35 = .ok (.getfield 171, 3) := by decide +kernel
theorem dX4_distance_38 : decode cX4_distance 38 = .ok (.invokestatic 186, 3) := by decide +kernel
theorem dX4_distance_41 : decode cX4_distance 41 = .ok (.ireturn, 1) := by decide +kernel
theorem dX4_beginState_0 : decode cX4_beginState 0 = .ok (.aload_n 0, 1) := by decide +kernel
theorem dX4_beginState_1 : decode cX4_beginState 1 = .ok (.new 29, 3) := by decide +kernel
theorem dX4_beginState_4 : decode cX4_beginState 4 = .ok (.dup, 1) := by decide +kernel
theorem dX4_beginState_5 : decode cX4_beginState 5 = .ok (.aload_n 0, 1) := by decide +kernel
theorem dX4_beginState_6 : decode cX4_beginState 6 = .ok (.getfield 12, 3) := by decide +kernel
theorem dX4_beginState_9 : decode cX4_beginState 9 = .ok (.invokevirtual 100, 3) := by decide +kernel
theorem dX4_beginState_12 : decode cX4_beginState 12 = .ok (.aload_n 0, 1) := by decide +kernel
theorem dX4_beginState_13 : decode cX4_beginState 13 = .ok (.getfield 34, 3) := by decide +kernel
theorem dX4_beginState_16 : decode cX4_beginState 16 = .ok (.aload_n 0, 1) := by decide +kernel
theorem dX4_beginState_17 : decode cX4_beginState 17 = .ok (.getfield 34, 3) := by decide +kernel
theorem dX4_beginState_20 : decode cX4_beginState 20 = .ok (.getfield 198, 3) := by decide +kernel
theorem dX4_beginState_23 : decode cX4_beginState 23 = .ok (.invokevirtual 201, 3) := by decide +kernel
theorem dX4_beginState_26 : decode cX4_beginState 26 = .ok (.checkcast 202, 3) := by decide +kernel
theorem dX4_beginState_29 : decode cX4_beginState 29 = .ok (.invokespecial 31, 3) := by decide +kernel
theorem dX4_beginState_32 : decode cX4_beginState 32 = .ok (.putfield 34, 3) := by decide +kernel
theorem dX4_beginState_35 : decode cX4_beginState 35 = .ok (.aload_n 0, 1) := by decide +kernel
theorem dX4_beginState_36 : decode cX4_beginState 36 = .ok (.getfield 12, 3) := by decide +kernel
theorem dX4_beginState_39 : decode cX4_beginState 39 = .ok (.aload_n 0, 1) := by decide +kernel
theorem dX4_beginState_40 : decode cX4_beginState 40 = .ok (.getfield 34, 3) := by decide +kernel
theorem dX4_beginState_43 : decode cX4_beginState 43 = .ok (.invokevirtual 38, 3) := by decide +kernel
theorem dX4_beginState_46 : decode cX4_beginState 46 = .ok (.pop, 1) := by decide +kernel
theorem dX4_beginState_47 : decode cX4_beginState 47 = .ok (.return_, 1) := by decide +kernel
theorem dX4_findChild_0 : decode cX4_findChild 0 = .ok (.iconst 0, 1) := by decide +kernel
theorem dX4_findChild_1 : decode cX4_findChild 1 = .ok (.istore_n 2, 1) := by decide +kernel
theorem dX4_findChild_2 : decode cX4_findChild 2 = .ok (.iconst 0, 1) := by decide +kernel
theorem dX4_findChild_3 : decode cX4_findChild 3 = .ok (.istore_n 3, 1) := by decide +kernel
theorem dX4_findChild_4 : decode cX4_findChild 4 = .ok (.iload_n 3, 1) := by decide +kernel
theorem dX4_findChild_5 : decode cX4_findChild 5 = .ok (.aload_n 0, 1) := by decide +kernel
theorem dX4_findChild_6 : decode cX4_findChild 6 = .ok (.getfield 12, 3) := by decide +kernel
theorem dX4_findChild_9 : decode cX4_findChild 9 = .ok (.invokevirtual 100, 3) := by decide +kernel
theorem dX4_findChild_12 : decode cX4_findChild 12 = .ok (.if_icmp .ge 45, 3) := by decide +kernel
theorem dX4_findChild_15 : decode cX4_findChild 15 = .ok (.aload_n 0, 1) := by decide +kernel
theorem dX4_findChild_16 : decode cX4_findChild 16 = .ok (.getfield 12, 3) := by decide +kernel
theorem dX4_findChild_19 : decode cX4_findChild 19 = .ok (.iload_n 3, 1) := by decide +kernel
theorem dX4_findChild_20 : decode cX4_findChild 20 = .ok (.invokevirtual 107, 3) := by decide +kernel
theorem dX4_findChild_23 : decode cX4_findChild 23 = .ok (.checkcast 29, 3) := by decide +kernel
theorem dX4_findChild_26 : decode cX4_findChild 26 = .ok (.astore 4, 2) := by decide +kernel
theorem dX4_findChild_28 : decode cX4_findChild 28 = .ok (.aload 4, 2) := by decide +kernel
theorem dX4_findChild_30 : decode cX4_findChild 30 = .ok (.getfield 111, 3) := by decide +kernel
theorem dX4_findChild_33 : decode cX4_findChild 33 = .ok (.aload_n 0, 1) := by decide +kernel
theorem dX4_findChild_34 : decode cX4_findChild 34 = .ok (.getfield 34, 3) := by decide +kernel
theorem dX4_findChild_37 : decode cX4_findChild 37 = .ok (.if_acmp .ne 14, 3) := by decide +kernel
theorem dX4_findChild_40 : decode cX4_findChild 40 = .ok (.iload_n 2, 1) := by decide +kernel
theorem dX4_findChild_41 : decode cX4_findChild 41 = .ok (.iload_n 1, 1) := by decide +kernel
theorem dX4_findChild_42 : decode cX4_findChild 42 = .ok (.if_icmp .ne 6, 3) := by decide +kernel
theorem dX4_findChild_45 : decode cX4_findChild 45 = .ok (.aload 4, 2) := by decide +kernel
theorem dX4_findChild_47 : decode cX4_findChild 47 = .ok (.areturn, 1) := by decide +kernel
theorem dX4_findChild_48 : decode cX4_findChild 48 = .ok (.iinc 2 1, 3) := by decide +kernel
theorem dX4_findChild_51 : decode cX4_findChild 51 = .ok (.iinc 3 1, 3) := by decide +kernel
theorem dX4_findChild_54 : decode cX4_findChild 54 = .ok (.goto (-50), 3) := by decide +kernel
theorem dX4_findChild_57 : decode cX4_findChild 57 = .ok (.aconst_null, 1) := by decide +kernel
theorem dX4_findChild_58 : decode cX4_findChild 58 = .ok (.areturn, 1) := by decide +kernel
theorem dX4_keepCoin_0 : decode cX4_keepCoin 0 = .ok (.aload_n 0, 1) := by decide +kernel
theorem dX4_keepCoin_1 : decode cX4_keepCoin 1 = .ok (.getfield 19, 3) := by decide +kernel
theorem dX4_keepCoin_4 : decode cX4_keepCoin 4 = .ok (.aload_n 1, 1) := by decide +kernel
theorem dX4_keepCoin_5 : decode cX4_keepCoin 5 = .ok (.invokevirtual 38, 3) := by decide +kernel
theorem dX4_keepCoin_8 : decode cX4_keepCoin 8 = .ok (.pop, 1) := by decide +kernel
theorem dX4_keepCoin_9 : decode cX4_keepCoin 9 = .ok (.aload_n 0, 1) := by decide +kernel
theorem dX4_keepCoin_10 : decode cX4_keepCoin 10 = .ok (.getfield 19, 3) := by decide +kernel
theorem dX4_keepCoin_13 : decode cX4_keepCoin 13 = .ok (.invokevirtual 100, 3) := by decide +kernel
theorem dX4_keepCoin_16 : decode cX4_keepCoin 16 = .ok (.iconst 1, 1) := by decide +kernel
theorem dX4_keepCoin_17 : decode cX4_keepCoin 17 = .ok (.isub, 1) := by decide +kernel
theorem dX4_keepCoin_18 : decode cX4_keepCoin 18 = .ok (.ireturn, 1) := by decide +kernel
theorem dX4_distanceOfRows_0 : decode cX4_distanceOfRows 0 = .ok (.iconst 0, 1) := by decide +kernel
theorem dX4_distanceOfRows_1 : decode cX4_distanceOfRows 1 = .ok (.istore_n 2, 1) := by decide +kernel
theorem dX4_distanceOfRows_2 : decode cX4_distanceOfRows 2 = .ok (.iconst 0, 1) := by decide +kernel
theorem dX4_distanceOfRows_3 : decode cX4_distanceOfRows 3 = .ok (.istore_n 3, 1) := by decide +kernel
theorem dX4_distanceOfRows_4 : decode cX4_distanceOfRows 4 = .ok (.iload_n 3, 1) := by decide +kernel
theorem dX4_distanceOfRows_5 : decode cX4_distanceOfRows 5 = .ok (.aload_n 0, 1) := by decide +kernel
theorem dX4_distanceOfRows_6 : decode cX4_distanceOfRows 6 = .ok (.arraylength, 1) := by decide +kernel
theorem dX4_distanceOfRows_7 : decode cX4_distanceOfRows 7 = .ok (.if_icmp .ge 28, 3) := by decide +kernel
theorem dX4_distanceOfRows_10 : decode cX4_distanceOfRows 10 = .ok (.iload_n 3, 1) := by decide +kernel
theorem dX4_distanceOfRows_11 : decode cX4_distanceOfRows 11 = .ok (.aload_n 1, 1) := by decide +kernel
theorem dX4_distanceOfRows_12 : decode cX4_distanceOfRows 12 = .ok (.arraylength, 1) := by decide +kernel
theorem dX4_distanceOfRows_13 : decode cX4_distanceOfRows 13 = .ok (.if_icmp .ge 22, 3) := by decide +kernel
theorem dX4_distanceOfRows_16 : decode cX4_distanceOfRows 16 = .ok (.iload_n 2, 1) := by decide +kernel
theorem dX4_distanceOfRows_17 : decode cX4_distanceOfRows 17 = .ok (.aload_n 0, 1) := by decide +kernel
theorem dX4_distanceOfRows_18 : decode cX4_distanceOfRows 18 = .ok (.iload_n 3, 1) := by decide +kernel
theorem dX4_distanceOfRows_19 : decode cX4_distanceOfRows 19 = .ok (.iaload, 1) := by decide +kernel
theorem dX4_distanceOfRows_20 : decode cX4_distanceOfRows 20 = .ok (.aload_n 1, 1) := by decide +kernel
theorem dX4_distanceOfRows_21 : decode cX4_distanceOfRows 21 = .ok (.iload_n 3, 1) := by decide +kernel
theorem dX4_distanceOfRows_22 : decode cX4_distanceOfRows 22 = .ok (.iaload, 1) := by decide +kernel
theorem dX4_distanceOfRows_23 : decode cX4_distanceOfRows 23 = .ok (.isub, 1) := by decide +kernel
theorem dX4_distanceOfRows_24 : decode cX4_distanceOfRows 24 = .ok (.invokestatic 206, 3) := by decide +kernel
theorem dX4_distanceOfRows_27 : decode cX4_distanceOfRows 27 = .ok (.iadd, 1) := by decide +kernel
theorem dX4_distanceOfRows_28 : decode cX4_distanceOfRows 28 = .ok (.istore_n 2, 1) := by decide +kernel
theorem dX4_distanceOfRows_29 : decode cX4_distanceOfRows 29 = .ok (.iinc 3 1, 3) := by decide +kernel
theorem dX4_distanceOfRows_32 : decode cX4_distanceOfRows 32 = .ok (.goto (-28), 3) := by decide +kernel
theorem dX4_distanceOfRows_35 : decode cX4_distanceOfRows 35 = .ok (.iload_n 2, 1) := by decide +kernel
theorem dX4_distanceOfRows_36 : decode cX4_distanceOfRows 36 = .ok (.ireturn, 1) := by decide +kernel
theorem dX4_isColumn_0 : decode cX4_isColumn 0 = .ok (.iload_n 0, 1) := by decide +kernel
theorem dX4_isColumn_1 : decode cX4_isColumn 1 = .ok (.ifCond .lt 13, 3) := by decide +kernel
theorem dX4_isColumn_4 : decode cX4_isColumn 4 = .ok (.iload_n 0, 1) := by decide +kernel
theorem dX4_isColumn_5 : decode cX4_isColumn 5 = .ok (.bipush 16, 2) := by decide +kernel
theorem dX4_isColumn_7 : decode cX4_isColumn 7 = .ok (.if_icmp .ge 7, 3) := by decide +kernel
theorem dX4_isColumn_10 : decode cX4_isColumn 10 = .ok (.iconst 1, 1) := by decide +kernel
theorem dX4_isColumn_11 : decode cX4_isColumn 11 = .ok (.goto 4, 3) := by decide +kernel
theorem dX4_isColumn_14 : decode cX4_isColumn 14 = .ok (.iconst 0, 1) := by decide +kernel
theorem dX4_isColumn_15 : decode cX4_isColumn 15 = .ok (.ireturn, 1) := by decide +kernel
theorem dX4_isLevel_0 : decode cX4_isLevel 0 = .ok (.iload_n 0, 1) := by decide +kernel
theorem dX4_isLevel_1 : decode cX4_isLevel 1 = .ok (.ifCond .lt 13, 3) := by decide +kernel
theorem dX4_isLevel_4 : decode cX4_isLevel 4 = .ok (.iload_n 0, 1) := by decide +kernel
theorem dX4_isLevel_5 : decode cX4_isLevel 5 = .ok (.bipush 8, 2) := by decide +kernel
theorem dX4_isLevel_7 : decode cX4_isLevel 7 = .ok (.if_icmp .ge 7, 3) := by decide +kernel
theorem dX4_isLevel_10 : decode cX4_isLevel 10 = .ok (.iconst 1, 1) := by decide +kernel
theorem dX4_isLevel_11 : decode cX4_isLevel 11 = .ok (.goto 4, 3) := by decide +kernel
theorem dX4_isLevel_14 : decode cX4_isLevel 14 = .ok (.iconst 0, 1) := by decide +kernel
theorem dX4_isLevel_15 : decode cX4_isLevel 15 = .ok (.ireturn, 1) := by decide +kernel
theorem dX4_checkColumn_0 : decode cX4_checkColumn 0 = .ok (.iload_n 0, 1) := by decide +kernel
theorem dX4_checkColumn_1 : decode cX4_checkColumn 1 = .ok (.invokestatic 209, 3) := by decide +kernel
theorem dX4_checkColumn_4 : decode cX4_checkColumn 4 = .ok (.ifCond .ne 13, 3) := by decide +kernel
theorem dX4_checkColumn_7 : decode cX4_checkColumn 7 = .ok (.new 80, 3) := by decide +kernel
theorem dX4_checkColumn_10 : decode cX4_checkColumn 10 = .ok (.dup, 1) := by decide +kernel
theorem dX4_checkColumn_11 : decode cX4_checkColumn 11 = .ok (.ldc 213, 2) := by decide +kernel
theorem dX4_checkColumn_13 : decode cX4_checkColumn 13 = .ok (.invokespecial 84, 3) := by decide +kernel
theorem dX4_checkColumn_16 : decode cX4_checkColumn 16 = .ok (.athrow, 1) := by decide +kernel
theorem dX4_checkColumn_17 : decode cX4_checkColumn 17 = .ok (.return_, 1) := by decide +kernel
theorem dX4_checkLevel_0 : decode cX4_checkLevel 0 = .ok (.iload_n 0, 1) := by decide +kernel
theorem dX4_checkLevel_1 : decode cX4_checkLevel 1 = .ok (.invokestatic 215, 3) := by decide +kernel
theorem dX4_checkLevel_4 : decode cX4_checkLevel 4 = .ok (.ifCond .ne 13, 3) := by decide +kernel
theorem dX4_checkLevel_7 : decode cX4_checkLevel 7 = .ok (.new 80, 3) := by decide +kernel
theorem dX4_checkLevel_10 : decode cX4_checkLevel 10 = .ok (.dup, 1) := by decide +kernel
theorem dX4_checkLevel_11 : decode cX4_checkLevel 11 = .ok (.ldc 218, 2) := by decide +kernel
theorem dX4_checkLevel_13 : decode cX4_checkLevel 13 = .ok (.invokespecial 84, 3) := by decide +kernel
theorem dX4_checkLevel_16 : decode cX4_checkLevel 16 = .ok (.athrow, 1) := by decide +kernel
theorem dX4_checkLevel_17 : decode cX4_checkLevel 17 = .ok (.return_, 1) := by decide +kernel
theorem dX4_checkHeight_0 : decode cX4_checkHeight 0 = .ok (.iload_n 0, 1) := by decide +kernel
theorem dX4_checkHeight_1 : decode cX4_checkHeight 1 = .ok (.ifCond .lt 9, 3) := by decide +kernel
theorem dX4_checkHeight_4 : decode cX4_checkHeight 4 = .ok (.iload_n 0, 1) := by decide +kernel
theorem dX4_checkHeight_5 : decode cX4_checkHeight 5 = .ok (.bipush 8, 2) := by decide +kernel
theorem dX4_checkHeight_7 : decode cX4_checkHeight 7 = .ok (.if_icmp .le 13, 3) := by decide +kernel
theorem dX4_checkHeight_10 : decode cX4_checkHeight 10 = .ok (.new 159, 3) := by decide +kernel
theorem dX4_checkHeight_13 : decode cX4_checkHeight 13 = .ok (.dup, 1) := by decide +kernel
theorem dX4_checkHeight_14 : decode cX4_checkHeight 14 = .ok (.ldc 220, 2) := by decide +kernel
theorem dX4_checkHeight_16 : decode cX4_checkHeight 16 = .ok (.invokespecial 163, 3) := by decide +kernel
theorem dX4_checkHeight_19 : decode cX4_checkHeight 19 = .ok (.athrow, 1) := by decide +kernel
theorem dX4_checkHeight_20 : decode cX4_checkHeight 20 = .ok (.return_, 1) := by decide +kernel
theorem dX4_checkKindOrAir_0 : decode cX4_checkKindOrAir 0 = .ok (.iload_n 0, 1) := by decide +kernel
theorem dX4_checkKindOrAir_1 : decode cX4_checkKindOrAir 1 = .ok (.ifCond .lt 8, 3) := by decide +kernel
theorem dX4_checkKindOrAir_4 : decode cX4_checkKindOrAir 4 = .ok (.iload_n 0, 1) := by decide +kernel
theorem dX4_checkKindOrAir_5 : decode cX4_checkKindOrAir 5 = .ok (.iconst 3, 1) := by decide +kernel
theorem dX4_checkKindOrAir_6 : decode cX4_checkKindOrAir 6 = .ok (.if_icmp .le 13, 3) := by decide +kernel
theorem dX4_checkKindOrAir_9 : decode cX4_checkKindOrAir 9 = .ok (.new 159, 3) := by decide +kernel
theorem dX4_checkKindOrAir_12 : decode cX4_checkKindOrAir 12 = .ok (.dup, 1) := by decide +kernel
theorem dX4_checkKindOrAir_13 : decode cX4_checkKindOrAir 13 = .ok (.ldc 222, 2) := by decide +kernel
theorem dX4_checkKindOrAir_15 : decode cX4_checkKindOrAir 15 = .ok (.invokespecial 163, 3) := by decide +kernel
theorem dX4_checkKindOrAir_18 : decode cX4_checkKindOrAir 18 = .ok (.athrow, 1) := by decide +kernel
theorem dX4_checkKindOrAir_19 : decode cX4_checkKindOrAir 19 = .ok (.return_, 1) := by decide +kernel
theorem dX4_checkKindOfBlock_0 : decode cX4_checkKindOfBlock 0 = .ok (.iload_n 0, 1) := by decide +kernel
theorem dX4_checkKindOfBlock_1 : decode cX4_checkKindOfBlock 1 = .ok (.ifCond .le 8, 3) := by decide +kernel
theorem dX4_checkKindOfBlock_4 : decode cX4_checkKindOfBlock 4 = .ok (.iload_n 0, 1) := by decide +kernel
theorem dX4_checkKindOfBlock_5 : decode cX4_checkKindOfBlock 5 = .ok (.iconst 3, 1) := by decide +kernel
theorem dX4_checkKindOfBlock_6 : decode cX4_checkKindOfBlock 6 = .ok (.if_icmp .le 13, 3) := by decide +kernel
theorem dX4_checkKindOfBlock_9 : decode cX4_checkKindOfBlock 9 = .ok (.new 159, 3) := by decide +kernel
theorem dX4_checkKindOfBlock_12 : decode cX4_checkKindOfBlock 12 = .ok (.dup, 1) := by decide +kernel
theorem dX4_checkKindOfBlock_13 : decode cX4_checkKindOfBlock 13 = .ok (.ldc 222, 2) := by decide +kernel
theorem dX4_checkKindOfBlock_15 : decode cX4_checkKindOfBlock 15 = .ok (.invokespecial 163, 3) := by decide +kernel
theorem dX4_checkKindOfBlock_18 : decode cX4_checkKindOfBlock 18 = .ok (.athrow, 1) := by decide +kernel
theorem dX4_checkKindOfBlock_19 : decode cX4_checkKindOfBlock 19 = .ok (.return_, 1) := by decide +kernel
theorem dX4_checkState_0 : decode cX4_checkState 0 = .ok (.iload_n 1, 1) := by decide +kernel
theorem dX4_checkState_1 : decode cX4_checkState 1 = .ok (.ifCond .lt 14, 3) := by decide +kernel
theorem dX4_checkState_4 : decode cX4_checkState 4 = .ok (.iload_n 1, 1) := by decide +kernel
theorem dX4_checkState_5 : decode cX4_checkState 5 = .ok (.aload_n 0, 1) := by decide +kernel
theorem dX4_checkState_6 : decode cX4_checkState 6 = .ok (.getfield 12, 3) := by decide +kernel
theorem dX4_checkState_9 : decode cX4_checkState 9 = .ok (.invokevirtual 100, 3) := by decide +kernel
theorem dX4_checkState_12 : decode cX4_checkState 12 = .ok (.if_icmp .lt 13, 3) := by decide +kernel
theorem dX4_checkState_15 : decode cX4_checkState 15 = .ok (.new 80, 3) := by decide +kernel
theorem dX4_checkState_18 : decode cX4_checkState 18 = .ok (.dup, 1) := by decide +kernel
theorem dX4_checkState_19 : decode cX4_checkState 19 = .ok (.ldc 224, 2) := by decide +kernel
theorem dX4_checkState_21 : decode cX4_checkState 21 = .ok (.invokespecial 84, 3) := by decide +kernel
theorem dX4_checkState_24 : decode cX4_checkState 24 = .ok (.athrow, 1) := by decide +kernel
theorem dX4_checkState_25 : decode cX4_checkState 25 = .ok (.return_, 1) := by decide +kernel
theorem dX4_checkDie_0 : decode cX4_checkDie 0 = .ok (.iload_n 1, 1) := by decide +kernel
theorem dX4_checkDie_1 : decode cX4_checkDie 1 = .ok (.ifCond .lt 14, 3) := by decide +kernel
theorem dX4_checkDie_4 : decode cX4_checkDie 4 = .ok (.iload_n 1, 1) := by decide +kernel
theorem dX4_checkDie_5 : decode cX4_checkDie 5 = .ok (.aload_n 0, 1) := by decide +kernel
theorem dX4_checkDie_6 : decode cX4_checkDie 6 = .ok (.getfield 16, 3) := by decide +kernel
theorem dX4_checkDie_9 : decode cX4_checkDie 9 = .ok (.invokevirtual 100, 3) := by decide +kernel
theorem dX4_checkDie_12 : decode cX4_checkDie 12 = .ok (.if_icmp .lt 13, 3) := by decide +kernel
theorem dX4_checkDie_15 : decode cX4_checkDie 15 = .ok (.new 80, 3) := by decide +kernel
theorem dX4_checkDie_18 : decode cX4_checkDie 18 = .ok (.dup, 1) := by decide +kernel
theorem dX4_checkDie_19 : decode cX4_checkDie 19 = .ok (.ldc 226, 2) := by decide +kernel
theorem dX4_checkDie_21 : decode cX4_checkDie 21 = .ok (.invokespecial 84, 3) := by decide +kernel
theorem dX4_checkDie_24 : decode cX4_checkDie 24 = .ok (.athrow, 1) := by decide +kernel
theorem dX4_checkDie_25 : decode cX4_checkDie 25 = .ok (.return_, 1) := by decide +kernel
theorem dX4_checkCoin_0 : decode cX4_checkCoin 0 = .ok (.iload_n 1, 1) := by decide +kernel
theorem dX4_checkCoin_1 : decode cX4_checkCoin 1 = .ok (.ifCond .lt 14, 3) := by decide +kernel
theorem dX4_checkCoin_4 : decode cX4_checkCoin 4 = .ok (.iload_n 1, 1) := by decide +kernel
theorem dX4_checkCoin_5 : decode cX4_checkCoin 5 = .ok (.aload_n 0, 1) := by decide +kernel
theorem dX4_checkCoin_6 : decode cX4_checkCoin 6 = .ok (.getfield 19, 3) := by decide +kernel
theorem dX4_checkCoin_9 : decode cX4_checkCoin 9 = .ok (.invokevirtual 100, 3) := by decide +kernel
theorem dX4_checkCoin_12 : decode cX4_checkCoin 12 = .ok (.if_icmp .lt 13, 3) := by decide +kernel
theorem dX4_checkCoin_15 : decode cX4_checkCoin 15 = .ok (.new 80, 3) := by decide +kernel
theorem dX4_checkCoin_18 : decode cX4_checkCoin 18 = .ok (.dup, 1) := by decide +kernel
theorem dX4_checkCoin_19 : decode cX4_checkCoin 19 = .ok (.ldc 228, 2) := by decide +kernel
theorem dX4_checkCoin_21 : decode cX4_checkCoin 21 = .ok (.invokespecial 84, 3) := by decide +kernel
theorem dX4_checkCoin_24 : decode cX4_checkCoin 24 = .ok (.athrow, 1) := by decide +kernel
theorem dX4_checkCoin_25 : decode cX4_checkCoin 25 = .ok (.return_, 1) := by decide +kernel
theorem dX4_checkRoomForState_0 : decode cX4_checkRoomForState 0 = .ok (.aload_n 0, 1) := by decide +kernel
theorem dX4_checkRoomForState_1 : decode cX4_checkRoomForState 1 = .ok (.getfield 12, 3) := by decide +kernel
theorem dX4_checkRoomForState_4 : decode cX4_checkRoomForState 4 = .ok (.invokevirtual 100, 3) := by decide +kernel
theorem dX4_checkRoomForState_7 : decode cX4_checkRoomForState 7 = .ok (.bipush 61, 2) := by decide +kernel
theorem dX4_checkRoomForState_9 : decode cX4_checkRoomForState 9 = .ok (.if_icmp .lt 13, 3) := by decide +kernel
theorem dX4_checkRoomForState_12 : decode cX4_checkRoomForState 12 = .ok (.new 114, 3) := by decide +kernel
theorem dX4_checkRoomForState_15 : decode cX4_checkRoomForState 15 = .ok (.dup, 1) := by decide +kernel
theorem dX4_checkRoomForState_16 : decode cX4_checkRoomForState 16 = .ok (.ldc 230, 2) := by decide +kernel
theorem dX4_checkRoomForState_18 : decode cX4_checkRoomForState 18 = .ok (.invokespecial 118, 3) := by decide +kernel
theorem dX4_checkRoomForState_21 : decode cX4_checkRoomForState 21 = .ok (.athrow, 1) := by decide +kernel
theorem dX4_checkRoomForState_22 : decode cX4_checkRoomForState 22 = .ok (.return_, 1) := by decide +kernel
theorem dX4_checkRoomForCoin_0 : decode cX4_checkRoomForCoin 0 = .ok (.aload_n 0, 1) := by decide +kernel
theorem dX4_checkRoomForCoin_1 : decode cX4_checkRoomForCoin 1 = .ok (.getfield 19, 3) := by decide +kernel
theorem dX4_checkRoomForCoin_4 : decode cX4_checkRoomForCoin 4 = .ok (.invokevirtual 100, 3) := by decide +kernel
theorem dX4_checkRoomForCoin_7 : decode cX4_checkRoomForCoin 7 = .ok (.bipush 60, 2) := by decide +kernel
theorem dX4_checkRoomForCoin_9 : decode cX4_checkRoomForCoin 9 = .ok (.if_icmp .lt 13, 3) := by decide +kernel
theorem dX4_checkRoomForCoin_12 : decode cX4_checkRoomForCoin 12 = .ok (.new 114, 3) := by decide +kernel
theorem dX4_checkRoomForCoin_15 : decode cX4_checkRoomForCoin 15 = .ok (.dup, 1) := by decide +kernel
theorem dX4_checkRoomForCoin_16 : decode cX4_checkRoomForCoin 16 = .ok (.ldc 232, 2) := by decide +kernel
theorem dX4_checkRoomForCoin_18 : decode cX4_checkRoomForCoin 18 = .ok (.invokespecial 118, 3) := by decide +kernel
theorem dX4_checkRoomForCoin_21 : decode cX4_checkRoomForCoin 21 = .ok (.athrow, 1) := by decide +kernel
theorem dX4_checkRoomForCoin_22 : decode cX4_checkRoomForCoin 22 = .ok (.return_, 1) := by decide +kernel
theorem dJ9_abs_0f7a4_0 : decode cJ9_abs_0f7a4 0 = .ok (.iload_n 0, 1) := by decide +kernel
theorem dJ9_abs_0f7a4_1 : decode cJ9_abs_0f7a4 1 = .ok (.ifCond .ge 8, 3) := by decide +kernel
theorem dJ9_abs_0f7a4_4 : decode cJ9_abs_0f7a4 4 = .ok (.iload_n 0, 1) := by decide +kernel
theorem dJ9_abs_0f7a4_5 : decode cJ9_abs_0f7a4 5 = .ok (.ineg, 1) := by decide +kernel
theorem dJ9_abs_0f7a4_6 : decode cJ9_abs_0f7a4 6 = .ok (.goto 4, 3) := by decide +kernel
theorem dJ9_abs_0f7a4_9 : decode cJ9_abs_0f7a4 9 = .ok (.iload_n 0, 1) := by decide +kernel
theorem dJ9_abs_0f7a4_10 : decode cJ9_abs_0f7a4 10 = .ok (.ireturn, 1) := by decide +kernel
theorem dJ9_max_7cf53_0 : decode cJ9_max_7cf53 0 = .ok (.iload_n 0, 1) := by decide +kernel
theorem dJ9_max_7cf53_1 : decode cJ9_max_7cf53 1 = .ok (.iload_n 1, 1) := by decide +kernel
theorem dJ9_max_7cf53_2 : decode cJ9_max_7cf53 2 = .ok (.if_icmp .lt 7, 3) := by decide +kernel
theorem dJ9_max_7cf53_5 : decode cJ9_max_7cf53 5 = .ok (.iload_n 0, 1) := by decide +kernel
theorem dJ9_max_7cf53_6 : decode cJ9_max_7cf53 6 = .ok (.goto 4, 3) := by decide +kernel
theorem dJ9_max_7cf53_9 : decode cJ9_max_7cf53 9 = .ok (.iload_n 1, 1) := by decide +kernel
theorem dJ9_max_7cf53_10 : decode cJ9_max_7cf53 10 = .ok (.ireturn, 1) := by decide +kernel
theorem dJ9_min_7cf53_0 : decode cJ9_min_7cf53 0 = .ok (.iload_n 0, 1) := by decide +kernel
theorem dJ9_min_7cf53_1 : decode cJ9_min_7cf53 1 = .ok (.iload_n 1, 1) := by decide +kernel
theorem dJ9_min_7cf53_2 : decode cJ9_min_7cf53 2 = .ok (.if_icmp .gt 7, 3) := by decide +kernel
theorem dJ9_min_7cf53_5 : decode cJ9_min_7cf53 5 = .ok (.iload_n 0, 1) := by decide +kernel
theorem dJ9_min_7cf53_6 : decode cJ9_min_7cf53 6 = .ok (.goto 4, 3) := by decide +kernel
theorem dJ9_min_7cf53_9 : decode cJ9_min_7cf53 9 = .ok (.iload_n 1, 1) := by decide +kernel
theorem dJ9_min_7cf53_10 : decode cJ9_min_7cf53 10 = .ok (.ireturn, 1) := by decide +kernel
theorem dJxa1e45_init_da8c8_0 : decode cJxa1e45_init_da8c8 0 = .ok (.aload_n 0, 1) := by decide +kernel
theorem dJxa1e45_init_da8c8_1 : decode cJxa1e45_init_da8c8 1 = .ok (.invokespecial 1, 3) := by decide +kernel
theorem dJxa1e45_init_da8c8_4 : decode cJxa1e45_init_da8c8 4 = .ok (.return_, 1) := by decide +kernel
theorem dJxc12de_init_da8c8_0 : decode cJxc12de_init_da8c8 0 = .ok (.aload_n 0, 1) := by decide +kernel
theorem dJxc12de_init_da8c8_1 : decode cJxc12de_init_da8c8 1 = .ok (.invokespecial 1, 3) := by decide +kernel
theorem dJxc12de_init_da8c8_4 : decode cJxc12de_init_da8c8 4 = .ok (.aload_n 0, 1) := by decide +kernel
theorem dJxc12de_init_da8c8_5 : decode cJxc12de_init_da8c8 5 = .ok (.iconst 0, 1) := by decide +kernel
theorem dJxc12de_init_da8c8_6 : decode cJxc12de_init_da8c8 6 = .ok (.putfield 7, 3) := by decide +kernel
theorem dJxc12de_init_da8c8_9 : decode cJxc12de_init_da8c8 9 = .ok (.return_, 1) := by decide +kernel
theorem dJx4a65c_init_da8c8_0 : decode cJx4a65c_init_da8c8 0 = .ok (.aload_n 0, 1) := by decide +kernel
theorem dJx4a65c_init_da8c8_1 : decode cJx4a65c_init_da8c8 1 = .ok (.invokespecial 1, 3) := by decide +kernel
theorem dJx4a65c_init_da8c8_4 : decode cJx4a65c_init_da8c8 4 = .ok (.aload_n 0, 1) := by decide +kernel
theorem dJx4a65c_init_da8c8_5 : decode cJx4a65c_init_da8c8 5 = .ok (.getstatic 39, 3) := by decide +kernel
theorem dJx4a65c_init_da8c8_8 : decode cJx4a65c_init_da8c8 8 = .ok (.putfield 9, 3) := by decide +kernel
theorem dJx4a65c_init_da8c8_11 : decode cJx4a65c_init_da8c8 11 = .ok (.return_, 1) := by decide +kernel
theorem dJx4a65c_grow_92f84_0 : decode cJx4a65c_grow_92f84 0 = .ok (.aload_n 0, 1) := by decide +kernel
theorem dJx4a65c_grow_92f84_1 : decode cJx4a65c_grow_92f84 1 = .ok (.getfield 9, 3) := by decide +kernel
theorem dJx4a65c_grow_92f84_4 : decode cJx4a65c_grow_92f84 4 = .ok (.arraylength, 1) := by decide +kernel
theorem dJx4a65c_grow_92f84_5 : decode cJx4a65c_grow_92f84 5 = .ok (.istore_n 2, 1) := by decide +kernel
theorem dJx4a65c_grow_92f84_6 : decode cJx4a65c_grow_92f84 6 = .ok (.iload_n 2, 1) := by decide +kernel
theorem dJx4a65c_grow_92f84_7 : decode cJx4a65c_grow_92f84 7 = .ok (.ifCond .gt 13, 3) := by decide +kernel
theorem dJx4a65c_grow_92f84_10 : decode cJx4a65c_grow_92f84 10 = .ok (.aload_n 0, 1) := by decide +kernel
theorem dJx4a65c_grow_92f84_11 : decode cJx4a65c_grow_92f84 11 = .ok (.getfield 9, 3) := by decide +kernel
theorem dJx4a65c_grow_92f84_14 : decode cJx4a65c_grow_92f84 14 = .ok (.getstatic 39, 3) := by decide +kernel
theorem dJx4a65c_grow_92f84_17 : decode cJx4a65c_grow_92f84 17 = .ok (.if_acmp .eq 28, 3) := by decide +kernel
theorem dJx4a65c_grow_92f84_20 : decode cJx4a65c_grow_92f84 20 = .ok (.iload_n 2, 1) := by decide +kernel
theorem dJx4a65c_grow_92f84_21 : decode cJx4a65c_grow_92f84 21 = .ok (.iload_n 1, 1) := by decide +kernel
theorem dJx4a65c_grow_92f84_22 : decode cJx4a65c_grow_92f84 22 = .ok (.iload_n 2, 1) := by decide +kernel
theorem dJx4a65c_grow_92f84_23 : decode cJx4a65c_grow_92f84 23 = .ok (.isub, 1) := by decide +kernel
theorem dJx4a65c_grow_92f84_24 : decode cJx4a65c_grow_92f84 24 = .ok (.iload_n 2, 1) := by decide +kernel
theorem dJx4a65c_grow_92f84_25 : decode cJx4a65c_grow_92f84 25 = .ok (.iconst 1, 1) := by decide +kernel
theorem dJx4a65c_grow_92f84_26 : decode cJx4a65c_grow_92f84 26 = .ok (.ishr, 1) := by decide +kernel
theorem dJx4a65c_grow_92f84_27 : decode cJx4a65c_grow_92f84 27 = .ok (.invokestatic 73, 3) := by decide +kernel
theorem dJx4a65c_grow_92f84_30 : decode cJx4a65c_grow_92f84 30 = .ok (.istore_n 3, 1) := by decide +kernel
theorem dJx4a65c_grow_92f84_31 : decode cJx4a65c_grow_92f84 31 = .ok (.aload_n 0, 1) := by decide +kernel
theorem dJx4a65c_grow_92f84_32 : decode cJx4a65c_grow_92f84 32 = .ok (.aload_n 0, 1) := by decide +kernel
theorem dJx4a65c_grow_92f84_33 : decode cJx4a65c_grow_92f84 33 = .ok (.getfield 9, 3) := by decide +kernel
theorem dJx4a65c_grow_92f84_36 : decode cJx4a65c_grow_92f84 36 = .ok (.iload_n 3, 1) := by decide +kernel
theorem dJx4a65c_grow_92f84_37 : decode cJx4a65c_grow_92f84 37 = .ok (.invokestatic 66, 3) := by decide +kernel
theorem dJx4a65c_grow_92f84_40 : decode cJx4a65c_grow_92f84 40 = .ok (.dup_x1, 1) := by decide +kernel
theorem dJx4a65c_grow_92f84_41 : decode cJx4a65c_grow_92f84 41 = .ok (.putfield 9, 3) := by decide +kernel
theorem dJx4a65c_grow_92f84_44 : decode cJx4a65c_grow_92f84 44 = .ok (.areturn, 1) := by decide +kernel
theorem dJx4a65c_grow_92f84_45 : decode cJx4a65c_grow_92f84 45 = .ok (.aload_n 0, 1) := by decide +kernel
theorem dJx4a65c_grow_92f84_46 : decode cJx4a65c_grow_92f84 46 = .ok (.bipush 10, 2) := by decide +kernel
theorem dJx4a65c_grow_92f84_48 : decode cJx4a65c_grow_92f84 48 = .ok (.iload_n 1, 1) := by decide +kernel
theorem dJx4a65c_grow_92f84_49 : decode cJx4a65c_grow_92f84 49 = .ok (.invokestatic 79, 3) := by decide +kernel
theorem dJx4a65c_grow_92f84_52 : decode cJx4a65c_grow_92f84 52 = .ok (.anewarray 7, 3) := by decide +kernel
theorem dJx4a65c_grow_92f84_55 : decode cJx4a65c_grow_92f84 55 = .ok (.dup_x1, 1) := by decide +kernel
theorem dJx4a65c_grow_92f84_56 : decode cJx4a65c_grow_92f84 56 = .ok (.putfield 9, 3) := by decide +kernel
theorem dJx4a65c_grow_92f84_59 : decode cJx4a65c_grow_92f84 59 = .ok (.areturn, 1) := by decide +kernel
theorem dJx4a65c_grow_d5877_0 : decode cJx4a65c_grow_d5877 0 = .ok (.aload_n 0, 1) := by decide +kernel
theorem dJx4a65c_grow_d5877_1 : decode cJx4a65c_grow_d5877 1 = .ok (.aload_n 0, 1) := by decide +kernel
theorem dJx4a65c_grow_d5877_2 : decode cJx4a65c_grow_d5877 2 = .ok (.getfield 48, 3) := by decide +kernel
theorem dJx4a65c_grow_d5877_5 : decode cJx4a65c_grow_d5877 5 = .ok (.iconst 1, 1) := by decide +kernel
theorem dJx4a65c_grow_d5877_6 : decode cJx4a65c_grow_d5877 6 = .ok (.iadd, 1) := by decide +kernel
theorem dJx4a65c_grow_d5877_7 : decode cJx4a65c_grow_d5877 7 = .ok (.invokevirtual 69, 3) := by decide +kernel
theorem dJx4a65c_grow_d5877_10 : decode cJx4a65c_grow_d5877 10 = .ok (.areturn, 1) := by decide +kernel
theorem dJx4a65c_size_8abf5_0 : decode cJx4a65c_size_8abf5 0 = .ok (.aload_n 0, 1) := by decide +kernel
theorem dJx4a65c_size_8abf5_1 : decode cJx4a65c_size_8abf5 1 = .ok (.getfield 48, 3) := by decide +kernel
theorem dJx4a65c_size_8abf5_4 : decode cJx4a65c_size_8abf5 4 = .ok (.ireturn, 1) := by decide +kernel
theorem dJx4a65c_elementData_915e3_0 : decode cJx4a65c_elementData_915e3 0 = .ok (.aload_n 0, 1) := by decide +kernel
theorem dJx4a65c_elementData_915e3_1 : decode cJx4a65c_elementData_915e3 1 = .ok (.getfield 9, 3) := by decide +kernel
theorem dJx4a65c_elementData_915e3_4 : decode cJx4a65c_elementData_915e3 4 = .ok (.iload_n 1, 1) := by decide +kernel
theorem dJx4a65c_elementData_915e3_5 : decode cJx4a65c_elementData_915e3 5 = .ok (.aaload, 1) := by decide +kernel
theorem dJx4a65c_elementData_915e3_6 : decode cJx4a65c_elementData_915e3 6 = .ok (.areturn, 1) := by decide +kernel
theorem dJx4a65c_get_915e3_0 : decode cJx4a65c_get_915e3 0 = .ok (.iload_n 1, 1) := by decide +kernel
theorem dJx4a65c_get_915e3_1 : decode cJx4a65c_get_915e3 1 = .ok (.aload_n 0, 1) := by decide +kernel
theorem dJx4a65c_get_915e3_2 : decode cJx4a65c_get_915e3 2 = .ok (.getfield 48, 3) := by decide +kernel
theorem dJx4a65c_get_915e3_5 : decode cJx4a65c_get_915e3 5 = .ok (.invokestatic 118, 3) := by decide +kernel
theorem dJx4a65c_get_915e3_8 : decode cJx4a65c_get_915e3 8 = .ok (.pop, 1) := by decide +kernel
theorem dJx4a65c_get_915e3_9 : decode cJx4a65c_get_915e3 9 = .ok (.aload_n 0, 1) := by decide +kernel
theorem dJx4a65c_get_915e3_10 : decode cJx4a65c_get_915e3 10 = .ok (.iload_n 1, 1) := by decide +kernel
theorem dJx4a65c_get_915e3_11 : decode cJx4a65c_get_915e3 11 = .ok (.invokevirtual 123, 3) := by decide +kernel
theorem dJx4a65c_get_915e3_14 : decode cJx4a65c_get_915e3 14 = .ok (.areturn, 1) := by decide +kernel
theorem dJx4a65c_add_72be8_0 : decode cJx4a65c_add_72be8 0 = .ok (.iload_n 3, 1) := by decide +kernel
theorem dJx4a65c_add_72be8_1 : decode cJx4a65c_add_72be8 1 = .ok (.aload_n 2, 1) := by decide +kernel
theorem dJx4a65c_add_72be8_2 : decode cJx4a65c_add_72be8 2 = .ok (.arraylength, 1) := by decide +kernel
theorem dJx4a65c_add_72be8_3 : decode cJx4a65c_add_72be8 3 = .ok (.if_icmp .ne 8, 3) := by decide +kernel
theorem dJx4a65c_add_72be8_6 : decode cJx4a65c_add_72be8 6 = .ok (.aload_n 0, 1) := by decide +kernel
theorem dJx4a65c_add_72be8_7 : decode cJx4a65c_add_72be8 7 = .ok (.invokevirtual 129, 3) := by decide +kernel
theorem dJx4a65c_add_72be8_10 : decode cJx4a65c_add_72be8 10 = .ok (.astore_n 2, 1) := by decide +kernel
theorem dJx4a65c_add_72be8_11 : decode cJx4a65c_add_72be8 11 = .ok (.aload_n 2, 1) := by decide +kernel
theorem dJx4a65c_add_72be8_12 : decode cJx4a65c_add_72be8 12 = .ok (.iload_n 3, 1) := by decide +kernel
theorem dJx4a65c_add_72be8_13 : decode cJx4a65c_add_72be8 13 = .ok (.aload_n 1, 1) := by decide +kernel
theorem dJx4a65c_add_72be8_14 : decode cJx4a65c_add_72be8 14 = .ok (.aastore, 1) := by decide +kernel
theorem dJx4a65c_add_72be8_15 : decode cJx4a65c_add_72be8 15 = .ok (.aload_n 0, 1) := by decide +kernel
theorem dJx4a65c_add_72be8_16 : decode cJx4a65c_add_72be8 16 = .ok (.iload_n 3, 1) := by decide +kernel
theorem dJx4a65c_add_72be8_17 : decode cJx4a65c_add_72be8 17 = .ok (.iconst 1, 1) := by decide +kernel
theorem dJx4a65c_add_72be8_18 : decode cJx4a65c_add_72be8 18 = .ok (.iadd, 1) := by decide +kernel
theorem dJx4a65c_add_72be8_19 : decode cJx4a65c_add_72be8 19 = .ok (.putfield 48, 3) := by decide +kernel
theorem dJx4a65c_add_72be8_22 : decode cJx4a65c_add_72be8 22 = .ok (.return_, 1) := by decide +kernel
theorem dJx4a65c_add_9ea2d_0 : decode cJx4a65c_add_9ea2d 0 = .ok (.aload_n 0, 1) := by decide +kernel
theorem dJx4a65c_add_9ea2d_1 : decode cJx4a65c_add_9ea2d 1 = .ok (.dup, 1) := by decide +kernel
theorem dJx4a65c_add_9ea2d_2 : decode cJx4a65c_add_9ea2d 2 = .ok (.getfield 63, 3) := by decide +kernel
theorem dJx4a65c_add_9ea2d_5 : decode cJx4a65c_add_9ea2d 5 = .ok (.iconst 1, 1) := by decide +kernel
theorem dJx4a65c_add_9ea2d_6 : decode cJx4a65c_add_9ea2d 6 = .ok (.iadd, 1) := by decide +kernel
theorem dJx4a65c_add_9ea2d_7 : decode cJx4a65c_add_9ea2d 7 = .ok (.putfield 63, 3) := by decide +kernel
theorem dJx4a65c_add_9ea2d_10 : decode cJx4a65c_add_9ea2d 10 = .ok (.aload_n 0, 1) := by decide +kernel
theorem dJx4a65c_add_9ea2d_11 : decode cJx4a65c_add_9ea2d 11 = .ok (.aload_n 1, 1) := by decide +kernel
theorem dJx4a65c_add_9ea2d_12 : decode cJx4a65c_add_9ea2d 12 = .ok (.aload_n 0, 1) := by decide +kernel
theorem dJx4a65c_add_9ea2d_13 : decode cJx4a65c_add_9ea2d 13 = .ok (.getfield 9, 3) := by decide +kernel
theorem dJx4a65c_add_9ea2d_16 : decode cJx4a65c_add_9ea2d 16 = .ok (.aload_n 0, 1) := by decide +kernel
theorem dJx4a65c_add_9ea2d_17 : decode cJx4a65c_add_9ea2d 17 = .ok (.getfield 48, 3) := by decide +kernel
theorem dJx4a65c_add_9ea2d_20 : decode cJx4a65c_add_9ea2d 20 = .ok (.invokevirtual 131, 3) := by decide +kernel
theorem dJx4a65c_add_9ea2d_23 : decode cJx4a65c_add_9ea2d 23 = .ok (.iconst 1, 1) := by decide +kernel
theorem dJx4a65c_add_9ea2d_24 : decode cJx4a65c_add_9ea2d 24 = .ok (.ireturn, 1) := by decide +kernel
theorem dJ7_fill_53178_0 : decode cJ7_fill_53178 0 = .ok (.iconst 0, 1) := by decide +kernel
theorem dJ7_fill_53178_1 : decode cJ7_fill_53178 1 = .ok (.istore_n 2, 1) := by decide +kernel
theorem dJ7_fill_53178_2 : decode cJ7_fill_53178 2 = .ok (.aload_n 0, 1) := by decide +kernel
theorem dJ7_fill_53178_3 : decode cJ7_fill_53178 3 = .ok (.arraylength, 1) := by decide +kernel
theorem dJ7_fill_53178_4 : decode cJ7_fill_53178 4 = .ok (.istore_n 3, 1) := by decide +kernel
theorem dJ7_fill_53178_5 : decode cJ7_fill_53178 5 = .ok (.iload_n 2, 1) := by decide +kernel
theorem dJ7_fill_53178_6 : decode cJ7_fill_53178 6 = .ok (.iload_n 3, 1) := by decide +kernel
theorem dJ7_fill_53178_7 : decode cJ7_fill_53178 7 = .ok (.if_icmp .ge 13, 3) := by decide +kernel
theorem dJ7_fill_53178_10 : decode cJ7_fill_53178 10 = .ok (.aload_n 0, 1) := by decide +kernel
theorem dJ7_fill_53178_11 : decode cJ7_fill_53178 11 = .ok (.iload_n 2, 1) := by decide +kernel
theorem dJ7_fill_53178_12 : decode cJ7_fill_53178 12 = .ok (.iload_n 1, 1) := by decide +kernel
theorem dJ7_fill_53178_13 : decode cJ7_fill_53178 13 = .ok (.iastore, 1) := by decide +kernel
theorem dJ7_fill_53178_14 : decode cJ7_fill_53178 14 = .ok (.iinc 2 1, 3) := by decide +kernel
theorem dJ7_fill_53178_17 : decode cJ7_fill_53178 17 = .ok (.goto (-12), 3) := by decide +kernel
theorem dJ7_fill_53178_20 : decode cJ7_fill_53178 20 = .ok (.return_, 1) := by decide +kernel
theorem dJ7_copyOf_1904c_0 : decode cJ7_copyOf_1904c 0 = .ok (.aload_n 0, 1) := by decide +kernel
theorem dJ7_copyOf_1904c_1 : decode cJ7_copyOf_1904c 1 = .ok (.iload_n 1, 1) := by decide +kernel
theorem dJ7_copyOf_1904c_2 : decode cJ7_copyOf_1904c 2 = .ok (.aload_n 0, 1) := by decide +kernel
theorem dJ7_copyOf_1904c_3 : decode cJ7_copyOf_1904c 3 = .ok (.invokevirtual 86, 3) := by decide +kernel
theorem dJ7_copyOf_1904c_6 : decode cJ7_copyOf_1904c 6 = .ok (.invokestatic 300, 3) := by decide +kernel
theorem dJ7_copyOf_1904c_9 : decode cJ7_copyOf_1904c 9 = .ok (.areturn, 1) := by decide +kernel
theorem dJ7_copyOf_6403c_0 : decode cJ7_copyOf_6403c 0 = .ok (.aload_n 2, 1) := by decide +kernel
theorem dJ7_copyOf_6403c_1 : decode cJ7_copyOf_6403c 1 = .ok (.ldc 110, 2) := by decide +kernel
theorem dJ7_copyOf_6403c_3 : decode cJ7_copyOf_6403c 3 = .ok (.if_acmp .ne 10, 3) := by decide +kernel
theorem dJ7_copyOf_6403c_6 : decode cJ7_copyOf_6403c 6 = .ok (.iload_n 1, 1) := by decide +kernel
theorem dJ7_copyOf_6403c_7 : decode cJ7_copyOf_6403c 7 = .ok (.anewarray 2, 3) := by decide +kernel
theorem dJ7_copyOf_6403c_10 : decode cJ7_copyOf_6403c 10 = .ok (.goto 14, 3) := by decide +kernel
theorem dJ7_copyOf_6403c_13 : decode cJ7_copyOf_6403c 13 = .ok (.aload_n 2, 1) := by decide +kernel
theorem dJ7_copyOf_6403c_14 : decode cJ7_copyOf_6403c 14 = .ok (.invokevirtual 90, 3) := by decide +kernel
theorem dJ7_copyOf_6403c_17 : decode cJ7_copyOf_6403c 17 = .ok (.iload_n 1, 1) := by decide +kernel
theorem dJ7_copyOf_6403c_18 : decode cJ7_copyOf_6403c 18 = .ok (.invokestatic 95, 3) := by decide +kernel
theorem dJ7_copyOf_6403c_21 : decode cJ7_copyOf_6403c 21 = .ok (.checkcast 110, 3) := by decide +kernel
theorem dJ7_copyOf_6403c_24 : decode cJ7_copyOf_6403c 24 = .ok (.astore_n 3, 1) := by decide +kernel
theorem dJ7_copyOf_6403c_25 : decode cJ7_copyOf_6403c 25 = .ok (.aload_n 0, 1) := by decide +kernel
theorem dJ7_copyOf_6403c_26 : decode cJ7_copyOf_6403c 26 = .ok (.iconst 0, 1) := by decide +kernel
theorem dJ7_copyOf_6403c_27 : decode cJ7_copyOf_6403c 27 = .ok (.aload_n 3, 1) := by decide +kernel
theorem dJ7_copyOf_6403c_28 : decode cJ7_copyOf_6403c 28 = .ok (.iconst 0, 1) := by decide +kernel
theorem dJ7_copyOf_6403c_29 : decode cJ7_copyOf_6403c 29 = .ok (.aload_n 0, 1) := by decide +kernel
theorem dJ7_copyOf_6403c_30 : decode cJ7_copyOf_6403c 30 = .ok (.arraylength, 1) := by decide +kernel
theorem dJ7_copyOf_6403c_31 : decode cJ7_copyOf_6403c 31 = .ok (.iload_n 1, 1) := by decide +kernel
theorem dJ7_copyOf_6403c_32 : decode cJ7_copyOf_6403c 32 = .ok (.invokestatic 304, 3) := by decide +kernel
theorem dJ7_copyOf_6403c_35 : decode cJ7_copyOf_6403c 35 = .ok (.invokestatic 150, 3) := by decide +kernel
theorem dJ7_copyOf_6403c_38 : decode cJ7_copyOf_6403c 38 = .ok (.aload_n 3, 1) := by decide +kernel
theorem dJ7_copyOf_6403c_39 : decode cJ7_copyOf_6403c 39 = .ok (.areturn, 1) := by decide +kernel
theorem dJ15_checkIndex_7cf53_0 : decode cJ15_checkIndex_7cf53 0 = .ok (.iload_n 0, 1) := by decide +kernel
theorem dJ15_checkIndex_7cf53_1 : decode cJ15_checkIndex_7cf53 1 = .ok (.iload_n 1, 1) := by decide +kernel
theorem dJ15_checkIndex_7cf53_2 : decode cJ15_checkIndex_7cf53 2 = .ok (.aconst_null, 1) := by decide +kernel
theorem dJ15_checkIndex_7cf53_3 : decode cJ15_checkIndex_7cf53 3 = .ok (.invokestatic 105, 3) := by decide +kernel
theorem dJ15_checkIndex_7cf53_6 : decode cJ15_checkIndex_7cf53 6 = .ok (.ireturn, 1) := by decide +kernel
theorem dJ8_newLength_cabcc_0 : decode cJ8_newLength_cabcc 0 = .ok (.iload_n 0, 1) := by decide +kernel
theorem dJ8_newLength_cabcc_1 : decode cJ8_newLength_cabcc 1 = .ok (.iload_n 1, 1) := by decide +kernel
theorem dJ8_newLength_cabcc_2 : decode cJ8_newLength_cabcc 2 = .ok (.iload_n 2, 1) := by decide +kernel
theorem dJ8_newLength_cabcc_3 : decode cJ8_newLength_cabcc 3 = .ok (.invokestatic 194, 3) := by decide +kernel
theorem dJ8_newLength_cabcc_6 : decode cJ8_newLength_cabcc 6 = .ok (.iadd, 1) := by decide +kernel
theorem dJ8_newLength_cabcc_7 : decode cJ8_newLength_cabcc 7 = .ok (.istore_n 3, 1) := by decide +kernel
theorem dJ8_newLength_cabcc_8 : decode cJ8_newLength_cabcc 8 = .ok (.iconst 0, 1) := by decide +kernel
theorem dJ8_newLength_cabcc_9 : decode cJ8_newLength_cabcc 9 = .ok (.iload_n 3, 1) := by decide +kernel
theorem dJ8_newLength_cabcc_10 : decode cJ8_newLength_cabcc 10 = .ok (.if_icmp .ge 11, 3) := by decide +kernel
theorem dJ8_newLength_cabcc_13 : decode cJ8_newLength_cabcc 13 = .ok (.iload_n 3, 1) := by decide +kernel
theorem dJ8_newLength_cabcc_14 : decode cJ8_newLength_cabcc 14 = .ok (.ldc 200, 2) := by decide +kernel
theorem dJ8_newLength_cabcc_16 : decode cJ8_newLength_cabcc 16 = .ok (.if_icmp .gt 5, 3) := by decide +kernel
theorem dJ8_newLength_cabcc_19 : decode cJ8_newLength_cabcc 19 = .ok (.iload_n 3, 1) := by decide +kernel
theorem dJ8_newLength_cabcc_20 : decode cJ8_newLength_cabcc 20 = .ok (.ireturn, 1) := by decide +kernel
theorem dJ8_newLength_cabcc_21 : decode cJ8_newLength_cabcc 21 = .ok (.iload_n 0, 1) := by decide +kernel
theorem dJ8_newLength_cabcc_22 : decode cJ8_newLength_cabcc 22 = .ok (.iload_n 1, 1) := by decide +kernel
theorem dJ8_newLength_cabcc_23 : decode cJ8_newLength_cabcc 23 = .ok (.invokestatic 201, 3) := by decide +kernel
theorem dJ8_newLength_cabcc_26 : decode cJ8_newLength_cabcc 26 = .ok (.ireturn, 1) := by decide +kernel
theorem dJ8_hugeLength_7cf53_0 : decode cJ8_hugeLength_7cf53 0 = .ok (.iload_n 0, 1) := by decide +kernel
theorem dJ8_hugeLength_7cf53_1 : decode cJ8_hugeLength_7cf53 1 = .ok (.iload_n 1, 1) := by decide +kernel
theorem dJ8_hugeLength_7cf53_2 : decode cJ8_hugeLength_7cf53 2 = .ok (.iadd, 1) := by decide +kernel
theorem dJ8_hugeLength_7cf53_3 : decode cJ8_hugeLength_7cf53 3 = .ok (.istore_n 2, 1) := by decide +kernel
theorem dJ8_hugeLength_7cf53_4 : decode cJ8_hugeLength_7cf53 4 = .ok (.iload_n 2, 1) := by decide +kernel
theorem dJ8_hugeLength_7cf53_5 : decode cJ8_hugeLength_7cf53 5 = .ok (.ifCond .ge 44, 3) := by decide +kernel
theorem dJ8_hugeLength_7cf53_8 : decode cJ8_hugeLength_7cf53 8 = .ok (.new 204, 3) := by decide +kernel
theorem dJ8_hugeLength_7cf53_11 : decode cJ8_hugeLength_7cf53 11 = .ok (.dup, 1) := by decide +kernel
theorem dJ8_hugeLength_7cf53_12 : decode cJ8_hugeLength_7cf53 12 = .ok (.new 89, 3) := by decide +kernel
theorem dJ8_hugeLength_7cf53_15 : decode cJ8_hugeLength_7cf53 15 = .ok (.dup, 1) := by decide +kernel
theorem dJ8_hugeLength_7cf53_16 : decode cJ8_hugeLength_7cf53 16 = .ok (.invokespecial 91, 3) := by decide +kernel
theorem dJ8_hugeLength_7cf53_19 : decode cJ8_hugeLength_7cf53 19 = .ok (.ldc 206, 2) := by decide +kernel
theorem dJ8_hugeLength_7cf53_21 : decode cJ8_hugeLength_7cf53 21 = .ok (.invokevirtual 94, 3) := by decide +kernel
theorem dJ8_hugeLength_7cf53_24 : decode cJ8_hugeLength_7cf53 24 = .ok (.iload_n 0, 1) := by decide +kernel
theorem dJ8_hugeLength_7cf53_25 : decode cJ8_hugeLength_7cf53 25 = .ok (.invokevirtual 98, 3) := by decide +kernel
theorem dJ8_hugeLength_7cf53_28 : decode cJ8_hugeLength_7cf53 28 = .ok (.ldc 208, 2) := by decide +kernel
theorem dJ8_hugeLength_7cf53_30 : decode cJ8_hugeLength_7cf53 30 = .ok (.invokevirtual 94, 3) := by decide +kernel
theorem dJ8_hugeLength_7cf53_33 : decode cJ8_hugeLength_7cf53 33 = .ok (.iload_n 1, 1) := by decide +kernel
theorem dJ8_hugeLength_7cf53_34 : decode cJ8_hugeLength_7cf53 34 = .ok (.invokevirtual 98, 3) := by decide +kernel
theorem dJ8_hugeLength_7cf53_37 : decode cJ8_hugeLength_7cf53 37 = .ok (.ldc 210, 2) := by decide +kernel
theorem dJ8_hugeLength_7cf53_39 : decode cJ8_hugeLength_7cf53 39 = .ok (.invokevirtual 94, 3) := by decide +kernel
theorem dJ8_hugeLength_7cf53_42 : decode cJ8_hugeLength_7cf53 42 = .ok (.invokevirtual 101, 3) := by decide +kernel
theorem dJ8_hugeLength_7cf53_45 : decode cJ8_hugeLength_7cf53 45 = .ok (.invokespecial 212, 3) := by decide +kernel
theorem dJ8_hugeLength_7cf53_48 : decode cJ8_hugeLength_7cf53 48 = .ok (.athrow, 1) := by decide +kernel
theorem dJ8_hugeLength_7cf53_49 : decode cJ8_hugeLength_7cf53 49 = .ok (.iload_n 2, 1) := by decide +kernel
theorem dJ8_hugeLength_7cf53_50 : decode cJ8_hugeLength_7cf53 50 = .ok (.ldc 200, 2) := by decide +kernel
theorem dJ8_hugeLength_7cf53_52 : decode cJ8_hugeLength_7cf53 52 = .ok (.if_icmp .gt 6, 3) := by decide +kernel
theorem dJ8_hugeLength_7cf53_55 : decode cJ8_hugeLength_7cf53 55 = .ok (.ldc 200, 2) := by decide +kernel
theorem dJ8_hugeLength_7cf53_57 : decode cJ8_hugeLength_7cf53 57 = .ok (.ireturn, 1) := by decide +kernel
theorem dJ8_hugeLength_7cf53_58 : decode cJ8_hugeLength_7cf53 58 = .ok (.iload_n 2, 1) := by decide +kernel
theorem dJ8_hugeLength_7cf53_59 : decode cJ8_hugeLength_7cf53 59 = .ok (.ireturn, 1) := by decide +kernel
theorem dJ3_checkIndex_8e157_0 : decode cJ3_checkIndex_8e157 0 = .ok (.iload_n 0, 1) := by decide +kernel
theorem dJ3_checkIndex_8e157_1 : decode cJ3_checkIndex_8e157 1 = .ok (.ifCond .lt 8, 3) := by decide +kernel
theorem dJ3_checkIndex_8e157_4 : decode cJ3_checkIndex_8e157 4 = .ok (.iload_n 0, 1) := by decide +kernel
theorem dJ3_checkIndex_8e157_5 : decode cJ3_checkIndex_8e157 5 = .ok (.iload_n 1, 1) := by decide +kernel
theorem dJ3_checkIndex_8e157_6 : decode cJ3_checkIndex_8e157 6 = .ok (.if_icmp .lt 10, 3) := by decide +kernel
theorem dJ3_checkIndex_8e157_9 : decode cJ3_checkIndex_8e157 9 = .ok (.aload_n 2, 1) := by decide +kernel
theorem dJ3_checkIndex_8e157_10 : decode cJ3_checkIndex_8e157 10 = .ok (.iload_n 0, 1) := by decide +kernel
theorem dJ3_checkIndex_8e157_11 : decode cJ3_checkIndex_8e157 11 = .ok (.iload_n 1, 1) := by decide +kernel
theorem dJ3_checkIndex_8e157_12 : decode cJ3_checkIndex_8e157 12 = .ok (.invokestatic 95, 3) := by decide +kernel
theorem dJ3_checkIndex_8e157_15 : decode cJ3_checkIndex_8e157 15 = .ok (.athrow, 1) := by decide +kernel
theorem dJ3_checkIndex_8e157_16 : decode cJ3_checkIndex_8e157 16 = .ok (.iload_n 0, 1) := by decide +kernel
theorem dJ3_checkIndex_8e157_17 : decode cJ3_checkIndex_8e157 17 = .ok (.ireturn, 1) := by decide +kernel
end
section
theorem dX5_init_0 : decode cX5_init 0 = .ok (.aload_n 0, 1) := by decide +kernel
theorem dX5_init_1 : decode cX5_init 1 = .ok (.invokespecial 1, 3) := by decide +kernel
theorem dX5_init_4 : decode cX5_init 4 = .ok (.aload_n 0, 1) := by decide +kernel
theorem dX5_init_5 : decode cX5_init 5 = .ok (.iconst 1, 1) := by decide +kernel
theorem dX5_init_6 : decode cX5_init 6 = .ok (.putfield 7, 3) := by decide +kernel
theorem dX5_init_9 : decode cX5_init 9 = .ok (.aload_n 0, 1) := by decide +kernel
theorem dX5_init_10 : decode cX5_init 10 = .ok (.bipush 61, 2) := by decide +kernel
theorem dX5_init_12 : decode cX5_init 12 = .ok (.newarray .int, 2) := by decide +kernel
theorem dX5_init_14 : decode cX5_init 14 = .ok (.putfield 13, 3) := by decide +kernel
theorem dX5_init_17 : decode cX5_init 17 = .ok (.aload_n 0, 1) := by decide +kernel
theorem dX5_init_18 : decode cX5_init 18 = .ok (.sipush 976, 3) := by decide +kernel
theorem dX5_init_21 : decode cX5_init 21 = .ok (.newarray .int, 2) := by decide +kernel
theorem dX5_init_23 : decode cX5_init 23 = .ok (.putfield 17, 3) := by decide +kernel
theorem dX5_init_26 : decode cX5_init 26 = .ok (.aload_n 0, 1) := by decide +kernel
theorem dX5_init_27 : decode cX5_init 27 = .ok (.sipush 128, 3) := by decide +kernel
theorem dX5_init_30 : decode cX5_init 30 = .ok (.newarray .int, 2) := by decide +kernel
theorem dX5_init_32 : decode cX5_init 32 = .ok (.putfield 20, 3) := by decide +kernel
theorem dX5_init_35 : decode cX5_init 35 = .ok (.aload_n 0, 1) := by decide +kernel
theorem dX5_init_36 : decode cX5_init 36 = .ok (.sipush 128, 3) := by decide +kernel
theorem dX5_init_39 : decode cX5_init 39 = .ok (.newarray .int, 2) := by decide +kernel
theorem dX5_init_41 : decode cX5_init 41 = .ok (.putfield 23, 3) := by decide +kernel
theorem dX5_init_44 : decode cX5_init 44 = .ok (.aload_n 0, 1) := by decide +kernel
theorem dX5_init_45 : decode cX5_init 45 = .ok (.sipush 128, 3) := by decide +kernel
theorem dX5_init_48 : decode cX5_init 48 = .ok (.newarray .int, 2) := by decide +kernel
theorem dX5_init_50 : decode cX5_init 50 = .ok (.putfield 26, 3) := by decide +kernel
theorem dX5_init_53 : decode cX5_init 53 = .ok (.aload_n 0, 1) := by decide +kernel
theorem dX5_init_54 : decode cX5_init 54 = .ok (.bipush 8, 2) := by decide +kernel
theorem dX5_init_56 : decode cX5_init 56 = .ok (.newarray .int, 2) := by decide +kernel
theorem dX5_init_58 : decode cX5_init 58 = .ok (.putfield 29, 3) := by decide +kernel
theorem dX5_init_61 : decode cX5_init 61 = .ok (.aload_n 0, 1) := by decide +kernel
theorem dX5_init_62 : decode cX5_init 62 = .ok (.sipush 960, 3) := by decide +kernel
theorem dX5_init_65 : decode cX5_init 65 = .ok (.newarray .int, 2) := by decide +kernel
theorem dX5_init_67 : decode cX5_init 67 = .ok (.putfield 32, 3) := by decide +kernel
theorem dX5_init_70 : decode cX5_init 70 = .ok (.aload_n 0, 1) := by decide +kernel
theorem dX5_init_71 : decode cX5_init 71 = .ok (.bipush 60, 2) := by decide +kernel
theorem dX5_init_73 : decode cX5_init 73 = .ok (.newarray .int, 2) := by decide +kernel
theorem dX5_init_75 : decode cX5_init 75 = .ok (.putfield 35, 3) := by decide +kernel
theorem dX5_init_78 : decode cX5_init 78 = .ok (.aload_n 0, 1) := by decide +kernel
theorem dX5_init_79 : decode cX5_init 79 = .ok (.bipush 60, 2) := by decide +kernel
theorem dX5_init_81 : decode cX5_init 81 = .ok (.newarray .int, 2) := by decide +kernel
theorem dX5_init_83 : decode cX5_init 83 = .ok (.putfield 38, 3) := by decide +kernel
theorem dX5_init_86 : decode cX5_init 86 = .ok (.aload_n 0, 1) := by decide +kernel
theorem dX5_init_87 : decode cX5_init 87 = .ok (.bipush 16, 2) := by decide +kernel
theorem dX5_init_89 : decode cX5_init 89 = .ok (.newarray .int, 2) := by decide +kernel
theorem dX5_init_91 : decode cX5_init 91 = .ok (.putfield 41, 3) := by decide +kernel
theorem dX5_init_94 : decode cX5_init 94 = .ok (.aload_n 0, 1) := by decide +kernel
theorem dX5_init_95 : decode cX5_init 95 = .ok (.getfield 13, 3) := by decide +kernel
theorem dX5_init_98 : decode cX5_init 98 = .ok (.iconst 0, 1) := by decide +kernel
theorem dX5_init_99 : decode cX5_init 99 = .ok (.iconst (-1), 1) := by decide +kernel
theorem dX5_init_100 : decode cX5_init 100 = .ok (.iastore, 1) := by decide +kernel
theorem dX5_init_101 : decode cX5_init 101 = .ok (.return_, 1) := by decide +kernel
theorem dX5_thrown_0 : decode cX5_thrown 0 = .ok (.aload_n 0, 1) := by decide +kernel
theorem dX5_thrown_1 : decode cX5_thrown 1 = .ok (.getfield 44, 3) := by decide +kernel
theorem dX5_thrown_4 : decode cX5_thrown 4 = .ok (.ireturn, 1) := by decide +kernel
theorem dX5_in_0 : decode cX5_in 0 = .ok (.iload_n 0, 1) := by decide +kernel
theorem dX5_in_1 : decode cX5_in 1 = .ok (.iload_n 1, 1) := by decide +kernel
theorem dX5_in_2 : decode cX5_in 2 = .ok (.if_icmp .lt 12, 3) := by decide +kernel
theorem dX5_in_5 : decode cX5_in 5 = .ok (.iload_n 0, 1) := by decide +kernel
theorem dX5_in_6 : decode cX5_in 6 = .ok (.iload_n 2, 1) := by decide +kernel
theorem dX5_in_7 : decode cX5_in 7 = .ok (.if_icmp .gt 7, 3) := by decide +kernel
theorem dX5_in_10 : decode cX5_in 10 = .ok (.iconst 1, 1) := by decide +kernel
theorem dX5_in_11 : decode cX5_in 11 = .ok (.goto 4, 3) := by decide +kernel
theorem dX5_in_14 : decode cX5_in 14 = .ok (.iconst 0, 1) := by decide +kernel
theorem dX5_in_15 : decode cX5_in 15 = .ok (.ireturn, 1) := by decide +kernel
theorem dX5_isColumn_0 : decode cX5_isColumn 0 = .ok (.iload_n 0, 1) := by decide +kernel
theorem dX5_isColumn_1 : decode cX5_isColumn 1 = .ok (.iconst 0, 1) := by decide +kernel
theorem dX5_isColumn_2 : decode cX5_isColumn 2 = .ok (.bipush 15, 2) := by decide +kernel
theorem dX5_isColumn_4 : decode cX5_isColumn 4 = .ok (.invokestatic 47, 3) := by decide +kernel
theorem dX5_isColumn_7 : decode cX5_isColumn 7 = .ok (.ireturn, 1) := by decide +kernel
theorem dX5_isLevel_0 : decode cX5_isLevel 0 = .ok (.iload_n 0, 1) := by decide +kernel
theorem dX5_isLevel_1 : decode cX5_isLevel 1 = .ok (.iconst 0, 1) := by decide +kernel
theorem dX5_isLevel_2 : decode cX5_isLevel 2 = .ok (.bipush 7, 2) := by decide +kernel
theorem dX5_isLevel_4 : decode cX5_isLevel 4 = .ok (.invokestatic 47, 3) := by decide +kernel
theorem dX5_isLevel_7 : decode cX5_isLevel 7 = .ok (.ireturn, 1) := by decide +kernel
theorem dX5_kindAt_0 : decode cX5_kindAt 0 = .ok (.aload_n 0, 1) := by decide +kernel
theorem dX5_kindAt_1 : decode cX5_kindAt 1 = .ok (.getfield 17, 3) := by decide +kernel
theorem dX5_kindAt_4 : decode cX5_kindAt 4 = .ok (.bipush 16, 2) := by decide +kernel
theorem dX5_kindAt_6 : decode cX5_kindAt 6 = .ok (.iload_n 1, 1) := by decide +kernel
theorem dX5_kindAt_7 : decode cX5_kindAt 7 = .ok (.imul, 1) := by decide +kernel
theorem dX5_kindAt_8 : decode cX5_kindAt 8 = .ok (.iload_n 2, 1) := by decide +kernel
theorem dX5_kindAt_9 : decode cX5_kindAt 9 = .ok (.iadd, 1) := by decide +kernel
theorem dX5_kindAt_10 : decode cX5_kindAt 10 = .ok (.iaload, 1) := by decide +kernel
theorem dX5_kindAt_11 : decode cX5_kindAt 11 = .ok (.iconst 2, 1) := by decide +kernel
theorem dX5_kindAt_12 : decode cX5_kindAt 12 = .ok (.iload_n 3, 1) := by decide +kernel
theorem dX5_kindAt_13 : decode cX5_kindAt 13 = .ok (.imul, 1) := by decide +kernel
theorem dX5_kindAt_14 : decode cX5_kindAt 14 = .ok (.ishr, 1) := by decide +kernel
theorem dX5_kindAt_15 : decode cX5_kindAt 15 = .ok (.iconst 3, 1) := by decide +kernel
theorem dX5_kindAt_16 : decode cX5_kindAt 16 = .ok (.iand, 1) := by decide +kernel
theorem dX5_kindAt_17 : decode cX5_kindAt 17 = .ok (.ireturn, 1) := by decide +kernel
theorem dX5_kindNow_0 : decode cX5_kindNow 0 = .ok (.aload_n 0, 1) := by decide +kernel
theorem dX5_kindNow_1 : decode cX5_kindNow 1 = .ok (.aload_n 0, 1) := by decide +kernel
theorem dX5_kindNow_2 : decode cX5_kindNow 2 = .ok (.getfield 51, 3) := by decide +kernel
theorem dX5_kindNow_5 : decode cX5_kindNow 5 = .ok (.iload_n 1, 1) := by decide +kernel
theorem dX5_kindNow_6 : decode cX5_kindNow 6 = .ok (.iload_n 2, 1) := by decide +kernel
theorem dX5_kindNow_7 : decode cX5_kindNow 7 = .ok (.invokevirtual 54, 3) := by decide +kernel
theorem dX5_kindNow_10 : decode cX5_kindNow 10 = .ok (.ireturn, 1) := by decide +kernel
theorem dX5_grows_0 : decode cX5_grows 0 = .ok (.iconst 0, 1) := by decide +kernel
theorem dX5_grows_1 : decode cX5_grows 1 = .ok (.istore_n 1, 1) := by decide +kernel
theorem dX5_grows_2 : decode cX5_grows 2 = .ok (.iload_n 1, 1) := by decide +kernel
theorem dX5_grows_3 : decode cX5_grows 3 = .ok (.bipush 16, 2) := by decide +kernel
theorem dX5_grows_5 : decode cX5_grows 5 = .ok (.if_icmp .ge 37, 3) := by decide +kernel
theorem dX5_grows_8 : decode cX5_grows 8 = .ok (.aload_n 0, 1) := by decide +kernel
theorem dX5_grows_9 : decode cX5_grows 9 = .ok (.getfield 17, 3) := by decide +kernel
theorem dX5_grows_12 : decode cX5_grows 12 = .ok (.bipush 16, 2) := by decide +kernel
theorem dX5_grows_14 : decode cX5_grows 14 = .ok (.aload_n 0, 1) := by decide +kernel
theorem dX5_grows_15 : decode cX5_grows 15 = .ok (.getfield 7, 3) := by decide +kernel
theorem dX5_grows_18 : decode cX5_grows 18 = .ok (.imul, 1) := by decide +kernel
theorem dX5_grows_19 : decode cX5_grows 19 = .ok (.iload_n 1, 1) := by decide +kernel
theorem dX5_grows_20 : decode cX5_grows 20 = .ok (.iadd, 1) := by decide +kernel
theorem dX5_grows_21 : decode cX5_grows 21 = .ok (.aload_n 0, 1) := by decide +kernel
theorem dX5_grows_22 : decode cX5_grows 22 = .ok (.getfield 17, 3) := by decide +kernel
theorem dX5_grows_25 : decode cX5_grows 25 = .ok (.bipush 16, 2) := by decide +kernel
theorem dX5_grows_27 : decode cX5_grows 27 = .ok (.aload_n 0, 1) := by decide +kernel
theorem dX5_grows_28 : decode cX5_grows 28 = .ok (.getfield 51, 3) := by decide +kernel
theorem dX5_grows_31 : decode cX5_grows 31 = .ok (.imul, 1) := by decide +kernel
theorem dX5_grows_32 : decode cX5_grows 32 = .ok (.iload_n 1, 1) := by decide +kernel
theorem dX5_grows_33 : decode cX5_grows 33 = .ok (.iadd, 1) := by decide +kernel
theorem dX5_grows_34 : decode cX5_grows 34 = .ok (.iaload, 1) := by decide +kernel
theorem dX5_grows_35 : decode cX5_grows 35 = .ok (.iastore, 1) := by decide +kernel
theorem dX5_grows_36 : decode cX5_grows 36 = .ok (.iinc 1 1, 3) := by decide +kernel
theorem dX5_grows_39 : decode cX5_grows 39 = .ok (.goto (-37), 3) := by decide +kernel
theorem dX5_grows_42 : decode cX5_grows 42 = .ok (.aload_n 0, 1) := by decide +kernel
theorem dX5_grows_43 : decode cX5_grows 43 = .ok (.getfield 13, 3) := by decide +kernel
theorem dX5_grows_46 : decode cX5_grows 46 = .ok (.aload_n 0, 1) := by decide +kernel
theorem dX5_grows_47 : decode cX5_grows 47 = .ok (.getfield 7, 3) := by decide +kernel
theorem dX5_grows_50 : decode cX5_grows 50 = .ok (.aload_n 0, 1) := by decide +kernel
theorem dX5_grows_51 : decode cX5_grows 51 = .ok (.getfield 51, 3) := by decide +kernel
theorem dX5_grows_54 : decode cX5_grows 54 = .ok (.iastore, 1) := by decide +kernel
theorem dX5_grows_55 : decode cX5_grows 55 = .ok (.aload_n 0, 1) := by decide +kernel
theorem dX5_grows_56 : decode cX5_grows 56 = .ok (.aload_n 0, 1) := by decide +kernel
theorem dX5_grows_57 : decode cX5_grows 57 = .ok (.getfield 7, 3) := by decide +kernel
theorem dX5_grows_60 : decode cX5_grows 60 = .ok (.putfield 51, 3) := by decide +kernel
theorem dX5_grows_63 : decode cX5_grows 63 = .ok (.aload_n 0, 1) := by decide +kernel
theorem dX5_grows_64 : decode cX5_grows 64 = .ok (.dup, 1) := by decide +kernel
theorem dX5_grows_65 : decode cX5_grows 65 = .ok (.getfield 7, 3) := by decide +kernel
theorem dX5_grows_68 : decode cX5_grows 68 = .ok (.iconst 1, 1) := by decide +kernel
theorem dX5_grows_69 : decode cX5_grows 69 = .ok (.iadd, 1) := by decide +kernel
theorem dX5_grows_70 : decode cX5_grows 70 = .ok (.putfield 7, 3) := by decide +kernel
theorem dX5_grows_73 : decode cX5_grows 73 = .ok (.return_, 1) := by decide +kernel
theorem dX5_puts_0 : decode cX5_puts 0 = .ok (.bipush 16, 2) := by decide +kernel
theorem dX5_puts_2 : decode cX5_puts 2 = .ok (.aload_n 0, 1) := by decide +kernel
theorem dX5_puts_3 : decode cX5_puts 3 = .ok (.getfield 51, 3) := by decide +kernel
theorem dX5_puts_6 : decode cX5_puts 6 = .ok (.imul, 1) := by decide +kernel
theorem dX5_puts_7 : decode cX5_puts 7 = .ok (.iload_n 1, 1) := by decide +kernel
theorem dX5_puts_8 : decode cX5_puts 8 = .ok (.iadd, 1) := by decide +kernel
theorem dX5_puts_9 : decode cX5_puts 9 = .ok (.istore 4, 2) := by decide +kernel
theorem dX5_puts_11 : decode cX5_puts 11 = .ok (.aload_n 0, 1) := by decide +kernel
theorem dX5_puts_12 : decode cX5_puts 12 = .ok (.getfield 17, 3) := by decide +kernel
theorem dX5_puts_15 : decode cX5_puts 15 = .ok (.iload 4, 2) := by decide +kernel
theorem dX5_puts_17 : decode cX5_puts 17 = .ok (.aload_n 0, 1) := by decide +kernel
theorem dX5_puts_18 : decode cX5_puts 18 = .ok (.getfield 17, 3) := by decide +kernel
theorem dX5_puts_21 : decode cX5_puts 21 = .ok (.iload 4, 2) := by decide +kernel
theorem dX5_puts_23 : decode cX5_puts 23 = .ok (.iaload, 1) := by decide +kernel
theorem dX5_puts_24 : decode cX5_puts 24 = .ok (.iconst 3, 1) := by decide +kernel
theorem dX5_puts_25 : decode cX5_puts 25 = .ok (.iconst 2, 1) := by decide +kernel
theorem dX5_puts_26 : decode cX5_puts 26 = .ok (.iload_n 2, 1) := by decide +kernel
theorem dX5_puts_27 : decode cX5_puts 27 = .ok (.imul, 1) := by decide +kernel
theorem dX5_puts_28 : decode cX5_puts 28 = .ok (.ishl, 1) := by decide +kernel
theorem dX5_puts_29 : decode cX5_puts 29 = .ok (.iconst (-1), 1) := by decide +kernel
theorem dX5_puts_30 : decode cX5_puts 30 = .ok (.ixor, 1) := by decide +kernel
theorem dX5_puts_31 : decode cX5_puts 31 = .ok (.iand, 1) := by decide +kernel
theorem dX5_puts_32 : decode cX5_puts 32 = .ok (.iload_n 3, 1) := by decide +kernel
theorem dX5_puts_33 : decode cX5_puts 33 = .ok (.iconst 2, 1) := by decide +kernel
theorem dX5_puts_34 : decode cX5_puts 34 = .ok (.iload_n 2, 1) := by decide +kernel
theorem dX5_puts_35 : decode cX5_puts 35 = .ok (.imul, 1) := by decide +kernel
theorem dX5_puts_36 : decode cX5_puts 36 = .ok (.ishl, 1) := by decide +kernel
theorem dX5_puts_37 : decode cX5_puts 37 = .ok (.ior, 1) := by decide +kernel
theorem dX5_puts_38 : decode cX5_puts 38 = .ok (.iastore, 1) := by decide +kernel
theorem dX5_puts_39 : decode cX5_puts 39 = .ok (.return_, 1) := by decide +kernel
theorem dX5_set_0 : decode cX5_set 0 = .ok (.aload_n 0, 1) := by decide +kernel
theorem dX5_set_1 : decode cX5_set 1 = .ok (.iload_n 1, 1) := by decide +kernel
theorem dX5_set_2 : decode cX5_set 2 = .ok (.invokestatic 58, 3) := by decide +kernel
theorem dX5_set_5 : decode cX5_set 5 = .ok (.ifCond .eq 10, 3) := by decide +kernel
theorem dX5_set_8 : decode cX5_set 8 = .ok (.iload_n 2, 1) := by decide +kernel
theorem dX5_set_9 : decode cX5_set 9 = .ok (.invokestatic 62, 3) := by decide +kernel
theorem dX5_set_12 : decode cX5_set 12 = .ok (.ifCond .ne 7, 3) := by decide +kernel
theorem dX5_set_15 : decode cX5_set 15 = .ok (.iconst 1, 1) := by decide +kernel
theorem dX5_set_16 : decode cX5_set 16 = .ok (.goto 30, 3) := by decide +kernel
theorem dX5_set_19 : decode cX5_set 19 = .ok (.iload_n 3, 1) := by decide +kernel
theorem dX5_set_20 : decode cX5_set 20 = .ok (.iconst 0, 1) := by decide +kernel
theorem dX5_set_21 : decode cX5_set 21 = .ok (.iconst 3, 1) := by decide +kernel
theorem dX5_set_22 : decode cX5_set 22 = .ok (.invokestatic 47, 3) := by decide +kernel
theorem dX5_set_25 : decode cX5_set 25 = .ok (.ifCond .ne 7, 3) := by decide +kernel
theorem dX5_set_28 : decode cX5_set 28 = .ok (.iconst 2, 1) := by decide +kernel
theorem dX5_set_29 : decode cX5_set 29 = .ok (.goto 17, 3) := by decide +kernel
theorem dX5_set_32 : decode cX5_set 32 = .ok (.aload_n 0, 1) := by decide +kernel
theorem dX5_set_33 : decode cX5_set 33 = .ok (.getfield 7, 3) := by decide +kernel
theorem dX5_set_36 : decode cX5_set 36 = .ok (.bipush 61, 2) := by decide +kernel
theorem dX5_set_38 : decode cX5_set 38 = .ok (.if_icmp .ne 7, 3) := by decide +kernel
theorem dX5_set_41 : decode cX5_set 41 = .ok (.iconst 3, 1) := by decide +kernel
theorem dX5_set_42 : decode cX5_set 42 = .ok (.goto 4, 3) := by decide +kernel
theorem dX5_set_45 : decode cX5_set 45 = .ok (.iconst 0, 1) := by decide +kernel
theorem dX5_set_46 : decode cX5_set 46 = .ok (.putfield 44, 3) := by decide +kernel
theorem dX5_set_49 : decode cX5_set 49 = .ok (.aload_n 0, 1) := by decide +kernel
theorem dX5_set_50 : decode cX5_set 50 = .ok (.getfield 44, 3) := by decide +kernel
theorem dX5_set_53 : decode cX5_set 53 = .ok (.ifCond .le 5, 3) := by decide +kernel
theorem dX5_set_56 : decode cX5_set 56 = .ok (.iconst 0, 1) := by decide +kernel
theorem dX5_set_57 : decode cX5_set 57 = .ok (.ireturn, 1) := by decide +kernel
theorem dX5_set_58 : decode cX5_set 58 = .ok (.aload_n 0, 1) := by decide +kernel
theorem dX5_set_59 : decode cX5_set 59 = .ok (.invokevirtual 65, 3) := by decide +kernel
theorem dX5_set_62 : decode cX5_set 62 = .ok (.aload_n 0, 1) := by decide +kernel
theorem dX5_set_63 : decode cX5_set 63 = .ok (.iload_n 1, 1) := by decide +kernel
theorem dX5_set_64 : decode cX5_set 64 = .ok (.iload_n 2, 1) := by decide +kernel
theorem dX5_set_65 : decode cX5_set 65 = .ok (.iload_n 3, 1) := by decide +kernel
theorem dX5_set_66 : decode cX5_set 66 = .ok (.invokevirtual 68, 3) := by decide +kernel
theorem dX5_set_69 : decode cX5_set 69 = .ok (.aload_n 0, 1) := by decide +kernel
theorem dX5_set_70 : decode cX5_set 70 = .ok (.getfield 51, 3) := by decide +kernel
theorem dX5_set_73 : decode cX5_set 73 = .ok (.ireturn, 1) := by decide +kernel
theorem dX5_raise_0 : decode cX5_raise 0 = .ok (.aload_n 0, 1) := by decide +kernel
theorem dX5_raise_1 : decode cX5_raise 1 = .ok (.iload_n 1, 1) := by decide +kernel
theorem dX5_raise_2 : decode cX5_raise 2 = .ok (.invokestatic 58, 3) := by decide +kernel
theorem dX5_raise_5 : decode cX5_raise 5 = .ok (.ifCond .ne 7, 3) := by decide +kernel
theorem dX5_raise_8 : decode cX5_raise 8 = .ok (.iconst 1, 1) := by decide +kernel
theorem dX5_raise_9 : decode cX5_raise 9 = .ok (.goto 40, 3) := by decide +kernel
theorem dX5_raise_12 : decode cX5_raise 12 = .ok (.iload_n 2, 1) := by decide +kernel
theorem dX5_raise_13 : decode cX5_raise 13 = .ok (.iconst 0, 1) := by decide +kernel
theorem dX5_raise_14 : decode cX5_raise 14 = .ok (.bipush 8, 2) := by decide +kernel
theorem dX5_raise_16 : decode cX5_raise 16 = .ok (.invokestatic 47, 3) := by decide +kernel
theorem dX5_raise_19 : decode cX5_raise 19 = .ok (.ifCond .eq 12, 3) := by decide +kernel
theorem dX5_raise_22 : decode cX5_raise 22 = .ok (.iload_n 3, 1) := by decide +kernel
theorem dX5_raise_23 : decode cX5_raise 23 = .ok (.iconst 1, 1) := by decide +kernel
theorem dX5_raise_24 : decode cX5_raise 24 = .ok (.iconst 3, 1) := by decide +kernel
theorem dX5_raise_25 : decode cX5_raise 25 = .ok (.invokestatic 47, 3) := by decide +kernel
theorem dX5_raise_28 : decode cX5_raise 28 = .ok (.ifCond .ne 7, 3) := by decide +kernel
theorem dX5_raise_31 : decode cX5_raise 31 = .ok (.iconst 2, 1) := by decide +kernel
theorem dX5_raise_32 : decode cX5_raise 32 = .ok (.goto 17, 3) := by decide +kernel
theorem dX5_raise_35 : decode cX5_raise 35 = .ok (.aload_n 0, 1) := by decide +kernel
theorem dX5_raise_36 : decode cX5_raise 36 = .ok (.getfield 7, 3) := by decide +kernel
theorem dX5_raise_39 : decode cX5_raise 39 = .ok (.bipush 61, 2) := by decide +kernel
theorem dX5_raise_41 : decode cX5_raise 41 = .ok (.if_icmp .ne 7, 3) := by decide +kernel
theorem dX5_raise_44 : decode cX5_raise 44 = .ok (.iconst 3, 1) := by decide +kernel
theorem dX5_raise_45 : decode cX5_raise 45 = .ok (.goto 4, 3) := by decide +kernel
theorem dX5_raise_48 : decode cX5_raise 48 = .ok (.iconst 0, 1) := by decide +kernel
theorem dX5_raise_49 : decode cX5_raise 49 = .ok (.putfield 44, 3) := by decide +kernel
theorem dX5_raise_52 : decode cX5_raise 52 = .ok (.aload_n 0, 1) := by decide +kernel
theorem dX5_raise_53 : decode cX5_raise 53 = .ok (.getfield 44, 3) := by decide +kernel
theorem dX5_raise_56 : decode cX5_raise 56 = .ok (.ifCond .le 5, 3) := by decide +kernel
theorem dX5_raise_59 : decode cX5_raise 59 = .ok (.iconst 0, 1) := by decide +kernel
theorem dX5_raise_60 : decode cX5_raise 60 = .ok (.ireturn, 1) := by decide +kernel
theorem dX5_raise_61 : decode cX5_raise 61 = .ok (.aload_n 0, 1) := by decide +kernel
theorem dX5_raise_62 : decode cX5_raise 62 = .ok (.invokevirtual 65, 3) := by decide +kernel
theorem dX5_raise_65 : decode cX5_raise 65 = .ok (.iconst 0, 1) := by decide +kernel
theorem dX5_raise_66 : decode cX5_raise 66 = .ok (.istore 4, 2) := by decide +kernel
theorem dX5_raise_68 : decode cX5_raise 68 = .ok (.iload 4, 2) := by decide +kernel
theorem dX5_raise_70 : decode cX5_raise 70 = .ok (.bipush 8, 2) := by decide +kernel
theorem dX5_raise_72 : decode cX5_raise 72 = .ok (.if_icmp .ge 27, 3) := by decide +kernel
theorem dX5_raise_75 : decode cX5_raise 75 = .ok (.aload_n 0, 1) := by decide +kernel
theorem dX5_raise_76 : decode cX5_raise 76 = .ok (.iload_n 1, 1) := by decide +kernel
theorem dX5_raise_77 : decode cX5_raise 77 = .ok (.iload 4, 2) := by decide +kernel
theorem dX5_raise_79 : decode cX5_raise 79 = .ok (.iload 4, 2) := by decide +kernel
theorem dX5_raise_81 : decode cX5_raise 81 = .ok (.iload_n 2, 1) := by decide +kernel
theorem dX5_raise_82 : decode cX5_raise 82 = .ok (.if_icmp .ge 7, 3) := by decide +kernel
theorem dX5_raise_85 : decode cX5_raise 85 = .ok (.iload_n 3, 1) := by decide +kernel
theorem dX5_raise_86 : decode cX5_raise 86 = .ok (.goto 4, 3) := by decide +kernel
theorem dX5_raise_89 : decode cX5_raise 89 = .ok (.iconst 0, 1) := by decide +kernel
theorem dX5_raise_90 : decode cX5_raise 90 = .ok (.invokevirtual 68, 3) := by decide +kernel
theorem dX5_raise_93 : decode cX5_raise 93 = .ok (.iinc 4 1, 3) := by decide +kernel
theorem dX5_raise_96 : decode cX5_raise 96 = .ok (.goto (-28), 3) := by decide +kernel
theorem dX5_raise_99 : decode cX5_raise 99 = .ok (.aload_n 0, 1) := by decide +kernel
theorem dX5_raise_100 : decode cX5_raise 100 = .ok (.getfield 51, 3) := by decide +kernel
theorem dX5_raise_103 : decode cX5_raise 103 = .ok (.ireturn, 1) := by decide +kernel
theorem dX5_layer_0 : decode cX5_layer 0 = .ok (.aload_n 0, 1) := by decide +kernel
theorem dX5_layer_1 : decode cX5_layer 1 = .ok (.iload_n 1, 1) := by decide +kernel
theorem dX5_layer_2 : decode cX5_layer 2 = .ok (.invokestatic 62, 3) := by decide +kernel
theorem dX5_layer_5 : decode cX5_layer 5 = .ok (.ifCond .ne 7, 3) := by decide +kernel
theorem dX5_layer_8 : decode cX5_layer 8 = .ok (.iconst 1, 1) := by decide +kernel
theorem dX5_layer_9 : decode cX5_layer 9 = .ok (.goto 30, 3) := by decide +kernel
theorem dX5_layer_12 : decode cX5_layer 12 = .ok (.iload_n 2, 1) := by decide +kernel
theorem dX5_layer_13 : decode cX5_layer 13 = .ok (.iconst 0, 1) := by decide +kernel
theorem dX5_layer_14 : decode cX5_layer 14 = .ok (.iconst 3, 1) := by decide +kernel
theorem dX5_layer_15 : decode cX5_layer 15 = .ok (.invokestatic 47, 3) := by decide +kernel
theorem dX5_layer_18 : decode cX5_layer 18 = .ok (.ifCond .ne 7, 3) := by decide +kernel
theorem dX5_layer_21 : decode cX5_layer 21 = .ok (.iconst 2, 1) := by decide +kernel
theorem dX5_layer_22 : decode cX5_layer 22 = .ok (.goto 17, 3) := by decide +kernel
theorem dX5_layer_25 : decode cX5_layer 25 = .ok (.aload_n 0, 1) := by decide +kernel
theorem dX5_layer_26 : decode cX5_layer 26 = .ok (.getfield 7, 3) := by decide +kernel
theorem dX5_layer_29 : decode cX5_layer 29 = .ok (.bipush 61, 2) := by decide +kernel
theorem dX5_layer_31 : decode cX5_layer 31 = .ok (.if_icmp .ne 7, 3) := by decide +kernel
theorem dX5_layer_34 : decode cX5_layer 34 = .ok (.iconst 3, 1) := by decide +kernel
theorem dX5_layer_35 : decode cX5_layer 35 = .ok (.goto 4, 3) := by decide +kernel
theorem dX5_layer_38 : decode cX5_layer 38 = .ok (.iconst 0, 1) := by decide +kernel
theorem dX5_layer_39 : decode cX5_layer 39 = .ok (.putfield 44, 3) := by decide +kernel
theorem dX5_layer_42 : decode cX5_layer 42 = .ok (.aload_n 0, 1) := by decide +kernel
theorem dX5_layer_43 : decode cX5_layer 43 = .ok (.getfield 44, 3) := by decide +kernel
theorem dX5_layer_46 : decode cX5_layer 46 = .ok (.ifCond .le 5, 3) := by decide +kernel
theorem dX5_layer_49 : decode cX5_layer 49 = .ok (.iconst 0, 1) := by decide +kernel
theorem dX5_layer_50 : decode cX5_layer 50 = .ok (.ireturn, 1) := by decide +kernel
theorem dX5_layer_51 : decode cX5_layer 51 = .ok (.aload_n 0, 1) := by decide +kernel
theorem dX5_layer_52 : decode cX5_layer 52 = .ok (.invokevirtual 65, 3) := by decide +kernel
theorem dX5_layer_55 : decode cX5_layer 55 = .ok (.iconst 0, 1) := by decide +kernel
theorem dX5_layer_56 : decode cX5_layer 56 = .ok (.istore_n 3, 1) := by decide +kernel
theorem dX5_layer_57 : decode cX5_layer 57 = .ok (.iload_n 3, 1) := by decide +kernel
theorem dX5_layer_58 : decode cX5_layer 58 = .ok (.bipush 16, 2) := by decide +kernel
theorem dX5_layer_60 : decode cX5_layer 60 = .ok (.if_icmp .ge 16, 3) := by decide +kernel
theorem dX5_layer_63 : decode cX5_layer 63 = .ok (.aload_n 0, 1) := by decide +kernel
theorem dX5_layer_64 : decode cX5_layer 64 = .ok (.iload_n 3, 1) := by decide +kernel
theorem dX5_layer_65 : decode cX5_layer 65 = .ok (.iload_n 1, 1) := by decide +kernel
theorem dX5_layer_66 : decode cX5_layer 66 = .ok (.iload_n 2, 1) := by decide +kernel
theorem dX5_layer_67 : decode cX5_layer 67 = .ok (.invokevirtual 68, 3) := by decide +kernel
theorem dX5_layer_70 : decode cX5_layer 70 = .ok (.iinc 3 1, 3) := by decide +kernel
theorem dX5_layer_73 : decode cX5_layer 73 = .ok (.goto (-16), 3) := by decide +kernel
theorem dX5_layer_76 : decode cX5_layer 76 = .ok (.aload_n 0, 1) := by decide +kernel
theorem dX5_layer_77 : decode cX5_layer 77 = .ok (.getfield 51, 3) := by decide +kernel
theorem dX5_layer_80 : decode cX5_layer 80 = .ok (.ireturn, 1) := by decide +kernel
theorem dX5_kind_0 : decode cX5_kind 0 = .ok (.aload_n 0, 1) := by decide +kernel
theorem dX5_kind_1 : decode cX5_kind 1 = .ok (.iload_n 1, 1) := by decide +kernel
theorem dX5_kind_2 : decode cX5_kind 2 = .ok (.invokestatic 58, 3) := by decide +kernel
theorem dX5_kind_5 : decode cX5_kind 5 = .ok (.ifCond .eq 14, 3) := by decide +kernel
theorem dX5_kind_8 : decode cX5_kind 8 = .ok (.iload_n 2, 1) := by decide +kernel
theorem dX5_kind_9 : decode cX5_kind 9 = .ok (.invokestatic 62, 3) := by decide +kernel
theorem dX5_kind_12 : decode cX5_kind 12 = .ok (.ifCond .eq 7, 3) := by decide +kernel
theorem dX5_kind_15 : decode cX5_kind 15 = .ok (.iconst 0, 1) := by decide +kernel
theorem dX5_kind_16 : decode cX5_kind 16 = .ok (.goto 4, 3) := by decide +kernel
theorem dX5_kind_19 : decode cX5_kind 19 = .ok (.iconst 1, 1) := by decide +kernel
theorem dX5_kind_20 : decode cX5_kind 20 = .ok (.putfield 44, 3) := by decide +kernel
theorem dX5_kind_23 : decode cX5_kind 23 = .ok (.aload_n 0, 1) := by decide +kernel
theorem dX5_kind_24 : decode cX5_kind 24 = .ok (.getfield 44, 3) := by decide +kernel
theorem dX5_kind_27 : decode cX5_kind 27 = .ok (.ifCond .le 7, 3) := by decide +kernel
theorem dX5_kind_30 : decode cX5_kind 30 = .ok (.iconst 0, 1) := by decide +kernel
theorem dX5_kind_31 : decode cX5_kind 31 = .ok (.goto 9, 3) := by decide +kernel
theorem dX5_kind_34 : decode cX5_kind 34 = .ok (.aload_n 0, 1) := by decide +kernel
theorem dX5_kind_35 : decode cX5_kind 35 = .ok (.iload_n 1, 1) := by decide +kernel
theorem dX5_kind_36 : decode cX5_kind 36 = .ok (.iload_n 2, 1) := by decide +kernel
theorem dX5_kind_37 : decode cX5_kind 37 = .ok (.invokevirtual 72, 3) := by decide +kernel
theorem dX5_kind_40 : decode cX5_kind 40 = .ok (.ireturn, 1) := by decide +kernel
theorem dX5_runsOf_0 : decode cX5_runsOf 0 = .ok (.iconst 1, 1) := by decide +kernel
theorem dX5_runsOf_1 : decode cX5_runsOf 1 = .ok (.istore_n 2, 1) := by decide +kernel
theorem dX5_runsOf_2 : decode cX5_runsOf 2 = .ok (.iconst 1, 1) := by decide +kernel
theorem dX5_runsOf_3 : decode cX5_runsOf 3 = .ok (.istore_n 3, 1) := by decide +kernel
theorem dX5_runsOf_4 : decode cX5_runsOf 4 = .ok (.iload_n 3, 1) := by decide +kernel
theorem dX5_runsOf_5 : decode cX5_runsOf 5 = .ok (.bipush 8, 2) := by decide +kernel
theorem dX5_runsOf_7 : decode cX5_runsOf 7 = .ok (.if_icmp .ge 34, 3) := by decide +kernel
theorem dX5_runsOf_10 : decode cX5_runsOf 10 = .ok (.iload_n 2, 1) := by decide +kernel
theorem dX5_runsOf_11 : decode cX5_runsOf 11 = .ok (.aload_n 0, 1) := by decide +kernel
theorem dX5_runsOf_12 : decode cX5_runsOf 12 = .ok (.iload_n 1, 1) := by decide +kernel
theorem dX5_runsOf_13 : decode cX5_runsOf 13 = .ok (.iload_n 3, 1) := by decide +kernel
theorem dX5_runsOf_14 : decode cX5_runsOf 14 = .ok (.invokevirtual 72, 3) := by decide +kernel
theorem dX5_runsOf_17 : decode cX5_runsOf 17 = .ok (.aload_n 0, 1) := by decide +kernel
theorem dX5_runsOf_18 : decode cX5_runsOf 18 = .ok (.iload_n 1, 1) := by decide +kernel
theorem dX5_runsOf_19 : decode cX5_runsOf 19 = .ok (.iload_n 3, 1) := by decide +kernel
theorem dX5_runsOf_20 : decode cX5_runsOf 20 = .ok (.iconst 1, 1) := by decide +kernel
theorem dX5_runsOf_21 : decode cX5_runsOf 21 = .ok (.isub, 1) := by decide +kernel
theorem dX5_runsOf_22 : decode cX5_runsOf 22 = .ok (.invokevirtual 72, 3) := by decide +kernel
theorem dX5_runsOf_25 : decode cX5_runsOf 25 = .ok (.if_icmp .ne 7, 3) := by decide +kernel
theorem dX5_runsOf_28 : decode cX5_runsOf 28 = .ok (.iconst 0, 1) := by decide +kernel
theorem dX5_runsOf_29 : decode cX5_runsOf 29 = .ok (.goto 4, 3) := by decide +kernel
theorem dX5_runsOf_32 : decode cX5_runsOf 32 = .ok (.iconst 1, 1) := by decide +kernel
theorem dX5_runsOf_33 : decode cX5_runsOf 33 = .ok (.iadd, 1) := by decide +kernel
theorem dX5_runsOf_34 : decode cX5_runsOf 34 = .ok (.istore_n 2, 1) := by decide +kernel
theorem dX5_runsOf_35 : decode cX5_runsOf 35 = .ok (.iinc 3 1, 3) := by decide +kernel
theorem dX5_runsOf_38 : decode cX5_runsOf 38 = .ok (.goto (-34), 3) := by decide +kernel
theorem dX5_runsOf_41 : decode cX5_runsOf 41 = .ok (.iload_n 2, 1) := by decide +kernel
theorem dX5_runsOf_42 : decode cX5_runsOf 42 = .ok (.ireturn, 1) := by decide +kernel
theorem dX5_runs_0 : decode cX5_runs 0 = .ok (.aload_n 0, 1) := by decide +kernel
theorem dX5_runs_1 : decode cX5_runs 1 = .ok (.iload_n 1, 1) := by decide +kernel
theorem dX5_runs_2 : decode cX5_runs 2 = .ok (.invokestatic 58, 3) := by decide +kernel
theorem dX5_runs_5 : decode cX5_runs 5 = .ok (.ifCond .eq 7, 3) := by decide +kernel
theorem dX5_runs_8 : decode cX5_runs 8 = .ok (.iconst 0, 1) := by decide +kernel
theorem dX5_runs_9 : decode cX5_runs 9 = .ok (.goto 4, 3) := by decide +kernel
theorem dX5_runs_12 : decode cX5_runs 12 = .ok (.iconst 1, 1) := by decide +kernel
theorem dX5_runs_13 : decode cX5_runs 13 = .ok (.putfield 44, 3) := by decide +kernel
theorem dX5_runs_16 : decode cX5_runs 16 = .ok (.aload_n 0, 1) := by decide +kernel
theorem dX5_runs_17 : decode cX5_runs 17 = .ok (.getfield 44, 3) := by decide +kernel
theorem dX5_runs_20 : decode cX5_runs 20 = .ok (.ifCond .le 7, 3) := by decide +kernel
theorem dX5_runs_23 : decode cX5_runs 23 = .ok (.iconst 0, 1) := by decide +kernel
theorem dX5_runs_24 : decode cX5_runs 24 = .ok (.goto 8, 3) := by decide +kernel
theorem dX5_runs_27 : decode cX5_runs 27 = .ok (.aload_n 0, 1) := by decide +kernel
theorem dX5_runs_28 : decode cX5_runs 28 = .ok (.iload_n 1, 1) := by decide +kernel
theorem dX5_runs_29 : decode cX5_runs 29 = .ok (.invokevirtual 76, 3) := by decide +kernel
theorem dX5_runs_32 : decode cX5_runs 32 = .ok (.ireturn, 1) := by decide +kernel
theorem dX5_runLength_0 : decode cX5_runLength 0 = .ok (.aload_n 0, 1) := by decide +kernel
theorem dX5_runLength_1 : decode cX5_runLength 1 = .ok (.iload_n 1, 1) := by decide +kernel
theorem dX5_runLength_2 : decode cX5_runLength 2 = .ok (.invokestatic 58, 3) := by decide +kernel
theorem dX5_runLength_5 : decode cX5_runLength 5 = .ok (.ifCond .eq 22, 3) := by decide +kernel
theorem dX5_runLength_8 : decode cX5_runLength 8 = .ok (.iload_n 2, 1) := by decide +kernel
theorem dX5_runLength_9 : decode cX5_runLength 9 = .ok (.iconst 0, 1) := by decide +kernel
theorem dX5_runLength_10 : decode cX5_runLength 10 = .ok (.aload_n 0, 1) := by decide +kernel
theorem dX5_runLength_11 : decode cX5_runLength 11 = .ok (.iload_n 1, 1) := by decide +kernel
theorem dX5_runLength_12 : decode cX5_runLength 12 = .ok (.invokevirtual 76, 3) := by decide +kernel
theorem dX5_runLength_15 : decode cX5_runLength 15 = .ok (.iconst 1, 1) := by decide +kernel
theorem dX5_runLength_16 : decode cX5_runLength 16 = .ok (.isub, 1) := by decide +kernel
theorem dX5_runLength_17 : decode cX5_runLength 17 = .ok (.invokestatic 47, 3) := by decide +kernel
theorem dX5_runLength_20 : decode cX5_runLength 20 = .ok (.ifCond .eq 7, 3) := by decide +kernel
theorem dX5_runLength_23 : decode cX5_runLength 23 = .ok (.iconst 0, 1) := by decide +kernel
theorem dX5_runLength_24 : decode cX5_runLength 24 = .ok (.goto 4, 3) := by decide +kernel
theorem dX5_runLength_27 : decode cX5_runLength 27 = .ok (.iconst 1, 1) := by decide +kernel
theorem dX5_runLength_28 : decode cX5_runLength 28 = .ok (.putfield 44, 3) := by decide +kernel
theorem dX5_runLength_31 : decode cX5_runLength 31 = .ok (.iconst 0, 1) := by decide +kernel
theorem dX5_runLength_32 : decode cX5_runLength 32 = .ok (.istore_n 3, 1) := by decide +kernel
theorem dX5_runLength_33 : decode cX5_runLength 33 = .ok (.iconst 0, 1) := by decide +kernel
theorem dX5_runLength_34 : decode cX5_runLength 34 = .ok (.istore 4, 2) := by decide +kernel
theorem dX5_runLength_36 : decode cX5_runLength 36 = .ok (.iconst 0, 1) := by decide +kernel
theorem dX5_runLength_37 : decode cX5_runLength 37 = .ok (.istore 5, 2) := by decide +kernel
theorem dX5_runLength_39 : decode cX5_runLength 39 = .ok (.iload 5, 2) := by decide +kernel
theorem dX5_runLength_41 : decode cX5_runLength 41 = .ok (.bipush 8, 2) := by decide +kernel
theorem dX5_runLength_43 : decode cX5_runLength 43 = .ok (.if_icmp .ge 64, 3) := by decide +kernel
theorem dX5_runLength_46 : decode cX5_runLength 46 = .ok (.aload_n 0, 1) := by decide +kernel
theorem dX5_runLength_47 : decode cX5_runLength 47 = .ok (.getfield 44, 3) := by decide +kernel
theorem dX5_runLength_50 : decode cX5_runLength 50 = .ok (.ifCond .ne 57, 3) := by decide +kernel
theorem dX5_runLength_53 : decode cX5_runLength 53 = .ok (.iload 4, 2) := by decide +kernel
theorem dX5_runLength_55 : decode cX5_runLength 55 = .ok (.iload 5, 2) := by decide +kernel
theorem dX5_runLength_57 : decode cX5_runLength 57 = .ok (.ifCond .le 26, 3) := by decide +kernel
theorem dX5_runLength_60 : decode cX5_runLength 60 = .ok (.aload_n 0, 1) := by decide +kernel
theorem dX5_runLength_61 : decode cX5_runLength 61 = .ok (.iload_n 1, 1) := by decide +kernel
theorem dX5_runLength_62 : decode cX5_runLength 62 = .ok (.iload 5, 2) := by decide +kernel
theorem dX5_runLength_64 : decode cX5_runLength 64 = .ok (.invokevirtual 72, 3) := by decide +kernel
theorem dX5_runLength_67 : decode cX5_runLength 67 = .ok (.aload_n 0, 1) := by decide +kernel
theorem dX5_runLength_68 : decode cX5_runLength 68 = .ok (.iload_n 1, 1) := by decide +kernel
theorem dX5_runLength_69 : decode cX5_runLength 69 = .ok (.iload 5, 2) := by decide +kernel
theorem dX5_runLength_71 : decode cX5_runLength 71 = .ok (.iconst 1, 1) := by decide +kernel
theorem dX5_runLength_72 : decode cX5_runLength 72 = .ok (.isub, 1) := by decide +kernel
theorem dX5_runLength_73 : decode cX5_runLength 73 = .ok (.invokevirtual 72, 3) := by decide +kernel
theorem dX5_runLength_76 : decode cX5_runLength 76 = .ok (.if_icmp .eq 7, 3) := by decide +kernel
theorem dX5_runLength_79 : decode cX5_runLength 79 = .ok (.iconst 1, 1) := by decide +kernel
theorem dX5_runLength_80 : decode cX5_runLength 80 = .ok (.goto 4, 3) := by decide +kernel
theorem dX5_runLength_83 : decode cX5_runLength 83 = .ok (.iconst 0, 1) := by decide +kernel
theorem dX5_runLength_84 : decode cX5_runLength 84 = .ok (.iadd, 1) := by decide +kernel
theorem dX5_runLength_85 : decode cX5_runLength 85 = .ok (.istore 4, 2) := by decide +kernel
theorem dX5_runLength_87 : decode cX5_runLength 87 = .ok (.iload_n 3, 1) := by decide +kernel
theorem dX5_runLength_88 : decode cX5_runLength 88 = .ok (.iload 4, 2) := by decide +kernel
theorem dX5_runLength_90 : decode cX5_runLength 90 = .ok (.iload_n 2, 1) := by decide +kernel
theorem dX5_runLength_91 : decode cX5_runLength 91 = .ok (.if_icmp .ne 7, 3) := by decide +kernel
theorem dX5_runLength_94 : decode cX5_runLength 94 = .ok (.iconst 1, 1) := by decide +kernel
theorem dX5_runLength_95 : decode cX5_runLength 95 = .ok (.goto 4, 3) := by decide +kernel
theorem dX5_runLength_98 : decode cX5_runLength 98 = .ok (.iconst 0, 1) := by decide +kernel
theorem dX5_runLength_99 : decode cX5_runLength 99 = .ok (.iadd, 1) := by decide +kernel
theorem dX5_runLength_100 : decode cX5_runLength 100 = .ok (.istore_n 3, 1) := by decide +kernel
theorem dX5_runLength_101 : decode cX5_runLength 101 = .ok (.iinc 5 1, 3) := by decide +kernel
theorem dX5_runLength_104 : decode cX5_runLength 104 = .ok (.goto (-65), 3) := by decide +kernel
theorem dX5_runLength_107 : decode cX5_runLength 107 = .ok (.iload_n 3, 1) := by decide +kernel
theorem dX5_runLength_108 : decode cX5_runLength 108 = .ok (.ireturn, 1) := by decide +kernel
theorem dX5_manyBlocks_0 : decode cX5_manyBlocks 0 = .ok (.iconst 0, 1) := by decide +kernel
theorem dX5_manyBlocks_1 : decode cX5_manyBlocks 1 = .ok (.istore_n 1, 1) := by decide +kernel
theorem dX5_manyBlocks_2 : decode cX5_manyBlocks 2 = .ok (.iconst 0, 1) := by decide +kernel
theorem dX5_manyBlocks_3 : decode cX5_manyBlocks 3 = .ok (.istore_n 2, 1) := by decide +kernel
theorem dX5_manyBlocks_4 : decode cX5_manyBlocks 4 = .ok (.iload_n 2, 1) := by decide +kernel
theorem dX5_manyBlocks_5 : decode cX5_manyBlocks 5 = .ok (.bipush 16, 2) := by decide +kernel
theorem dX5_manyBlocks_7 : decode cX5_manyBlocks 7 = .ok (.if_icmp .ge 40, 3) := by decide +kernel
theorem dX5_manyBlocks_10 : decode cX5_manyBlocks 10 = .ok (.iconst 0, 1) := by decide +kernel
theorem dX5_manyBlocks_11 : decode cX5_manyBlocks 11 = .ok (.istore_n 3, 1) := by decide +kernel
theorem dX5_manyBlocks_12 : decode cX5_manyBlocks 12 = .ok (.iload_n 3, 1) := by decide +kernel
theorem dX5_manyBlocks_13 : decode cX5_manyBlocks 13 = .ok (.bipush 8, 2) := by decide +kernel
theorem dX5_manyBlocks_15 : decode cX5_manyBlocks 15 = .ok (.if_icmp .ge 26, 3) := by decide +kernel
theorem dX5_manyBlocks_18 : decode cX5_manyBlocks 18 = .ok (.iload_n 1, 1) := by decide +kernel
theorem dX5_manyBlocks_19 : decode cX5_manyBlocks 19 = .ok (.aload_n 0, 1) := by decide +kernel
theorem dX5_manyBlocks_20 : decode cX5_manyBlocks 20 = .ok (.iload_n 2, 1) := by decide +kernel
theorem dX5_manyBlocks_21 : decode cX5_manyBlocks 21 = .ok (.iload_n 3, 1) := by decide +kernel
theorem dX5_manyBlocks_22 : decode cX5_manyBlocks 22 = .ok (.invokevirtual 72, 3) := by decide +kernel
theorem dX5_manyBlocks_25 : decode cX5_manyBlocks 25 = .ok (.ifCond .le 7, 3) := by decide +kernel
theorem dX5_manyBlocks_28 : decode cX5_manyBlocks 28 = .ok (.iconst 1, 1) := by decide +kernel
theorem dX5_manyBlocks_29 : decode cX5_manyBlocks 29 = .ok (.goto 4, 3) := by decide +kernel
theorem dX5_manyBlocks_32 : decode cX5_manyBlocks 32 = .ok (.iconst 0, 1) := by decide +kernel
theorem dX5_manyBlocks_33 : decode cX5_manyBlocks 33 = .ok (.iadd, 1) := by decide +kernel
theorem dX5_manyBlocks_34 : decode cX5_manyBlocks 34 = .ok (.istore_n 1, 1) := by decide +kernel
theorem dX5_manyBlocks_35 : decode cX5_manyBlocks 35 = .ok (.iinc 3 1, 3) := by decide +kernel
theorem dX5_manyBlocks_38 : decode cX5_manyBlocks 38 = .ok (.goto (-26), 3) := by decide +kernel
theorem dX5_manyBlocks_41 : decode cX5_manyBlocks 41 = .ok (.iinc 2 1, 3) := by decide +kernel
theorem dX5_manyBlocks_44 : decode cX5_manyBlocks 44 = .ok (.goto (-40), 3) := by decide +kernel
theorem dX5_manyBlocks_47 : decode cX5_manyBlocks 47 = .ok (.iload_n 1, 1) := by decide +kernel
theorem dX5_manyBlocks_48 : decode cX5_manyBlocks 48 = .ok (.ireturn, 1) := by decide +kernel
theorem dX5_blocks_0 : decode cX5_blocks 0 = .ok (.aload_n 0, 1) := by decide +kernel
theorem dX5_blocks_1 : decode cX5_blocks 1 = .ok (.iconst 0, 1) := by decide +kernel
theorem dX5_blocks_2 : decode cX5_blocks 2 = .ok (.putfield 44, 3) := by decide +kernel
theorem dX5_blocks_5 : decode cX5_blocks 5 = .ok (.aload_n 0, 1) := by decide +kernel
theorem dX5_blocks_6 : decode cX5_blocks 6 = .ok (.invokevirtual 80, 3) := by decide +kernel
theorem dX5_blocks_9 : decode cX5_blocks 9 = .ok (.ireturn, 1) := by decide +kernel
theorem dX5_blocksOneByOne_0 : decode cX5_blocksOneByOne 0 = .ok (.aload_n 0, 1) := by decide +kernel
theorem dX5_blocksOneByOne_1 : decode cX5_blocksOneByOne 1 = .ok (.iconst 0, 1) := by decide +kernel
theorem dX5_blocksOneByOne_2 : decode cX5_blocksOneByOne 2 = .ok (.putfield 44, 3) := by decide +kernel
theorem dX5_blocksOneByOne_5 : decode cX5_blocksOneByOne 5 = .ok (.aload_n 0, 1) := by decide +kernel
theorem dX5_blocksOneByOne_6 : decode cX5_blocksOneByOne 6 = .ok (.invokevirtual 80, 3) := by decide +kernel
theorem dX5_blocksOneByOne_9 : decode cX5_blocksOneByOne 9 = .ok (.ireturn, 1) := by decide +kernel
theorem dX5_joins_0 : decode cX5_joins 0 = .ok (.aload_n 0, 1) := by decide +kernel
theorem dX5_joins_1 : decode cX5_joins 1 = .ok (.getfield 20, 3) := by decide +kernel
theorem dX5_joins_4 : decode cX5_joins 4 = .ok (.iload_n 1, 1) := by decide +kernel
theorem dX5_joins_5 : decode cX5_joins 5 = .ok (.iaload, 1) := by decide +kernel
theorem dX5_joins_6 : decode cX5_joins 6 = .ok (.iconst (-1), 1) := by decide +kernel
theorem dX5_joins_7 : decode cX5_joins 7 = .ok (.if_icmp .eq 28, 3) := by decide +kernel
theorem dX5_joins_10 : decode cX5_joins 10 = .ok (.aload_n 0, 1) := by decide +kernel
theorem dX5_joins_11 : decode cX5_joins 11 = .ok (.getfield 20, 3) := by decide +kernel
theorem dX5_joins_14 : decode cX5_joins 14 = .ok (.iload_n 2, 1) := by decide +kernel
theorem dX5_joins_15 : decode cX5_joins 15 = .ok (.iaload, 1) := by decide +kernel
theorem dX5_joins_16 : decode cX5_joins 16 = .ok (.iconst (-1), 1) := by decide +kernel
theorem dX5_joins_17 : decode cX5_joins 17 = .ok (.if_icmp .eq 18, 3) := by decide +kernel
theorem dX5_joins_20 : decode cX5_joins 20 = .ok (.aload_n 0, 1) := by decide +kernel
theorem dX5_joins_21 : decode cX5_joins 21 = .ok (.getfield 20, 3) := by decide +kernel
theorem dX5_joins_24 : decode cX5_joins 24 = .ok (.iload_n 1, 1) := by decide +kernel
theorem dX5_joins_25 : decode cX5_joins 25 = .ok (.iaload, 1) := by decide +kernel
theorem dX5_joins_26 : decode cX5_joins 26 = .ok (.aload_n 0, 1) := by decide +kernel
theorem dX5_joins_27 : decode cX5_joins 27 = .ok (.getfield 20, 3) := by decide +kernel
theorem dX5_joins_30 : decode cX5_joins 30 = .ok (.iload_n 2, 1) := by decide +kernel
theorem dX5_joins_31 : decode cX5_joins 31 = .ok (.iaload, 1) := by decide +kernel
theorem dX5_joins_32 : decode cX5_joins 32 = .ok (.if_icmp .ne 5, 3) := by decide +kernel
theorem dX5_joins_35 : decode cX5_joins 35 = .ok (.iconst 0, 1) := by decide +kernel
theorem dX5_joins_36 : decode cX5_joins 36 = .ok (.ireturn, 1) := by decide +kernel
theorem dX5_joins_37 : decode cX5_joins 37 = .ok (.aload_n 0, 1) := by decide +kernel
theorem dX5_joins_38 : decode cX5_joins 38 = .ok (.getfield 20, 3) := by decide +kernel
theorem dX5_joins_41 : decode cX5_joins 41 = .ok (.iload_n 1, 1) := by decide +kernel
theorem dX5_joins_42 : decode cX5_joins 42 = .ok (.iaload, 1) := by decide +kernel
theorem dX5_joins_43 : decode cX5_joins 43 = .ok (.aload_n 0, 1) := by decide +kernel
theorem dX5_joins_44 : decode cX5_joins 44 = .ok (.getfield 20, 3) := by decide +kernel
theorem dX5_joins_47 : decode cX5_joins 47 = .ok (.iload_n 2, 1) := by decide +kernel
theorem dX5_joins_48 : decode cX5_joins 48 = .ok (.iaload, 1) := by decide +kernel
theorem dX5_joins_49 : decode cX5_joins 49 = .ok (.if_icmp .ge 12, 3) := by decide +kernel
theorem dX5_joins_52 : decode cX5_joins 52 = .ok (.aload_n 0, 1) := by decide +kernel
theorem dX5_joins_53 : decode cX5_joins 53 = .ok (.getfield 20, 3) := by decide +kernel
theorem dX5_joins_56 : decode cX5_joins 56 = .ok (.iload_n 1, 1) := by decide +kernel
theorem dX5_joins_57 : decode cX5_joins 57 = .ok (.iaload, 1) := by decide +kernel
theorem dX5_joins_58 : decode cX5_joins 58 = .ok (.goto 9, 3) := by decide +kernel
theorem dX5_joins_61 : decode cX5_joins 61 = .ok (.aload_n 0, 1) := by decide +kernel
theorem dX5_joins_62 : decode cX5_joins 62 = .ok (.getfield 20, 3) := by decide +kernel
theorem dX5_joins_65 : decode cX5_joins 65 = .ok (.iload_n 2, 1) := by decide +kernel
theorem dX5_joins_66 : decode cX5_joins 66 = .ok (.iaload, 1) := by decide +kernel
theorem dX5_joins_67 : decode cX5_joins 67 = .ok (.istore_n 3, 1) := by decide +kernel
theorem dX5_joins_68 : decode cX5_joins 68 = .ok (.aload_n 0, 1) := by decide +kernel
theorem dX5_joins_69 : decode cX5_joins 69 = .ok (.getfield 20, 3) := by decide +kernel
theorem dX5_joins_72 : decode cX5_joins 72 = .ok (.iload_n 1, 1) := by decide +kernel
theorem dX5_joins_73 : decode cX5_joins 73 = .ok (.iload_n 3, 1) := by decide +kernel
theorem dX5_joins_74 : decode cX5_joins 74 = .ok (.iastore, 1) := by decide +kernel
theorem dX5_joins_75 : decode cX5_joins 75 = .ok (.aload_n 0, 1) := by decide +kernel
theorem dX5_joins_76 : decode cX5_joins 76 = .ok (.getfield 20, 3) := by decide +kernel
theorem dX5_joins_79 : decode cX5_joins 79 = .ok (.iload_n 2, 1) := by decide +kernel
theorem dX5_joins_80 : decode cX5_joins 80 = .ok (.iload_n 3, 1) := by decide +kernel
theorem dX5_joins_81 : decode cX5_joins 81 = .ok (.iastore, 1) := by decide +kernel
theorem dX5_joins_82 : decode cX5_joins 82 = .ok (.iconst 1, 1) := by decide +kernel
theorem dX5_joins_83 : decode cX5_joins 83 = .ok (.ireturn, 1) := by decide +kernel
theorem dX5_joinsAll_0 : decode cX5_joinsAll 0 = .ok (.iconst 0, 1) := by decide +kernel
theorem dX5_joinsAll_1 : decode cX5_joinsAll 1 = .ok (.istore_n 1, 1) := by decide +kernel
theorem dX5_joinsAll_2 : decode cX5_joinsAll 2 = .ok (.iconst 0, 1) := by decide +kernel
theorem dX5_joinsAll_3 : decode cX5_joinsAll 3 = .ok (.istore_n 2, 1) := by decide +kernel
theorem dX5_joinsAll_4 : decode cX5_joinsAll 4 = .ok (.iload_n 2, 1) := by decide +kernel
theorem dX5_joinsAll_5 : decode cX5_joinsAll 5 = .ok (.bipush 16, 2) := by decide +kernel
theorem dX5_joinsAll_7 : decode cX5_joinsAll 7 = .ok (.if_icmp .ge 127, 3) := by decide +kernel
theorem dX5_joinsAll_10 : decode cX5_joinsAll 10 = .ok (.iconst 0, 1) := by decide +kernel
theorem dX5_joinsAll_11 : decode cX5_joinsAll 11 = .ok (.istore_n 3, 1) := by decide +kernel
theorem dX5_joinsAll_12 : decode cX5_joinsAll 12 = .ok (.iload_n 3, 1) := by decide +kernel
theorem dX5_joinsAll_13 : decode cX5_joinsAll 13 = .ok (.bipush 8, 2) := by decide +kernel
theorem dX5_joinsAll_15 : decode cX5_joinsAll 15 = .ok (.if_icmp .ge 113, 3) := by decide +kernel
theorem dX5_joinsAll_18 : decode cX5_joinsAll 18 = .ok (.bipush 8, 2) := by decide +kernel
theorem dX5_joinsAll_20 : decode cX5_joinsAll 20 = .ok (.iload_n 2, 1) := by decide +kernel
theorem dX5_joinsAll_21 : decode cX5_joinsAll 21 = .ok (.imul, 1) := by decide +kernel
theorem dX5_joinsAll_22 : decode cX5_joinsAll 22 = .ok (.iload_n 3, 1) := by decide +kernel
theorem dX5_joinsAll_23 : decode cX5_joinsAll 23 = .ok (.iadd, 1) := by decide +kernel
theorem dX5_joinsAll_24 : decode cX5_joinsAll 24 = .ok (.istore 4, 2) := by decide +kernel
theorem dX5_joinsAll_26 : decode cX5_joinsAll 26 = .ok (.iload_n 3, 1) := by decide +kernel
theorem dX5_joinsAll_27 : decode cX5_joinsAll 27 = .ok (.iconst 1, 1) := by decide +kernel
theorem dX5_joinsAll_28 : decode cX5_joinsAll 28 = .ok (.iadd, 1) := by decide +kernel
theorem dX5_joinsAll_29 : decode cX5_joinsAll 29 = .ok (.bipush 8, 2) := by decide +kernel
theorem dX5_joinsAll_31 : decode cX5_joinsAll 31 = .ok (.if_icmp .ge 16, 3) := by decide +kernel
theorem dX5_joinsAll_34 : decode cX5_joinsAll 34 = .ok (.aload_n 0, 1) := by decide +kernel
theorem dX5_joinsAll_35 : decode cX5_joinsAll 35 = .ok (.iload 4, 2) := by decide +kernel
theorem dX5_joinsAll_37 : decode cX5_joinsAll 37 = .ok (.iload 4, 2) := by decide +kernel
theorem dX5_joinsAll_39 : decode cX5_joinsAll 39 = .ok (.iconst 1, 1) := by decide +kernel
theorem dX5_joinsAll_40 : decode cX5_joinsAll 40 = .ok (.iadd, 1) := by decide +kernel
theorem dX5_joinsAll_41 : decode cX5_joinsAll 41 = .ok (.invokevirtual 84, 3) := by decide +kernel
theorem dX5_joinsAll_44 : decode cX5_joinsAll 44 = .ok (.ifCond .ne 7, 3) := by decide +kernel
theorem dX5_joinsAll_47 : decode cX5_joinsAll 47 = .ok (.iload_n 1, 1) := by decide +kernel
theorem dX5_joinsAll_48 : decode cX5_joinsAll 48 = .ok (.ifCond .eq 7, 3) := by decide +kernel
theorem dX5_joinsAll_51 : decode cX5_joinsAll 51 = .ok (.iconst 1, 1) := by decide +kernel
theorem dX5_joinsAll_52 : decode cX5_joinsAll 52 = .ok (.goto 4, 3) := by decide +kernel
theorem dX5_joinsAll_55 : decode cX5_joinsAll 55 = .ok (.iconst 0, 1) := by decide +kernel
theorem dX5_joinsAll_56 : decode cX5_joinsAll 56 = .ok (.istore_n 1, 1) := by decide +kernel
theorem dX5_joinsAll_57 : decode cX5_joinsAll 57 = .ok (.iload_n 2, 1) := by decide +kernel
theorem dX5_joinsAll_58 : decode cX5_joinsAll 58 = .ok (.iconst 4, 1) := by decide +kernel
theorem dX5_joinsAll_59 : decode cX5_joinsAll 59 = .ok (.irem, 1) := by decide +kernel
theorem dX5_joinsAll_60 : decode cX5_joinsAll 60 = .ok (.iconst 1, 1) := by decide +kernel
theorem dX5_joinsAll_61 : decode cX5_joinsAll 61 = .ok (.iadd, 1) := by decide +kernel
theorem dX5_joinsAll_62 : decode cX5_joinsAll 62 = .ok (.iconst 4, 1) := by decide +kernel
theorem dX5_joinsAll_63 : decode cX5_joinsAll 63 = .ok (.if_icmp .ge 17, 3) := by decide +kernel
theorem dX5_joinsAll_66 : decode cX5_joinsAll 66 = .ok (.aload_n 0, 1) := by decide +kernel
theorem dX5_joinsAll_67 : decode cX5_joinsAll 67 = .ok (.iload 4, 2) := by decide +kernel
theorem dX5_joinsAll_69 : decode cX5_joinsAll 69 = .ok (.iload 4, 2) := by decide +kernel
theorem dX5_joinsAll_71 : decode cX5_joinsAll 71 = .ok (.bipush 8, 2) := by decide +kernel
theorem dX5_joinsAll_73 : decode cX5_joinsAll 73 = .ok (.iadd, 1) := by decide +kernel
theorem dX5_joinsAll_74 : decode cX5_joinsAll 74 = .ok (.invokevirtual 84, 3) := by decide +kernel
theorem dX5_joinsAll_77 : decode cX5_joinsAll 77 = .ok (.ifCond .ne 7, 3) := by decide +kernel
theorem dX5_joinsAll_80 : decode cX5_joinsAll 80 = .ok (.iload_n 1, 1) := by decide +kernel
theorem dX5_joinsAll_81 : decode cX5_joinsAll 81 = .ok (.ifCond .eq 7, 3) := by decide +kernel
theorem dX5_joinsAll_84 : decode cX5_joinsAll 84 = .ok (.iconst 1, 1) := by decide +kernel
theorem dX5_joinsAll_85 : decode cX5_joinsAll 85 = .ok (.goto 4, 3) := by decide +kernel
theorem dX5_joinsAll_88 : decode cX5_joinsAll 88 = .ok (.iconst 0, 1) := by decide +kernel
theorem dX5_joinsAll_89 : decode cX5_joinsAll 89 = .ok (.istore_n 1, 1) := by decide +kernel
theorem dX5_joinsAll_90 : decode cX5_joinsAll 90 = .ok (.iload_n 2, 1) := by decide +kernel
theorem dX5_joinsAll_91 : decode cX5_joinsAll 91 = .ok (.iconst 4, 1) := by decide +kernel
theorem dX5_joinsAll_92 : decode cX5_joinsAll 92 = .ok (.iadd, 1) := by decide +kernel
theorem dX5_joinsAll_93 : decode cX5_joinsAll 93 = .ok (.bipush 16, 2) := by decide +kernel
theorem dX5_joinsAll_95 : decode cX5_joinsAll 95 = .ok (.if_icmp .ge 17, 3) := by decide +kernel
theorem dX5_joinsAll_98 : decode cX5_joinsAll 98 = .ok (.aload_n 0, 1) := by decide +kernel
theorem dX5_joinsAll_99 : decode cX5_joinsAll 99 = .ok (.iload 4, 2) := by decide +kernel
theorem dX5_joinsAll_101 : decode cX5_joinsAll 101 = .ok (.iload 4, 2) := by decide +kernel
theorem dX5_joinsAll_103 : decode cX5_joinsAll 103 = .ok (.bipush 32, 2) := by decide +kernel
theorem dX5_joinsAll_105 : decode cX5_joinsAll 105 = .ok (.iadd, 1) := by decide +kernel
theorem dX5_joinsAll_106 : decode cX5_joinsAll 106 = .ok (.invokevirtual 84, 3) := by decide +kernel
theorem dX5_joinsAll_109 : decode cX5_joinsAll 109 = .ok (.ifCond .ne 7, 3) := by decide +kernel
theorem dX5_joinsAll_112 : decode cX5_joinsAll 112 = .ok (.iload_n 1, 1) := by decide +kernel
theorem dX5_joinsAll_113 : decode cX5_joinsAll 113 = .ok (.ifCond .eq 7, 3) := by decide +kernel
theorem dX5_joinsAll_116 : decode cX5_joinsAll 116 = .ok (.iconst 1, 1) := by decide +kernel
theorem dX5_joinsAll_117 : decode cX5_joinsAll 117 = .ok (.goto 4, 3) := by decide +kernel
theorem dX5_joinsAll_120 : decode cX5_joinsAll 120 = .ok (.iconst 0, 1) := by decide +kernel
theorem dX5_joinsAll_121 : decode cX5_joinsAll 121 = .ok (.istore_n 1, 1) := by decide +kernel
theorem dX5_joinsAll_122 : decode cX5_joinsAll 122 = .ok (.iinc 3 1, 3) := by decide +kernel
theorem dX5_joinsAll_125 : decode cX5_joinsAll 125 = .ok (.goto (-113), 3) := by decide +kernel
theorem dX5_joinsAll_128 : decode cX5_joinsAll 128 = .ok (.iinc 2 1, 3) := by decide +kernel
theorem dX5_joinsAll_131 : decode cX5_joinsAll 131 = .ok (.goto (-127), 3) := by decide +kernel
theorem dX5_joinsAll_134 : decode cX5_joinsAll 134 = .ok (.iload_n 1, 1) := by decide +kernel
theorem dX5_joinsAll_135 : decode cX5_joinsAll 135 = .ok (.ireturn, 1) := by decide +kernel
theorem dX5_manyPieces_0 : decode cX5_manyPieces 0 = .ok (.iconst 0, 1) := by decide +kernel
theorem dX5_manyPieces_1 : decode cX5_manyPieces 1 = .ok (.istore_n 1, 1) := by decide +kernel
theorem dX5_manyPieces_2 : decode cX5_manyPieces 2 = .ok (.iload_n 1, 1) := by decide +kernel
theorem dX5_manyPieces_3 : decode cX5_manyPieces 3 = .ok (.sipush 128, 3) := by decide +kernel
theorem dX5_manyPieces_6 : decode cX5_manyPieces 6 = .ok (.if_icmp .ge 35, 3) := by decide +kernel
theorem dX5_manyPieces_9 : decode cX5_manyPieces 9 = .ok (.aload_n 0, 1) := by decide +kernel
theorem dX5_manyPieces_10 : decode cX5_manyPieces 10 = .ok (.getfield 20, 3) := by decide +kernel
theorem dX5_manyPieces_13 : decode cX5_manyPieces 13 = .ok (.iload_n 1, 1) := by decide +kernel
theorem dX5_manyPieces_14 : decode cX5_manyPieces 14 = .ok (.aload_n 0, 1) := by decide +kernel
theorem dX5_manyPieces_15 : decode cX5_manyPieces 15 = .ok (.iload_n 1, 1) := by decide +kernel
theorem dX5_manyPieces_16 : decode cX5_manyPieces 16 = .ok (.bipush 8, 2) := by decide +kernel
theorem dX5_manyPieces_18 : decode cX5_manyPieces 18 = .ok (.idiv, 1) := by decide +kernel
theorem dX5_manyPieces_19 : decode cX5_manyPieces 19 = .ok (.iload_n 1, 1) := by decide +kernel
theorem dX5_manyPieces_20 : decode cX5_manyPieces 20 = .ok (.bipush 8, 2) := by decide +kernel
theorem dX5_manyPieces_22 : decode cX5_manyPieces 22 = .ok (.irem, 1) := by decide +kernel
theorem dX5_manyPieces_23 : decode cX5_manyPieces 23 = .ok (.invokevirtual 72, 3) := by decide +kernel
theorem dX5_manyPieces_26 : decode cX5_manyPieces 26 = .ok (.ifCond .le 7, 3) := by decide +kernel
theorem dX5_manyPieces_29 : decode cX5_manyPieces 29 = .ok (.iload_n 1, 1) := by decide +kernel
theorem dX5_manyPieces_30 : decode cX5_manyPieces 30 = .ok (.goto 4, 3) := by decide +kernel
theorem dX5_manyPieces_33 : decode cX5_manyPieces 33 = .ok (.iconst (-1), 1) := by decide +kernel
theorem dX5_manyPieces_34 : decode cX5_manyPieces 34 = .ok (.iastore, 1) := by decide +kernel
theorem dX5_manyPieces_35 : decode cX5_manyPieces 35 = .ok (.iinc 1 1, 3) := by decide +kernel
theorem dX5_manyPieces_38 : decode cX5_manyPieces 38 = .ok (.goto (-36), 3) := by decide +kernel
theorem dX5_manyPieces_41 : decode cX5_manyPieces 41 = .ok (.iconst 1, 1) := by decide +kernel
theorem dX5_manyPieces_42 : decode cX5_manyPieces 42 = .ok (.istore_n 1, 1) := by decide +kernel
theorem dX5_manyPieces_43 : decode cX5_manyPieces 43 = .ok (.iload_n 1, 1) := by decide +kernel
theorem dX5_manyPieces_44 : decode cX5_manyPieces 44 = .ok (.ifCond .eq 11, 3) := by decide +kernel
theorem dX5_manyPieces_47 : decode cX5_manyPieces 47 = .ok (.aload_n 0, 1) := by decide +kernel
theorem dX5_manyPieces_48 : decode cX5_manyPieces 48 = .ok (.invokevirtual 88, 3) := by decide +kernel
theorem dX5_manyPieces_51 : decode cX5_manyPieces 51 = .ok (.istore_n 1, 1) := by decide +kernel
theorem dX5_manyPieces_52 : decode cX5_manyPieces 52 = .ok (.goto (-9), 3) := by decide +kernel
theorem dX5_manyPieces_55 : decode cX5_manyPieces 55 = .ok (.iconst 0, 1) := by decide +kernel
theorem dX5_manyPieces_56 : decode cX5_manyPieces 56 = .ok (.istore_n 2, 1) := by decide +kernel
theorem dX5_manyPieces_57 : decode cX5_manyPieces 57 = .ok (.iconst 0, 1) := by decide +kernel
theorem dX5_manyPieces_58 : decode cX5_manyPieces 58 = .ok (.istore_n 3, 1) := by decide +kernel
theorem dX5_manyPieces_59 : decode cX5_manyPieces 59 = .ok (.iload_n 3, 1) := by decide +kernel
theorem dX5_manyPieces_60 : decode cX5_manyPieces 60 = .ok (.sipush 128, 3) := by decide +kernel
theorem dX5_manyPieces_63 : decode cX5_manyPieces 63 = .ok (.if_icmp .ge 27, 3) := by decide +kernel
theorem dX5_manyPieces_66 : decode cX5_manyPieces 66 = .ok (.iload_n 2, 1) := by decide +kernel
theorem dX5_manyPieces_67 : decode cX5_manyPieces 67 = .ok (.aload_n 0, 1) := by decide +kernel
theorem dX5_manyPieces_68 : decode cX5_manyPieces 68 = .ok (.getfield 20, 3) := by decide +kernel
theorem dX5_manyPieces_71 : decode cX5_manyPieces 71 = .ok (.iload_n 3, 1) := by decide +kernel
theorem dX5_manyPieces_72 : decode cX5_manyPieces 72 = .ok (.iaload, 1) := by decide +kernel
theorem dX5_manyPieces_73 : decode cX5_manyPieces 73 = .ok (.iload_n 3, 1) := by decide +kernel
theorem dX5_manyPieces_74 : decode cX5_manyPieces 74 = .ok (.if_icmp .ne 7, 3) := by decide +kernel
theorem dX5_manyPieces_77 : decode cX5_manyPieces 77 = .ok (.iconst 1, 1) := by decide +kernel
theorem dX5_manyPieces_78 : decode cX5_manyPieces 78 = .ok (.goto 4, 3) := by decide +kernel
theorem dX5_manyPieces_81 : decode cX5_manyPieces 81 = .ok (.iconst 0, 1) := by decide +kernel
theorem dX5_manyPieces_82 : decode cX5_manyPieces 82 = .ok (.iadd, 1) := by decide +kernel
theorem dX5_manyPieces_83 : decode cX5_manyPieces 83 = .ok (.istore_n 2, 1) := by decide +kernel
theorem dX5_manyPieces_84 : decode cX5_manyPieces 84 = .ok (.iinc 3 1, 3) := by decide +kernel
theorem dX5_manyPieces_87 : decode cX5_manyPieces 87 = .ok (.goto (-28), 3) := by decide +kernel
theorem dX5_manyPieces_90 : decode cX5_manyPieces 90 = .ok (.iload_n 2, 1) := by decide +kernel
theorem dX5_manyPieces_91 : decode cX5_manyPieces 91 = .ok (.ireturn, 1) := by decide +kernel
theorem dX5_pieces_0 : decode cX5_pieces 0 = .ok (.aload_n 0, 1) := by decide +kernel
theorem dX5_pieces_1 : decode cX5_pieces 1 = .ok (.iconst 0, 1) := by decide +kernel
theorem dX5_pieces_2 : decode cX5_pieces 2 = .ok (.putfield 44, 3) := by decide +kernel
theorem dX5_pieces_5 : decode cX5_pieces 5 = .ok (.aload_n 0, 1) := by decide +kernel
theorem dX5_pieces_6 : decode cX5_pieces 6 = .ok (.invokevirtual 92, 3) := by decide +kernel
theorem dX5_pieces_9 : decode cX5_pieces 9 = .ok (.ireturn, 1) := by decide +kernel
theorem dX5_heightNow_0 : decode cX5_heightNow 0 = .ok (.iconst 0, 1) := by decide +kernel
theorem dX5_heightNow_1 : decode cX5_heightNow 1 = .ok (.istore_n 2, 1) := by decide +kernel
theorem dX5_heightNow_2 : decode cX5_heightNow 2 = .ok (.iconst 0, 1) := by decide +kernel
theorem dX5_heightNow_3 : decode cX5_heightNow 3 = .ok (.istore_n 3, 1) := by decide +kernel
theorem dX5_heightNow_4 : decode cX5_heightNow 4 = .ok (.iload_n 3, 1) := by decide +kernel
theorem dX5_heightNow_5 : decode cX5_heightNow 5 = .ok (.bipush 8, 2) := by decide +kernel
theorem dX5_heightNow_7 : decode cX5_heightNow 7 = .ok (.if_icmp .ge 26, 3) := by decide +kernel
theorem dX5_heightNow_10 : decode cX5_heightNow 10 = .ok (.aload_n 0, 1) := by decide +kernel
theorem dX5_heightNow_11 : decode cX5_heightNow 11 = .ok (.iload_n 1, 1) := by decide +kernel
theorem dX5_heightNow_12 : decode cX5_heightNow 12 = .ok (.iload_n 3, 1) := by decide +kernel
theorem dX5_heightNow_13 : decode cX5_heightNow 13 = .ok (.invokevirtual 72, 3) := by decide +kernel
theorem dX5_heightNow_16 : decode cX5_heightNow 16 = .ok (.ifCond .le 9, 3) := by decide +kernel
theorem dX5_heightNow_19 : decode cX5_heightNow 19 = .ok (.iload_n 3, 1) := by decide +kernel
theorem dX5_heightNow_20 : decode cX5_heightNow 20 = .ok (.iconst 1, 1) := by decide +kernel
theorem dX5_heightNow_21 : decode cX5_heightNow 21 = .ok (.iadd, 1) := by decide +kernel
theorem dX5_heightNow_22 : decode cX5_heightNow 22 = .ok (.goto 4, 3) := by decide +kernel
theorem dX5_heightNow_25 : decode cX5_heightNow 25 = .ok (.iload_n 2, 1) := by decide +kernel
theorem dX5_heightNow_26 : decode cX5_heightNow 26 = .ok (.istore_n 2, 1) := by decide +kernel
theorem dX5_heightNow_27 : decode cX5_heightNow 27 = .ok (.iinc 3 1, 3) := by decide +kernel
theorem dX5_heightNow_30 : decode cX5_heightNow 30 = .ok (.goto (-26), 3) := by decide +kernel
theorem dX5_heightNow_33 : decode cX5_heightNow 33 = .ok (.iload_n 2, 1) := by decide +kernel
theorem dX5_heightNow_34 : decode cX5_heightNow 34 = .ok (.ireturn, 1) := by decide +kernel
theorem dX5_height_0 : decode cX5_height 0 = .ok (.aload_n 0, 1) := by decide +kernel
theorem dX5_height_1 : decode cX5_height 1 = .ok (.iload_n 1, 1) := by decide +kernel
theorem dX5_height_2 : decode cX5_height 2 = .ok (.invokestatic 58, 3) := by decide +kernel
theorem dX5_height_5 : decode cX5_height 5 = .ok (.ifCond .eq 7, 3) := by decide +kernel
theorem dX5_height_8 : decode cX5_height 8 = .ok (.iconst 0, 1) := by decide +kernel
theorem dX5_height_9 : decode cX5_height 9 = .ok (.goto 4, 3) := by decide +kernel
theorem dX5_height_12 : decode cX5_height 12 = .ok (.iconst 1, 1) := by decide +kernel
theorem dX5_height_13 : decode cX5_height 13 = .ok (.putfield 44, 3) := by decide +kernel
theorem dX5_height_16 : decode cX5_height 16 = .ok (.aload_n 0, 1) := by decide +kernel
theorem dX5_height_17 : decode cX5_height 17 = .ok (.getfield 44, 3) := by decide +kernel
theorem dX5_height_20 : decode cX5_height 20 = .ok (.ifCond .le 7, 3) := by decide +kernel
theorem dX5_height_23 : decode cX5_height 23 = .ok (.iconst 0, 1) := by decide +kernel
theorem dX5_height_24 : decode cX5_height 24 = .ok (.goto 8, 3) := by decide +kernel
theorem dX5_height_27 : decode cX5_height 27 = .ok (.aload_n 0, 1) := by decide +kernel
theorem dX5_height_28 : decode cX5_height 28 = .ok (.iload_n 1, 1) := by decide +kernel
theorem dX5_height_29 : decode cX5_height 29 = .ok (.invokevirtual 95, 3) := by decide +kernel
theorem dX5_height_32 : decode cX5_height 32 = .ok (.ireturn, 1) := by decide +kernel
theorem dX5_state_0 : decode cX5_state 0 = .ok (.aload_n 0, 1) := by decide +kernel
theorem dX5_state_1 : decode cX5_state 1 = .ok (.iconst 0, 1) := by decide +kernel
theorem dX5_state_2 : decode cX5_state 2 = .ok (.putfield 44, 3) := by decide +kernel
theorem dX5_state_5 : decode cX5_state 5 = .ok (.aload_n 0, 1) := by decide +kernel
theorem dX5_state_6 : decode cX5_state 6 = .ok (.getfield 51, 3) := by decide +kernel
theorem dX5_state_9 : decode cX5_state 9 = .ok (.ireturn, 1) := by decide +kernel
theorem dX5_states_0 : decode cX5_states 0 = .ok (.aload_n 0, 1) := by decide +kernel
theorem dX5_states_1 : decode cX5_states 1 = .ok (.iconst 0, 1) := by decide +kernel
theorem dX5_states_2 : decode cX5_states 2 = .ok (.putfield 44, 3) := by decide +kernel
theorem dX5_states_5 : decode cX5_states 5 = .ok (.aload_n 0, 1) := by decide +kernel
theorem dX5_states_6 : decode cX5_states 6 = .ok (.getfield 7, 3) := by decide +kernel
theorem dX5_states_9 : decode cX5_states 9 = .ok (.ireturn, 1) := by decide +kernel
theorem dX5_isState_0 : decode cX5_isState 0 = .ok (.iload_n 1, 1) := by decide +kernel
theorem dX5_isState_1 : decode cX5_isState 1 = .ok (.iconst 0, 1) := by decide +kernel
theorem dX5_isState_2 : decode cX5_isState 2 = .ok (.aload_n 0, 1) := by decide +kernel
theorem dX5_isState_3 : decode cX5_isState 3 = .ok (.getfield 7, 3) := by decide +kernel
theorem dX5_isState_6 : decode cX5_isState 6 = .ok (.iconst 1, 1) := by decide +kernel
theorem dX5_isState_7 : decode cX5_isState 7 = .ok (.isub, 1) := by decide +kernel
theorem dX5_isState_8 : decode cX5_isState 8 = .ok (.invokestatic 47, 3) := by decide +kernel
theorem dX5_isState_11 : decode cX5_isState 11 = .ok (.ireturn, 1) := by decide +kernel
theorem dX5_visit_0 : decode cX5_visit 0 = .ok (.aload_n 0, 1) := by decide +kernel
theorem dX5_visit_1 : decode cX5_visit 1 = .ok (.aload_n 0, 1) := by decide +kernel
theorem dX5_visit_2 : decode cX5_visit 2 = .ok (.iload_n 1, 1) := by decide +kernel
theorem dX5_visit_3 : decode cX5_visit 3 = .ok (.invokevirtual 98, 3) := by decide +kernel
theorem dX5_visit_6 : decode cX5_visit 6 = .ok (.ifCond .eq 7, 3) := by decide +kernel
theorem dX5_visit_9 : decode cX5_visit 9 = .ok (.iconst 0, 1) := by decide +kernel
theorem dX5_visit_10 : decode cX5_visit 10 = .ok (.goto 4, 3) := by decide +kernel
theorem dX5_visit_13 : decode cX5_visit 13 = .ok (.iconst 1, 1) := by decide +kernel
theorem dX5_visit_14 : decode cX5_visit 14 = .ok (.putfield 44, 3) := by decide +kernel
theorem dX5_visit_17 : decode cX5_visit 17 = .ok (.aload_n 0, 1) := by decide +kernel
theorem dX5_visit_18 : decode cX5_visit 18 = .ok (.getfield 44, 3) := by decide +kernel
theorem dX5_visit_21 : decode cX5_visit 21 = .ok (.ifCond .le 5, 3) := by decide +kernel
theorem dX5_visit_24 : decode cX5_visit 24 = .ok (.iconst 0, 1) := by decide +kernel
theorem dX5_visit_25 : decode cX5_visit 25 = .ok (.ireturn, 1) := by decide +kernel
theorem dX5_visit_26 : decode cX5_visit 26 = .ok (.aload_n 0, 1) := by decide +kernel
theorem dX5_visit_27 : decode cX5_visit 27 = .ok (.getfield 51, 3) := by decide +kernel
theorem dX5_visit_30 : decode cX5_visit 30 = .ok (.istore_n 2, 1) := by decide +kernel
theorem dX5_visit_31 : decode cX5_visit 31 = .ok (.aload_n 0, 1) := by decide +kernel
theorem dX5_visit_32 : decode cX5_visit 32 = .ok (.iload_n 1, 1) := by decide +kernel
theorem dX5_visit_33 : decode cX5_visit 33 = .ok (.putfield 51, 3) := by decide +kernel
theorem dX5_visit_36 : decode cX5_visit 36 = .ok (.iload_n 2, 1) := by decide +kernel
theorem dX5_visit_37 : decode cX5_visit 37 = .ok (.ireturn, 1) := by decide +kernel
theorem dX5_undo_0 : decode cX5_undo 0 = .ok (.aload_n 0, 1) := by decide +kernel
theorem dX5_undo_1 : decode cX5_undo 1 = .ok (.aload_n 0, 1) := by decide +kernel
theorem dX5_undo_2 : decode cX5_undo 2 = .ok (.getfield 51, 3) := by decide +kernel
theorem dX5_undo_5 : decode cX5_undo 5 = .ok (.ifCond .ne 7, 3) := by decide +kernel
theorem dX5_undo_8 : decode cX5_undo 8 = .ok (.iconst 1, 1) := by decide +kernel
theorem dX5_undo_9 : decode cX5_undo 9 = .ok (.goto 4, 3) := by decide +kernel
theorem dX5_undo_12 : decode cX5_undo 12 = .ok (.iconst 0, 1) := by decide +kernel
theorem dX5_undo_13 : decode cX5_undo 13 = .ok (.putfield 44, 3) := by decide +kernel
theorem dX5_undo_16 : decode cX5_undo 16 = .ok (.aload_n 0, 1) := by decide +kernel
theorem dX5_undo_17 : decode cX5_undo 17 = .ok (.getfield 44, 3) := by decide +kernel
theorem dX5_undo_20 : decode cX5_undo 20 = .ok (.ifCond .le 5, 3) := by decide +kernel
theorem dX5_undo_23 : decode cX5_undo 23 = .ok (.iconst 0, 1) := by decide +kernel
theorem dX5_undo_24 : decode cX5_undo 24 = .ok (.ireturn, 1) := by decide +kernel
theorem dX5_undo_25 : decode cX5_undo 25 = .ok (.aload_n 0, 1) := by decide +kernel
theorem dX5_undo_26 : decode cX5_undo 26 = .ok (.aload_n 0, 1) := by decide +kernel
theorem dX5_undo_27 : decode cX5_undo 27 = .ok (.getfield 13, 3) := by decide +kernel
theorem dX5_undo_30 : decode cX5_undo 30 = .ok (.aload_n 0, 1) := by decide +kernel
theorem dX5_undo_31 : decode cX5_undo 31 = .ok (.getfield 51, 3) := by decide +kernel
theorem dX5_undo_34 : decode cX5_undo 34 = .ok (.iaload, 1) := by decide +kernel
theorem dX5_undo_35 : decode cX5_undo 35 = .ok (.putfield 51, 3) := by decide +kernel
theorem dX5_undo_38 : decode cX5_undo 38 = .ok (.aload_n 0, 1) := by decide +kernel
theorem dX5_undo_39 : decode cX5_undo 39 = .ok (.getfield 51, 3) := by decide +kernel
theorem dX5_undo_42 : decode cX5_undo 42 = .ok (.ireturn, 1) := by decide +kernel
theorem dX5_manyBranches_0 : decode cX5_manyBranches 0 = .ok (.iconst 0, 1) := by decide +kernel
theorem dX5_manyBranches_1 : decode cX5_manyBranches 1 = .ok (.istore_n 1, 1) := by decide +kernel
theorem dX5_manyBranches_2 : decode cX5_manyBranches 2 = .ok (.iconst 0, 1) := by decide +kernel
theorem dX5_manyBranches_3 : decode cX5_manyBranches 3 = .ok (.istore_n 2, 1) := by decide +kernel
theorem dX5_manyBranches_4 : decode cX5_manyBranches 4 = .ok (.iload_n 2, 1) := by decide +kernel
theorem dX5_manyBranches_5 : decode cX5_manyBranches 5 = .ok (.aload_n 0, 1) := by decide +kernel
theorem dX5_manyBranches_6 : decode cX5_manyBranches 6 = .ok (.getfield 7, 3) := by decide +kernel
theorem dX5_manyBranches_9 : decode cX5_manyBranches 9 = .ok (.if_icmp .ge 30, 3) := by decide +kernel
theorem dX5_manyBranches_12 : decode cX5_manyBranches 12 = .ok (.iload_n 1, 1) := by decide +kernel
theorem dX5_manyBranches_13 : decode cX5_manyBranches 13 = .ok (.aload_n 0, 1) := by decide +kernel
theorem dX5_manyBranches_14 : decode cX5_manyBranches 14 = .ok (.getfield 13, 3) := by decide +kernel
theorem dX5_manyBranches_17 : decode cX5_manyBranches 17 = .ok (.iload_n 2, 1) := by decide +kernel
theorem dX5_manyBranches_18 : decode cX5_manyBranches 18 = .ok (.iaload, 1) := by decide +kernel
theorem dX5_manyBranches_19 : decode cX5_manyBranches 19 = .ok (.aload_n 0, 1) := by decide +kernel
theorem dX5_manyBranches_20 : decode cX5_manyBranches 20 = .ok (.getfield 51, 3) := by decide +kernel
theorem dX5_manyBranches_23 : decode cX5_manyBranches 23 = .ok (.if_icmp .ne 7, 3) := by decide +kernel
theorem dX5_manyBranches_26 : decode cX5_manyBranches 26 = .ok (.iconst 1, 1) := by decide +kernel
theorem dX5_manyBranches_27 : decode cX5_manyBranches 27 = .ok (.goto 4, 3) := by decide +kernel
theorem dX5_manyBranches_30 : decode cX5_manyBranches 30 = .ok (.iconst 0, 1) := by decide +kernel
theorem dX5_manyBranches_31 : decode cX5_manyBranches 31 = .ok (.iadd, 1) := by decide +kernel
theorem dX5_manyBranches_32 : decode cX5_manyBranches 32 = .ok (.istore_n 1, 1) := by decide +kernel
theorem dX5_manyBranches_33 : decode cX5_manyBranches 33 = .ok (.iinc 2 1, 3) := by decide +kernel
theorem dX5_manyBranches_36 : decode cX5_manyBranches 36 = .ok (.goto (-32), 3) := by decide +kernel
theorem dX5_manyBranches_39 : decode cX5_manyBranches 39 = .ok (.iload_n 1, 1) := by decide +kernel
theorem dX5_manyBranches_40 : decode cX5_manyBranches 40 = .ok (.ireturn, 1) := by decide +kernel
theorem dX5_redo_0 : decode cX5_redo 0 = .ok (.aload_n 0, 1) := by decide +kernel
theorem dX5_redo_1 : decode cX5_redo 1 = .ok (.iload_n 1, 1) := by decide +kernel
theorem dX5_redo_2 : decode cX5_redo 2 = .ok (.iconst 0, 1) := by decide +kernel
theorem dX5_redo_3 : decode cX5_redo 3 = .ok (.aload_n 0, 1) := by decide +kernel
theorem dX5_redo_4 : decode cX5_redo 4 = .ok (.invokevirtual 101, 3) := by decide +kernel
theorem dX5_redo_7 : decode cX5_redo 7 = .ok (.iconst 1, 1) := by decide +kernel
theorem dX5_redo_8 : decode cX5_redo 8 = .ok (.isub, 1) := by decide +kernel
theorem dX5_redo_9 : decode cX5_redo 9 = .ok (.invokestatic 47, 3) := by decide +kernel
theorem dX5_redo_12 : decode cX5_redo 12 = .ok (.ifCond .eq 7, 3) := by decide +kernel
theorem dX5_redo_15 : decode cX5_redo 15 = .ok (.iconst 0, 1) := by decide +kernel
theorem dX5_redo_16 : decode cX5_redo 16 = .ok (.goto 4, 3) := by decide +kernel
theorem dX5_redo_19 : decode cX5_redo 19 = .ok (.iconst 1, 1) := by decide +kernel
theorem dX5_redo_20 : decode cX5_redo 20 = .ok (.putfield 44, 3) := by decide +kernel
theorem dX5_redo_23 : decode cX5_redo 23 = .ok (.aload_n 0, 1) := by decide +kernel
theorem dX5_redo_24 : decode cX5_redo 24 = .ok (.getfield 44, 3) := by decide +kernel
theorem dX5_redo_27 : decode cX5_redo 27 = .ok (.ifCond .le 5, 3) := by decide +kernel
theorem dX5_redo_30 : decode cX5_redo 30 = .ok (.iconst 0, 1) := by decide +kernel
theorem dX5_redo_31 : decode cX5_redo 31 = .ok (.ireturn, 1) := by decide +kernel
theorem dX5_redo_32 : decode cX5_redo 32 = .ok (.aload_n 0, 1) := by decide +kernel
theorem dX5_redo_33 : decode cX5_redo 33 = .ok (.getfield 51, 3) := by decide +kernel
theorem dX5_redo_36 : decode cX5_redo 36 = .ok (.istore_n 2, 1) := by decide +kernel
theorem dX5_redo_37 : decode cX5_redo 37 = .ok (.iconst 0, 1) := by decide +kernel
theorem dX5_redo_38 : decode cX5_redo 38 = .ok (.istore_n 3, 1) := by decide +kernel
theorem dX5_redo_39 : decode cX5_redo 39 = .ok (.iconst 0, 1) := by decide +kernel
theorem dX5_redo_40 : decode cX5_redo 40 = .ok (.istore 4, 2) := by decide +kernel
theorem dX5_redo_42 : decode cX5_redo 42 = .ok (.iload 4, 2) := by decide +kernel
theorem dX5_redo_44 : decode cX5_redo 44 = .ok (.aload_n 0, 1) := by decide +kernel
theorem dX5_redo_45 : decode cX5_redo 45 = .ok (.getfield 7, 3) := by decide +kernel
theorem dX5_redo_48 : decode cX5_redo 48 = .ok (.if_icmp .ge 60, 3) := by decide +kernel
theorem dX5_redo_51 : decode cX5_redo 51 = .ok (.aload_n 0, 1) := by decide +kernel
theorem dX5_redo_52 : decode cX5_redo 52 = .ok (.getfield 13, 3) := by decide +kernel
theorem dX5_redo_55 : decode cX5_redo 55 = .ok (.iload 4, 2) := by decide +kernel
theorem dX5_redo_57 : decode cX5_redo 57 = .ok (.iaload, 1) := by decide +kernel
theorem dX5_redo_58 : decode cX5_redo 58 = .ok (.aload_n 0, 1) := by decide +kernel
theorem dX5_redo_59 : decode cX5_redo 59 = .ok (.getfield 51, 3) := by decide +kernel
theorem dX5_redo_62 : decode cX5_redo 62 = .ok (.if_icmp .ne 7, 3) := by decide +kernel
theorem dX5_redo_65 : decode cX5_redo 65 = .ok (.iconst 1, 1) := by decide +kernel
theorem dX5_redo_66 : decode cX5_redo 66 = .ok (.goto 4, 3) := by decide +kernel
theorem dX5_redo_69 : decode cX5_redo 69 = .ok (.iconst 0, 1) := by decide +kernel
theorem dX5_redo_70 : decode cX5_redo 70 = .ok (.istore 5, 2) := by decide +kernel
theorem dX5_redo_72 : decode cX5_redo 72 = .ok (.iload 5, 2) := by decide +kernel
theorem dX5_redo_74 : decode cX5_redo 74 = .ok (.ifCond .eq 13, 3) := by decide +kernel
theorem dX5_redo_77 : decode cX5_redo 77 = .ok (.iload_n 3, 1) := by decide +kernel
theorem dX5_redo_78 : decode cX5_redo 78 = .ok (.iload_n 1, 1) := by decide +kernel
theorem dX5_redo_79 : decode cX5_redo 79 = .ok (.if_icmp .ne 8, 3) := by decide +kernel
theorem dX5_redo_82 : decode cX5_redo 82 = .ok (.iload 4, 2) := by decide +kernel
theorem dX5_redo_84 : decode cX5_redo 84 = .ok (.goto 4, 3) := by decide +kernel
theorem dX5_redo_87 : decode cX5_redo 87 = .ok (.iload_n 2, 1) := by decide +kernel
theorem dX5_redo_88 : decode cX5_redo 88 = .ok (.istore_n 2, 1) := by decide +kernel
theorem dX5_redo_89 : decode cX5_redo 89 = .ok (.iload_n 3, 1) := by decide +kernel
theorem dX5_redo_90 : decode cX5_redo 90 = .ok (.iload 5, 2) := by decide +kernel
theorem dX5_redo_92 : decode cX5_redo 92 = .ok (.ifCond .eq 7, 3) := by decide +kernel
theorem dX5_redo_95 : decode cX5_redo 95 = .ok (.iconst 1, 1) := by decide +kernel
theorem dX5_redo_96 : decode cX5_redo 96 = .ok (.goto 4, 3) := by decide +kernel
theorem dX5_redo_99 : decode cX5_redo 99 = .ok (.iconst 0, 1) := by decide +kernel
theorem dX5_redo_100 : decode cX5_redo 100 = .ok (.iadd, 1) := by decide +kernel
theorem dX5_redo_101 : decode cX5_redo 101 = .ok (.istore_n 3, 1) := by decide +kernel
theorem dX5_redo_102 : decode cX5_redo 102 = .ok (.iinc 4 1, 3) := by decide +kernel
theorem dX5_redo_105 : decode cX5_redo 105 = .ok (.goto (-63), 3) := by decide +kernel
theorem dX5_redo_108 : decode cX5_redo 108 = .ok (.aload_n 0, 1) := by decide +kernel
theorem dX5_redo_109 : decode cX5_redo 109 = .ok (.iload_n 2, 1) := by decide +kernel
theorem dX5_redo_110 : decode cX5_redo 110 = .ok (.putfield 51, 3) := by decide +kernel
theorem dX5_redo_113 : decode cX5_redo 113 = .ok (.aload_n 0, 1) := by decide +kernel
theorem dX5_redo_114 : decode cX5_redo 114 = .ok (.getfield 51, 3) := by decide +kernel
theorem dX5_redo_117 : decode cX5_redo 117 = .ok (.ireturn, 1) := by decide +kernel
theorem dX5_branches_0 : decode cX5_branches 0 = .ok (.aload_n 0, 1) := by decide +kernel
theorem dX5_branches_1 : decode cX5_branches 1 = .ok (.iconst 0, 1) := by decide +kernel
theorem dX5_branches_2 : decode cX5_branches 2 = .ok (.putfield 44, 3) := by decide +kernel
theorem dX5_branches_5 : decode cX5_branches 5 = .ok (.aload_n 0, 1) := by decide +kernel
theorem dX5_branches_6 : decode cX5_branches 6 = .ok (.invokevirtual 101, 3) := by decide +kernel
theorem dX5_branches_9 : decode cX5_branches 9 = .ok (.ireturn, 1) := by decide +kernel
theorem dX5_unlike_0 : decode cX5_unlike 0 = .ok (.aload_n 0, 1) := by decide +kernel
theorem dX5_unlike_1 : decode cX5_unlike 1 = .ok (.aload_n 0, 1) := by decide +kernel
theorem dX5_unlike_2 : decode cX5_unlike 2 = .ok (.iload_n 1, 1) := by decide +kernel
theorem dX5_unlike_3 : decode cX5_unlike 3 = .ok (.invokevirtual 98, 3) := by decide +kernel
theorem dX5_unlike_6 : decode cX5_unlike 6 = .ok (.ifCond .eq 15, 3) := by decide +kernel
theorem dX5_unlike_9 : decode cX5_unlike 9 = .ok (.aload_n 0, 1) := by decide +kernel
theorem dX5_unlike_10 : decode cX5_unlike 10 = .ok (.iload_n 2, 1) := by decide +kernel
theorem dX5_unlike_11 : decode cX5_unlike 11 = .ok (.invokevirtual 98, 3) := by decide +kernel
theorem dX5_unlike_14 : decode cX5_unlike 14 = .ok (.ifCond .eq 7, 3) := by decide +kernel
theorem dX5_unlike_17 : decode cX5_unlike 17 = .ok (.iconst 0, 1) := by decide +kernel
theorem dX5_unlike_18 : decode cX5_unlike 18 = .ok (.goto 4, 3) := by decide +kernel
theorem dX5_unlike_21 : decode cX5_unlike 21 = .ok (.iconst 1, 1) := by decide +kernel
theorem dX5_unlike_22 : decode cX5_unlike 22 = .ok (.putfield 44, 3) := by decide +kernel
theorem dX5_unlike_25 : decode cX5_unlike 25 = .ok (.iconst 0, 1) := by decide +kernel
theorem dX5_unlike_26 : decode cX5_unlike 26 = .ok (.istore_n 3, 1) := by decide +kernel
theorem dX5_unlike_27 : decode cX5_unlike 27 = .ok (.iconst 0, 1) := by decide +kernel
theorem dX5_unlike_28 : decode cX5_unlike 28 = .ok (.istore 4, 2) := by decide +kernel
theorem dX5_unlike_30 : decode cX5_unlike 30 = .ok (.iload 4, 2) := by decide +kernel
theorem dX5_unlike_32 : decode cX5_unlike 32 = .ok (.bipush 16, 2) := by decide +kernel
theorem dX5_unlike_34 : decode cX5_unlike 34 = .ok (.if_icmp .ge 51, 3) := by decide +kernel
theorem dX5_unlike_37 : decode cX5_unlike 37 = .ok (.aload_n 0, 1) := by decide +kernel
theorem dX5_unlike_38 : decode cX5_unlike 38 = .ok (.getfield 44, 3) := by decide +kernel
theorem dX5_unlike_41 : decode cX5_unlike 41 = .ok (.ifCond .ne 44, 3) := by decide +kernel
theorem dX5_unlike_44 : decode cX5_unlike 44 = .ok (.iload_n 3, 1) := by decide +kernel
theorem dX5_unlike_45 : decode cX5_unlike 45 = .ok (.aload_n 0, 1) := by decide +kernel
theorem dX5_unlike_46 : decode cX5_unlike 46 = .ok (.getfield 17, 3) := by decide +kernel
theorem dX5_unlike_49 : decode cX5_unlike 49 = .ok (.bipush 16, 2) := by decide +kernel
theorem dX5_unlike_51 : decode cX5_unlike 51 = .ok (.iload_n 1, 1) := by decide +kernel
theorem dX5_unlike_52 : decode cX5_unlike 52 = .ok (.imul, 1) := by decide +kernel
theorem dX5_unlike_53 : decode cX5_unlike 53 = .ok (.iload 4, 2) := by decide +kernel
theorem dX5_unlike_55 : decode cX5_unlike 55 = .ok (.iadd, 1) := by decide +kernel
theorem dX5_unlike_56 : decode cX5_unlike 56 = .ok (.iaload, 1) := by decide +kernel
theorem dX5_unlike_57 : decode cX5_unlike 57 = .ok (.aload_n 0, 1) := by decide +kernel
theorem dX5_unlike_58 : decode cX5_unlike 58 = .ok (.getfield 17, 3) := by decide +kernel
theorem dX5_unlike_61 : decode cX5_unlike 61 = .ok (.bipush 16, 2) := by decide +kernel
theorem dX5_unlike_63 : decode cX5_unlike 63 = .ok (.iload_n 2, 1) := by decide +kernel
theorem dX5_unlike_64 : decode cX5_unlike 64 = .ok (.imul, 1) := by decide +kernel
theorem dX5_unlike_65 : decode cX5_unlike 65 = .ok (.iload 4, 2) := by decide +kernel
theorem dX5_unlike_67 : decode cX5_unlike 67 = .ok (.iadd, 1) := by decide +kernel
theorem dX5_unlike_68 : decode cX5_unlike 68 = .ok (.iaload, 1) := by decide +kernel
theorem dX5_unlike_69 : decode cX5_unlike 69 = .ok (.if_icmp .ne 7, 3) := by decide +kernel
theorem dX5_unlike_72 : decode cX5_unlike 72 = .ok (.iconst 0, 1) := by decide +kernel
theorem dX5_unlike_73 : decode cX5_unlike 73 = .ok (.goto 4, 3) := by decide +kernel
theorem dX5_unlike_76 : decode cX5_unlike 76 = .ok (.iconst 1, 1) := by decide +kernel
theorem dX5_unlike_77 : decode cX5_unlike 77 = .ok (.iadd, 1) := by decide +kernel
theorem dX5_unlike_78 : decode cX5_unlike 78 = .ok (.istore_n 3, 1) := by decide +kernel
theorem dX5_unlike_79 : decode cX5_unlike 79 = .ok (.iinc 4 1, 3) := by decide +kernel
theorem dX5_unlike_82 : decode cX5_unlike 82 = .ok (.goto (-52), 3) := by decide +kernel
theorem dX5_unlike_85 : decode cX5_unlike 85 = .ok (.iload_n 3, 1) := by decide +kernel
theorem dX5_unlike_86 : decode cX5_unlike 86 = .ok (.ireturn, 1) := by decide +kernel
theorem dX5_isDie_0 : decode cX5_isDie 0 = .ok (.iload_n 1, 1) := by decide +kernel
theorem dX5_isDie_1 : decode cX5_isDie 1 = .ok (.iconst 0, 1) := by decide +kernel
theorem dX5_isDie_2 : decode cX5_isDie 2 = .ok (.aload_n 0, 1) := by decide +kernel
theorem dX5_isDie_3 : decode cX5_isDie 3 = .ok (.getfield 104, 3) := by decide +kernel
theorem dX5_isDie_6 : decode cX5_isDie 6 = .ok (.iconst 1, 1) := by decide +kernel
theorem dX5_isDie_7 : decode cX5_isDie 7 = .ok (.isub, 1) := by decide +kernel
theorem dX5_isDie_8 : decode cX5_isDie 8 = .ok (.invokestatic 47, 3) := by decide +kernel
theorem dX5_isDie_11 : decode cX5_isDie 11 = .ok (.ireturn, 1) := by decide +kernel
theorem dX5_isCoin_0 : decode cX5_isCoin 0 = .ok (.iload_n 1, 1) := by decide +kernel
theorem dX5_isCoin_1 : decode cX5_isCoin 1 = .ok (.iconst 0, 1) := by decide +kernel
theorem dX5_isCoin_2 : decode cX5_isCoin 2 = .ok (.aload_n 0, 1) := by decide +kernel
theorem dX5_isCoin_3 : decode cX5_isCoin 3 = .ok (.getfield 107, 3) := by decide +kernel
theorem dX5_isCoin_6 : decode cX5_isCoin 6 = .ok (.iconst 1, 1) := by decide +kernel
theorem dX5_isCoin_7 : decode cX5_isCoin 7 = .ok (.isub, 1) := by decide +kernel
theorem dX5_isCoin_8 : decode cX5_isCoin 8 = .ok (.invokestatic 47, 3) := by decide +kernel
theorem dX5_isCoin_11 : decode cX5_isCoin 11 = .ok (.ireturn, 1) := by decide +kernel
theorem dX5_cut_0 : decode cX5_cut 0 = .ok (.aload_n 0, 1) := by decide +kernel
theorem dX5_cut_1 : decode cX5_cut 1 = .ok (.aload_n 0, 1) := by decide +kernel
theorem dX5_cut_2 : decode cX5_cut 2 = .ok (.invokevirtual 92, 3) := by decide +kernel
theorem dX5_cut_5 : decode cX5_cut 5 = .ok (.iconst 1, 1) := by decide +kernel
theorem dX5_cut_6 : decode cX5_cut 6 = .ok (.if_icmp .ne 12, 3) := by decide +kernel
theorem dX5_cut_9 : decode cX5_cut 9 = .ok (.aload_n 0, 1) := by decide +kernel
theorem dX5_cut_10 : decode cX5_cut 10 = .ok (.getfield 104, 3) := by decide +kernel
theorem dX5_cut_13 : decode cX5_cut 13 = .ok (.bipush 8, 2) := by decide +kernel
theorem dX5_cut_15 : decode cX5_cut 15 = .ok (.if_icmp .ne 7, 3) := by decide +kernel
theorem dX5_cut_18 : decode cX5_cut 18 = .ok (.iconst 1, 1) := by decide +kernel
theorem dX5_cut_19 : decode cX5_cut 19 = .ok (.goto 4, 3) := by decide +kernel
theorem dX5_cut_22 : decode cX5_cut 22 = .ok (.iconst 0, 1) := by decide +kernel
theorem dX5_cut_23 : decode cX5_cut 23 = .ok (.putfield 44, 3) := by decide +kernel
theorem dX5_cut_26 : decode cX5_cut 26 = .ok (.aload_n 0, 1) := by decide +kernel
theorem dX5_cut_27 : decode cX5_cut 27 = .ok (.getfield 44, 3) := by decide +kernel
theorem dX5_cut_30 : decode cX5_cut 30 = .ok (.ifCond .le 5, 3) := by decide +kernel
theorem dX5_cut_33 : decode cX5_cut 33 = .ok (.iconst 0, 1) := by decide +kernel
theorem dX5_cut_34 : decode cX5_cut 34 = .ok (.ireturn, 1) := by decide +kernel
theorem dX5_cut_35 : decode cX5_cut 35 = .ok (.iconst 0, 1) := by decide +kernel
theorem dX5_cut_36 : decode cX5_cut 36 = .ok (.istore_n 1, 1) := by decide +kernel
theorem dX5_cut_37 : decode cX5_cut 37 = .ok (.iload_n 1, 1) := by decide +kernel
theorem dX5_cut_38 : decode cX5_cut 38 = .ok (.bipush 16, 2) := by decide +kernel
theorem dX5_cut_40 : decode cX5_cut 40 = .ok (.if_icmp .ge 47, 3) := by decide +kernel
theorem dX5_cut_43 : decode cX5_cut 43 = .ok (.aload_n 0, 1) := by decide +kernel
theorem dX5_cut_44 : decode cX5_cut 44 = .ok (.getfield 23, 3) := by decide +kernel
theorem dX5_cut_47 : decode cX5_cut 47 = .ok (.bipush 16, 2) := by decide +kernel
theorem dX5_cut_49 : decode cX5_cut 49 = .ok (.aload_n 0, 1) := by decide +kernel
theorem dX5_cut_50 : decode cX5_cut 50 = .ok (.getfield 104, 3) := by decide +kernel
theorem dX5_cut_53 : decode cX5_cut 53 = .ok (.imul, 1) := by decide +kernel
theorem dX5_cut_54 : decode cX5_cut 54 = .ok (.iload_n 1, 1) := by decide +kernel
theorem dX5_cut_55 : decode cX5_cut 55 = .ok (.iadd, 1) := by decide +kernel
theorem dX5_cut_56 : decode cX5_cut 56 = .ok (.aload_n 0, 1) := by decide +kernel
theorem dX5_cut_57 : decode cX5_cut 57 = .ok (.iload_n 1, 1) := by decide +kernel
theorem dX5_cut_58 : decode cX5_cut 58 = .ok (.invokevirtual 95, 3) := by decide +kernel
theorem dX5_cut_61 : decode cX5_cut 61 = .ok (.iastore, 1) := by decide +kernel
theorem dX5_cut_62 : decode cX5_cut 62 = .ok (.aload_n 0, 1) := by decide +kernel
theorem dX5_cut_63 : decode cX5_cut 63 = .ok (.getfield 26, 3) := by decide +kernel
theorem dX5_cut_66 : decode cX5_cut 66 = .ok (.bipush 16, 2) := by decide +kernel
theorem dX5_cut_68 : decode cX5_cut 68 = .ok (.aload_n 0, 1) := by decide +kernel
theorem dX5_cut_69 : decode cX5_cut 69 = .ok (.getfield 104, 3) := by decide +kernel
theorem dX5_cut_72 : decode cX5_cut 72 = .ok (.imul, 1) := by decide +kernel
theorem dX5_cut_73 : decode cX5_cut 73 = .ok (.iload_n 1, 1) := by decide +kernel
theorem dX5_cut_74 : decode cX5_cut 74 = .ok (.iadd, 1) := by decide +kernel
theorem dX5_cut_75 : decode cX5_cut 75 = .ok (.aload_n 0, 1) := by decide +kernel
theorem dX5_cut_76 : decode cX5_cut 76 = .ok (.iload_n 1, 1) := by decide +kernel
theorem dX5_cut_77 : decode cX5_cut 77 = .ok (.invokevirtual 95, 3) := by decide +kernel
theorem dX5_cut_80 : decode cX5_cut 80 = .ok (.iastore, 1) := by decide +kernel
theorem dX5_cut_81 : decode cX5_cut 81 = .ok (.iinc 1 1, 3) := by decide +kernel
theorem dX5_cut_84 : decode cX5_cut 84 = .ok (.goto (-47), 3) := by decide +kernel
theorem dX5_cut_87 : decode cX5_cut 87 = .ok (.aload_n 0, 1) := by decide +kernel
theorem dX5_cut_88 : decode cX5_cut 88 = .ok (.getfield 29, 3) := by decide +kernel
theorem dX5_cut_91 : decode cX5_cut 91 = .ok (.aload_n 0, 1) := by decide +kernel
theorem dX5_cut_92 : decode cX5_cut 92 = .ok (.getfield 104, 3) := by decide +kernel
theorem dX5_cut_95 : decode cX5_cut 95 = .ok (.iconst 0, 1) := by decide +kernel
theorem dX5_cut_96 : decode cX5_cut 96 = .ok (.iastore, 1) := by decide +kernel
theorem dX5_cut_97 : decode cX5_cut 97 = .ok (.aload_n 0, 1) := by decide +kernel
theorem dX5_cut_98 : decode cX5_cut 98 = .ok (.dup, 1) := by decide +kernel
theorem dX5_cut_99 : decode cX5_cut 99 = .ok (.getfield 104, 3) := by decide +kernel
theorem dX5_cut_102 : decode cX5_cut 102 = .ok (.iconst 1, 1) := by decide +kernel
theorem dX5_cut_103 : decode cX5_cut 103 = .ok (.iadd, 1) := by decide +kernel
theorem dX5_cut_104 : decode cX5_cut 104 = .ok (.putfield 104, 3) := by decide +kernel
theorem dX5_cut_107 : decode cX5_cut 107 = .ok (.aload_n 0, 1) := by decide +kernel
theorem dX5_cut_108 : decode cX5_cut 108 = .ok (.getfield 104, 3) := by decide +kernel
theorem dX5_cut_111 : decode cX5_cut 111 = .ok (.iconst 1, 1) := by decide +kernel
theorem dX5_cut_112 : decode cX5_cut 112 = .ok (.isub, 1) := by decide +kernel
theorem dX5_cut_113 : decode cX5_cut 113 = .ok (.ireturn, 1) := by decide +kernel
theorem dX5_strike_0 : decode cX5_strike 0 = .ok (.aload_n 0, 1) := by decide +kernel
theorem dX5_strike_1 : decode cX5_strike 1 = .ok (.aload_n 0, 1) := by decide +kernel
theorem dX5_strike_2 : decode cX5_strike 2 = .ok (.iload_n 1, 1) := by decide +kernel
theorem dX5_strike_3 : decode cX5_strike 3 = .ok (.invokevirtual 110, 3) := by decide +kernel
theorem dX5_strike_6 : decode cX5_strike 6 = .ok (.ifCond .ne 7, 3) := by decide +kernel
theorem dX5_strike_9 : decode cX5_strike 9 = .ok (.iconst 1, 1) := by decide +kernel
theorem dX5_strike_10 : decode cX5_strike 10 = .ok (.goto 17, 3) := by decide +kernel
theorem dX5_strike_13 : decode cX5_strike 13 = .ok (.aload_n 0, 1) := by decide +kernel
theorem dX5_strike_14 : decode cX5_strike 14 = .ok (.getfield 107, 3) := by decide +kernel
theorem dX5_strike_17 : decode cX5_strike 17 = .ok (.bipush 60, 2) := by decide +kernel
theorem dX5_strike_19 : decode cX5_strike 19 = .ok (.if_icmp .ne 7, 3) := by decide +kernel
theorem dX5_strike_22 : decode cX5_strike 22 = .ok (.iconst 2, 1) := by decide +kernel
theorem dX5_strike_23 : decode cX5_strike 23 = .ok (.goto 4, 3) := by decide +kernel
theorem dX5_strike_26 : decode cX5_strike 26 = .ok (.iconst 0, 1) := by decide +kernel
theorem dX5_strike_27 : decode cX5_strike 27 = .ok (.putfield 44, 3) := by decide +kernel
theorem dX5_strike_30 : decode cX5_strike 30 = .ok (.aload_n 0, 1) := by decide +kernel
theorem dX5_strike_31 : decode cX5_strike 31 = .ok (.getfield 44, 3) := by decide +kernel
theorem dX5_strike_34 : decode cX5_strike 34 = .ok (.ifCond .le 5, 3) := by decide +kernel
theorem dX5_strike_37 : decode cX5_strike 37 = .ok (.iconst 0, 1) := by decide +kernel
theorem dX5_strike_38 : decode cX5_strike 38 = .ok (.ireturn, 1) := by decide +kernel
theorem dX5_strike_39 : decode cX5_strike 39 = .ok (.iconst 0, 1) := by decide +kernel
theorem dX5_strike_40 : decode cX5_strike 40 = .ok (.istore_n 2, 1) := by decide +kernel
theorem dX5_strike_41 : decode cX5_strike 41 = .ok (.iload_n 2, 1) := by decide +kernel
theorem dX5_strike_42 : decode cX5_strike 42 = .ok (.bipush 16, 2) := by decide +kernel
theorem dX5_strike_44 : decode cX5_strike 44 = .ok (.if_icmp .ge 34, 3) := by decide +kernel
theorem dX5_strike_47 : decode cX5_strike 47 = .ok (.aload_n 0, 1) := by decide +kernel
theorem dX5_strike_48 : decode cX5_strike 48 = .ok (.getfield 32, 3) := by decide +kernel
theorem dX5_strike_51 : decode cX5_strike 51 = .ok (.bipush 16, 2) := by decide +kernel
theorem dX5_strike_53 : decode cX5_strike 53 = .ok (.aload_n 0, 1) := by decide +kernel
theorem dX5_strike_54 : decode cX5_strike 54 = .ok (.getfield 107, 3) := by decide +kernel
theorem dX5_strike_57 : decode cX5_strike 57 = .ok (.imul, 1) := by decide +kernel
theorem dX5_strike_58 : decode cX5_strike 58 = .ok (.iload_n 2, 1) := by decide +kernel
theorem dX5_strike_59 : decode cX5_strike 59 = .ok (.iadd, 1) := by decide +kernel
theorem dX5_strike_60 : decode cX5_strike 60 = .ok (.aload_n 0, 1) := by decide +kernel
theorem dX5_strike_61 : decode cX5_strike 61 = .ok (.getfield 26, 3) := by decide +kernel
theorem dX5_strike_64 : decode cX5_strike 64 = .ok (.bipush 16, 2) := by decide +kernel
theorem dX5_strike_66 : decode cX5_strike 66 = .ok (.iload_n 1, 1) := by decide +kernel
theorem dX5_strike_67 : decode cX5_strike 67 = .ok (.imul, 1) := by decide +kernel
theorem dX5_strike_68 : decode cX5_strike 68 = .ok (.iload_n 2, 1) := by decide +kernel
theorem dX5_strike_69 : decode cX5_strike 69 = .ok (.iadd, 1) := by decide +kernel
theorem dX5_strike_70 : decode cX5_strike 70 = .ok (.iaload, 1) := by decide +kernel
theorem dX5_strike_71 : decode cX5_strike 71 = .ok (.iastore, 1) := by decide +kernel
theorem dX5_strike_72 : decode cX5_strike 72 = .ok (.iinc 2 1, 3) := by decide +kernel
theorem dX5_strike_75 : decode cX5_strike 75 = .ok (.goto (-34), 3) := by decide +kernel
theorem dX5_strike_78 : decode cX5_strike 78 = .ok (.aload_n 0, 1) := by decide +kernel
theorem dX5_strike_79 : decode cX5_strike 79 = .ok (.getfield 29, 3) := by decide +kernel
theorem dX5_strike_82 : decode cX5_strike 82 = .ok (.iload_n 1, 1) := by decide +kernel
theorem dX5_strike_83 : decode cX5_strike 83 = .ok (.dup2, 1) := by decide +kernel
theorem dX5_strike_84 : decode cX5_strike 84 = .ok (.iaload, 1) := by decide +kernel
theorem dX5_strike_85 : decode cX5_strike 85 = .ok (.iconst 1, 1) := by decide +kernel
theorem dX5_strike_86 : decode cX5_strike 86 = .ok (.iadd, 1) := by decide +kernel
theorem dX5_strike_87 : decode cX5_strike 87 = .ok (.iastore, 1) := by decide +kernel
theorem dX5_strike_88 : decode cX5_strike 88 = .ok (.aload_n 0, 1) := by decide +kernel
theorem dX5_strike_89 : decode cX5_strike 89 = .ok (.getfield 35, 3) := by decide +kernel
theorem dX5_strike_92 : decode cX5_strike 92 = .ok (.aload_n 0, 1) := by decide +kernel
theorem dX5_strike_93 : decode cX5_strike 93 = .ok (.getfield 107, 3) := by decide +kernel
theorem dX5_strike_96 : decode cX5_strike 96 = .ok (.iload_n 1, 1) := by decide +kernel
theorem dX5_strike_97 : decode cX5_strike 97 = .ok (.iastore, 1) := by decide +kernel
theorem dX5_strike_98 : decode cX5_strike 98 = .ok (.aload_n 0, 1) := by decide +kernel
theorem dX5_strike_99 : decode cX5_strike 99 = .ok (.getfield 38, 3) := by decide +kernel
theorem dX5_strike_102 : decode cX5_strike 102 = .ok (.aload_n 0, 1) := by decide +kernel
theorem dX5_strike_103 : decode cX5_strike 103 = .ok (.getfield 107, 3) := by decide +kernel
theorem dX5_strike_106 : decode cX5_strike 106 = .ok (.aload_n 0, 1) := by decide +kernel
theorem dX5_strike_107 : decode cX5_strike 107 = .ok (.getfield 29, 3) := by decide +kernel
theorem dX5_strike_110 : decode cX5_strike 110 = .ok (.iload_n 1, 1) := by decide +kernel
theorem dX5_strike_111 : decode cX5_strike 111 = .ok (.iaload, 1) := by decide +kernel
theorem dX5_strike_112 : decode cX5_strike 112 = .ok (.iastore, 1) := by decide +kernel
theorem dX5_strike_113 : decode cX5_strike 113 = .ok (.aload_n 0, 1) := by decide +kernel
theorem dX5_strike_114 : decode cX5_strike 114 = .ok (.dup, 1) := by decide +kernel
theorem dX5_strike_115 : decode cX5_strike 115 = .ok (.getfield 107, 3) := by decide +kernel
theorem dX5_strike_118 : decode cX5_strike 118 = .ok (.iconst 1, 1) := by decide +kernel
theorem dX5_strike_119 : decode cX5_strike 119 = .ok (.iadd, 1) := by decide +kernel
theorem dX5_strike_120 : decode cX5_strike 120 = .ok (.putfield 107, 3) := by decide +kernel
theorem dX5_strike_123 : decode cX5_strike 123 = .ok (.aload_n 0, 1) := by decide +kernel
theorem dX5_strike_124 : decode cX5_strike 124 = .ok (.getfield 29, 3) := by decide +kernel
theorem dX5_strike_127 : decode cX5_strike 127 = .ok (.iload_n 1, 1) := by decide +kernel
theorem dX5_strike_128 : decode cX5_strike 128 = .ok (.iaload, 1) := by decide +kernel
theorem dX5_strike_129 : decode cX5_strike 129 = .ok (.iconst 2, 1) := by decide +kernel
theorem dX5_strike_130 : decode cX5_strike 130 = .ok (.irem, 1) := by decide +kernel
theorem dX5_strike_131 : decode cX5_strike 131 = .ok (.ifCond .ne 74, 3) := by decide +kernel
theorem dX5_strike_134 : decode cX5_strike 134 = .ok (.bipush 16, 2) := by decide +kernel
theorem dX5_strike_136 : decode cX5_strike 136 = .ok (.iload_n 1, 1) := by decide +kernel
theorem dX5_strike_137 : decode cX5_strike 137 = .ok (.imul, 1) := by decide +kernel
theorem dX5_strike_138 : decode cX5_strike 138 = .ok (.istore_n 2, 1) := by decide +kernel
theorem dX5_strike_139 : decode cX5_strike 139 = .ok (.bipush 16, 2) := by decide +kernel
theorem dX5_strike_141 : decode cX5_strike 141 = .ok (.iload_n 1, 1) := by decide +kernel
theorem dX5_strike_142 : decode cX5_strike 142 = .ok (.imul, 1) := by decide +kernel
theorem dX5_strike_143 : decode cX5_strike 143 = .ok (.istore_n 3, 1) := by decide +kernel
theorem dX5_strike_144 : decode cX5_strike 144 = .ok (.iload_n 3, 1) := by decide +kernel
theorem dX5_strike_145 : decode cX5_strike 145 = .ok (.bipush 16, 2) := by decide +kernel
theorem dX5_strike_147 : decode cX5_strike 147 = .ok (.iload_n 1, 1) := by decide +kernel
theorem dX5_strike_148 : decode cX5_strike 148 = .ok (.imul, 1) := by decide +kernel
theorem dX5_strike_149 : decode cX5_strike 149 = .ok (.bipush 16, 2) := by decide +kernel
theorem dX5_strike_151 : decode cX5_strike 151 = .ok (.iadd, 1) := by decide +kernel
theorem dX5_strike_152 : decode cX5_strike 152 = .ok (.if_icmp .ge 30, 3) := by decide +kernel
theorem dX5_strike_155 : decode cX5_strike 155 = .ok (.aload_n 0, 1) := by decide +kernel
theorem dX5_strike_156 : decode cX5_strike 156 = .ok (.getfield 26, 3) := by decide +kernel
theorem dX5_strike_159 : decode cX5_strike 159 = .ok (.iload_n 3, 1) := by decide +kernel
theorem dX5_strike_160 : decode cX5_strike 160 = .ok (.iaload, 1) := by decide +kernel
theorem dX5_strike_161 : decode cX5_strike 161 = .ok (.aload_n 0, 1) := by decide +kernel
theorem dX5_strike_162 : decode cX5_strike 162 = .ok (.getfield 26, 3) := by decide +kernel
theorem dX5_strike_165 : decode cX5_strike 165 = .ok (.iload_n 2, 1) := by decide +kernel
theorem dX5_strike_166 : decode cX5_strike 166 = .ok (.iaload, 1) := by decide +kernel
theorem dX5_strike_167 : decode cX5_strike 167 = .ok (.if_icmp .le 7, 3) := by decide +kernel
theorem dX5_strike_170 : decode cX5_strike 170 = .ok (.iload_n 3, 1) := by decide +kernel
theorem dX5_strike_171 : decode cX5_strike 171 = .ok (.goto 4, 3) := by decide +kernel
theorem dX5_strike_174 : decode cX5_strike 174 = .ok (.iload_n 2, 1) := by decide +kernel
theorem dX5_strike_175 : decode cX5_strike 175 = .ok (.istore_n 2, 1) := by decide +kernel
theorem dX5_strike_176 : decode cX5_strike 176 = .ok (.iinc 3 1, 3) := by decide +kernel
theorem dX5_strike_179 : decode cX5_strike 179 = .ok (.goto (-35), 3) := by decide +kernel
theorem dX5_strike_182 : decode cX5_strike 182 = .ok (.aload_n 0, 1) := by decide +kernel
theorem dX5_strike_183 : decode cX5_strike 183 = .ok (.getfield 26, 3) := by decide +kernel
theorem dX5_strike_186 : decode cX5_strike 186 = .ok (.iload_n 2, 1) := by decide +kernel
theorem dX5_strike_187 : decode cX5_strike 187 = .ok (.dup2, 1) := by decide +kernel
theorem dX5_strike_188 : decode cX5_strike 188 = .ok (.iaload, 1) := by decide +kernel
theorem dX5_strike_189 : decode cX5_strike 189 = .ok (.aload_n 0, 1) := by decide +kernel
theorem dX5_strike_190 : decode cX5_strike 190 = .ok (.getfield 26, 3) := by decide +kernel
theorem dX5_strike_193 : decode cX5_strike 193 = .ok (.iload_n 2, 1) := by decide +kernel
theorem dX5_strike_194 : decode cX5_strike 194 = .ok (.iaload, 1) := by decide +kernel
theorem dX5_strike_195 : decode cX5_strike 195 = .ok (.ifCond .le 7, 3) := by decide +kernel
theorem dX5_strike_198 : decode cX5_strike 198 = .ok (.iconst 1, 1) := by decide +kernel
theorem dX5_strike_199 : decode cX5_strike 199 = .ok (.goto 4, 3) := by decide +kernel
theorem dX5_strike_202 : decode cX5_strike 202 = .ok (.iconst 0, 1) := by decide +kernel
theorem dX5_strike_203 : decode cX5_strike 203 = .ok (.isub, 1) := by decide +kernel
theorem dX5_strike_204 : decode cX5_strike 204 = .ok (.iastore, 1) := by decide +kernel
theorem dX5_strike_205 : decode cX5_strike 205 = .ok (.aload_n 0, 1) := by decide +kernel
theorem dX5_strike_206 : decode cX5_strike 206 = .ok (.getfield 107, 3) := by decide +kernel
theorem dX5_strike_209 : decode cX5_strike 209 = .ok (.iconst 1, 1) := by decide +kernel
theorem dX5_strike_210 : decode cX5_strike 210 = .ok (.isub, 1) := by decide +kernel
theorem dX5_strike_211 : decode cX5_strike 211 = .ok (.ireturn, 1) := by decide +kernel
theorem dX5_forge_0 : decode cX5_forge 0 = .ok (.aload_n 0, 1) := by decide +kernel
theorem dX5_forge_1 : decode cX5_forge 1 = .ok (.aload_n 0, 1) := by decide +kernel
theorem dX5_forge_2 : decode cX5_forge 2 = .ok (.iload_n 1, 1) := by decide +kernel
theorem dX5_forge_3 : decode cX5_forge 3 = .ok (.invokevirtual 113, 3) := by decide +kernel
theorem dX5_forge_6 : decode cX5_forge 6 = .ok (.ifCond .eq 11, 3) := by decide +kernel
theorem dX5_forge_9 : decode cX5_forge 9 = .ok (.aload_n 0, 1) := by decide +kernel
theorem dX5_forge_10 : decode cX5_forge 10 = .ok (.iload_n 2, 1) := by decide +kernel
theorem dX5_forge_11 : decode cX5_forge 11 = .ok (.invokevirtual 110, 3) := by decide +kernel
theorem dX5_forge_14 : decode cX5_forge 14 = .ok (.ifCond .ne 7, 3) := by decide +kernel
theorem dX5_forge_17 : decode cX5_forge 17 = .ok (.iconst 1, 1) := by decide +kernel
theorem dX5_forge_18 : decode cX5_forge 18 = .ok (.goto 18, 3) := by decide +kernel
theorem dX5_forge_21 : decode cX5_forge 21 = .ok (.iload_n 3, 1) := by decide +kernel
theorem dX5_forge_22 : decode cX5_forge 22 = .ok (.iconst 1, 1) := by decide +kernel
theorem dX5_forge_23 : decode cX5_forge 23 = .ok (.bipush 60, 2) := by decide +kernel
theorem dX5_forge_25 : decode cX5_forge 25 = .ok (.invokestatic 47, 3) := by decide +kernel
theorem dX5_forge_28 : decode cX5_forge 28 = .ok (.ifCond .ne 7, 3) := by decide +kernel
theorem dX5_forge_31 : decode cX5_forge 31 = .ok (.iconst 2, 1) := by decide +kernel
theorem dX5_forge_32 : decode cX5_forge 32 = .ok (.goto 4, 3) := by decide +kernel
theorem dX5_forge_35 : decode cX5_forge 35 = .ok (.iconst 0, 1) := by decide +kernel
theorem dX5_forge_36 : decode cX5_forge 36 = .ok (.putfield 44, 3) := by decide +kernel
theorem dX5_forge_39 : decode cX5_forge 39 = .ok (.aload_n 0, 1) := by decide +kernel
theorem dX5_forge_40 : decode cX5_forge 40 = .ok (.getfield 44, 3) := by decide +kernel
theorem dX5_forge_43 : decode cX5_forge 43 = .ok (.ifCond .ne 31, 3) := by decide +kernel
theorem dX5_forge_46 : decode cX5_forge 46 = .ok (.aload_n 0, 1) := by decide +kernel
theorem dX5_forge_47 : decode cX5_forge 47 = .ok (.aload_n 0, 1) := by decide +kernel
theorem dX5_forge_48 : decode cX5_forge 48 = .ok (.getfield 107, 3) := by decide +kernel
theorem dX5_forge_51 : decode cX5_forge 51 = .ok (.bipush 60, 2) := by decide +kernel
theorem dX5_forge_53 : decode cX5_forge 53 = .ok (.if_icmp .eq 13, 3) := by decide +kernel
theorem dX5_forge_56 : decode cX5_forge 56 = .ok (.aload_n 0, 1) := by decide +kernel
theorem dX5_forge_57 : decode cX5_forge 57 = .ok (.getfield 29, 3) := by decide +kernel
theorem dX5_forge_60 : decode cX5_forge 60 = .ok (.iload_n 2, 1) := by decide +kernel
theorem dX5_forge_61 : decode cX5_forge 61 = .ok (.iaload, 1) := by decide +kernel
theorem dX5_forge_62 : decode cX5_forge 62 = .ok (.iload_n 3, 1) := by decide +kernel
theorem dX5_forge_63 : decode cX5_forge 63 = .ok (.if_icmp .ge 7, 3) := by decide +kernel
theorem dX5_forge_66 : decode cX5_forge 66 = .ok (.iconst 3, 1) := by decide +kernel
theorem dX5_forge_67 : decode cX5_forge 67 = .ok (.goto 4, 3) := by decide +kernel
theorem dX5_forge_70 : decode cX5_forge 70 = .ok (.iconst 0, 1) := by decide +kernel
theorem dX5_forge_71 : decode cX5_forge 71 = .ok (.putfield 44, 3) := by decide +kernel
theorem dX5_forge_74 : decode cX5_forge 74 = .ok (.aload_n 0, 1) := by decide +kernel
theorem dX5_forge_75 : decode cX5_forge 75 = .ok (.getfield 44, 3) := by decide +kernel
theorem dX5_forge_78 : decode cX5_forge 78 = .ok (.ifCond .le 5, 3) := by decide +kernel
theorem dX5_forge_81 : decode cX5_forge 81 = .ok (.iconst 0, 1) := by decide +kernel
theorem dX5_forge_82 : decode cX5_forge 82 = .ok (.ireturn, 1) := by decide +kernel
theorem dX5_forge_83 : decode cX5_forge 83 = .ok (.iconst 0, 1) := by decide +kernel
theorem dX5_forge_84 : decode cX5_forge 84 = .ok (.istore 4, 2) := by decide +kernel
theorem dX5_forge_86 : decode cX5_forge 86 = .ok (.iload 4, 2) := by decide +kernel
theorem dX5_forge_88 : decode cX5_forge 88 = .ok (.bipush 16, 2) := by decide +kernel
theorem dX5_forge_90 : decode cX5_forge 90 = .ok (.if_icmp .ge 36, 3) := by decide +kernel
theorem dX5_forge_93 : decode cX5_forge 93 = .ok (.aload_n 0, 1) := by decide +kernel
theorem dX5_forge_94 : decode cX5_forge 94 = .ok (.getfield 32, 3) := by decide +kernel
theorem dX5_forge_97 : decode cX5_forge 97 = .ok (.bipush 16, 2) := by decide +kernel
theorem dX5_forge_99 : decode cX5_forge 99 = .ok (.aload_n 0, 1) := by decide +kernel
theorem dX5_forge_100 : decode cX5_forge 100 = .ok (.getfield 107, 3) := by decide +kernel
theorem dX5_forge_103 : decode cX5_forge 103 = .ok (.imul, 1) := by decide +kernel
theorem dX5_forge_104 : decode cX5_forge 104 = .ok (.iload 4, 2) := by decide +kernel
theorem dX5_forge_106 : decode cX5_forge 106 = .ok (.iadd, 1) := by decide +kernel
theorem dX5_forge_107 : decode cX5_forge 107 = .ok (.aload_n 0, 1) := by decide +kernel
theorem dX5_forge_108 : decode cX5_forge 108 = .ok (.getfield 32, 3) := by decide +kernel
theorem dX5_forge_111 : decode cX5_forge 111 = .ok (.bipush 16, 2) := by decide +kernel
theorem dX5_forge_113 : decode cX5_forge 113 = .ok (.iload_n 1, 1) := by decide +kernel
theorem dX5_forge_114 : decode cX5_forge 114 = .ok (.imul, 1) := by decide +kernel
theorem dX5_forge_115 : decode cX5_forge 115 = .ok (.iload 4, 2) := by decide +kernel
theorem dX5_forge_117 : decode cX5_forge 117 = .ok (.iadd, 1) := by decide +kernel
theorem dX5_forge_118 : decode cX5_forge 118 = .ok (.iaload, 1) := by decide +kernel
theorem dX5_forge_119 : decode cX5_forge 119 = .ok (.iastore, 1) := by decide +kernel
theorem dX5_forge_120 : decode cX5_forge 120 = .ok (.iinc 4 1, 3) := by decide +kernel
theorem dX5_forge_123 : decode cX5_forge 123 = .ok (.goto (-37), 3) := by decide +kernel
theorem dX5_forge_126 : decode cX5_forge 126 = .ok (.aload_n 0, 1) := by decide +kernel
theorem dX5_forge_127 : decode cX5_forge 127 = .ok (.getfield 35, 3) := by decide +kernel
theorem dX5_forge_130 : decode cX5_forge 130 = .ok (.aload_n 0, 1) := by decide +kernel
theorem dX5_forge_131 : decode cX5_forge 131 = .ok (.getfield 107, 3) := by decide +kernel
theorem dX5_forge_134 : decode cX5_forge 134 = .ok (.iload_n 2, 1) := by decide +kernel
theorem dX5_forge_135 : decode cX5_forge 135 = .ok (.iastore, 1) := by decide +kernel
theorem dX5_forge_136 : decode cX5_forge 136 = .ok (.aload_n 0, 1) := by decide +kernel
theorem dX5_forge_137 : decode cX5_forge 137 = .ok (.getfield 38, 3) := by decide +kernel
theorem dX5_forge_140 : decode cX5_forge 140 = .ok (.aload_n 0, 1) := by decide +kernel
theorem dX5_forge_141 : decode cX5_forge 141 = .ok (.getfield 107, 3) := by decide +kernel
theorem dX5_forge_144 : decode cX5_forge 144 = .ok (.iload_n 3, 1) := by decide +kernel
theorem dX5_forge_145 : decode cX5_forge 145 = .ok (.iastore, 1) := by decide +kernel
theorem dX5_forge_146 : decode cX5_forge 146 = .ok (.aload_n 0, 1) := by decide +kernel
theorem dX5_forge_147 : decode cX5_forge 147 = .ok (.dup, 1) := by decide +kernel
theorem dX5_forge_148 : decode cX5_forge 148 = .ok (.getfield 107, 3) := by decide +kernel
theorem dX5_forge_151 : decode cX5_forge 151 = .ok (.iconst 1, 1) := by decide +kernel
theorem dX5_forge_152 : decode cX5_forge 152 = .ok (.iadd, 1) := by decide +kernel
theorem dX5_forge_153 : decode cX5_forge 153 = .ok (.putfield 107, 3) := by decide +kernel
theorem dX5_forge_156 : decode cX5_forge 156 = .ok (.aload_n 0, 1) := by decide +kernel
theorem dX5_forge_157 : decode cX5_forge 157 = .ok (.getfield 107, 3) := by decide +kernel
theorem dX5_forge_160 : decode cX5_forge 160 = .ok (.iconst 1, 1) := by decide +kernel
theorem dX5_forge_161 : decode cX5_forge 161 = .ok (.isub, 1) := by decide +kernel
theorem dX5_forge_162 : decode cX5_forge 162 = .ok (.ireturn, 1) := by decide +kernel
theorem dX5_dieHeight_0 : decode cX5_dieHeight 0 = .ok (.aload_n 0, 1) := by decide +kernel
theorem dX5_dieHeight_1 : decode cX5_dieHeight 1 = .ok (.aload_n 0, 1) := by decide +kernel
theorem dX5_dieHeight_2 : decode cX5_dieHeight 2 = .ok (.iload_n 1, 1) := by decide +kernel
theorem dX5_dieHeight_3 : decode cX5_dieHeight 3 = .ok (.invokevirtual 110, 3) := by decide +kernel
theorem dX5_dieHeight_6 : decode cX5_dieHeight 6 = .ok (.ifCond .eq 14, 3) := by decide +kernel
theorem dX5_dieHeight_9 : decode cX5_dieHeight 9 = .ok (.iload_n 2, 1) := by decide +kernel
theorem dX5_dieHeight_10 : decode cX5_dieHeight 10 = .ok (.invokestatic 58, 3) := by decide +kernel
theorem dX5_dieHeight_13 : decode cX5_dieHeight 13 = .ok (.ifCond .eq 7, 3) := by decide +kernel
theorem dX5_dieHeight_16 : decode cX5_dieHeight 16 = .ok (.iconst 0, 1) := by decide +kernel
theorem dX5_dieHeight_17 : decode cX5_dieHeight 17 = .ok (.goto 4, 3) := by decide +kernel
theorem dX5_dieHeight_20 : decode cX5_dieHeight 20 = .ok (.iconst 1, 1) := by decide +kernel
theorem dX5_dieHeight_21 : decode cX5_dieHeight 21 = .ok (.putfield 44, 3) := by decide +kernel
theorem dX5_dieHeight_24 : decode cX5_dieHeight 24 = .ok (.aload_n 0, 1) := by decide +kernel
theorem dX5_dieHeight_25 : decode cX5_dieHeight 25 = .ok (.getfield 44, 3) := by decide +kernel
theorem dX5_dieHeight_28 : decode cX5_dieHeight 28 = .ok (.ifCond .le 7, 3) := by decide +kernel
theorem dX5_dieHeight_31 : decode cX5_dieHeight 31 = .ok (.iconst 0, 1) := by decide +kernel
theorem dX5_dieHeight_32 : decode cX5_dieHeight 32 = .ok (.goto 14, 3) := by decide +kernel
theorem dX5_dieHeight_35 : decode cX5_dieHeight 35 = .ok (.aload_n 0, 1) := by decide +kernel
theorem dX5_dieHeight_36 : decode cX5_dieHeight 36 = .ok (.getfield 26, 3) := by decide +kernel
theorem dX5_dieHeight_39 : decode cX5_dieHeight 39 = .ok (.bipush 16, 2) := by decide +kernel
theorem dX5_dieHeight_41 : decode cX5_dieHeight 41 = .ok (.iload_n 1, 1) := by decide +kernel
theorem dX5_dieHeight_42 : decode cX5_dieHeight 42 = .ok (.imul, 1) := by decide +kernel
theorem dX5_dieHeight_43 : decode cX5_dieHeight 43 = .ok (.iload_n 2, 1) := by decide +kernel
theorem dX5_dieHeight_44 : decode cX5_dieHeight 44 = .ok (.iadd, 1) := by decide +kernel
theorem dX5_dieHeight_45 : decode cX5_dieHeight 45 = .ok (.iaload, 1) := by decide +kernel
theorem dX5_dieHeight_46 : decode cX5_dieHeight 46 = .ok (.ireturn, 1) := by decide +kernel
theorem dX5_coinHeight_0 : decode cX5_coinHeight 0 = .ok (.aload_n 0, 1) := by decide +kernel
theorem dX5_coinHeight_1 : decode cX5_coinHeight 1 = .ok (.aload_n 0, 1) := by decide +kernel
theorem dX5_coinHeight_2 : decode cX5_coinHeight 2 = .ok (.iload_n 1, 1) := by decide +kernel
theorem dX5_coinHeight_3 : decode cX5_coinHeight 3 = .ok (.invokevirtual 113, 3) := by decide +kernel
theorem dX5_coinHeight_6 : decode cX5_coinHeight 6 = .ok (.ifCond .eq 14, 3) := by decide +kernel
theorem dX5_coinHeight_9 : decode cX5_coinHeight 9 = .ok (.iload_n 2, 1) := by decide +kernel
theorem dX5_coinHeight_10 : decode cX5_coinHeight 10 = .ok (.invokestatic 58, 3) := by decide +kernel
theorem dX5_coinHeight_13 : decode cX5_coinHeight 13 = .ok (.ifCond .eq 7, 3) := by decide +kernel
theorem dX5_coinHeight_16 : decode cX5_coinHeight 16 = .ok (.iconst 0, 1) := by decide +kernel
theorem dX5_coinHeight_17 : decode cX5_coinHeight 17 = .ok (.goto 4, 3) := by decide +kernel
theorem dX5_coinHeight_20 : decode cX5_coinHeight 20 = .ok (.iconst 1, 1) := by decide +kernel
theorem dX5_coinHeight_21 : decode cX5_coinHeight 21 = .ok (.putfield 44, 3) := by decide +kernel
theorem dX5_coinHeight_24 : decode cX5_coinHeight 24 = .ok (.aload_n 0, 1) := by decide +kernel
theorem dX5_coinHeight_25 : decode cX5_coinHeight 25 = .ok (.getfield 44, 3) := by decide +kernel
theorem dX5_coinHeight_28 : decode cX5_coinHeight 28 = .ok (.ifCond .le 7, 3) := by decide +kernel
theorem dX5_coinHeight_31 : decode cX5_coinHeight 31 = .ok (.iconst 0, 1) := by decide +kernel
theorem dX5_coinHeight_32 : decode cX5_coinHeight 32 = .ok (.goto 14, 3) := by decide +kernel
theorem dX5_coinHeight_35 : decode cX5_coinHeight 35 = .ok (.aload_n 0, 1) := by decide +kernel
theorem dX5_coinHeight_36 : decode cX5_coinHeight 36 = .ok (.getfield 32, 3) := by decide +kernel
theorem dX5_coinHeight_39 : decode cX5_coinHeight 39 = .ok (.bipush 16, 2) := by decide +kernel
theorem dX5_coinHeight_41 : decode cX5_coinHeight 41 = .ok (.iload_n 1, 1) := by decide +kernel
theorem dX5_coinHeight_42 : decode cX5_coinHeight 42 = .ok (.imul, 1) := by decide +kernel
theorem dX5_coinHeight_43 : decode cX5_coinHeight 43 = .ok (.iload_n 2, 1) := by decide +kernel
theorem dX5_coinHeight_44 : decode cX5_coinHeight 44 = .ok (.iadd, 1) := by decide +kernel
theorem dX5_coinHeight_45 : decode cX5_coinHeight 45 = .ok (.iaload, 1) := by decide +kernel
theorem dX5_coinHeight_46 : decode cX5_coinHeight 46 = .ok (.ireturn, 1) := by decide +kernel
theorem dX5_far_0 : decode cX5_far 0 = .ok (.iload_n 0, 1) := by decide +kernel
theorem dX5_far_1 : decode cX5_far 1 = .ok (.iload_n 1, 1) := by decide +kernel
theorem dX5_far_2 : decode cX5_far 2 = .ok (.if_icmp .le 9, 3) := by decide +kernel
theorem dX5_far_5 : decode cX5_far 5 = .ok (.iload_n 0, 1) := by decide +kernel
theorem dX5_far_6 : decode cX5_far 6 = .ok (.iload_n 1, 1) := by decide +kernel
theorem dX5_far_7 : decode cX5_far 7 = .ok (.isub, 1) := by decide +kernel
theorem dX5_far_8 : decode cX5_far 8 = .ok (.goto 6, 3) := by decide +kernel
theorem dX5_far_11 : decode cX5_far 11 = .ok (.iload_n 1, 1) := by decide +kernel
theorem dX5_far_12 : decode cX5_far 12 = .ok (.iload_n 0, 1) := by decide +kernel
theorem dX5_far_13 : decode cX5_far 13 = .ok (.isub, 1) := by decide +kernel
theorem dX5_far_14 : decode cX5_far 14 = .ok (.ireturn, 1) := by decide +kernel
theorem dX5_grade_0 : decode cX5_grade 0 = .ok (.aload_n 0, 1) := by decide +kernel
theorem dX5_grade_1 : decode cX5_grade 1 = .ok (.aload_n 0, 1) := by decide +kernel
theorem dX5_grade_2 : decode cX5_grade 2 = .ok (.iload_n 1, 1) := by decide +kernel
theorem dX5_grade_3 : decode cX5_grade 3 = .ok (.invokevirtual 113, 3) := by decide +kernel
theorem dX5_grade_6 : decode cX5_grade 6 = .ok (.ifCond .eq 7, 3) := by decide +kernel
theorem dX5_grade_9 : decode cX5_grade 9 = .ok (.iconst 0, 1) := by decide +kernel
theorem dX5_grade_10 : decode cX5_grade 10 = .ok (.goto 4, 3) := by decide +kernel
theorem dX5_grade_13 : decode cX5_grade 13 = .ok (.iconst 1, 1) := by decide +kernel
theorem dX5_grade_14 : decode cX5_grade 14 = .ok (.putfield 44, 3) := by decide +kernel
theorem dX5_grade_17 : decode cX5_grade 17 = .ok (.aload_n 0, 1) := by decide +kernel
theorem dX5_grade_18 : decode cX5_grade 18 = .ok (.getfield 44, 3) := by decide +kernel
theorem dX5_grade_21 : decode cX5_grade 21 = .ok (.ifCond .le 5, 3) := by decide +kernel
theorem dX5_grade_24 : decode cX5_grade 24 = .ok (.iconst 0, 1) := by decide +kernel
theorem dX5_grade_25 : decode cX5_grade 25 = .ok (.ireturn, 1) := by decide +kernel
theorem dX5_grade_26 : decode cX5_grade 26 = .ok (.iconst 0, 1) := by decide +kernel
theorem dX5_grade_27 : decode cX5_grade 27 = .ok (.istore_n 2, 1) := by decide +kernel
theorem dX5_grade_28 : decode cX5_grade 28 = .ok (.iconst 0, 1) := by decide +kernel
theorem dX5_grade_29 : decode cX5_grade 29 = .ok (.istore_n 3, 1) := by decide +kernel
theorem dX5_grade_30 : decode cX5_grade 30 = .ok (.iload_n 3, 1) := by decide +kernel
theorem dX5_grade_31 : decode cX5_grade 31 = .ok (.bipush 16, 2) := by decide +kernel
theorem dX5_grade_33 : decode cX5_grade 33 = .ok (.if_icmp .ge 42, 3) := by decide +kernel
theorem dX5_grade_36 : decode cX5_grade 36 = .ok (.iload_n 2, 1) := by decide +kernel
theorem dX5_grade_37 : decode cX5_grade 37 = .ok (.aload_n 0, 1) := by decide +kernel
theorem dX5_grade_38 : decode cX5_grade 38 = .ok (.getfield 32, 3) := by decide +kernel
theorem dX5_grade_41 : decode cX5_grade 41 = .ok (.bipush 16, 2) := by decide +kernel
theorem dX5_grade_43 : decode cX5_grade 43 = .ok (.iload_n 1, 1) := by decide +kernel
theorem dX5_grade_44 : decode cX5_grade 44 = .ok (.imul, 1) := by decide +kernel
theorem dX5_grade_45 : decode cX5_grade 45 = .ok (.iload_n 3, 1) := by decide +kernel
theorem dX5_grade_46 : decode cX5_grade 46 = .ok (.iadd, 1) := by decide +kernel
theorem dX5_grade_47 : decode cX5_grade 47 = .ok (.iaload, 1) := by decide +kernel
theorem dX5_grade_48 : decode cX5_grade 48 = .ok (.aload_n 0, 1) := by decide +kernel
theorem dX5_grade_49 : decode cX5_grade 49 = .ok (.getfield 23, 3) := by decide +kernel
theorem dX5_grade_52 : decode cX5_grade 52 = .ok (.bipush 16, 2) := by decide +kernel
theorem dX5_grade_54 : decode cX5_grade 54 = .ok (.aload_n 0, 1) := by decide +kernel
theorem dX5_grade_55 : decode cX5_grade 55 = .ok (.getfield 35, 3) := by decide +kernel
theorem dX5_grade_58 : decode cX5_grade 58 = .ok (.iload_n 1, 1) := by decide +kernel
theorem dX5_grade_59 : decode cX5_grade 59 = .ok (.iaload, 1) := by decide +kernel
theorem dX5_grade_60 : decode cX5_grade 60 = .ok (.imul, 1) := by decide +kernel
theorem dX5_grade_61 : decode cX5_grade 61 = .ok (.iload_n 3, 1) := by decide +kernel
theorem dX5_grade_62 : decode cX5_grade 62 = .ok (.iadd, 1) := by decide +kernel
theorem dX5_grade_63 : decode cX5_grade 63 = .ok (.iaload, 1) := by decide +kernel
theorem dX5_grade_64 : decode cX5_grade 64 = .ok (.invokestatic 116, 3) := by decide +kernel
theorem dX5_grade_67 : decode cX5_grade 67 = .ok (.iadd, 1) := by decide +kernel
theorem dX5_grade_68 : decode cX5_grade 68 = .ok (.istore_n 2, 1) := by decide +kernel
theorem dX5_grade_69 : decode cX5_grade 69 = .ok (.iinc 3 1, 3) := by decide +kernel
theorem dX5_grade_72 : decode cX5_grade 72 = .ok (.goto (-42), 3) := by decide +kernel
theorem dX5_grade_75 : decode cX5_grade 75 = .ok (.iload_n 2, 1) := by decide +kernel
theorem dX5_grade_76 : decode cX5_grade 76 = .ok (.bipush 20, 2) := by decide +kernel
theorem dX5_grade_78 : decode cX5_grade 78 = .ok (.if_icmp .le 7, 3) := by decide +kernel
theorem dX5_grade_81 : decode cX5_grade 81 = .ok (.iconst 0, 1) := by decide +kernel
theorem dX5_grade_82 : decode cX5_grade 82 = .ok (.goto 9, 3) := by decide +kernel
theorem dX5_grade_85 : decode cX5_grade 85 = .ok (.bipush 100, 2) := by decide +kernel
theorem dX5_grade_87 : decode cX5_grade 87 = .ok (.iconst 5, 1) := by decide +kernel
theorem dX5_grade_88 : decode cX5_grade 88 = .ok (.iload_n 2, 1) := by decide +kernel
theorem dX5_grade_89 : decode cX5_grade 89 = .ok (.imul, 1) := by decide +kernel
theorem dX5_grade_90 : decode cX5_grade 90 = .ok (.isub, 1) := by decide +kernel
theorem dX5_grade_91 : decode cX5_grade 91 = .ok (.ireturn, 1) := by decide +kernel
theorem dX5_laysThen_0 : decode cX5_laysThen 0 = .ok (.iconst 0, 1) := by decide +kernel
theorem dX5_laysThen_1 : decode cX5_laysThen 1 = .ok (.istore_n 3, 1) := by decide +kernel
theorem dX5_laysThen_2 : decode cX5_laysThen 2 = .ok (.iload_n 3, 1) := by decide +kernel
theorem dX5_laysThen_3 : decode cX5_laysThen 3 = .ok (.bipush 16, 2) := by decide +kernel
theorem dX5_laysThen_5 : decode cX5_laysThen 5 = .ok (.if_icmp .ge 26, 3) := by decide +kernel
theorem dX5_laysThen_8 : decode cX5_laysThen 8 = .ok (.aload_n 0, 1) := by decide +kernel
theorem dX5_laysThen_9 : decode cX5_laysThen 9 = .ok (.getfield 41, 3) := by decide +kernel
theorem dX5_laysThen_12 : decode cX5_laysThen 12 = .ok (.iload_n 3, 1) := by decide +kernel
theorem dX5_laysThen_13 : decode cX5_laysThen 13 = .ok (.aload_n 0, 1) := by decide +kernel
theorem dX5_laysThen_14 : decode cX5_laysThen 14 = .ok (.getfield 23, 3) := by decide +kernel
theorem dX5_laysThen_17 : decode cX5_laysThen 17 = .ok (.bipush 16, 2) := by decide +kernel
theorem dX5_laysThen_19 : decode cX5_laysThen 19 = .ok (.iload_n 1, 1) := by decide +kernel
theorem dX5_laysThen_20 : decode cX5_laysThen 20 = .ok (.imul, 1) := by decide +kernel
theorem dX5_laysThen_21 : decode cX5_laysThen 21 = .ok (.iload_n 3, 1) := by decide +kernel
theorem dX5_laysThen_22 : decode cX5_laysThen 22 = .ok (.iadd, 1) := by decide +kernel
theorem dX5_laysThen_23 : decode cX5_laysThen 23 = .ok (.iaload, 1) := by decide +kernel
theorem dX5_laysThen_24 : decode cX5_laysThen 24 = .ok (.iastore, 1) := by decide +kernel
theorem dX5_laysThen_25 : decode cX5_laysThen 25 = .ok (.iinc 3 1, 3) := by decide +kernel
theorem dX5_laysThen_28 : decode cX5_laysThen 28 = .ok (.goto (-26), 3) := by decide +kernel
theorem dX5_laysThen_31 : decode cX5_laysThen 31 = .ok (.iconst 2, 1) := by decide +kernel
theorem dX5_laysThen_32 : decode cX5_laysThen 32 = .ok (.istore_n 3, 1) := by decide +kernel
theorem dX5_laysThen_33 : decode cX5_laysThen 33 = .ok (.iload_n 3, 1) := by decide +kernel
theorem dX5_laysThen_34 : decode cX5_laysThen 34 = .ok (.iload_n 2, 1) := by decide +kernel
theorem dX5_laysThen_35 : decode cX5_laysThen 35 = .ok (.if_icmp .ge 79, 3) := by decide +kernel
theorem dX5_laysThen_38 : decode cX5_laysThen 38 = .ok (.iconst 0, 1) := by decide +kernel
theorem dX5_laysThen_39 : decode cX5_laysThen 39 = .ok (.istore 4, 2) := by decide +kernel
theorem dX5_laysThen_41 : decode cX5_laysThen 41 = .ok (.iconst 0, 1) := by decide +kernel
theorem dX5_laysThen_42 : decode cX5_laysThen 42 = .ok (.istore 5, 2) := by decide +kernel
theorem dX5_laysThen_44 : decode cX5_laysThen 44 = .ok (.iload 5, 2) := by decide +kernel
theorem dX5_laysThen_46 : decode cX5_laysThen 46 = .ok (.bipush 16, 2) := by decide +kernel
theorem dX5_laysThen_48 : decode cX5_laysThen 48 = .ok (.if_icmp .ge 35, 3) := by decide +kernel
theorem dX5_laysThen_51 : decode cX5_laysThen 51 = .ok (.aload_n 0, 1) := by decide +kernel
theorem dX5_laysThen_52 : decode cX5_laysThen 52 = .ok (.getfield 41, 3) := by decide +kernel
theorem dX5_laysThen_55 : decode cX5_laysThen 55 = .ok (.iload 5, 2) := by decide +kernel
theorem dX5_laysThen_57 : decode cX5_laysThen 57 = .ok (.iaload, 1) := by decide +kernel
theorem dX5_laysThen_58 : decode cX5_laysThen 58 = .ok (.aload_n 0, 1) := by decide +kernel
theorem dX5_laysThen_59 : decode cX5_laysThen 59 = .ok (.getfield 41, 3) := by decide +kernel
theorem dX5_laysThen_62 : decode cX5_laysThen 62 = .ok (.iload 4, 2) := by decide +kernel
theorem dX5_laysThen_64 : decode cX5_laysThen 64 = .ok (.iaload, 1) := by decide +kernel
theorem dX5_laysThen_65 : decode cX5_laysThen 65 = .ok (.if_icmp .le 8, 3) := by decide +kernel
theorem dX5_laysThen_68 : decode cX5_laysThen 68 = .ok (.iload 5, 2) := by decide +kernel
theorem dX5_laysThen_70 : decode cX5_laysThen 70 = .ok (.goto 5, 3) := by decide +kernel
theorem dX5_laysThen_73 : decode cX5_laysThen 73 = .ok (.iload 4, 2) := by decide +kernel
theorem dX5_laysThen_75 : decode cX5_laysThen 75 = .ok (.istore 4, 2) := by decide +kernel
theorem dX5_laysThen_77 : decode cX5_laysThen 77 = .ok (.iinc 5 1, 3) := by decide +kernel
theorem dX5_laysThen_80 : decode cX5_laysThen 80 = .ok (.goto (-36), 3) := by decide +kernel
theorem dX5_laysThen_83 : decode cX5_laysThen 83 = .ok (.aload_n 0, 1) := by decide +kernel
theorem dX5_laysThen_84 : decode cX5_laysThen 84 = .ok (.getfield 41, 3) := by decide +kernel
theorem dX5_laysThen_87 : decode cX5_laysThen 87 = .ok (.iload 4, 2) := by decide +kernel
theorem dX5_laysThen_89 : decode cX5_laysThen 89 = .ok (.dup2, 1) := by decide +kernel
theorem dX5_laysThen_90 : decode cX5_laysThen 90 = .ok (.iaload, 1) := by decide +kernel
theorem dX5_laysThen_91 : decode cX5_laysThen 91 = .ok (.aload_n 0, 1) := by decide +kernel
theorem dX5_laysThen_92 : decode cX5_laysThen 92 = .ok (.getfield 41, 3) := by decide +kernel
theorem dX5_laysThen_95 : decode cX5_laysThen 95 = .ok (.iload 4, 2) := by decide +kernel
theorem dX5_laysThen_97 : decode cX5_laysThen 97 = .ok (.iaload, 1) := by decide +kernel
theorem dX5_laysThen_98 : decode cX5_laysThen 98 = .ok (.ifCond .le 7, 3) := by decide +kernel
theorem dX5_laysThen_101 : decode cX5_laysThen 101 = .ok (.iconst 1, 1) := by decide +kernel
theorem dX5_laysThen_102 : decode cX5_laysThen 102 = .ok (.goto 4, 3) := by decide +kernel
theorem dX5_laysThen_105 : decode cX5_laysThen 105 = .ok (.iconst 0, 1) := by decide +kernel
theorem dX5_laysThen_106 : decode cX5_laysThen 106 = .ok (.isub, 1) := by decide +kernel
theorem dX5_laysThen_107 : decode cX5_laysThen 107 = .ok (.iastore, 1) := by decide +kernel
theorem dX5_laysThen_108 : decode cX5_laysThen 108 = .ok (.iinc 3 2, 3) := by decide +kernel
theorem dX5_laysThen_111 : decode cX5_laysThen 111 = .ok (.goto (-78), 3) := by decide +kernel
theorem dX5_laysThen_114 : decode cX5_laysThen 114 = .ok (.return_, 1) := by decide +kernel
theorem dX5_isForged_0 : decode cX5_isForged 0 = .ok (.aload_n 0, 1) := by decide +kernel
theorem dX5_isForged_1 : decode cX5_isForged 1 = .ok (.aload_n 0, 1) := by decide +kernel
theorem dX5_isForged_2 : decode cX5_isForged 2 = .ok (.iload_n 1, 1) := by decide +kernel
theorem dX5_isForged_3 : decode cX5_isForged 3 = .ok (.invokevirtual 113, 3) := by decide +kernel
theorem dX5_isForged_6 : decode cX5_isForged 6 = .ok (.ifCond .eq 7, 3) := by decide +kernel
theorem dX5_isForged_9 : decode cX5_isForged 9 = .ok (.iconst 0, 1) := by decide +kernel
theorem dX5_isForged_10 : decode cX5_isForged 10 = .ok (.goto 4, 3) := by decide +kernel
theorem dX5_isForged_13 : decode cX5_isForged 13 = .ok (.iconst 1, 1) := by decide +kernel
theorem dX5_isForged_14 : decode cX5_isForged 14 = .ok (.putfield 44, 3) := by decide +kernel
theorem dX5_isForged_17 : decode cX5_isForged 17 = .ok (.aload_n 0, 1) := by decide +kernel
theorem dX5_isForged_18 : decode cX5_isForged 18 = .ok (.getfield 44, 3) := by decide +kernel
theorem dX5_isForged_21 : decode cX5_isForged 21 = .ok (.ifCond .le 5, 3) := by decide +kernel
theorem dX5_isForged_24 : decode cX5_isForged 24 = .ok (.iconst 0, 1) := by decide +kernel
theorem dX5_isForged_25 : decode cX5_isForged 25 = .ok (.ireturn, 1) := by decide +kernel
theorem dX5_isForged_26 : decode cX5_isForged 26 = .ok (.aload_n 0, 1) := by decide +kernel
theorem dX5_isForged_27 : decode cX5_isForged 27 = .ok (.aload_n 0, 1) := by decide +kernel
theorem dX5_isForged_28 : decode cX5_isForged 28 = .ok (.getfield 35, 3) := by decide +kernel
theorem dX5_isForged_31 : decode cX5_isForged 31 = .ok (.iload_n 1, 1) := by decide +kernel
theorem dX5_isForged_32 : decode cX5_isForged 32 = .ok (.iaload, 1) := by decide +kernel
theorem dX5_isForged_33 : decode cX5_isForged 33 = .ok (.aload_n 0, 1) := by decide +kernel
theorem dX5_isForged_34 : decode cX5_isForged 34 = .ok (.getfield 38, 3) := by decide +kernel
theorem dX5_isForged_37 : decode cX5_isForged 37 = .ok (.iload_n 1, 1) := by decide +kernel
theorem dX5_isForged_38 : decode cX5_isForged 38 = .ok (.iaload, 1) := by decide +kernel
theorem dX5_isForged_39 : decode cX5_isForged 39 = .ok (.invokevirtual 119, 3) := by decide +kernel
theorem dX5_isForged_42 : decode cX5_isForged 42 = .ok (.iconst 0, 1) := by decide +kernel
theorem dX5_isForged_43 : decode cX5_isForged 43 = .ok (.istore_n 2, 1) := by decide +kernel
theorem dX5_isForged_44 : decode cX5_isForged 44 = .ok (.iconst 0, 1) := by decide +kernel
theorem dX5_isForged_45 : decode cX5_isForged 45 = .ok (.istore_n 3, 1) := by decide +kernel
theorem dX5_isForged_46 : decode cX5_isForged 46 = .ok (.iload_n 3, 1) := by decide +kernel
theorem dX5_isForged_47 : decode cX5_isForged 47 = .ok (.bipush 16, 2) := by decide +kernel
theorem dX5_isForged_49 : decode cX5_isForged 49 = .ok (.if_icmp .ge 39, 3) := by decide +kernel
theorem dX5_isForged_52 : decode cX5_isForged 52 = .ok (.iload_n 2, 1) := by decide +kernel
theorem dX5_isForged_53 : decode cX5_isForged 53 = .ok (.ifCond .ne 23, 3) := by decide +kernel
theorem dX5_isForged_56 : decode cX5_isForged 56 = .ok (.aload_n 0, 1) := by decide +kernel
theorem dX5_isForged_57 : decode cX5_isForged 57 = .ok (.getfield 32, 3) := by decide +kernel
theorem dX5_isForged_60 : decode cX5_isForged 60 = .ok (.bipush 16, 2) := by decide +kernel
theorem dX5_isForged_62 : decode cX5_isForged 62 = .ok (.iload_n 1, 1) := by decide +kernel
theorem dX5_isForged_63 : decode cX5_isForged 63 = .ok (.imul, 1) := by decide +kernel
theorem dX5_isForged_64 : decode cX5_isForged 64 = .ok (.iload_n 3, 1) := by decide +kernel
theorem dX5_isForged_65 : decode cX5_isForged 65 = .ok (.iadd, 1) := by decide +kernel
theorem dX5_isForged_66 : decode cX5_isForged 66 = .ok (.iaload, 1) := by decide +kernel
theorem dX5_isForged_67 : decode cX5_isForged 67 = .ok (.aload_n 0, 1) := by decide +kernel
theorem dX5_isForged_68 : decode cX5_isForged 68 = .ok (.getfield 41, 3) := by decide +kernel
theorem dX5_isForged_71 : decode cX5_isForged 71 = .ok (.iload_n 3, 1) := by decide +kernel
theorem dX5_isForged_72 : decode cX5_isForged 72 = .ok (.iaload, 1) := by decide +kernel
theorem dX5_isForged_73 : decode cX5_isForged 73 = .ok (.if_icmp .eq 7, 3) := by decide +kernel
theorem dX5_isForged_76 : decode cX5_isForged 76 = .ok (.iconst 1, 1) := by decide +kernel
theorem dX5_isForged_77 : decode cX5_isForged 77 = .ok (.goto 4, 3) := by decide +kernel
theorem dX5_isForged_80 : decode cX5_isForged 80 = .ok (.iconst 0, 1) := by decide +kernel
theorem dX5_isForged_81 : decode cX5_isForged 81 = .ok (.istore_n 2, 1) := by decide +kernel
theorem dX5_isForged_82 : decode cX5_isForged 82 = .ok (.iinc 3 1, 3) := by decide +kernel
theorem dX5_isForged_85 : decode cX5_isForged 85 = .ok (.goto (-39), 3) := by decide +kernel
theorem dX5_isForged_88 : decode cX5_isForged 88 = .ok (.iload_n 2, 1) := by decide +kernel
theorem dX5_isForged_89 : decode cX5_isForged 89 = .ok (.ireturn, 1) := by decide +kernel
theorem dX5_distance_0 : decode cX5_distance 0 = .ok (.aload_n 0, 1) := by decide +kernel
theorem dX5_distance_1 : decode cX5_distance 1 = .ok (.aload_n 0, 1) := by decide +kernel
theorem dX5_distance_2 : decode cX5_distance 2 = .ok (.iload_n 1, 1) := by decide +kernel
theorem dX5_distance_3 : decode cX5_distance 3 = .ok (.invokevirtual 113, 3) := by decide +kernel
theorem dX5_distance_6 : decode cX5_distance 6 = .ok (.ifCond .eq 15, 3) := by decide +kernel
theorem dX5_distance_9 : decode cX5_distance 9 = .ok (.aload_n 0, 1) := by decide +kernel
theorem dX5_distance_10 : decode cX5_distance 10 = .ok (.iload_n 2, 1) := by decide +kernel
theorem dX5_distance_11 : decode cX5_distance 11 = .ok (.invokevirtual 113, 3) := by decide +kernel
theorem dX5_distance_14 : decode cX5_distance 14 = .ok (.ifCond .eq 7, 3) := by decide +kernel
theorem dX5_distance_17 : decode cX5_distance 17 = .ok (.iconst 0, 1) := by decide +kernel
theorem dX5_distance_18 : decode cX5_distance 18 = .ok (.goto 4, 3) := by decide +kernel
theorem dX5_distance_21 : decode cX5_distance 21 = .ok (.iconst 1, 1) := by decide +kernel
theorem dX5_distance_22 : decode cX5_distance 22 = .ok (.putfield 44, 3) := by decide +kernel
theorem dX5_distance_25 : decode cX5_distance 25 = .ok (.iconst 0, 1) := by decide +kernel
theorem dX5_distance_26 : decode cX5_distance 26 = .ok (.istore_n 3, 1) := by decide +kernel
theorem dX5_distance_27 : decode cX5_distance 27 = .ok (.iconst 0, 1) := by decide +kernel
theorem dX5_distance_28 : decode cX5_distance 28 = .ok (.istore 4, 2) := by decide +kernel
theorem dX5_distance_30 : decode cX5_distance 30 = .ok (.iload 4, 2) := by decide +kernel
theorem dX5_distance_32 : decode cX5_distance 32 = .ok (.bipush 16, 2) := by decide +kernel
theorem dX5_distance_34 : decode cX5_distance 34 = .ok (.if_icmp .ge 46, 3) := by decide +kernel
theorem dX5_distance_37 : decode cX5_distance 37 = .ok (.aload_n 0, 1) := by decide +kernel
theorem dX5_distance_38 : decode cX5_distance 38 = .ok (.getfield 44, 3) := by decide +kernel
theorem dX5_distance_41 : decode cX5_distance 41 = .ok (.ifCond .ne 39, 3) := by decide +kernel
theorem dX5_distance_44 : decode cX5_distance 44 = .ok (.iload_n 3, 1) := by decide +kernel
theorem dX5_distance_45 : decode cX5_distance 45 = .ok (.aload_n 0, 1) := by decide +kernel
theorem dX5_distance_46 : decode cX5_distance 46 = .ok (.getfield 32, 3) := by decide +kernel
theorem dX5_distance_49 : decode cX5_distance 49 = .ok (.bipush 16, 2) := by decide +kernel
theorem dX5_distance_51 : decode cX5_distance 51 = .ok (.iload_n 1, 1) := by decide +kernel
theorem dX5_distance_52 : decode cX5_distance 52 = .ok (.imul, 1) := by decide +kernel
theorem dX5_distance_53 : decode cX5_distance 53 = .ok (.iload 4, 2) := by decide +kernel
theorem dX5_distance_55 : decode cX5_distance 55 = .ok (.iadd, 1) := by decide +kernel
theorem dX5_distance_56 : decode cX5_distance 56 = .ok (.iaload, 1) := by decide +kernel
theorem dX5_distance_57 : decode cX5_distance 57 = .ok (.aload_n 0, 1) := by decide +kernel
theorem dX5_distance_58 : decode cX5_distance 58 = .ok (.getfield 32, 3) := by decide +kernel
theorem dX5_distance_61 : decode cX5_distance 61 = .ok (.bipush 16, 2) := by decide +kernel
theorem dX5_distance_63 : decode cX5_distance 63 = .ok (.iload_n 2, 1) := by decide +kernel
theorem dX5_distance_64 : decode cX5_distance 64 = .ok (.imul, 1) := by decide +kernel
theorem dX5_distance_65 : decode cX5_distance 65 = .ok (.iload 4, 2) := by decide +kernel
theorem dX5_distance_67 : decode cX5_distance 67 = .ok (.iadd, 1) := by decide +kernel
theorem dX5_distance_68 : decode cX5_distance 68 = .ok (.iaload, 1) := by decide +kernel
theorem dX5_distance_69 : decode cX5_distance 69 = .ok (.invokestatic 116, 3) := by decide +kernel
theorem dX5_distance_72 : decode cX5_distance 72 = .ok (.iadd, 1) := by decide +kernel
theorem dX5_distance_73 : decode cX5_distance 73 = .ok (.istore_n 3, 1) := by decide +kernel
theorem dX5_distance_74 : decode cX5_distance 74 = .ok (.iinc 4 1, 3) := by decide +kernel
theorem dX5_distance_77 : decode cX5_distance 77 = .ok (.goto (-47), 3) := by decide +kernel
theorem dX5_distance_80 : decode cX5_distance 80 = .ok (.iload_n 3, 1) := by decide +kernel
theorem dX5_distance_81 : decode cX5_distance 81 = .ok (.ireturn, 1) := by decide +kernel
end
section
/-! mint: the tables' good words; the world as roles (a role's address, a role's cell); rows over it -/
def mi_G : List Cond := lw_tbl.filter goodWord
theorem mi_in {w : Cond} (i : Nat) (h : lw_tbl[i]? = some w) (hg : goodWord w = true) : w ∈ mi_G := List.mem_filter.mpr ⟨List.mem_of_getElem? h, hg⟩
theorem mi_good {w0 : Cond} {ws : List Cond} (h : ∀ w ∈ ws, w ∈ mi_G) : GoodIn (w0 :: mi_G) ws := fun w hw => ⟨List.mem_cons_of_mem _ (h w hw), good_of_word (List.mem_filter.mp (h w hw)).2⟩
theorem mi_nil : ∀ w ∈ ([] : List Cond), w ∈ mi_G := fun _ h => absurd h List.not_mem_nil
theorem mi_cons {w : Cond} {ws : List Cond} (h : w ∈ mi_G) (t : ∀ w ∈ ws, w ∈ mi_G) : ∀ w' ∈ w :: ws, w' ∈ mi_G := List.forall_mem_cons.mpr ⟨h, t⟩
theorem mi_goodC {w0 w1 : Cond} (h : w1 ∈ mi_G) : GoodIn (w0 :: mi_G) (w1 :: mi_G) := mi_good (mi_cons h (fun _ h => h))
theorem mi_goodL {w0 w1 : Cond} {ws : List Cond} (h : w1 ∈ mi_G) (hl : ∀ w ∈ ws, w ∈ mi_G) : GoodIn (w0 :: mi_G) (ws ++ (w1 :: mi_G)) := mi_good (fun w hw => (List.mem_append.mp hw).elim (hl w) (fun h2 => mi_cons h (fun _ h => h) w h2))
def mi_rm (d : Nat) : Room := { frames := d, cells := 0, slots := 0, locals := 37 * d }
def mi_rq (d n k : Nat) : Room := { frames := d, cells := n, slots := k, locals := 37 * d }
/-- the world: what role r is (cf r), where it stands (ad r) -/
def mi_W (D : va_G) (A : Nat → Prop) (ad : Nat → Nat) (cf : Nat → Option va_E) (H : Heap) : Prop :=
  (∀ (r : Nat) (e : va_E), cf r = some e → A (ad r) ∧ va_at D vwCl (ad r, e) H) ∧ ∀ (r r' : Nat) (e e' : va_E), cf r = some e → cf r' = some e' → ad r = ad r' → r = r'
theorem mi_W.at {D : va_G} {A : Nat → Prop} {ad : Nat → Nat} {cf : Nat → Option va_E} {H : Heap} (h : mi_W D A ad cf H) {r : Nat} {e : va_E} (he : cf r = some e) : va_at D vwCl (ad r, e) H := (h.1 r e he).2
theorem mi_W.lt {D : va_G} {A : Nat → Prop} {ad : Nat → Nat} {cf : Nat → Option va_E} {H : Heap} (h : mi_W D A ad cf H) {r : Nat} {e : va_E} (he : cf r = some e) : ad r < H.size := (h.at he).lt
theorem mi_W.P {D : va_G} {A : Nat → Prop} {ad : Nat → Nat} {cf : Nat → Option va_E} {H : Heap} (h : mi_W D A ad cf H) {r : Nat} {e : va_E} (he : cf r = some e) : va_P D vwCl [(ad r, e)] H := by
  intro k q hk
  cases k with
  | zero => cases hk; exact h.at he
  | succ k => simp at hk
theorem mi_up_s {α : Type} {f : Nat → α} {k : Nat} {v : α} : va_up f k v k = v := if_pos rfl
theorem mi_up_n {α : Type} {f : Nat → α} {k j : Nat} {v : α} (h : j ≠ k) : va_up f k v j = f j := if_neg h
theorem mi_W.set {D : va_G} {A : Nat → Prop} {ad : Nat → Nat} {cf : Nat → Option va_E} {H H1 : Heap} (h : mi_W D A ad cf H) {r : Nat} {e0 e : va_E} (he : cf r = some e0) (h1 : va_at D vwCl (ad r, e) H1) (oq : ∀ q : Nat, q ≠ ad r → H1[q]? = H[q]?) : mi_W D A ad (va_up cf r (some e)) H1 := by
  refine ⟨fun k x hx => ?_, fun k k' x x' hx hx' ha => ?_⟩
  · by_cases hk : k = r
    · subst hk
      rw [mi_up_s] at hx
      cases hx
      exact ⟨(h.1 k _ he).1, h1⟩
    · rw [mi_up_n hk] at hx
      exact ⟨(h.1 k _ hx).1, (h.at hx).kept (oq _ (fun z => hk (h.2 k r _ _ hx he z)))⟩
  · have key : ∀ (j : Nat) (y : va_E), va_up cf r (some e) j = some y → ∃ y0, cf j = some y0 := by
      intro j y hy
      by_cases hj : j = r
      · subst hj; exact ⟨e0, he⟩
      · rw [mi_up_n hj] at hy; exact ⟨y, hy⟩
    obtain ⟨y, hy⟩ := key k x hx
    obtain ⟨y', hy'⟩ := key k' x' hx'
    exact h.2 k k' y y' hy hy' ha
theorem mi_W.new {D : va_G} {A : Nat → Prop} {ad : Nat → Nat} {cf : Nat → Option va_E} {H H1 : Heap} (h : mi_W D A ad cf H) (r : Nat) {e : va_E} (hA : A H.size) (h1 : va_at D vwCl (H.size, e) H1) (oq : ∀ q : Nat, q < H.size → H1[q]? = H[q]?) : mi_W D A (va_up ad r H.size) (va_up cf r (some e)) H1 := by
  have old : ∀ (k : Nat) (x : va_E), k ≠ r → va_up cf r (some e) k = some x → cf k = some x ∧ va_up ad r H.size k = ad k ∧ ad k < H.size := by
    intro k x hk hx
    rw [mi_up_n hk] at hx
    exact ⟨hx, mi_up_n hk, h.lt hx⟩
  refine ⟨fun k x hx => ?_, fun k k' x x' hx hx' ha => ?_⟩
  · by_cases hk : k = r
    · subst hk
      rw [mi_up_s] at hx
      cases hx
      rw [mi_up_s]
      exact ⟨hA, h1⟩
    · obtain ⟨g1, g2, g3⟩ := old k x hk hx
      rw [g2]
      exact ⟨(h.1 k _ g1).1, (h.at g1).kept (oq _ g3)⟩
  · by_cases hk : k = r
    · by_cases hk' : k' = r
      · rw [hk, hk']
      · obtain ⟨g1, g2, g3⟩ := old k' x' hk' hx'
        rw [hk, mi_up_s, g2] at ha
        omega
    · obtain ⟨g1, g2, g3⟩ := old k x hk hx
      by_cases hk' : k' = r
      · rw [hk', mi_up_s, g2] at ha
        omega
      · obtain ⟨f1, f2, f3⟩ := old k' x' hk' hx'
        rw [g2, f2] at ha
        exact h.2 k k' x x' g1 f1 ha
theorem mi_W.kept {D : va_G} {A : Nat → Prop} {ad : Nat → Nat} {cf : Nat → Option va_E} {H H1 : Heap} (h : mi_W D A ad cf H) (oq : ∀ q : Nat, q < H.size → A q → H1[q]? = H[q]?) : mi_W D A ad cf H1 :=
  ⟨fun k x hx => ⟨(h.1 k x hx).1, (h.at hx).kept (oq _ (h.lt hx) (h.1 k x hx).1)⟩, h.2⟩
theorem mi_W.weak {D : va_G} {A B : Nat → Prop} {ad : Nat → Nat} {cf : Nat → Option va_E} {H : Heap} (h : mi_W D A ad cf H) (hAB : ∀ q, A q → B q) : mi_W D B ad cf H :=
  ⟨fun k x hx => ⟨hAB _ (h.1 k x hx).1, h.at hx⟩, h.2⟩
/-- fewer roles, or the same with equal cells -/
theorem mi_W.sub {D : va_G} {A : Nat → Prop} {ad : Nat → Nat} {cf cg : Nat → Option va_E} {H : Heap} (h : mi_W D A ad cf H) (hs : ∀ r e, cg r = some e → cf r = some e) : mi_W D A ad cg H :=
  ⟨fun k x hx => h.1 k x (hs k x hx), fun k k' x x' hx hx' ha => h.2 k k' x x' (hs k x hx) (hs k' x' hx') ha⟩
/-- array cells: of ints, of naturals told as ints, of references, of longs -/
abbrev mi_ai (D : va_G) (n : Nat) (f : Nat → Int32) : va_E := .inl (D.1 100, n, .inl f)
abbrev mi_aq (D : va_G) (n : Nat) (f : Nat → Option Nat) : va_E := .inl (D.1 101, n, .inr (.inr (.inr (.inr f))))
abbrev mi_al (D : va_G) (n : Nat) (f : Nat → Int64) : va_E := .inl (D.1 102, n, .inr (.inl f))
abbrev mi_tys (D : va_G) : List (ClassId × FieldType) := [(D.1 100, .int), (D.1 101, .object "java/lang/Object"), (D.1 102, .long)]
/-- only the places below the length count -/
theorem mi_cell_ext {D : va_G} {n : Nat} {f g : Nat → Int32} (h : ∀ j, j < n → f j = g j) {a : Nat} {H : Heap} (h1 : va_at D vwCl (a, mi_ai D n f) H) : va_at D vwCl (a, mi_ai D n g) H := by
  have e : vp_cell (D.1 100) (n, .inl f) = vp_cell (D.1 100) (n, .inl g) := by
    rw [vp_cell_i, vp_cell_i]
    unfold arrV
    congr 1
    apply Array.ext
    · simp
    · intro i h2 h3
      simp only [Array.getElem_ofFn]
      rw [h i (by simpa using h2)]
  show H[a]? = some (vp_cell (D.1 100) (n, .inl g))
  rw [← e]
  exact h1
theorem mi_W.ext {D : va_G} {A : Nat → Prop} {ad : Nat → Nat} {cf cg : Nat → Option va_E} {H : Heap} (h : mi_W D A ad cf H) (hs : ∀ r e, cg r = some e → cf r = some e ∨ ∃ n f g, e = mi_ai D n g ∧ cf r = some (mi_ai D n f) ∧ ∀ j, j < n → f j = g j) : mi_W D A ad cg H := by
  refine ⟨fun k x hx => ?_, fun k k' x x' hx hx' ha => ?_⟩
  · rcases hs k x hx with q | ⟨n, f, g, rfl, q, hf⟩
    · exact h.1 k x q
    · exact ⟨(h.1 k _ q).1, mi_cell_ext hf (h.at q)⟩
  · have key : ∀ j y, cg j = some y → ∃ y0, cf j = some y0 := by
      intro j y hy
      rcases hs j y hy with q | ⟨n, f, g, -, q, -⟩
      · exact ⟨_, q⟩
      · exact ⟨_, q⟩
    obtain ⟨y, hy⟩ := key k x hx
    obtain ⟨y', hy'⟩ := key k' x' hx'
    exact h.2 k k' y y' hy hy' ha
end
section
/-! what a method's start gives of the tables and of the old heap, beside the good words -/
abbrev mi_IO : String := "java/lang/IndexOutOfBoundsException"
abbrev mi_IA : String := "java/lang/IllegalArgumentException"
abbrev mi_IS : String := "java/lang/IllegalStateException"
abbrev mi_ns : List String := ["java/lang/RuntimeException", "java/lang/Exception"]
abbrev mi_ob : String := "java/lang/Object"
/-- the address of ArrayList's empty default array; of Object[].class -/
abbrev mi_de (D : va_G) : Nat := D.2 200 0
abbrev mi_mi (D : va_G) : Nat := D.2 200 1
def mi_strs : List (Nat × String) := [(213, "no such column"), (218, "no such level"), (222, "kind is out of range"), (230, "no room for another state"), (220, "height is out of range"), (82, "no such run"), (224, "no such state"), (116, "the state 0 has no parent"), (123, "no such branch"), (129, "no room for another die"), (131, "there is not just one piece"), (226, "no such die"), (232, "no room for another coin"), (228, "no such coin"), (161, "number is out of range"), (167, "the die has made fewer strikes")]
def mi_casts : List (String × String) := [(mi_IO, mi_IO), (mi_IA, mi_IA), (mi_IS, mi_IS), (RX0, mi_ob), (RX1, mi_ob), (RX3, mi_ob), ("[I", "java/lang/Cloneable")]
def mi_nests : List (String × Nat × MethodName) := [(RX3, 23, yX4_isColumn), (RX3, 27, yX4_isLevel), (RX2, 39, yX4_isColumn), (RX2, 43, yX4_isLevel)]
def mi_ncs : List (String × String) := [(mi_IA, mi_IO), (mi_IS, mi_IO), (mi_IS, mi_IA)]
def mi_E (D : va_G) (A : Nat → Prop) (U : State) : Prop :=
  va_K D vwCl (mi_tys D) U ∧ (∀ q ∈ mi_nests, va_Nw (.methodLinkNest q.1 q.2.1 q.2.2 RX4) U) ∧ (∀ q ∈ mi_casts, va_Nw (.castable q.1 q.2) U) ∧ (∀ q ∈ mi_ncs, va_Nc q.1 q.2 U) ∧
  (∀ q ∈ mi_strs, ∃ a, vk_R RX4 q.1 q.2 a U) ∧
  vx_Zq Bundle.tN "UNASSIGNED_STACK" Bundle.steD A U U.heap ∧ vx_Zq Bundle.tN "SUPPRESSED_SENTINEL" Bundle.listD A U U.heap ∧
  va_Z RJx4a65c "DEFAULTCAPACITY_EMPTY_ELEMENTDATA" "[Ljava/lang/Object;" (.ref (mi_de D)) A U U.heap ∧ va_T (.object mi_ob) (mi_de D) 0 (fun _ => .null) A U U.heap ∧
  va_Mi "[Ljava/lang/Object;" (mi_mi D) U ∧ va_Dc U ∧ va_AO mi_ob U
theorem mi_E.at {D : va_G} {A : Nat → Prop} {s U : State} {H : Heap} {locs : List Loc} (h : mi_E D A s) (hS : va_S A s.heap H locs) (hU : U.heap = H) (hW : s.WarmedH U.vm) : mi_E D A U := by
  obtain ⟨h1, h2, h3, h4, h5, h6, h7, h8, h9, h10, h11, h12⟩ := h
  subst hU
  have hal := hW.alike
  refine ⟨va_K.moved hal h1, fun q hq => va_Nw.warmM hW (h2 q hq), fun q hq => va_Nw.warmC hW (h3 q hq), fun q hq => va_Nc.moved hal (h4 q hq), fun q hq => ?_, vx_Zq.moved hal (h6.kept hS.2.1), vx_Zq.moved hal (h7.kept hS.2.1), va_Z.moved hal (h8.kept hS.2.1), va_T.moved hal (h9.kept hS.2.1), va_Mi.moved hal h10, va_Dc.moved hal h11, va_AO.moved hal h12⟩
  obtain ⟨a, ha⟩ := h5 q hq
  exact ⟨a, vk_R.warm hW ha⟩
theorem mi_E.narrow {D : va_G} {A B : Nat → Prop} {s : State} (h : mi_E D A s) (hAB : ∀ q, B q → A q) : mi_E D B s := by
  obtain ⟨h1, h2, h3, h4, h5, h6, h7, h8, h9, h10, h11, h12⟩ := h
  exact ⟨h1, h2, h3, h4, h5, h6.narrow hAB, h7.narrow hAB, h8.narrow hAB, h9.narrow hAB, h10, h11, h12⟩
theorem mi_E.calling {D : va_G} {A : Nat → Prop} {U : State} {g : JFrame} {mk : MethodId} {a : Array Value} (h : mi_E D A U) : mi_E D A (U.calling g mk a) := h.at (locs := []) (H := U.heap) ⟨Nat.le_refl _, fun _ _ _ => rfl, fun _ h => by cases h⟩ rfl (State.WarmedH.refl U)
theorem mi_E.K {D : va_G} {A : Nat → Prop} {U : State} (h : mi_E D A U) : va_K D vwCl (mi_tys D) U := h.1
/-- a method's start: its arguments, the old facts, the world (P) -/
abbrev mi_Pc (D : va_G) (A : Nat → Prop) (P : Heap → Prop) (av : List Value) : Array Value → State → Prop := va_Pc av (fun U => mi_E D A U ∧ P U.heap)
theorem mi_blind {D : va_G} {A : Nat → Prop} {P : Heap → Prop} {av : List Value} : FrameBlind (mi_Pc D A P av) := fun a U g mk h => ⟨h.1, h.2.1.calling, h.2.2⟩
theorem mi_W.recv {D : va_G} {A B : Nat → Prop} {ad : Nat → Nat} {cf : Nat → Option va_E} {s : State} {H : Heap} (h : mi_W D A ad cf H) (hE : mi_E D B s) {r ci : Nat} {fs : List Value} {q : vw_C} (he : cf r = some (.inr (ci, fs))) (hc : vwCl[ci]? = some q) : ∃ cell : Cell, H[ad r]? = some cell ∧ cell.vm.isStatics = false ∧ s.vm.findClass q.1 = some cell.cls :=
  va_recv (q0 := 0) hE.K (h.P he) hc rfl
theorem mi_W.recvA {D : va_G} {A B : Nat → Prop} {ad : Nat → Nat} {cf : Nat → Option va_E} {s : State} {H : Heap} (h : mi_W D A ad cf H) (hE : mi_E D B s) {r ci a : Nat} {fs : List Value} {q : vw_C} (ha : ad r = a) (he : cf r = some (.inr (ci, fs))) (hc : vwCl[ci]? = some q) : ∃ cell : Cell, H[a]? = some cell ∧ cell.vm.isStatics = false ∧ s.vm.findClass q.1 = some cell.cls := by
  subst ha
  exact h.recv hE he hc
section MIR
variable {p : Program} {l : Launch} {e : Env} {R : Room} {s : State} {m : MethodId} {args : Array Value} {below : List Frame} {meth : Method} {c : Code} {H : Heap} {locs : List Loc} {cells slots : Nat} {Q : State → Prop}
variable {cc : ByteArray} {pc nL : Nat} {ls : Array Slot} {rest : List Value} {D : va_G} {A : Nat → Prop} {ad : Nat → Nat} {cf : Nat → Option va_E} {Ts : List Cond} {own : String}
/-- the value on top, told otherwise -/
theorem mi_top {v v' : Value} (h : v = v') (k : W p l e R s m args below meth c H locs cells slots Q (F0 m pc ls (v' :: rest))) : W p l e R s m args below meth c H locs cells slots Q (F0 m pc ls (v :: rest)) := by rw [h]; exact k
theorem mi_iadd (S : CallFix p m c cc nL s args Ts own) {a b : Nat} (hdg : decode cc pc = .ok (.iadd, 1)) (k : W p l e R s m args below meth c H locs cells slots Q (F0 m (pc + 1) ls (.int (nI (a + b)) :: rest))) : W p l e R s m args below meth c H locs cells slots Q (F0 m pc ls (.int (nI b) :: .int (nI a) :: rest)) := lv_iadd S.1 S.2.1 hdg (by rw [nI_add]; exact k)
theorem mi_isub (S : CallFix p m c cc nL s args Ts own) {a b : Nat} (h : b ≤ a) (hdg : decode cc pc = .ok (.isub, 1)) (k : W p l e R s m args below meth c H locs cells slots Q (F0 m (pc + 1) ls (.int (nI (a - b)) :: rest))) : W p l e R s m args below meth c H locs cells slots Q (F0 m pc ls (.int (nI b) :: .int (nI a) :: rest)) := lv_isub S.1 S.2.1 hdg (by rw [pk_sub h]; exact k)
theorem mi_imul (S : CallFix p m c cc nL s args Ts own) {a b : Nat} (hdg : decode cc pc = .ok (.imul, 1)) (k : W p l e R s m args below meth c H locs cells slots Q (F0 m (pc + 1) ls (.int (nI (a * b)) :: rest))) : W p l e R s m args below meth c H locs cells slots Q (F0 m pc ls (.int (nI b) :: .int (nI a) :: rest)) := lv_imul S.1 S.2.1 hdg (by rw [pk_mul]; exact k)
theorem mi_idiv (S : CallFix p m c cc nL s args Ts own) {a b : Nat} (ha : a < 2 ^ 31) (h0 : 0 < b) (hb : b < 2 ^ 31) (hdg : decode cc pc = .ok (.idiv, 1)) (k : W p l e R s m args below meth c H locs cells slots Q (F0 m (pc + 1) ls (.int (nI (a / b)) :: rest))) : W p l e R s m args below meth c H locs cells slots Q (F0 m pc ls (.int (nI b) :: .int (nI a) :: rest)) := lv_idiv S.1 S.2.1 hdg (nI_ne0 h0 hb) (by rw [pk_div ha h0 hb]; exact k)
theorem mi_irem (S : CallFix p m c cc nL s args Ts own) {a b : Nat} (ha : a < 2 ^ 31) (h0 : 0 < b) (hb : b < 2 ^ 31) (hdg : decode cc pc = .ok (.irem, 1)) (k : W p l e R s m args below meth c H locs cells slots Q (F0 m (pc + 1) ls (.int (nI (a % b)) :: rest))) : W p l e R s m args below meth c H locs cells slots Q (F0 m pc ls (.int (nI b) :: .int (nI a) :: rest)) := lv_irem S.1 S.2.1 hdg (nI_ne0 h0 hb) (by rw [pk_rem ha h0 hb]; exact k)
theorem mi_icmp_eq (S : CallFix p m c cc nL s args Ts own) {a b tgt : Nat} {off : Int} (ha : a < 2 ^ 31) (hb : b < 2 ^ 31) (hdg : decode cc pc = .ok (.if_icmp .eq off, 3)) (ht : (pc : Int) + off = (tgt : Int)) (kt : a = b → W p l e R s m args below meth c H locs cells slots Q (F0 m tgt ls rest)) (kf : a ≠ b → W p l e R s m args below meth c H locs cells slots Q (F0 m (pc + 3) ls rest)) : W p l e R s m args below meth c H locs cells slots Q (F0 m pc ls (.int (nI b) :: .int (nI a) :: rest)) := lv_icmp_eq S.1 S.2.1 hdg ht (fun h => kt ((nI_eq ha hb).mp h)) (fun h => kf (fun z => h ((nI_eq ha hb).mpr z)))
theorem mi_icmp_ne (S : CallFix p m c cc nL s args Ts own) {a b tgt : Nat} {off : Int} (ha : a < 2 ^ 31) (hb : b < 2 ^ 31) (hdg : decode cc pc = .ok (.if_icmp .ne off, 3)) (ht : (pc : Int) + off = (tgt : Int)) (kt : a ≠ b → W p l e R s m args below meth c H locs cells slots Q (F0 m tgt ls rest)) (kf : a = b → W p l e R s m args below meth c H locs cells slots Q (F0 m (pc + 3) ls rest)) : W p l e R s m args below meth c H locs cells slots Q (F0 m pc ls (.int (nI b) :: .int (nI a) :: rest)) := lv_icmp_ne S.1 S.2.1 hdg ht (fun h => kt (fun z => h ((nI_eq ha hb).mpr z))) (fun h => kf ((nI_eq ha hb).mp h))
theorem mi_icmp_lt (S : CallFix p m c cc nL s args Ts own) {a b tgt : Nat} {off : Int} (ha : a < 2 ^ 31) (hb : b < 2 ^ 31) (hdg : decode cc pc = .ok (.if_icmp .lt off, 3)) (ht : (pc : Int) + off = (tgt : Int)) (kt : a < b → W p l e R s m args below meth c H locs cells slots Q (F0 m tgt ls rest)) (kf : b ≤ a → W p l e R s m args below meth c H locs cells slots Q (F0 m (pc + 3) ls rest)) : W p l e R s m args below meth c H locs cells slots Q (F0 m pc ls (.int (nI b) :: .int (nI a) :: rest)) := lv_icmp_lt S.1 S.2.1 hdg ht (fun h => kt ((nI_ltI ha hb).mp h)) (fun h => kf (Nat.not_lt.mp fun z => h ((nI_ltI ha hb).mpr z)))
theorem mi_icmp_ge (S : CallFix p m c cc nL s args Ts own) {a b tgt : Nat} {off : Int} (ha : a < 2 ^ 31) (hb : b < 2 ^ 31) (hdg : decode cc pc = .ok (.if_icmp .ge off, 3)) (ht : (pc : Int) + off = (tgt : Int)) (kt : b ≤ a → W p l e R s m args below meth c H locs cells slots Q (F0 m tgt ls rest)) (kf : a < b → W p l e R s m args below meth c H locs cells slots Q (F0 m (pc + 3) ls rest)) : W p l e R s m args below meth c H locs cells slots Q (F0 m pc ls (.int (nI b) :: .int (nI a) :: rest)) := lv_icmp_ge S.1 S.2.1 hdg ht (fun h => kt ((nI_leI hb ha).mp h)) (fun h => kf (Nat.not_le.mp fun z => h ((nI_leI hb ha).mpr z)))
theorem mi_icmp_gt (S : CallFix p m c cc nL s args Ts own) {a b tgt : Nat} {off : Int} (ha : a < 2 ^ 31) (hb : b < 2 ^ 31) (hdg : decode cc pc = .ok (.if_icmp .gt off, 3)) (ht : (pc : Int) + off = (tgt : Int)) (kt : b < a → W p l e R s m args below meth c H locs cells slots Q (F0 m tgt ls rest)) (kf : a ≤ b → W p l e R s m args below meth c H locs cells slots Q (F0 m (pc + 3) ls rest)) : W p l e R s m args below meth c H locs cells slots Q (F0 m pc ls (.int (nI b) :: .int (nI a) :: rest)) := lv_icmp_gt S.1 S.2.1 hdg ht (fun h => kt ((nI_ltI hb ha).mp h)) (fun h => kf (Nat.not_lt.mp fun z => h ((nI_ltI hb ha).mpr z)))
theorem mi_icmp_le (S : CallFix p m c cc nL s args Ts own) {a b tgt : Nat} {off : Int} (ha : a < 2 ^ 31) (hb : b < 2 ^ 31) (hdg : decode cc pc = .ok (.if_icmp .le off, 3)) (ht : (pc : Int) + off = (tgt : Int)) (kt : a ≤ b → W p l e R s m args below meth c H locs cells slots Q (F0 m tgt ls rest)) (kf : b < a → W p l e R s m args below meth c H locs cells slots Q (F0 m (pc + 3) ls rest)) : W p l e R s m args below meth c H locs cells slots Q (F0 m pc ls (.int (nI b) :: .int (nI a) :: rest)) := lv_icmp_le S.1 S.2.1 hdg ht (fun h => kt ((nI_leI ha hb).mp h)) (fun h => kf (Nat.not_le.mp fun z => h ((nI_leI ha hb).mpr z)))
theorem mi_if_eq (S : CallFix p m c cc nL s args Ts own) {a tgt : Nat} {off : Int} (ha : a < 2 ^ 31) (hdg : decode cc pc = .ok (.ifCond .eq off, 3)) (ht : (pc : Int) + off = (tgt : Int)) (kt : a = 0 → W p l e R s m args below meth c H locs cells slots Q (F0 m tgt ls rest)) (kf : a ≠ 0 → W p l e R s m args below meth c H locs cells slots Q (F0 m (pc + 3) ls rest)) : W p l e R s m args below meth c H locs cells slots Q (F0 m pc ls (.int (nI a) :: rest)) := lv_if_eq S.1 S.2.1 hdg ht (fun h => kt (Decidable.byContradiction fun z => nI_ne0 (by omega) ha h)) (fun h => kf (fun z => h (by rw [z]; exact nI_0)))
theorem mi_if_ne (S : CallFix p m c cc nL s args Ts own) {a tgt : Nat} {off : Int} (ha : a < 2 ^ 31) (hdg : decode cc pc = .ok (.ifCond .ne off, 3)) (ht : (pc : Int) + off = (tgt : Int)) (kt : a ≠ 0 → W p l e R s m args below meth c H locs cells slots Q (F0 m tgt ls rest)) (kf : a = 0 → W p l e R s m args below meth c H locs cells slots Q (F0 m (pc + 3) ls rest)) : W p l e R s m args below meth c H locs cells slots Q (F0 m pc ls (.int (nI a) :: rest)) := lv_if_ne S.1 S.2.1 hdg ht (fun h => kt (fun z => h (by rw [z]; exact nI_0))) (fun h => kf (Decidable.byContradiction fun z => nI_ne0 (by omega) ha h))
theorem mi_if_lt (S : CallFix p m c cc nL s args Ts own) {a tgt : Nat} {off : Int} (ha : a < 2 ^ 31) (hdg : decode cc pc = .ok (.ifCond .lt off, 3)) (ht : (pc : Int) + off = (tgt : Int)) (kf : W p l e R s m args below meth c H locs cells slots Q (F0 m (pc + 3) ls rest)) : W p l e R s m args below meth c H locs cells slots Q (F0 m pc ls (.int (nI a) :: rest)) := lv_if_lt S.1 S.2.1 hdg ht (fun h => absurd h (nI_pos ha)) (fun _ => kf)
theorem mi_if_ge (S : CallFix p m c cc nL s args Ts own) {a tgt : Nat} {off : Int} (ha : a < 2 ^ 31) (hdg : decode cc pc = .ok (.ifCond .ge off, 3)) (ht : (pc : Int) + off = (tgt : Int)) (kt : W p l e R s m args below meth c H locs cells slots Q (F0 m tgt ls rest)) : W p l e R s m args below meth c H locs cells slots Q (F0 m pc ls (.int (nI a) :: rest)) := lv_if_ge S.1 S.2.1 hdg ht (fun _ => kt) (fun h => absurd (nI_pos' ha) h)
theorem mi_if_gt (S : CallFix p m c cc nL s args Ts own) {a tgt : Nat} {off : Int} (ha : a < 2 ^ 31) (hdg : decode cc pc = .ok (.ifCond .gt off, 3)) (ht : (pc : Int) + off = (tgt : Int)) (kt : 0 < a → W p l e R s m args below meth c H locs cells slots Q (F0 m tgt ls rest)) (kf : a = 0 → W p l e R s m args below meth c H locs cells slots Q (F0 m (pc + 3) ls rest)) : W p l e R s m args below meth c H locs cells slots Q (F0 m pc ls (.int (nI a) :: rest)) := by
  refine lv_if_gt S.1 S.2.1 hdg ht (fun h => kt ?_) (fun h => kf ?_)
  · rcases Nat.eq_zero_or_pos a with z | z
    · subst z
      exact absurd h (by decide)
    · exact z
  · rcases Nat.eq_zero_or_pos a with z | z
    · exact z
    · have h2 := nI_lt (a := 0) (b := a) z ha
      rw [nI_0] at h2
      exact absurd h2 h
theorem mi_if_le (S : CallFix p m c cc nL s args Ts own) {a tgt : Nat} {off : Int} (ha : a < 2 ^ 31) (hdg : decode cc pc = .ok (.ifCond .le off, 3)) (ht : (pc : Int) + off = (tgt : Int)) (kt : a = 0 → W p l e R s m args below meth c H locs cells slots Q (F0 m tgt ls rest)) (kf : 0 < a → W p l e R s m args below meth c H locs cells slots Q (F0 m (pc + 3) ls rest)) : W p l e R s m args below meth c H locs cells slots Q (F0 m pc ls (.int (nI a) :: rest)) := by
  refine lv_if_le S.1 S.2.1 hdg ht (fun h => kt ?_) (fun h => kf ?_)
  · rcases Nat.eq_zero_or_pos a with z | z
    · exact z
    · exact absurd h (nI_nle z ha)
  · rcases Nat.eq_zero_or_pos a with z | z
    · subst z
      exact absurd (by decide) h
    · exact z
theorem mi_xcmp_eq (S : CallFix p m c cc nL s args Ts own) {x y : Int32} {a b : Int} {tgt : Nat} {off : Int} (hx : x.toInt = a) (hy : y.toInt = b) (hdg : decode cc pc = .ok (.if_icmp .eq off, 3)) (ht : (pc : Int) + off = (tgt : Int)) (kt : a = b → W p l e R s m args below meth c H locs cells slots Q (F0 m tgt ls rest)) (kf : a ≠ b → W p l e R s m args below meth c H locs cells slots Q (F0 m (pc + 3) ls rest)) : W p l e R s m args below meth c H locs cells slots Q (F0 m pc ls (.int y :: .int x :: rest)) := lv_icmp_eq S.1 S.2.1 hdg ht (fun h => kt (by rw [← hx, ← hy, h])) (fun h => kf (fun z => h (Int32.toInt_inj.mp (by rw [hx, hy, z]))))
theorem mi_xif_eq (S : CallFix p m c cc nL s args Ts own) {x : Int32} {a : Int} {tgt : Nat} {off : Int} (hx : x.toInt = a) (hdg : decode cc pc = .ok (.ifCond .eq off, 3)) (ht : (pc : Int) + off = (tgt : Int)) (kt : a = 0 → W p l e R s m args below meth c H locs cells slots Q (F0 m tgt ls rest)) (kf : a ≠ 0 → W p l e R s m args below meth c H locs cells slots Q (F0 m (pc + 3) ls rest)) : W p l e R s m args below meth c H locs cells slots Q (F0 m pc ls (.int x :: rest)) := lv_if_eq S.1 S.2.1 hdg ht (fun h => kt (by rw [← hx, h]; rfl)) (fun h => kf (fun z => h (Int32.toInt_inj.mp (by rw [hx, z]; rfl))))
theorem mi_xcmp_ne (S : CallFix p m c cc nL s args Ts own) {x y : Int32} {a b : Int} {tgt : Nat} {off : Int} (hx : x.toInt = a) (hy : y.toInt = b) (hdg : decode cc pc = .ok (.if_icmp .ne off, 3)) (ht : (pc : Int) + off = (tgt : Int)) (kt : a ≠ b → W p l e R s m args below meth c H locs cells slots Q (F0 m tgt ls rest)) (kf : a = b → W p l e R s m args below meth c H locs cells slots Q (F0 m (pc + 3) ls rest)) : W p l e R s m args below meth c H locs cells slots Q (F0 m pc ls (.int y :: .int x :: rest)) := lv_icmp_ne S.1 S.2.1 hdg ht (fun h => kt (fun z => h (Int32.toInt_inj.mp (by rw [hx, hy, z])))) (fun h => kf (by rw [← hx, ← hy, h]))
theorem mi_xif_ne (S : CallFix p m c cc nL s args Ts own) {x : Int32} {a : Int} {tgt : Nat} {off : Int} (hx : x.toInt = a) (hdg : decode cc pc = .ok (.ifCond .ne off, 3)) (ht : (pc : Int) + off = (tgt : Int)) (kt : a ≠ 0 → W p l e R s m args below meth c H locs cells slots Q (F0 m tgt ls rest)) (kf : a = 0 → W p l e R s m args below meth c H locs cells slots Q (F0 m (pc + 3) ls rest)) : W p l e R s m args below meth c H locs cells slots Q (F0 m pc ls (.int x :: rest)) := lv_if_ne S.1 S.2.1 hdg ht (fun h => kt (fun z => h (Int32.toInt_inj.mp (by rw [hx, z]; rfl)))) (fun h => kf (by rw [← hx, h]; rfl))
theorem mi_xcmp_lt (S : CallFix p m c cc nL s args Ts own) {x y : Int32} {a b : Int} {tgt : Nat} {off : Int} (hx : x.toInt = a) (hy : y.toInt = b) (hdg : decode cc pc = .ok (.if_icmp .lt off, 3)) (ht : (pc : Int) + off = (tgt : Int)) (kt : a < b → W p l e R s m args below meth c H locs cells slots Q (F0 m tgt ls rest)) (kf : b ≤ a → W p l e R s m args below meth c H locs cells slots Q (F0 m (pc + 3) ls rest)) : W p l e R s m args below meth c H locs cells slots Q (F0 m pc ls (.int y :: .int x :: rest)) := lv_icmp_lt S.1 S.2.1 hdg ht (fun h => kt (by rw [← hx, ← hy]; exact Int32.lt_iff_toInt_lt.mp h)) (fun h => kf (by rw [← hx, ← hy]; exact Int.not_lt.mp (fun z => h (Int32.lt_iff_toInt_lt.mpr z))))
theorem mi_xif_lt (S : CallFix p m c cc nL s args Ts own) {x : Int32} {a : Int} {tgt : Nat} {off : Int} (hx : x.toInt = a) (hdg : decode cc pc = .ok (.ifCond .lt off, 3)) (ht : (pc : Int) + off = (tgt : Int)) (kt : a < 0 → W p l e R s m args below meth c H locs cells slots Q (F0 m tgt ls rest)) (kf : 0 ≤ a → W p l e R s m args below meth c H locs cells slots Q (F0 m (pc + 3) ls rest)) : W p l e R s m args below meth c H locs cells slots Q (F0 m pc ls (.int x :: rest)) := lv_if_lt S.1 S.2.1 hdg ht (fun h => kt (by rw [← hx]; exact Int32.lt_iff_toInt_lt.mp h)) (fun h => kf (by rw [← hx]; exact Int.not_lt.mp (fun z => h (Int32.lt_iff_toInt_lt.mpr z))))
theorem mi_xcmp_ge (S : CallFix p m c cc nL s args Ts own) {x y : Int32} {a b : Int} {tgt : Nat} {off : Int} (hx : x.toInt = a) (hy : y.toInt = b) (hdg : decode cc pc = .ok (.if_icmp .ge off, 3)) (ht : (pc : Int) + off = (tgt : Int)) (kt : b ≤ a → W p l e R s m args below meth c H locs cells slots Q (F0 m tgt ls rest)) (kf : a < b → W p l e R s m args below meth c H locs cells slots Q (F0 m (pc + 3) ls rest)) : W p l e R s m args below meth c H locs cells slots Q (F0 m pc ls (.int y :: .int x :: rest)) := lv_icmp_ge S.1 S.2.1 hdg ht (fun h => kt (by rw [← hx, ← hy]; exact Int32.le_iff_toInt_le.mp h)) (fun h => kf (by rw [← hx, ← hy]; exact Int.not_le.mp (fun z => h (Int32.le_iff_toInt_le.mpr z))))
theorem mi_xif_ge (S : CallFix p m c cc nL s args Ts own) {x : Int32} {a : Int} {tgt : Nat} {off : Int} (hx : x.toInt = a) (hdg : decode cc pc = .ok (.ifCond .ge off, 3)) (ht : (pc : Int) + off = (tgt : Int)) (kt : 0 ≤ a → W p l e R s m args below meth c H locs cells slots Q (F0 m tgt ls rest)) (kf : a < 0 → W p l e R s m args below meth c H locs cells slots Q (F0 m (pc + 3) ls rest)) : W p l e R s m args below meth c H locs cells slots Q (F0 m pc ls (.int x :: rest)) := lv_if_ge S.1 S.2.1 hdg ht (fun h => kt (by rw [← hx]; exact Int32.le_iff_toInt_le.mp h)) (fun h => kf (by rw [← hx]; exact Int.not_le.mp (fun z => h (Int32.le_iff_toInt_le.mpr z))))
theorem mi_xcmp_gt (S : CallFix p m c cc nL s args Ts own) {x y : Int32} {a b : Int} {tgt : Nat} {off : Int} (hx : x.toInt = a) (hy : y.toInt = b) (hdg : decode cc pc = .ok (.if_icmp .gt off, 3)) (ht : (pc : Int) + off = (tgt : Int)) (kt : b < a → W p l e R s m args below meth c H locs cells slots Q (F0 m tgt ls rest)) (kf : a ≤ b → W p l e R s m args below meth c H locs cells slots Q (F0 m (pc + 3) ls rest)) : W p l e R s m args below meth c H locs cells slots Q (F0 m pc ls (.int y :: .int x :: rest)) := lv_icmp_gt S.1 S.2.1 hdg ht (fun h => kt (by rw [← hx, ← hy]; exact Int32.lt_iff_toInt_lt.mp h)) (fun h => kf (by rw [← hx, ← hy]; exact Int.not_lt.mp (fun z => h (Int32.lt_iff_toInt_lt.mpr z))))
theorem mi_xif_gt (S : CallFix p m c cc nL s args Ts own) {x : Int32} {a : Int} {tgt : Nat} {off : Int} (hx : x.toInt = a) (hdg : decode cc pc = .ok (.ifCond .gt off, 3)) (ht : (pc : Int) + off = (tgt : Int)) (kt : 0 < a → W p l e R s m args below meth c H locs cells slots Q (F0 m tgt ls rest)) (kf : a ≤ 0 → W p l e R s m args below meth c H locs cells slots Q (F0 m (pc + 3) ls rest)) : W p l e R s m args below meth c H locs cells slots Q (F0 m pc ls (.int x :: rest)) := lv_if_gt S.1 S.2.1 hdg ht (fun h => kt (by rw [← hx]; exact Int32.lt_iff_toInt_lt.mp h)) (fun h => kf (by rw [← hx]; exact Int.not_lt.mp (fun z => h (Int32.lt_iff_toInt_lt.mpr z))))
theorem mi_xcmp_le (S : CallFix p m c cc nL s args Ts own) {x y : Int32} {a b : Int} {tgt : Nat} {off : Int} (hx : x.toInt = a) (hy : y.toInt = b) (hdg : decode cc pc = .ok (.if_icmp .le off, 3)) (ht : (pc : Int) + off = (tgt : Int)) (kt : a ≤ b → W p l e R s m args below meth c H locs cells slots Q (F0 m tgt ls rest)) (kf : b < a → W p l e R s m args below meth c H locs cells slots Q (F0 m (pc + 3) ls rest)) : W p l e R s m args below meth c H locs cells slots Q (F0 m pc ls (.int y :: .int x :: rest)) := lv_icmp_le S.1 S.2.1 hdg ht (fun h => kt (by rw [← hx, ← hy]; exact Int32.le_iff_toInt_le.mp h)) (fun h => kf (by rw [← hx, ← hy]; exact Int.not_le.mp (fun z => h (Int32.le_iff_toInt_le.mpr z))))
theorem mi_xif_le (S : CallFix p m c cc nL s args Ts own) {x : Int32} {a : Int} {tgt : Nat} {off : Int} (hx : x.toInt = a) (hdg : decode cc pc = .ok (.ifCond .le off, 3)) (ht : (pc : Int) + off = (tgt : Int)) (kt : a ≤ 0 → W p l e R s m args below meth c H locs cells slots Q (F0 m tgt ls rest)) (kf : 0 < a → W p l e R s m args below meth c H locs cells slots Q (F0 m (pc + 3) ls rest)) : W p l e R s m args below meth c H locs cells slots Q (F0 m pc ls (.int x :: rest)) := lv_if_le S.1 S.2.1 hdg ht (fun h => kt (by rw [← hx]; exact Int32.le_iff_toInt_le.mp h)) (fun h => kf (by rw [← hx]; exact Int.not_le.mp (fun z => h (Int32.le_iff_toInt_le.mpr z))))
theorem mi_inc (a : Nat) : nI a + Int32.ofInt 1 = nI (a + 1) := nI_1 a
theorem mi_inc4 (a : Nat) : nI a + Int32.ofInt 4 = nI (a + 4) := nI_add a 4
end MIR
end
section
/-! rows over the world of roles: fields, arrays, new cells -/
section MIH
variable {p : Program} {l : Launch} {e : Env} {R : Room} {s : State} {m : MethodId} {args : Array Value} {below : List Frame} {meth : Method} {c : Code} {H : Heap} {locs : List Loc} {cells slots : Nat} {Q : State → Prop}
variable {cc : ByteArray} {pc nL : Nat} {ls : Array Slot} {rest : List Value} {D : va_G} {A : Nat → Prop} {ad : Nat → Nat} {cf : Nat → Option va_E} {Ts : List Cond} {own : String}
theorem mi_get (S : CallFix p m c cc nL s args Ts own) (E : mi_E D A s) (hW : mi_W D A ad cf H) (r : Nat) {a : Nat} (ha : ad r = a) {ci N k idx : Nat} {C ref : String} {T : u_T} {fs : List Value} {v : Value} (he : cf r = some (.inr (ci, fs))) (hv : fs[k]? = some v) (hc : vwCl[ci]? = some (C, T, N)) (hin : ∀ w ∈ u_ws C T N, w ∈ Ts) (hk : k < N) (hlink : Cond.fieldLink own idx ref (T k).2.1 (T k).2.2.1 ∈ Ts) (hsame : ∀ x, s.fieldFound? (T k).1 (T k).2.1 (T k).2.2.1 = some x → s.fieldFound? ref (T k).2.1 (T k).2.2.1 = some x) (hdg : decode cc pc = .ok (.getfield idx, 3))
    (kk : W p l e R s m args below meth c H locs cells slots Q (F0 m (pc + 3) ls (v :: rest))) : W p l e R s m args below meth c H locs cells slots Q (F0 m pc ls (.ref a :: rest)) := by
  subst ha
  exact va_get S.1 S.2.1 S.2.2.2.2 hin S.2.2.2.1 E.K (hW.P he) 0 rfl hc k hk (S.2.2.2.2 _ hlink) hsame hv hdg kk
theorem mi_put (S : CallFix p m c cc nL s args Ts own) (E : mi_E D A s) (hS0 : va_S A s.heap H locs) (hW : mi_W D A ad cf H) (r : Nat) {a : Nat} (ha : ad r = a) {ci N k idx : Nat} {C ref : String} {T : u_T} {fs : List Value} {v : Value} {ty : FieldType} (he : cf r = some (.inr (ci, fs))) (hl : k < fs.length) (hc : vwCl[ci]? = some (C, T, N)) (hin : ∀ w ∈ u_ws C T N, w ∈ Ts) (ty0 : Nat → FieldType) (hty : ∀ k, k < N → parseFieldDescriptor (T k).2.2.1 = some (ty0 k)) (hnm : ∀ a, a < N → ∀ b, b < N → a ≠ b → (T a).2.1 ≠ (T b).2.1) (hk : k < N) (hfin : (T k).2.2.2 = false) (hd : parseFieldDescriptor (T k).2.2.1 = some ty) (hlink : Cond.fieldLink own idx ref (T k).2.1 (T k).2.2.1 ∈ Ts) (hsame : ∀ x, s.fieldFound? (T k).1 (T k).2.1 (T k).2.2.1 = some x → s.fieldFound? ref (T k).2.1 (T k).2.2.1 = some x) (hn : narrow ty v = v) (hfit : fits ty v = true) (hdg : decode cc pc = .ok (.putfield idx, 3))
    (kk : ∀ (H1 : Heap) (locs1 : List Loc), mi_W D A ad (va_up cf r (some (.inr (ci, fs.set k v)))) H1 → va_S A s.heap H1 locs1 → H1.size = H.size → W p l e R s m args below meth c H1 locs1 cells slots Q (F0 m (pc + 3) ls rest)) : W p l e R s m args below meth c H locs cells slots Q (F0 m pc ls (v :: .ref a :: rest)) := by
  subst ha
  have hts := S.2.2.2.2
  have hown := S.2.2.2.1
  have hap := va_apart (own := own) hts hin ty0 hty hnm E.K hc
  obtain ⟨q, h1, cell, q1, q2, q3, q4⟩ := hW.at he
  have hq : q = (C, T, N) := Option.some.inj (h1.symm.trans hc)
  subst hq
  obtain ⟨hS, hfc, kC, hkC, hkind⟩ := E.K.1 ci _ hc
  obtain ⟨cf', kf, fi, f, hi, hsl⟩ := hS k hk
  have hlay := hts _ (hin _ (u_in_lay hk))
  unfold u_lay at hlay
  rw [if_neg (by rw [hfin]; decide)] at hlay
  have hst := (u_facts hfc hkC (u_lays hts hin hk) hi).1
  have h6 := u_store hfc hkC hkind hlay hi hd hn hfit
  refine W.putK S.1 S.2.1 (f := f) ⟨hown, hts _ hlink, ⟨_, _, _, hsame _ hi⟩, hst⟩ (by rw [q2]; exact h6) q1 q3 (by rw [hsl]; exact k2_hasslot (q4 k hk)) rfl rfl hdg fun H' e1 e2 e3 => ?_
  rw [hsl] at e1 ⊢
  exact kk H' _ (hW.set he ⟨_, hc, t_OB.to (V := updV (vp_V fs) k v) ⟨_, e1, q2, q3, t_set q4 hap hk v⟩ (fun j _ => vp_updV_set hl v j)⟩ e3) (hS0.put e2 e3 (hW.1 r _ he).1) e2
theorem mi_putF (S : CallFix p m c cc nL s args Ts own) (E : mi_E D A s) (hS0 : va_S A s.heap H locs) (hW : mi_W D A ad cf H) (r : Nat) {a : Nat} (ha : ad r = a) {ci N k idx : Nat} {C ref : String} {T : u_T} {fs : List Value} {v : Value} {ty : FieldType} (he : cf r = some (.inr (ci, fs))) (hl : k < fs.length) (hc : vwCl[ci]? = some (C, T, N)) (hin : ∀ w ∈ u_ws C T N, w ∈ Ts) (ty0 : Nat → FieldType) (hty : ∀ k, k < N → parseFieldDescriptor (T k).2.2.1 = some (ty0 k)) (hnm : ∀ a, a < N → ∀ b, b < N → a ≠ b → (T a).2.1 ≠ (T b).2.1) (hk : k < N) (hfin : (T k).2.2.2 = true) (hin2 : meth.name = "<init>") (hdecl : (T k).1 = own) (hd : parseFieldDescriptor (T k).2.2.1 = some ty) (hlink : Cond.fieldLink own idx ref (T k).2.1 (T k).2.2.1 ∈ Ts) (hsame : ∀ x, s.fieldFound? (T k).1 (T k).2.1 (T k).2.2.1 = some x → s.fieldFound? ref (T k).2.1 (T k).2.2.1 = some x) (hn : narrow ty v = v) (hfit : fits ty v = true) (hdg : decode cc pc = .ok (.putfield idx, 3))
    (kk : ∀ (H1 : Heap) (locs1 : List Loc), mi_W D A ad (va_up cf r (some (.inr (ci, fs.set k v)))) H1 → va_S A s.heap H1 locs1 → H1.size = H.size → W p l e R s m args below meth c H1 locs1 cells slots Q (F0 m (pc + 3) ls rest)) : W p l e R s m args below meth c H locs cells slots Q (F0 m pc ls (v :: .ref a :: rest)) := by
  subst ha
  have hts := S.2.2.2.2
  have hown := S.2.2.2.1
  have hap := va_apart (own := own) hts hin ty0 hty hnm E.K hc
  obtain ⟨q, h1, cell, q1, q2, q3, q4⟩ := hW.at he
  have hq : q = (C, T, N) := Option.some.inj (h1.symm.trans hc)
  subst hq
  obtain ⟨hS, hfc, kC, hkC, hkind⟩ := E.K.1 ci _ hc
  obtain ⟨cf', kf, fi, f, hi, hsl⟩ := hS k hk
  have hlay := hts _ (hin _ (u_in_lay hk))
  unfold u_lay at hlay
  rw [if_pos hfin] at hlay
  have hst := (u_facts hfc hkC (u_lays hts hin hk) hi).1
  have hcf : m.cls = cf' := by
    obtain ⟨_, _, c', _, _, _, -, -, hf', -, -, -, hown2, -⟩ := Cond.laysFinal_spec hlay
    have e1 : c' = cf' := by have := hi.symm.trans hf'; simp at this; exact this.1.symm
    rw [hdecl] at hown2
    rw [← e1]; exact Option.some.inj (hown.symm.trans hown2)
  have h6 := u_fits hfc hkC hkind (Or.inr hlay) hi hd hn hfit
  refine W.putFinK S.1 S.2.1 hown (hts _ hlink) (hsame _ hi) hst hcf hin2 (by rw [q2]; exact h6) q1 q3 (by rw [hsl]; exact k2_hasslot (q4 k hk)) rfl rfl hdg fun H' e1 e2 e3 => ?_
  rw [hsl] at e1 ⊢
  exact kk H' _ (hW.set he ⟨_, hc, t_OB.to (V := updV (vp_V fs) k v) ⟨_, e1, q2, q3, t_set q4 hap hk v⟩ (fun j _ => vp_updV_set hl v j)⟩ e3) (hS0.put e2 e3 (hW.1 r _ he).1) e2
theorem mi_iald (S : CallFix p m c cc nL s args Ts own) (E : mi_E D A s) (hW : mi_W D A ad cf H) (r : Nat) {a : Nat} (ha : ad r = a) {n i : Nat} {f : Nat → Int32} (he : cf r = some (mi_ai D n f)) (hi : i < n) (hn : n < 2 ^ 31) (hdg : decode cc pc = .ok (.iaload, 1))
    (kk : W p l e R s m args below meth c H locs cells slots Q (F0 m (pc + 1) ls (.int (f i) :: rest))) : W p l e R s m args below meth c H locs cells slots Q (F0 m pc ls (.int (nI i) :: .ref a :: rest)) := by
  subst ha
  exact va_iald S.1 S.2.1 E.K (hW.P he) 0 0 rfl rfl (vp_in_nI hi hn) hdg (by rw [nI_clamp (by omega)]; exact kk)
theorem mi_lald (S : CallFix p m c cc nL s args Ts own) (E : mi_E D A s) (hW : mi_W D A ad cf H) (r : Nat) {a : Nat} (ha : ad r = a) {n i : Nat} {f : Nat → Int64} (he : cf r = some (mi_al D n f)) (hi : i < n) (hn : n < 2 ^ 31) (hdg : decode cc pc = .ok (.laload, 1))
    (kk : W p l e R s m args below meth c H locs cells slots Q (F0 m (pc + 1) ls (.long (f i) :: rest))) : W p l e R s m args below meth c H locs cells slots Q (F0 m pc ls (.int (nI i) :: .ref a :: rest)) := by
  subst ha
  exact va_lald S.1 S.2.1 E.K (hW.P he) 0 2 rfl rfl (vp_in_nI hi hn) hdg (by rw [nI_clamp (by omega)]; exact kk)
theorem mi_aald (S : CallFix p m c cc nL s args Ts own) (E : mi_E D A s) (hW : mi_W D A ad cf H) (r : Nat) {a : Nat} (ha : ad r = a) {n i : Nat} {f : Nat → Option Nat} (he : cf r = some (mi_aq D n f)) (hi : i < n) (hn : n < 2 ^ 31) (hdg : decode cc pc = .ok (.aaload, 1))
    (kk : W p l e R s m args below meth c H locs cells slots Q (F0 m (pc + 1) ls (va_rf (f i) :: rest))) : W p l e R s m args below meth c H locs cells slots Q (F0 m pc ls (.int (nI i) :: .ref a :: rest)) := by
  subst ha
  exact va_aldq S.1 S.2.1 E.K (hW.P he) 0 1 rfl rfl (vp_in_nI hi hn) hdg (by rw [nI_clamp (by omega)]; exact kk)
theorem mi_alen (S : CallFix p m c cc nL s args Ts own) (E : mi_E D A s) (hW : mi_W D A ad cf H) (r t0 : Nat) {a : Nat} (ha : ad r = a) {cA : ClassId} {x : vp_A} {ty : FieldType} (he : cf r = some (.inl (cA, x))) (ht : (mi_tys D)[t0]? = some (cA, ty)) (hdg : decode cc pc = .ok (.arraylength, 1))
    (kk : W p l e R s m args below meth c H locs cells slots Q (F0 m (pc + 1) ls (.int (nI x.1) :: rest))) : W p l e R s m args below meth c H locs cells slots Q (F0 m pc ls (.ref a :: rest)) := by
  subst ha
  exact va_alen S.1 S.2.1 E.K (hW.P he) 0 t0 rfl ht rfl hdg kk
theorem mi_iast (S : CallFix p m c cc nL s args Ts own) (E : mi_E D A s) (hS : va_S A s.heap H locs) (hW : mi_W D A ad cf H) (r : Nat) {a : Nat} (ha : ad r = a) {n i : Nat} {x : Int32} {f : Nat → Int32} (he : cf r = some (mi_ai D n f)) (hi : i < n) (hn : n < 2 ^ 31) (hdg : decode cc pc = .ok (.iastore, 1))
    (kk : ∀ (H1 : Heap) (locs1 : List Loc), mi_W D A ad (va_up cf r (some (mi_ai D n (upd f i x)))) H1 → va_S A s.heap H1 locs1 → H1.size = H.size → W p l e R s m args below meth c H1 locs1 cells slots Q (F0 m (pc + 1) ls rest)) : W p l e R s m args below meth c H locs cells slots Q (F0 m pc ls (.int x :: .int (nI i) :: .ref a :: rest)) := by
  subst ha
  have hc := nI_clamp (n := i) (by omega)
  refine W.iast S.1 S.2.1 (hW.at he) ((E.K.2 0 _ rfl).1 n (fun j => .int (f j))) (fun q => by cases q) (by show ¬ (nI i < 0 ∨ (arrV _ _ _).slots.size ≤ _); rw [arrV_size]; exact vp_in_nI hi hn) rfl rfl hdg fun H1 e z oq => ?_
  refine kk H1 _ (hW.set he ?_ oq) (hS.put z oq (hW.1 r _ he).1) z
  show H1[ad r]? = some (vp_cell _ _)
  rw [e]
  rw [vp_cell_i, vp_cell_i, arrV_store, hc]
  congr 2
  funext q
  by_cases hq : q = i
  · subst hq
    simp [updV, upd]
  · simp [updV, upd, hq]
theorem mi_last (S : CallFix p m c cc nL s args Ts own) (E : mi_E D A s) (hS : va_S A s.heap H locs) (hW : mi_W D A ad cf H) (r : Nat) {a : Nat} (ha : ad r = a) {n i : Nat} {x : Int64} {f : Nat → Int64} (he : cf r = some (mi_al D n f)) (hi : i < n) (hn : n < 2 ^ 31) (hdg : decode cc pc = .ok (.lastore, 1))
    (kk : ∀ (H1 : Heap) (locs1 : List Loc), mi_W D A ad (va_up cf r (some (mi_al D n (vp_updL f i x)))) H1 → va_S A s.heap H1 locs1 → H1.size = H.size → W p l e R s m args below meth c H1 locs1 cells slots Q (F0 m (pc + 1) ls rest)) : W p l e R s m args below meth c H locs cells slots Q (F0 m pc ls (.long x :: .int (nI i) :: .ref a :: rest)) := by
  subst ha
  have hc := nI_clamp (n := i) (by omega)
  refine W.last S.1 S.2.1 (hW.at he) ((E.K.2 2 _ rfl).1 n (fun j => .long (f j))) (fun q => by cases q) (by show ¬ (nI i < 0 ∨ (arrV _ _ _).slots.size ≤ _); rw [arrV_size]; exact vp_in_nI hi hn) rfl rfl hdg fun H1 e z oq => ?_
  refine kk H1 _ (hW.set he ?_ oq) (hS.put z oq (hW.1 r _ he).1) z
  show H1[ad r]? = some (vp_cell _ _)
  rw [e]
  rw [vp_cell_l, vp_cell_l, arrV_store, hc]
  congr 2
  funext q
  by_cases hq : q = i
  · subst hq
    simp [updV, vp_updL]
  · simp [updV, vp_updL, hq]
/-- storing an object of role rv into an array of Object -/
theorem mi_aast (S : CallFix p m c cc nL s args Ts own) (E : mi_E D A s) (hS : va_S A s.heap H locs) (hW : mi_W D A ad cf H) (r rv : Nat) {a av : Nat} (ha : ad r = a) (hav : ad rv = av) {n i ci : Nat} {f : Nat → Option Nat} {fs : List Value} {q : vw_C} (he : cf r = some (mi_aq D n f)) (hv : cf rv = some (.inr (ci, fs))) (hc : vwCl[ci]? = some q) (hcast : (q.1, mi_ob) ∈ mi_casts) (hi : i < n) (hn : n < 2 ^ 31) (hdg : decode cc pc = .ok (.aastore, 1))
    (kk : ∀ (H1 : Heap) (locs1 : List Loc), mi_W D A ad (va_up cf r (some (mi_aq D n (va_up f i (some (ad rv)))))) H1 → va_S A s.heap H1 locs1 → H1.size = H.size → W p l e R s m args below meth c H1 locs1 cells slots Q (F0 m (pc + 1) ls rest)) : W p l e R s m args below meth c H locs cells slots Q (F0 m pc ls (.ref av :: .int (nI i) :: .ref a :: rest)) := by
  subst ha hav
  have hcl := nI_clamp (n := i) (by omega)
  have h0 : ¬ nI i < 0 := nI_pos (by omega)
  obtain ⟨cellV, g1, g2, g3⟩ := hW.recv E hv hc
  obtain ⟨kC, hkC, -⟩ := Vm.findClass_spec g3
  obtain ⟨kA, comp, k1, k2, k3, -⟩ := (E.K.2 1 _ rfl).2
  obtain ⟨kE, hkE, -⟩ := Vm.findClass_spec k3
  have hasg : s.vm.assignable cellV.cls comp = true := by
    obtain ⟨c0, t0, f1, f2, f3⟩ := Cond.castable_spec (va_Nw.use (A := args) rfl (E.2.2.1 _ hcast))
    have e1 : c0 = cellV.cls := Option.some.inj (f1.symm.trans g3)
    have e2 : t0 = comp := Option.some.inj (f2.symm.trans k3)
    rw [← e1, ← e2]
    exact f3
  refine W.aast S.1 S.2.1 (hW.at he) (fun q h => by cases h) (fun h => by cases h) k1 k2 rfl hkE ⟨h0, by show _ < (arrV _ _ _).slots.size; rw [arrV_size, hcl]; exact hi⟩ g1 (fun q h => by rw [h] at g2; cases g2) hkC hasg rfl rfl hdg fun H1 e z oq => ?_
  refine kk H1 _ (hW.set he ?_ oq) (hS.put z oq (hW.1 r _ he).1) z
  show H1[ad r]? = some (vp_cell _ _)
  rw [e]
  rw [vp_cell_q, vp_cell_q, arrV_store, hcl]
  congr 2
  funext q
  by_cases hq : q = i
  · subst hq
    simp [updV, va_up, va_rf]
  · simp [updV, va_up, hq]
theorem mi_S_new {H1 : Heap} (hS : va_S A s.heap H locs) (z : H1.size = H.size + 1) (oq : ∀ q : Nat, q < H.size → H1[q]? = H[q]?) : va_S A s.heap H1 locs := ⟨Nat.le_trans hS.1 (by omega), fun x h1 h2 => (oq x (Nat.lt_of_lt_of_le h1 hS.1)).trans (hS.2.1 x h1 h2), hS.2.2⟩
theorem mi_new (S : CallFix p m c cc nL s args Ts own) (E : mi_E D A s) (hS : va_S A s.heap H locs) (hA : ∀ q, s.heap.size ≤ q → A q) (hW : mi_W D A ad cf H) (r : Nat) {ci N idx : Nat} {C : String} {T : u_T} {fs : List Value} (hc : vwCl[ci]? = some (C, T, N)) (hin : ∀ w ∈ u_ws C T N, w ∈ Ts) (ty : Nat → FieldType) (hty : ∀ k, k < N → parseFieldDescriptor (T k).2.2.1 = some (ty k)) (hfs : ∀ j, j < N → defaultValue (ty j) = vp_V fs j) (hcl : Cond.classLink own idx C ∈ Ts) (hinst : Cond.instantiable C N ∈ Ts) (hini : Cond.initialized C ∈ Ts) (hcells : cells + 1 ≤ R.cells) (hslots : slots + N ≤ R.slots) (hdg : decode cc pc = .ok (.new idx, 3))
    (kk : ∀ (H1 : Heap), mi_W D A (va_up ad r H.size) (va_up cf r (some (.inr (ci, fs)))) H1 → va_S A s.heap H1 locs → H1.size = H.size + 1 → W p l e R s m args below meth c H1 locs (cells + 1) (slots + N) Q (F0 m (pc + 3) ls (.ref H.size :: rest))) : W p l e R s m args below meth c H locs cells slots Q (F0 m pc ls rest) := by
  have hts := S.2.2.2.2
  have hKn := E.K.1 ci _ hc
  refine W.newcK S.1 S.2.1 S.2.2.2.1 (hts _ hcl) (hts _ hinst) (hts _ hini) rfl hdg hcells hslots hKn.2.1 rfl fun H1 kC hkC e1 z1 o1 => ?_
  exact kk H1 (hW.new r (hA _ hS.1) ⟨_, hc, (u_born ty hts hin hKn hkC e1 hty).to hfs⟩ o1) (mi_S_new hS z1 o1) z1
theorem mi_newi (S : CallFix p m c cc nL s args Ts own) (E : mi_E D A s) (hS : va_S A s.heap H locs) (hA : ∀ q, s.heap.size ≤ q → A q) (hW : mi_W D A ad cf H) (r : Nat) {n : Nat} (harr : Cond.arrayClass .int ∈ Ts) (hn : n ≤ 100000000) (hcells : cells + 1 ≤ R.cells) (hslots : slots + n ≤ R.slots) (hdg : decode cc pc = .ok (.newarray .int, 2))
    (kk : ∀ (H1 : Heap), mi_W D A (va_up ad r H.size) (va_up cf r (some (mi_ai D n (fun _ => 0)))) H1 → va_S A s.heap H1 locs → H1.size = H.size + 1 → W p l e R s m args below meth c H1 locs (cells + 1) (slots + n) Q (F0 m (pc + 2) ls (.ref H.size :: rest))) : W p l e R s m args below meth c H locs cells slots Q (F0 m pc ls (.int (nI n) :: rest)) := by
  refine va_newaK (atype := .int) (N := n) S.1 S.2.1 (S.2.2.2.2 _ harr) rfl hdg rfl (nI_pos (by omega)) (nI_clamp (by omega)) (by show n * 4 ≤ _; omega) hcells hslots rfl fun H1 cA e1 z1 o1 hAr hNm => ?_
  have hca : cA = D.1 100 := Option.some.inj (hNm.symm.trans (E.K.2 0 _ rfl).2)
  subst hca
  refine kk H1 (hW.new r (hA _ hS.1) ?_ o1) (mi_S_new hS z1 o1) z1
  show H1[H.size]? = some (vp_cell _ _)
  rw [vp_cell_i]
  exact e1
theorem mi_newl (S : CallFix p m c cc nL s args Ts own) (E : mi_E D A s) (hS : va_S A s.heap H locs) (hA : ∀ q, s.heap.size ≤ q → A q) (hW : mi_W D A ad cf H) (r : Nat) {n : Nat} (harr : Cond.arrayClass .long ∈ Ts) (hn : n ≤ 10000000) (hcells : cells + 1 ≤ R.cells) (hslots : slots + n ≤ R.slots) (hdg : decode cc pc = .ok (.newarray .long, 2))
    (kk : ∀ (H1 : Heap), mi_W D A (va_up ad r H.size) (va_up cf r (some (mi_al D n (fun _ => 0)))) H1 → va_S A s.heap H1 locs → H1.size = H.size + 1 → W p l e R s m args below meth c H1 locs (cells + 1) (slots + n) Q (F0 m (pc + 2) ls (.ref H.size :: rest))) : W p l e R s m args below meth c H locs cells slots Q (F0 m pc ls (.int (nI n) :: rest)) := by
  refine va_newaK (atype := .long) (N := n) S.1 S.2.1 (S.2.2.2.2 _ harr) rfl hdg rfl (nI_pos (by omega)) (nI_clamp (by omega)) (by show n * 8 ≤ _; omega) hcells hslots rfl fun H1 cA e1 z1 o1 hAr hNm => ?_
  have hca : cA = D.1 102 := Option.some.inj (hNm.symm.trans (E.K.2 2 _ rfl).2)
  subst hca
  refine kk H1 (hW.new r (hA _ hS.1) ?_ o1) (mi_S_new hS z1 o1) z1
  show H1[H.size]? = some (vp_cell _ _)
  rw [vp_cell_l]
  exact e1
theorem mi_newq (S : CallFix p m c cc nL s args Ts own) (E : mi_E D A s) (hS : va_S A s.heap H locs) (hA : ∀ q, s.heap.size ≤ q → A q) (hW : mi_W D A ad cf H) (r : Nat) {n idx : Nat} (hcl : Cond.classLink own idx mi_ob ∈ Ts) (hn : n ≤ 100000000) (hcells : cells + 1 ≤ R.cells) (hslots : slots + n ≤ R.slots) (hdg : decode cc pc = .ok (.anewarray idx, 3))
    (kk : ∀ (H1 : Heap), mi_W D A (va_up ad r H.size) (va_up cf r (some (mi_aq D n (fun _ => none)))) H1 → va_S A s.heap H1 locs → H1.size = H.size + 1 → W p l e R s m args below meth c H1 locs (cells + 1) (slots + n) Q (F0 m (pc + 3) ls (.ref H.size :: rest))) : W p l e R s m args below meth c H locs cells slots Q (F0 m pc ls (.int (nI n) :: rest)) := by
  have hcn : (nI n).toNatClampNeg = n := nI_clamp (by omega)
  refine W.anew S.1 S.2.1 S.2.2.2.1 (S.2.2.2.2 _ hcl) (va_AO.use E.2.2.2.2.2.2.2.2.2.2.2) rfl hdg rfl (nI_pos (by omega)) (by rw [hcn]; omega) hcells (by rw [hcn]; exact hslots) fun cA kA comp f1 f2 f3 f4 => ?_
  generalize hH1 : H.push ({ cls := cA, slots := Array.replicate (nI n).toNatClampNeg .null, vm := .none } : Cell) = H1
  have z1 : H1.size = H.size + 1 := by rw [← hH1, Array.size_push]
  have e1 : H1[H.size]? = some (arrV cA n (fun _ => .null)) := by rw [← hH1, Array.getElem?_push_size, hcn, ← arrV_new]
  have o1 : ∀ q : Nat, q < H.size → H1[q]? = H[q]? := fun q hq => by rw [← hH1, Array.getElem?_push, if_neg (Nat.ne_of_lt hq)]
  rw [hcn]
  have hca : cA = D.1 101 := by
    obtain ⟨-, -, -, -, -, h4⟩ := (E.K.2 1 _ rfl).2
    exact Option.some.inj (f1.symm.trans h4)
  subst hca
  refine kk H1 (hW.new r (hA _ hS.1) ?_ o1) (mi_S_new hS z1 o1) z1
  show H1[H.size]? = some (vp_cell _ _)
  rw [vp_cell_q]
  exact e1
end MIH
end
section
/-! contracts of four kinds (a reader; a maker; one that throws), their starts, ends and calls -/
abbrev mi_Rd (l : Launch) (y : MethodName) (w : Cond) (rm : Room) (D : va_G) (A : Nat → Prop) (P : Heap → Prop) (av : List Value) (post : Int32 → Prop) : Prop := Met l y (w :: mi_G) rm (mi_Pc D A P av) (vp_Si post) 0 0 (fun _ => False)
abbrev mi_Rv (l : Launch) (y : MethodName) (w : Cond) (rm : Room) (D : va_G) (A : Nat → Prop) (P : Heap → Prop) (av : List Value) : Prop := Met l y (w :: mi_G) rm (mi_Pc D A P av) (va_Sv (fun _ => True)) 0 0 (fun _ => False)
abbrev mi_Rq (l : Launch) (y : MethodName) (w : Cond) (rm : Room) (D : va_G) (A : Nat → Prop) (P : Heap → Prop) (av : List Value) (post : Option Nat → Prop) : Prop := Met l y (w :: mi_G) rm (mi_Pc D A P av) (va_Sq post) 0 0 (fun _ => False)
def mi_Qi (A : Nat → Prop) (post : Int32 → Heap → Prop) : Array Value → State → Outcome → State → Prop := fun _ st o t => (∃ r : Int32, o = .returned (some (.int r)) ∧ post r t.heap) ∧ va_F A st t
def mi_Qv (A : Nat → Prop) (post : Heap → Prop) : Array Value → State → Outcome → State → Prop := fun _ st o t => (o = .returned none ∧ post t.heap) ∧ va_F A st t
def mi_Qr (A : Nat → Prop) (post : Nat → Heap → Prop) : Array Value → State → Outcome → State → Prop := fun _ st o t => (∃ r : Nat, o = .returned (some (.ref r)) ∧ post r t.heap) ∧ va_F A st t
abbrev mi_Mi (l : Launch) (y : MethodName) (w : Cond) (rm : Room) (D : va_G) (A : Nat → Prop) (P : Heap → Prop) (av : List Value) (mc ms : Nat) (post : Int32 → Heap → Prop) : Prop := Met l y (w :: mi_G) rm (mi_Pc D A P av) (mi_Qi A post) mc ms A
abbrev mi_Mv (l : Launch) (y : MethodName) (w : Cond) (rm : Room) (D : va_G) (A : Nat → Prop) (P : Heap → Prop) (av : List Value) (mc ms : Nat) (post : Heap → Prop) : Prop := Met l y (w :: mi_G) rm (mi_Pc D A P av) (mi_Qv A post) mc ms A
abbrev mi_Mr (l : Launch) (y : MethodName) (w : Cond) (rm : Room) (D : va_G) (A : Nat → Prop) (P : Heap → Prop) (av : List Value) (mc ms : Nat) (post : Nat → Heap → Prop) : Prop := Met l y (w :: mi_G) rm (mi_Pc D A P av) (mi_Qr A post) mc ms A
abbrev mi_QX (A : Nat → Prop) : Array Value → State → Outcome → State → Prop := va_Qv (fun _ : Unit => False) (fun _ _ => True) A
abbrev mi_XX (A : Nat → Prop) (P : Heap → Prop) (Ex : String) : String → State → State → Prop := vx_X (fun _ : Unit => True) (fun E' _ t => E' = Ex ∧ P t.heap) A
abbrev mi_Th (l : Launch) (y : MethodName) (w : Cond) (rm : Room) (D : va_G) (A : Nat → Prop) (P : Heap → Prop) (av : List Value) (Ex : String) (mc ms : Nat) : Prop := vx_Met l y (w :: mi_G) rm (mi_Pc D A P av) (mi_QX A) (mi_XX A P Ex) mc ms A
theorem mi_start {l : Launch} {y : MethodName} {w : Cond} {cc : ByteArray} {nL : Nat} {ret : Option FieldType} {rm : Room} {D : va_G} {A : Nat → Prop} {P : Heap → Prop} {av : List Value} {Qc : Array Value → State → Outcome → State → Prop} {mc ms : Nat} {free : Nat → Prop} (hw : w = Cond.code y cc nL ret) (hy : plainName y.cls = true) (hlen : (lg_sl av).length ≤ nL)
    (body : ∀ (p : Program) (e : Env) (s : State) (m : MethodId) (below : List Frame) (meth : Method) (c : Code) (ls : Array Slot), CallFix p m c cc nL s av.toArray (w :: mi_G) y.cls → mi_E D A s → P s.heap → va_S A s.heap s.heap [] → meth.sig.returnType = ret → meth.locks = false → meth.name = y.name → lv_has ls nL (lv_args 0 av) →
      W p l e rm s m av.toArray below meth c s.heap [] 0 0 (MQ below Qc av.toArray s mc ms free) (F0 m 0 ls [])) : Met l y (w :: mi_G) rm (mi_Pc D A P av) Qc mc ms free := by
  subst hw
  refine Met.ofW (cc := cc) (maxL := nL) (ret := ret) hy rfl ?_
  intro p e s m args below meth c s₁ B hml hv
  obtain ⟨rfl, hE, hW⟩ := hv
  have hts := atoms_spec (ws := Cond.code y cc nL ret :: mi_G) B.pre
  have hl := lv_entry av (n := nL) hlen
  rw [lg_entry_eq]
  exact body p e s m below meth c _ ⟨B.exec, B.bytes, hml, findClass_of_methodNamed B.named, hts⟩ hE hW va_S.rf B.returns B.notSynchronized (name_of_methodNamed B.named B.method).1 hl
theorem mi_startX {l : Launch} {y : MethodName} {w : Cond} {cc : ByteArray} {nL : Nat} {ret : Option FieldType} {rm : Room} {D : va_G} {A : Nat → Prop} {P : Heap → Prop} {av : List Value} {Qc : Array Value → State → Outcome → State → Prop} {XC : String → State → State → Prop} {mc ms : Nat} {free : Nat → Prop} (hw : w = Cond.code y cc nL ret) (hy : plainName y.cls = true) (hlen : (lg_sl av).length ≤ nL)
    (body : ∀ (p : Program) (e : Env) (s : State) (m : MethodId) (below : List Frame) (meth : Method) (c : Code) (ls : Array Slot), CallFix p m c cc nL s av.toArray (w :: mi_G) y.cls → mi_E D A s → P s.heap → va_S A s.heap s.heap [] → meth.sig.returnType = ret → meth.locks = false → (∀ x ∈ c.exceptionTable.toList, False) → lv_has ls nL (lv_args 0 av) →
      W p l e rm s m av.toArray below meth c s.heap [] 0 0 (vx_MQ below Qc XC av.toArray s mc ms free) (F0 m 0 ls [])) : vx_Met l y (w :: mi_G) rm (mi_Pc D A P av) Qc XC mc ms free := by
  subst hw
  refine vx_ofW (cc := cc) (maxL := nL) (ret := ret) hy rfl ?_
  intro p e s m args below meth c s₁ B hml hno hv
  obtain ⟨rfl, hE, hW⟩ := hv
  have hts := atoms_spec (ws := Cond.code y cc nL ret :: mi_G) B.pre
  have hl := lv_entry av (n := nL) hlen
  rw [lg_entry_eq]
  exact body p e s m below meth c _ ⟨B.exec, B.bytes, hml, findClass_of_methodNamed B.named, hts⟩ hE hW va_S.rf B.returns B.notSynchronized hno hl
section MIC
variable {p : Program} {l : Launch} {e : Env} {R : Room} {s : State} {m : MethodId} {args : Array Value} {below : List Frame} {meth : Method} {c : Code} {H : Heap} {locs : List Loc} {cells slots : Nat} {Q : State → Prop}
variable {cc : ByteArray} {pc nL : Nat} {ls : Array Slot} {rest st0 : List Value} {D : va_G} {A : Nat → Prop} {P : Heap → Prop} {w0 : Cond} {own : String} {a : Array Value}
/-- ends -/
theorem mi_retR (S : CallFix p m c cc nL s args (w0 :: mi_G) own) (hr : meth.sig.returnType = some .int) (hk : meth.locks = false) {post : Int32 → Prop} {v : Int32} (hdg : decode cc pc = .ok (.ireturn, 1)) (hp : post v) : W p l e R s m args below meth c s.heap [] 0 0 (MQ below (vp_Si post) args s 0 0 (fun _ => False)) (F0 m pc ls [.int v]) :=
  W.iret S.1 S.2.1 hr (fun t ht _ => ⟨v, rfl, hp, ht⟩) (fun _ h => by cases h) hdg hk
theorem mi_retZ (S : CallFix p m c cc nL s args (w0 :: mi_G) own) (hr : meth.sig.returnType = some .boolean) (hk : meth.locks = false) {post : Int32 → Prop} {v : Int32} (hdg : decode cc pc = .ok (.ireturn, 1)) (hn : narrow .boolean (.int v) = .int v) (hp : post v) : W p l e R s m args below meth c s.heap [] 0 0 (MQ below (vp_Si post) args s 0 0 (fun _ => False)) (F0 m pc ls [.int v]) :=
  W.zret S.1 S.2.1 hr hn (fun t ht _ => ⟨v, rfl, hp, ht⟩) (fun _ h => by cases h) hdg hk
theorem mi_retV (S : CallFix p m c cc nL s args (w0 :: mi_G) own) (hr : meth.sig.returnType = none) (hk : meth.locks = false) (hdg : decode cc pc = .ok (.return_, 1)) : W p l e R s m args below meth c s.heap [] 0 0 (MQ below (va_Sv (fun _ => True)) args s 0 0 (fun _ => False)) (F0 m pc ls []) :=
  W.vret S.1 S.2.1 hr (fun t ht _ => ⟨rfl, trivial, ht⟩) (fun _ h => by cases h) hdg hk
theorem mi_retQ (S : CallFix p m c cc nL s args (w0 :: mi_G) own) {rt : FieldType} (hr : meth.sig.returnType = some rt) (hrt : (∃ n, rt = .object n) ∨ ∃ t, rt = .array t) (hk : meth.locks = false) {post : Option Nat → Prop} {r : Option Nat} (hdg : decode cc pc = .ok (.areturn, 1)) (hp : post r) : W p l e R s m args below meth c s.heap [] 0 0 (MQ below (va_Sq post) args s 0 0 (fun _ => False)) (F0 m pc ls [va_rf r]) :=
  W.aret S.1 S.2.1 hr hrt (by cases r <;> simp [va_rf]) (fun t ht _ => ⟨r, rfl, hp, ht⟩) (fun _ h => by cases h) hdg hk
theorem mi_retMi (S : CallFix p m c cc nL s args (w0 :: mi_G) own) (hr : meth.sig.returnType = some .int) (hk : meth.locks = false) (hS : va_S A s.heap H locs) {mc ms : Nat} {post : Int32 → Heap → Prop} {v : Int32} (hdg : decode cc pc = .ok (.ireturn, 1)) (hc : cells ≤ mc) (hs : slots ≤ ms) (hp : post v H) : W p l e R s m args below meth c H locs cells slots (MQ below (mi_Qi A post) args s mc ms A) (F0 m pc ls [.int v]) :=
  W.widen hc hs (W.iret S.1 S.2.1 hr (fun t ht _ => ⟨⟨v, rfl, by rw [ht]; exact hp⟩, hS.F ht⟩) hS.2.2 hdg hk)
theorem mi_retMz (S : CallFix p m c cc nL s args (w0 :: mi_G) own) (hr : meth.sig.returnType = some .boolean) (hk : meth.locks = false) (hS : va_S A s.heap H locs) {mc ms : Nat} {post : Int32 → Heap → Prop} {v : Int32} (hdg : decode cc pc = .ok (.ireturn, 1)) (hn : narrow .boolean (.int v) = .int v) (hc : cells ≤ mc) (hs : slots ≤ ms) (hp : post v H) : W p l e R s m args below meth c H locs cells slots (MQ below (mi_Qi A post) args s mc ms A) (F0 m pc ls [.int v]) :=
  W.widen hc hs (W.zret S.1 S.2.1 hr hn (fun t ht _ => ⟨⟨v, rfl, by rw [ht]; exact hp⟩, hS.F ht⟩) hS.2.2 hdg hk)
theorem mi_retMv (S : CallFix p m c cc nL s args (w0 :: mi_G) own) (hr : meth.sig.returnType = none) (hk : meth.locks = false) (hS : va_S A s.heap H locs) {mc ms : Nat} {post : Heap → Prop} (hdg : decode cc pc = .ok (.return_, 1)) (hc : cells ≤ mc) (hs : slots ≤ ms) (hp : post H) : W p l e R s m args below meth c H locs cells slots (MQ below (mi_Qv A post) args s mc ms A) (F0 m pc ls []) :=
  W.widen hc hs (W.vret S.1 S.2.1 hr (fun t ht _ => ⟨⟨rfl, by rw [ht]; exact hp⟩, hS.F ht⟩) hS.2.2 hdg hk)
theorem mi_retMr (S : CallFix p m c cc nL s args (w0 :: mi_G) own) {rt : FieldType} (hr : meth.sig.returnType = some rt) (hrt : (∃ n, rt = .object n) ∨ ∃ t, rt = .array t) (hk : meth.locks = false) (hS : va_S A s.heap H locs) {mc ms : Nat} {post : Nat → Heap → Prop} {v : Nat} (hdg : decode cc pc = .ok (.areturn, 1)) (hc : cells ≤ mc) (hs : slots ≤ ms) (hp : post v H) : W p l e R s m args below meth c H locs cells slots (MQ below (mi_Qr A post) args s mc ms A) (F0 m pc ls [.ref v]) :=
  W.widen hc hs (W.aret S.1 S.2.1 hr hrt (Or.inr ⟨v, rfl⟩) (fun t ht _ => ⟨⟨v, rfl, by rw [ht]; exact hp⟩, hS.F ht⟩) hS.2.2 hdg hk)
/-- behind a call -/
theorem mi_cR {post : Int32 → Prop} (hr : va_Run p l e R s m args below meth c H locs cells slots 0 0 (F0 m pc ls st0) rest (vp_Si post a) (fun _ => False))
    (kk : ∀ r : Int32, post r → W p l e R s m args below meth c H locs cells slots Q (F0 m (pc + 3) ls (.int r :: rest))) : W p l e R s m args below meth c H locs cells slots Q (F0 m pc ls st0) := by
  intro T hT X
  obtain ⟨v, st₀, t, T', L, h0, X', hL, e1, e2, ⟨r, hv, hp, hb⟩, st⟩ := hr T hT X
  cases hv
  have hL0 : L = [] := by
    cases L with
    | nil => rfl
    | cons q L => exact absurd (hL q List.mem_cons_self) (fun h => h)
  subst hL0
  rw [List.append_nil] at X'
  obtain ⟨t2, a1, b1⟩ := kk r hp T' (by rw [e1, hb, h0]) X'
  exact ⟨t2, st t2 a1, b1⟩
theorem mi_cQ {post : Option Nat → Prop} (hr : va_Run p l e R s m args below meth c H locs cells slots 0 0 (F0 m pc ls st0) rest (va_Sq post a) (fun _ => False))
    (kk : ∀ r : Option Nat, post r → W p l e R s m args below meth c H locs cells slots Q (F0 m (pc + 3) ls (va_rf r :: rest))) : W p l e R s m args below meth c H locs cells slots Q (F0 m pc ls st0) := by
  intro T hT X
  obtain ⟨v, st₀, t, T', L, h0, X', hL, e1, e2, ⟨r, hv, hp, hb⟩, st⟩ := hr T hT X
  cases hv
  have hL0 : L = [] := by
    cases L with
    | nil => rfl
    | cons q L => exact absurd (hL q List.mem_cons_self) (fun h => h)
  subst hL0
  rw [List.append_nil] at X'
  obtain ⟨t2, a1, b1⟩ := kk r hp T' (by rw [e1, hb, h0]) X'
  exact ⟨t2, st t2 a1, b1⟩
theorem mi_cV (hr : va_Run p l e R s m args below meth c H locs cells slots 0 0 (F0 m pc ls st0) rest (va_Sv (fun _ => True) a) (fun _ => False))
    (kk : W p l e R s m args below meth c H locs cells slots Q (F0 m (pc + 3) ls rest)) : W p l e R s m args below meth c H locs cells slots Q (F0 m pc ls st0) := by
  intro T hT X
  obtain ⟨v, st₀, t, T', L, h0, X', hL, e1, e2, ⟨hv, hp, hb⟩, st⟩ := hr T hT X
  cases hv
  have hL0 : L = [] := by
    cases L with
    | nil => rfl
    | cons q L => exact absurd (hL q List.mem_cons_self) (fun h => h)
  subst hL0
  rw [List.append_nil] at X'
  obtain ⟨t2, a1, b1⟩ := kk T' (by rw [e1, hb, h0]) X'
  exact ⟨t2, st t2 a1, b1⟩
theorem mi_keepA {st₀ t T' : State} {L : List Loc} (h0 : st₀.heap = H) (e1 : T'.heap = t.heap) (hS : va_S A s.heap H locs) (hL : ∀ q ∈ L, A q.base) (hF : va_F A st₀ t) : H.size ≤ T'.heap.size ∧ va_S A s.heap T'.heap (locs ++ L) := by
  obtain ⟨k1, k2, k3⟩ := vx_keep h0 e1 hS (fun _ _ h => h) (fun _ h => h) hL hF
  exact ⟨k1, k3⟩
theorem mi_cMi {mc ms : Nat} {post : Int32 → Heap → Prop} (hr : va_Run p l e R s m args below meth c H locs cells slots mc ms (F0 m pc ls st0) rest (mi_Qi A post a) A) (hS : va_S A s.heap H locs)
    (kk : ∀ (r : Int32) (H1 : Heap) (locs1 : List Loc), post r H1 → va_S A s.heap H1 locs1 → H.size ≤ H1.size → W p l e R s m args below meth c H1 locs1 (cells + mc) (slots + ms) Q (F0 m (pc + 3) ls (.int r :: rest))) : W p l e R s m args below meth c H locs cells slots Q (F0 m pc ls st0) := by
  intro T hT X
  obtain ⟨v, st₀, t, T', L, h0, X', hL, e1, e2, ⟨⟨r, hv, hp⟩, hF⟩, st⟩ := hr T hT X
  cases hv
  obtain ⟨k1, k3⟩ := mi_keepA h0 e1 hS hL hF
  obtain ⟨t2, a1, b1⟩ := kk r T'.heap (locs ++ L) (by rw [e1]; exact hp) k3 k1 T' rfl X'
  exact ⟨t2, st t2 a1, b1⟩
theorem mi_cMv {mc ms : Nat} {post : Heap → Prop} (hr : va_Run p l e R s m args below meth c H locs cells slots mc ms (F0 m pc ls st0) rest (mi_Qv A post a) A) (hS : va_S A s.heap H locs)
    (kk : ∀ (H1 : Heap) (locs1 : List Loc), post H1 → va_S A s.heap H1 locs1 → H.size ≤ H1.size → W p l e R s m args below meth c H1 locs1 (cells + mc) (slots + ms) Q (F0 m (pc + 3) ls rest)) : W p l e R s m args below meth c H locs cells slots Q (F0 m pc ls st0) := by
  intro T hT X
  obtain ⟨v, st₀, t, T', L, h0, X', hL, e1, e2, ⟨⟨hv, hp⟩, hF⟩, st⟩ := hr T hT X
  cases hv
  obtain ⟨k1, k3⟩ := mi_keepA h0 e1 hS hL hF
  obtain ⟨t2, a1, b1⟩ := kk T'.heap (locs ++ L) (by rw [e1]; exact hp) k3 k1 T' rfl X'
  exact ⟨t2, st t2 a1, b1⟩
theorem mi_cMr {mc ms : Nat} {post : Nat → Heap → Prop} (hr : va_Run p l e R s m args below meth c H locs cells slots mc ms (F0 m pc ls st0) rest (mi_Qr A post a) A) (hS : va_S A s.heap H locs)
    (kk : ∀ (r : Nat) (H1 : Heap) (locs1 : List Loc), post r H1 → va_S A s.heap H1 locs1 → H.size ≤ H1.size → W p l e R s m args below meth c H1 locs1 (cells + mc) (slots + ms) Q (F0 m (pc + 3) ls (.ref r :: rest))) : W p l e R s m args below meth c H locs cells slots Q (F0 m pc ls st0) := by
  intro T hT X
  obtain ⟨v, st₀, t, T', L, h0, X', hL, e1, e2, ⟨⟨r, hv, hp⟩, hF⟩, st⟩ := hr T hT X
  cases hv
  obtain ⟨k1, k3⟩ := mi_keepA h0 e1 hS hL hF
  obtain ⟨t2, a1, b1⟩ := kk r T'.heap (locs ++ L) (by rw [e1]; exact hp) k3 k1 T' rfl X'
  exact ⟨t2, st t2 a1, b1⟩
theorem mi_cTh {mc ms : Nat} {Ex : String} (hr : vx_Run p l e R s m args below meth c H locs cells slots mc ms (F0 m pc ls st0) rest (mi_QX A a) (mi_XX A P Ex) A) (hS : va_S A s.heap H locs)
    (kx : ∀ (ce : Cell) (q9 : Addr) (H1 : Heap) (locs1 : List Loc), P H1 → va_S A s.heap H1 locs1 → H1[q9]? = some ce → ce.vm = .none → s.vm.findClass Ex = some ce.cls → vx_W p l e R s m args below meth c H1 locs1 (cells + mc) (slots + ms) Q (F0 m pc ls rest) q9) : W p l e R s m args below meth c H locs cells slots Q (F0 m pc ls st0) :=
  vx_callv hr hS (fun _ _ h => h) (fun _ h => h) (fun _ _ h => h)
    (fun E ce q9 _ t H1 locs1 ht _ _ hB _ _ hS1 h1 h2 h3 => by
      obtain ⟨rfl, hB⟩ := hB
      exact kx ce q9 H1 locs1 (by rw [← ht]; exact hB) hS1 h1 h2 h3)
    (fun _ _ _ _ _ _ hp => absurd hp (fun h => h))
/-- the exception goes on to the caller -/
theorem mi_out {mc ms : Nat} {Ex : String} {ce : Cell} {q9 : Addr} (hno : ∀ x ∈ c.exceptionTable.toList, False) (hk : meth.locks = false) (hW : P H) (hS : va_S A s.heap H locs) (h1 : H[q9]? = some ce) (h2 : ce.vm = .none) (h3 : s.vm.findClass Ex = some ce.cls) (hc : cells ≤ mc) (hs : slots ≤ ms) : vx_W p l e R s m args below meth c H locs cells slots (vx_MQ below (mi_QX A) (mi_XX A P Ex) args s mc ms A) (F0 m pc ls rest) q9 :=
  vx_out (fun x hx => absurd (hno x hx) (fun h => h)) hk h1 h2 h3 (fun t ht _ => ⟨(), trivial, ⟨rfl, by rw [ht]; exact hW⟩, hS.F ht⟩) hS.2.2 hc hs
variable {y : MethodName} {bytes : ByteArray} {maxL mc ms n idx : Nat} {ret : Option FieldType} {rm : Room} {Qc : Array Value → State → Outcome → State → Prop} {XC : String → State → State → Prop} {free : Addr → Prop} {As : List Value} {C : String} {Pc : Array Value → State → Prop}
theorem mi_callB (S : CallFix p m c cc nL s args (w0 :: mi_G) own) (hc : Cond.code y bytes maxL ret ∈ mi_G) (hl : Cond.methodLink own idx y ∈ mi_G) (hi : Cond.initialized y.cls ∈ mi_G) (hd : y.cls ≠ "java/lang/invoke/MethodHandle" ∧ y.cls ≠ "java/lang/invoke/VarHandle" ∧ (parseMethodDescriptor y.desc).map (fun d => d.parameters.length) = some n) (hR : rm.cells = mc ∧ rm.slots = ms ∧ rm.frames + 1 ≤ R.frames ∧ 8 + (maxL + 11) + rm.locals ≤ R.locals) : CallB R s args own idx y bytes maxL ret (Cond.code y bytes maxL ret :: mi_G) rm mc ms n :=
  callB_of n S.2.2.2.2 (mi_goodC hc) rfl hR.1 hR.2.1 (S.2.2.2.2 _ (List.mem_cons_of_mem _ hi)) (S.2.2.2.2 _ (List.mem_cons_of_mem _ hl)) hd hR.2.2
theorem mi_preS (E : mi_E D A s) (hS : va_S A s.heap H locs) (hW : P H) {av : List Value} : PreS s H (mi_Pc D A P av) av := ⟨mi_blind, fun U hU hWU => ⟨rfl, E.at hS hU hWU, by rw [hU]; exact hW⟩⟩
theorem mi_runV (S : CallFix p m c cc nL s args (w0 :: mi_G) own) (E : mi_E D A s) (hS : va_S A s.heap H locs) (hW : P H) (b : Nat) (hM : Met l y (Cond.code y bytes maxL ret :: mi_G) rm (mi_Pc D A P (.ref b :: As)) Qc mc ms free) (hrecv : ∃ cell : Cell, H[b]? = some cell ∧ cell.vm.isStatics = false ∧ s.vm.findClass y.cls = some cell.cls) (hc : Cond.code y bytes maxL ret ∈ mi_G) (hl : Cond.methodLink own idx y ∈ mi_G) (hin : Cond.instanceMethod y ∈ mi_G) (hse : Cond.selects y.cls y y ∈ mi_G) (hi : Cond.initialized y.cls ∈ mi_G)
    (hd : y.cls ≠ "java/lang/invoke/MethodHandle" ∧ y.cls ≠ "java/lang/invoke/VarHandle" ∧ (parseMethodDescriptor y.desc).map (fun d => d.parameters.length) = some n) (hR : rm.cells = mc ∧ rm.slots = ms ∧ rm.frames + 1 ≤ R.frames ∧ 8 + (maxL + 11) + rm.locals ≤ R.locals) (hn : As.length = n) (hsize : ls.size = nL) (hstack : st0 = As.reverse ++ (.ref b) :: rest) (hrest : (rest.map fun v => v.category).sum ≤ 8) (hdg : decode cc pc = .ok (.invokevirtual idx, 3)) (hf : cells + mc ≤ R.cells ∧ slots + ms ≤ R.slots) :
    va_Run p l e R s m args below meth c H locs cells slots mc ms (F0 m pc ls st0) rest (Qc (Value.ref b :: As).toArray) free :=
  va_runV (n := n) (C := y.cls) S hM ⟨mi_callB S hc hl hi hd hR, S.2.2.2.2 _ (List.mem_cons_of_mem _ hin), S.2.2.2.2 _ (List.mem_cons_of_mem _ hse)⟩ ⟨mi_blind, hrecv, (mi_preS E hS hW).2⟩ rfl hn hsize hstack (lv_room hrest) hdg hf
theorem mi_runI (S : CallFix p m c cc nL s args (w0 :: mi_G) own) (E : mi_E D A s) (hS : va_S A s.heap H locs) (hW : P H) (b : Nat) (hM : Met l y (Cond.code y bytes maxL none :: mi_G) rm (mi_Pc D A P (.ref b :: As)) Qc mc ms free) (hc : Cond.code y bytes maxL none ∈ mi_G) (hl : Cond.methodLink own idx y ∈ mi_G) (hin : Cond.instanceMethod y ∈ mi_G) (hi : Cond.initialized y.cls ∈ mi_G) (hy : y.name = "<init>")
    (hd : y.cls ≠ "java/lang/invoke/MethodHandle" ∧ y.cls ≠ "java/lang/invoke/VarHandle" ∧ (parseMethodDescriptor y.desc).map (fun d => d.parameters.length) = some n) (hR : rm.cells = mc ∧ rm.slots = ms ∧ rm.frames + 1 ≤ R.frames ∧ 8 + (maxL + 11) + rm.locals ≤ R.locals) (hn : As.length = n) (hsize : ls.size = nL) (hstack : st0 = As.reverse ++ .ref b :: rest) (hrest : (rest.map fun v => v.category).sum ≤ 8) (hdg : decode cc pc = .ok (.invokespecial idx, 3)) (hf : cells + mc ≤ R.cells ∧ slots + ms ≤ R.slots) :
    va_Run p l e R s m args below meth c H locs cells slots mc ms (F0 m pc ls st0) rest (Qc (Value.ref b :: As).toArray) free :=
  va_runI (n := n) S hM ⟨mi_callB S hc hl hi hd hR, hy, S.2.2.2.2 _ (List.mem_cons_of_mem _ hin)⟩ (mi_preS E hS hW) rfl hn hsize hstack (lv_room hrest) hdg hf
theorem mi_runS (S : CallFix p m c cc nL s args (w0 :: mi_G) own) (E : mi_E D A s) (hS : va_S A s.heap H locs) (hW : P H) (hM : Met l y (Cond.code y bytes maxL ret :: mi_G) rm (mi_Pc D A P As) Qc mc ms free) (hc : Cond.code y bytes maxL ret ∈ mi_G) (hl : Cond.methodLink own idx y ∈ mi_G) (hst : Cond.static y ∈ mi_G) (hi : Cond.initialized y.cls ∈ mi_G)
    (hd : y.cls ≠ "java/lang/invoke/MethodHandle" ∧ y.cls ≠ "java/lang/invoke/VarHandle" ∧ (parseMethodDescriptor y.desc).map (fun d => d.parameters.length) = some n) (hR : rm.cells = mc ∧ rm.slots = ms ∧ rm.frames + 1 ≤ R.frames ∧ 8 + (maxL + 11) + rm.locals ≤ R.locals) (hn : As.length = n) (hsize : ls.size = nL) (hstack : st0 = As.reverse ++ rest) (hrest : (rest.map fun v => v.category).sum ≤ 8) (hdg : decode cc pc = .ok (.invokestatic idx, 3)) (hf : cells + mc ≤ R.cells ∧ slots + ms ≤ R.slots) :
    va_Run p l e R s m args below meth c H locs cells slots mc ms (F0 m pc ls st0) rest (Qc As.toArray) free :=
  va_runS (n := n) S hM ⟨mi_callB S hc hl hi hd hR, S.2.2.2.2 _ (List.mem_cons_of_mem _ hst)⟩ (mi_preS E hS hW) rfl hn hsize hstack (lv_room hrest) hdg hf
/-- a private static of the host's -/
theorem mi_runN (S : CallFix p m c cc nL s args (w0 :: mi_G) own) (E : mi_E D A s) (hS : va_S A s.heap H locs) (hW : P H) (hM : Met l y (Cond.code y bytes maxL ret :: mi_G) rm (mi_Pc D A P As) Qc mc ms free) (hne : (own, idx, y) ∈ mi_nests) (hc : Cond.code y bytes maxL ret ∈ mi_G) (hst : Cond.static y ∈ mi_G) (hi : Cond.initialized y.cls ∈ mi_G)
    (hd : y.cls ≠ "java/lang/invoke/MethodHandle" ∧ y.cls ≠ "java/lang/invoke/VarHandle" ∧ (parseMethodDescriptor y.desc).map (fun d => d.parameters.length) = some n) (hR : rm.cells = mc ∧ rm.slots = ms ∧ rm.frames + 1 ≤ R.frames ∧ 8 + (maxL + 11) + rm.locals ≤ R.locals) (hn : As.length = n) (hsize : ls.size = nL) (hstack : st0 = As.reverse ++ rest) (hrest : (rest.map fun v => v.category).sum ≤ 8) (hdg : decode cc pc = .ok (.invokestatic idx, 3)) (hf : cells + mc ≤ R.cells ∧ slots + ms ≤ R.slots) :
    va_Run p l e R s m args below meth c H locs cells slots mc ms (F0 m pc ls st0) rest (Qc As.toArray) free :=
  va_runSN (n := n) (host := RX4) S hM ⟨va_cnB n S.2.2.2.2 (mi_goodC hc) rfl hR.1 hR.2.1 (E.2.1 _ hne) (S.2.2.2.2 _ (List.mem_cons_of_mem _ hi)) hd hR.2.2, S.2.2.2.2 _ (List.mem_cons_of_mem _ hst), trivial⟩ (mi_preS E hS hW) rfl hn hsize hstack (lv_room hrest) hdg hf
theorem mi_runVX (S : CallFix p m c cc nL s args (w0 :: mi_G) own) (E : mi_E D A s) (hS : va_S A s.heap H locs) (hW : P H) (b : Nat) (hM : vx_Met l y (Cond.code y bytes maxL ret :: mi_G) rm (mi_Pc D A P (.ref b :: As)) Qc XC mc ms free) (hrecv : ∃ cell : Cell, H[b]? = some cell ∧ cell.vm.isStatics = false ∧ s.vm.findClass y.cls = some cell.cls) (hc : Cond.code y bytes maxL ret ∈ mi_G) (hl : Cond.methodLink own idx y ∈ mi_G) (hin : Cond.instanceMethod y ∈ mi_G) (hse : Cond.selects y.cls y y ∈ mi_G) (hi : Cond.initialized y.cls ∈ mi_G)
    (hd : y.cls ≠ "java/lang/invoke/MethodHandle" ∧ y.cls ≠ "java/lang/invoke/VarHandle" ∧ (parseMethodDescriptor y.desc).map (fun d => d.parameters.length) = some n) (hR : rm.cells = mc ∧ rm.slots = ms ∧ rm.frames + 1 ≤ R.frames ∧ 8 + (maxL + 11) + rm.locals ≤ R.locals) (hn : As.length = n) (hsize : ls.size = nL) (hstack : st0 = As.reverse ++ (.ref b) :: rest) (hrest : (rest.map fun v => v.category).sum ≤ 8) (hdg : decode cc pc = .ok (.invokevirtual idx, 3)) (hf : cells + mc ≤ R.cells ∧ slots + ms ≤ R.slots) :
    vx_Run p l e R s m args below meth c H locs cells slots mc ms (F0 m pc ls st0) rest (Qc (Value.ref b :: As).toArray) XC free :=
  vx_runV (n := n) (C := y.cls) S hM ⟨mi_callB S hc hl hi hd hR, S.2.2.2.2 _ (List.mem_cons_of_mem _ hin), S.2.2.2.2 _ (List.mem_cons_of_mem _ hse)⟩ ⟨mi_blind, hrecv, (mi_preS E hS hW).2⟩ rfl hn hsize hstack (lv_room hrest) hdg hf
theorem mi_runSX (S : CallFix p m c cc nL s args (w0 :: mi_G) own) (E : mi_E D A s) (hS : va_S A s.heap H locs) (hW : P H) (hM : vx_Met l y (Cond.code y bytes maxL ret :: mi_G) rm (mi_Pc D A P As) Qc XC mc ms free) (hc : Cond.code y bytes maxL ret ∈ mi_G) (hl : Cond.methodLink own idx y ∈ mi_G) (hst : Cond.static y ∈ mi_G) (hi : Cond.initialized y.cls ∈ mi_G)
    (hd : y.cls ≠ "java/lang/invoke/MethodHandle" ∧ y.cls ≠ "java/lang/invoke/VarHandle" ∧ (parseMethodDescriptor y.desc).map (fun d => d.parameters.length) = some n) (hR : rm.cells = mc ∧ rm.slots = ms ∧ rm.frames + 1 ≤ R.frames ∧ 8 + (maxL + 11) + rm.locals ≤ R.locals) (hn : As.length = n) (hsize : ls.size = nL) (hstack : st0 = As.reverse ++ rest) (hrest : (rest.map fun v => v.category).sum ≤ 8) (hdg : decode cc pc = .ok (.invokestatic idx, 3)) (hf : cells + mc ≤ R.cells ∧ slots + ms ≤ R.slots) :
    vx_Run p l e R s m args below meth c H locs cells slots mc ms (F0 m pc ls st0) rest (Qc As.toArray) XC free :=
  vx_runS (n := n) S hM ⟨mi_callB S hc hl hi hd hR, S.2.2.2.2 _ (List.mem_cons_of_mem _ hst)⟩ (mi_preS E hS hW) rfl hn hsize hstack (lv_room hrest) hdg hf
end MIC
/-- a contract says less -/
theorem mi_lessI {l : Launch} {y : MethodName} {w : Cond} {rm : Room} {D : va_G} {A : Nat → Prop} {P : Heap → Prop} {av : List Value} {mc ms : Nat} {post post' : Int32 → Heap → Prop} (h : mi_Mi l y w rm D A P av mc ms post) (hp : ∀ r H, post r H → post' r H) : mi_Mi l y w rm D A P av mc ms post' := by
  intro p e h1 h2 h3 s m args below h4 h5 h6 h7
  obtain ⟨n, o, g1, g2, g3, ⟨⟨r, e1, e2⟩, e3⟩, g4⟩ := h p e h1 h2 h3 s m args below h4 h5 h6 h7
  exact ⟨n, o, g1, g2, g3, ⟨⟨r, e1, hp _ _ e2⟩, e3⟩, g4⟩
theorem mi_lessV {l : Launch} {y : MethodName} {w : Cond} {rm : Room} {D : va_G} {A : Nat → Prop} {P : Heap → Prop} {av : List Value} {mc ms : Nat} {post post' : Heap → Prop} (h : mi_Mv l y w rm D A P av mc ms post) (hp : ∀ H, post H → post' H) : mi_Mv l y w rm D A P av mc ms post' := by
  intro p e h1 h2 h3 s m args below h4 h5 h6 h7
  obtain ⟨n, o, g1, g2, g3, ⟨⟨e1, e2⟩, e3⟩, g4⟩ := h p e h1 h2 h3 s m args below h4 h5 h6 h7
  exact ⟨n, o, g1, g2, g3, ⟨⟨e1, hp _ e2⟩, e3⟩, g4⟩
end
section
/-! the good words of the tables, by their places; by program out of the Statement -/
theorem mi_tb {w : Cond} (h : w ∈ tables_1) (hg : goodWord w = true) : w ∈ mi_G := List.mem_filter.mpr ⟨List.mem_append_right _ h, hg⟩
theorem mi_t1 {w : Cond} (i : Nat) (h : tables_1_1[i]? = some w) (hg : goodWord w = true) : w ∈ mi_G := mi_tb (List.mem_append_left _ (List.mem_of_getElem? h)) hg
theorem mi_t2 {w : Cond} (i : Nat) (h : tables_1_2[i]? = some w) (hg : goodWord w = true) : w ∈ mi_G := mi_tb (List.mem_append_right _ (List.mem_append_left _ (List.mem_of_getElem? h))) hg
theorem mi_t3 {w : Cond} (i : Nat) (h : tables_1_3[i]? = some w) (hg : goodWord w = true) : w ∈ mi_G := mi_tb (List.mem_append_right _ (List.mem_append_right _ (List.mem_append_left _ (List.mem_of_getElem? h)))) hg
theorem mi_t4 {w : Cond} (i : Nat) (h : tables_1_4[i]? = some w) (hg : goodWord w = true) : w ∈ mi_G := mi_tb (List.mem_append_right _ (List.mem_append_right _ (List.mem_append_right _ (List.mem_of_getElem? h)))) hg
theorem mw_0 : (Cond.selects "java/util/ArrayList" (⟨"java/util/ArrayList", "add", "(Ljava/lang/Object;[Ljava/lang/Object;I)V"⟩ : MethodName) (⟨"java/util/ArrayList", "add", "(Ljava/lang/Object;[Ljava/lang/Object;I)V"⟩ : MethodName)) ∈ mi_G := mi_in 0 rfl rfl
theorem mw_1 : (Cond.selects "java/util/ArrayList" (⟨"java/util/ArrayList", "grow", "()[Ljava/lang/Object;"⟩ : MethodName) (⟨"java/util/ArrayList", "grow", "()[Ljava/lang/Object;"⟩ : MethodName)) ∈ mi_G := mi_in 1 rfl rfl
theorem mw_2 : (Cond.selects "java/util/ArrayList" (⟨"java/util/ArrayList", "grow", "(I)[Ljava/lang/Object;"⟩ : MethodName) (⟨"java/util/ArrayList", "grow", "(I)[Ljava/lang/Object;"⟩ : MethodName)) ∈ mi_G := mi_in 2 rfl rfl
theorem mw_3 : (Cond.selects "Voxelmint$State" (⟨"Voxelmint$State", "endsRun", "(II)Z"⟩ : MethodName) (⟨"Voxelmint$State", "endsRun", "(II)Z"⟩ : MethodName)) ∈ mi_G := mi_in 3 rfl rfl
theorem mw_4 : (Cond.selects "Voxelmint$PieceFinder" (⟨"Voxelmint$PieceFinder", "reach", "(LVoxelmint$State;II)V"⟩ : MethodName) (⟨"Voxelmint$PieceFinder", "reach", "(LVoxelmint$State;II)V"⟩ : MethodName)) ∈ mi_G := mi_in 4 rfl rfl
theorem mw_5 : (Cond.selects "Voxelmint$PieceFinder" (⟨"Voxelmint$PieceFinder", "reachRestOfPiece", "(LVoxelmint$State;I)V"⟩ : MethodName) (⟨"Voxelmint$PieceFinder", "reachRestOfPiece", "(LVoxelmint$State;I)V"⟩ : MethodName)) ∈ mi_G := mi_in 5 rfl rfl
theorem mw_6 : (Cond.selects "Voxelmint$PieceFinder" (⟨"Voxelmint$PieceFinder", "reachTouching", "(LVoxelmint$State;II)V"⟩ : MethodName) (⟨"Voxelmint$PieceFinder", "reachTouching", "(LVoxelmint$State;II)V"⟩ : MethodName)) ∈ mi_G := mi_in 6 rfl rfl
theorem mw_7 : (Cond.selects "java/lang/Throwable" (⟨"java/lang/Throwable", "fillInStackTrace", "(I)Ljava/lang/Throwable;"⟩ : MethodName) (⟨"java/lang/Throwable", "fillInStackTrace", "(I)Ljava/lang/Throwable;"⟩ : MethodName)) ∈ mi_G := mi_in 7 rfl rfl
theorem mw_8 : (Cond.selects "Voxelmint" (⟨"Voxelmint", "checkRoomForState", "()V"⟩ : MethodName) (⟨"Voxelmint", "checkRoomForState", "()V"⟩ : MethodName)) ∈ mi_G := mi_in 8 rfl rfl
theorem mw_9 : (Cond.selects "Voxelmint" (⟨"Voxelmint", "beginState", "()V"⟩ : MethodName) (⟨"Voxelmint", "beginState", "()V"⟩ : MethodName)) ∈ mi_G := mi_in 9 rfl rfl
theorem mw_10 : (Cond.selects "Voxelmint" (⟨"Voxelmint", "checkState", "(I)V"⟩ : MethodName) (⟨"Voxelmint", "checkState", "(I)V"⟩ : MethodName)) ∈ mi_G := mi_in 10 rfl rfl
theorem mw_11 : (Cond.selects "Voxelmint" (⟨"Voxelmint", "findChild", "(I)LVoxelmint$State;"⟩ : MethodName) (⟨"Voxelmint", "findChild", "(I)LVoxelmint$State;"⟩ : MethodName)) ∈ mi_G := mi_in 11 rfl rfl
theorem mw_12 : (Cond.selects "Voxelmint" (⟨"Voxelmint", "checkDie", "(I)V"⟩ : MethodName) (⟨"Voxelmint", "checkDie", "(I)V"⟩ : MethodName)) ∈ mi_G := mi_in 12 rfl rfl
theorem mw_13 : (Cond.selects "Voxelmint" (⟨"Voxelmint", "checkRoomForCoin", "()V"⟩ : MethodName) (⟨"Voxelmint", "checkRoomForCoin", "()V"⟩ : MethodName)) ∈ mi_G := mi_in 13 rfl rfl
theorem mw_14 : (Cond.selects "Voxelmint$Die" (⟨"Voxelmint$Die", "wear", "()V"⟩ : MethodName) (⟨"Voxelmint$Die", "wear", "()V"⟩ : MethodName)) ∈ mi_G := mi_in 14 rfl rfl
theorem mw_15 : (Cond.selects "Voxelmint" (⟨"Voxelmint", "keepCoin", "(LVoxelmint$Coin;)I"⟩ : MethodName) (⟨"Voxelmint", "keepCoin", "(LVoxelmint$Coin;)I"⟩ : MethodName)) ∈ mi_G := mi_in 15 rfl rfl
theorem mw_16 : (Cond.selects "Voxelmint" (⟨"Voxelmint", "checkCoin", "(I)V"⟩ : MethodName) (⟨"Voxelmint", "checkCoin", "(I)V"⟩ : MethodName)) ∈ mi_G := mi_in 16 rfl rfl
theorem mw_17 : (Cond.selects "VoxelmintModel" (⟨"VoxelmintModel", "grows", "()V"⟩ : MethodName) (⟨"VoxelmintModel", "grows", "()V"⟩ : MethodName)) ∈ mi_G := mi_in 17 rfl rfl
theorem mw_18 : (Cond.selects "VoxelmintModel" (⟨"VoxelmintModel", "puts", "(III)V"⟩ : MethodName) (⟨"VoxelmintModel", "puts", "(III)V"⟩ : MethodName)) ∈ mi_G := mi_in 18 rfl rfl
theorem mw_19 : (Cond.selects "VoxelmintModel" (⟨"VoxelmintModel", "kindNow", "(II)I"⟩ : MethodName) (⟨"VoxelmintModel", "kindNow", "(II)I"⟩ : MethodName)) ∈ mi_G := mi_in 19 rfl rfl
theorem mw_20 : (Cond.selects "VoxelmintModel" (⟨"VoxelmintModel", "kindAt", "(III)I"⟩ : MethodName) (⟨"VoxelmintModel", "kindAt", "(III)I"⟩ : MethodName)) ∈ mi_G := mi_in 20 rfl rfl
theorem mw_21 : (Cond.selects "VoxelmintModel" (⟨"VoxelmintModel", "runsOf", "(I)I"⟩ : MethodName) (⟨"VoxelmintModel", "runsOf", "(I)I"⟩ : MethodName)) ∈ mi_G := mi_in 21 rfl rfl
theorem mw_22 : (Cond.selects "VoxelmintModel" (⟨"VoxelmintModel", "manyBlocks", "()I"⟩ : MethodName) (⟨"VoxelmintModel", "manyBlocks", "()I"⟩ : MethodName)) ∈ mi_G := mi_in 22 rfl rfl
theorem mw_23 : (Cond.selects "VoxelmintModel" (⟨"VoxelmintModel", "manyPieces", "()I"⟩ : MethodName) (⟨"VoxelmintModel", "manyPieces", "()I"⟩ : MethodName)) ∈ mi_G := mi_in 23 rfl rfl
theorem mw_24 : (Cond.selects "VoxelmintModel" (⟨"VoxelmintModel", "joinsAll", "()Z"⟩ : MethodName) (⟨"VoxelmintModel", "joinsAll", "()Z"⟩ : MethodName)) ∈ mi_G := mi_in 24 rfl rfl
theorem mw_25 : (Cond.selects "VoxelmintModel" (⟨"VoxelmintModel", "joins", "(II)Z"⟩ : MethodName) (⟨"VoxelmintModel", "joins", "(II)Z"⟩ : MethodName)) ∈ mi_G := mi_in 25 rfl rfl
theorem mw_26 : (Cond.selects "VoxelmintModel" (⟨"VoxelmintModel", "heightNow", "(I)I"⟩ : MethodName) (⟨"VoxelmintModel", "heightNow", "(I)I"⟩ : MethodName)) ∈ mi_G := mi_in 26 rfl rfl
theorem mw_27 : (Cond.selects "VoxelmintModel" (⟨"VoxelmintModel", "isState", "(I)Z"⟩ : MethodName) (⟨"VoxelmintModel", "isState", "(I)Z"⟩ : MethodName)) ∈ mi_G := mi_in 27 rfl rfl
theorem mw_28 : (Cond.selects "VoxelmintModel" (⟨"VoxelmintModel", "manyBranches", "()I"⟩ : MethodName) (⟨"VoxelmintModel", "manyBranches", "()I"⟩ : MethodName)) ∈ mi_G := mi_in 28 rfl rfl
theorem mw_29 : (Cond.selects "VoxelmintModel" (⟨"VoxelmintModel", "isDie", "(I)Z"⟩ : MethodName) (⟨"VoxelmintModel", "isDie", "(I)Z"⟩ : MethodName)) ∈ mi_G := mi_in 29 rfl rfl
theorem mw_30 : (Cond.selects "VoxelmintModel" (⟨"VoxelmintModel", "isCoin", "(I)Z"⟩ : MethodName) (⟨"VoxelmintModel", "isCoin", "(I)Z"⟩ : MethodName)) ∈ mi_G := mi_in 30 rfl rfl
theorem mw_31 : (Cond.selects "VoxelmintModel" (⟨"VoxelmintModel", "laysThen", "(II)V"⟩ : MethodName) (⟨"VoxelmintModel", "laysThen", "(II)V"⟩ : MethodName)) ∈ mi_G := mi_in 31 rfl rfl
theorem mw_32 : (Jvm.Cond.initialized "VoxelmintLaw") ∈ mi_G := mi_t1 0 rfl rfl
theorem mw_33 : (Jvm.Cond.initialized "Voxelmint") ∈ mi_G := mi_t1 1 rfl rfl
theorem mw_34 : (Jvm.Cond.initialized "java/util/AbstractCollection") ∈ mi_G := mi_t1 2 rfl rfl
theorem mw_35 : (Jvm.Cond.initialized "java/util/AbstractList") ∈ mi_G := mi_t1 3 rfl rfl
theorem mw_36 : (Jvm.Cond.initialized "java/util/ArrayList") ∈ mi_G := mi_t1 4 rfl rfl
theorem mw_37 : (Jvm.Cond.initialized "Voxelmint$PieceFinder") ∈ mi_G := mi_t1 5 rfl rfl
theorem mw_38 : (Jvm.Cond.initialized "Voxelmint$State") ∈ mi_G := mi_t1 6 rfl rfl
theorem mw_39 : (Jvm.Cond.initialized "jdk/internal/util/ArraysSupport") ∈ mi_G := mi_t1 7 rfl rfl
theorem mw_40 : (Jvm.Cond.initialized "java/lang/Math") ∈ mi_G := mi_t1 8 rfl rfl
theorem mw_41 : (Jvm.Cond.initialized "java/util/Arrays") ∈ mi_G := mi_t1 9 rfl rfl
theorem mw_42 : (Jvm.Cond.initialized "java/lang/System") ∈ mi_G := mi_t1 10 rfl rfl
theorem mw_43 : (Jvm.Cond.initialized "VoxelmintModel") ∈ mi_G := mi_t1 11 rfl rfl
theorem mw_44 : (Jvm.Cond.initialized "java/lang/Throwable") ∈ mi_G := mi_t1 12 rfl rfl
theorem mw_45 : (Jvm.Cond.initialized "java/lang/Exception") ∈ mi_G := mi_t1 13 rfl rfl
theorem mw_46 : (Jvm.Cond.initialized "java/lang/RuntimeException") ∈ mi_G := mi_t1 14 rfl rfl
theorem mw_47 : (Jvm.Cond.initialized "java/lang/IndexOutOfBoundsException") ∈ mi_G := mi_t1 15 rfl rfl
theorem mw_48 : (Jvm.Cond.initialized "java/lang/IllegalArgumentException") ∈ mi_G := mi_t1 16 rfl rfl
theorem mw_49 : (Jvm.Cond.initialized "java/lang/IllegalStateException") ∈ mi_G := mi_t1 17 rfl rfl
theorem mw_50 : (Jvm.Cond.initialized "java/util/Objects") ∈ mi_G := mi_t1 18 rfl rfl
theorem mw_51 : (Jvm.Cond.initialized "jdk/internal/util/Preconditions") ∈ mi_G := mi_t1 19 rfl rfl
theorem mw_52 : (Jvm.Cond.initialized "Voxelmint$Die") ∈ mi_G := mi_t1 20 rfl rfl
theorem mw_53 : (Jvm.Cond.initialized "Voxelmint$Coin") ∈ mi_G := mi_t1 21 rfl rfl
theorem mw_54 : (Jvm.Cond.classLink "VoxelmintLaw" (8 : Nat) "Voxelmint") ∈ mi_G := mi_t1 22 rfl rfl
theorem mw_55 : (Jvm.Cond.instantiable "Voxelmint" (5 : Nat)) ∈ mi_G := mi_t1 23 rfl rfl
theorem mw_56 : (Jvm.Cond.methodLink "VoxelmintLaw" (77 : Nat) ({ cls := "Voxelmint", name := "<init>", desc := "()V" } : Jvm.MethodName)) ∈ mi_G := mi_t1 24 rfl rfl
theorem mw_57 : (Jvm.Cond.instanceMethod ({ cls := "Voxelmint", name := "<init>", desc := "()V" } : Jvm.MethodName)) ∈ mi_G := mi_t1 25 rfl rfl
theorem mw_58 : (Jvm.Cond.code ({ cls := "Voxelmint", name := "<init>", desc := "()V" } : Jvm.MethodName) prog_1_method_1_code (1 : Nat) (Option.none : Option Jvm.ClassFile.FieldType)) ∈ mi_G := mi_t1 26 rfl rfl
theorem mw_59 : (Jvm.Cond.methodLink "Voxelmint" (3 : Nat) ({ cls := "java/lang/Object", name := "<init>", desc := "()V" } : Jvm.MethodName)) ∈ mi_G := mi_t1 27 rfl rfl
theorem mw_60 : (Jvm.Cond.instanceMethod ({ cls := "java/lang/Object", name := "<init>", desc := "()V" } : Jvm.MethodName)) ∈ mi_G := mi_t1 28 rfl rfl
theorem mw_61 : (Jvm.Cond.code ({ cls := "java/lang/Object", name := "<init>", desc := "()V" } : Jvm.MethodName) object_method_1_code (1 : Nat) (Option.none : Option Jvm.ClassFile.FieldType)) ∈ mi_G := mi_t1 29 rfl rfl
theorem mw_62 : (Jvm.Cond.classLink "Voxelmint" (9 : Nat) "java/util/ArrayList") ∈ mi_G := mi_t1 30 rfl rfl
theorem mw_63 : (Jvm.Cond.instantiable "java/util/ArrayList" (3 : Nat)) ∈ mi_G := mi_t1 31 rfl rfl
theorem mw_64 : (Jvm.Cond.methodLink "Voxelmint" (11 : Nat) ({ cls := "java/util/ArrayList", name := "<init>", desc := "()V" } : Jvm.MethodName)) ∈ mi_G := mi_t1 32 rfl rfl
theorem mw_65 : (Jvm.Cond.instanceMethod ({ cls := "java/util/ArrayList", name := "<init>", desc := "()V" } : Jvm.MethodName)) ∈ mi_G := mi_t1 33 rfl rfl
theorem mw_66 : (Jvm.Cond.code ({ cls := "java/util/ArrayList", name := "<init>", desc := "()V" } : Jvm.MethodName) prog_22_method_2_code (1 : Nat) (Option.none : Option Jvm.ClassFile.FieldType)) ∈ mi_G := mi_t1 34 rfl rfl
theorem mw_67 : (Jvm.Cond.methodLink "java/util/ArrayList" (1 : Nat) ({ cls := "java/util/AbstractList", name := "<init>", desc := "()V" } : Jvm.MethodName)) ∈ mi_G := mi_t1 35 rfl rfl
theorem mw_68 : (Jvm.Cond.instanceMethod ({ cls := "java/util/AbstractList", name := "<init>", desc := "()V" } : Jvm.MethodName)) ∈ mi_G := mi_t1 36 rfl rfl
theorem mw_69 : (Jvm.Cond.code ({ cls := "java/util/AbstractList", name := "<init>", desc := "()V" } : Jvm.MethodName) prog_21_method_1_code (1 : Nat) (Option.none : Option Jvm.ClassFile.FieldType)) ∈ mi_G := mi_t1 37 rfl rfl
theorem mw_70 : (Jvm.Cond.methodLink "java/util/AbstractList" (1 : Nat) ({ cls := "java/util/AbstractCollection", name := "<init>", desc := "()V" } : Jvm.MethodName)) ∈ mi_G := mi_t1 38 rfl rfl
theorem mw_71 : (Jvm.Cond.instanceMethod ({ cls := "java/util/AbstractCollection", name := "<init>", desc := "()V" } : Jvm.MethodName)) ∈ mi_G := mi_t1 39 rfl rfl
theorem mw_72 : (Jvm.Cond.code ({ cls := "java/util/AbstractCollection", name := "<init>", desc := "()V" } : Jvm.MethodName) prog_20_method_1_code (1 : Nat) (Option.none : Option Jvm.ClassFile.FieldType)) ∈ mi_G := mi_t1 40 rfl rfl
theorem mw_73 : (Jvm.Cond.methodLink "java/util/AbstractCollection" (1 : Nat) ({ cls := "java/lang/Object", name := "<init>", desc := "()V" } : Jvm.MethodName)) ∈ mi_G := mi_t1 41 rfl rfl
theorem mw_74 : (Jvm.Cond.fieldLink "java/util/ArrayList" (39 : Nat) "java/util/ArrayList" "DEFAULTCAPACITY_EMPTY_ELEMENTDATA" "[Ljava/lang/Object;") ∈ mi_G := mi_t1 42 rfl rfl
theorem mw_76 : (Jvm.Cond.fieldLink "java/util/ArrayList" (9 : Nat) "java/util/ArrayList" "elementData" "[Ljava/lang/Object;") ∈ mi_G := mi_t1 44 rfl rfl
theorem mw_77 : (Jvm.Cond.fieldLink "java/util/ArrayList" (48 : Nat) "java/util/ArrayList" "size" "I") ∈ mi_G := mi_t1 45 rfl rfl
theorem mw_78 : (Jvm.Cond.fieldLink "java/util/AbstractList" (7 : Nat) "java/util/AbstractList" "modCount" "I") ∈ mi_G := mi_t1 46 rfl rfl
theorem mw_79 : (Jvm.Cond.fieldLink "java/util/ArrayList" (63 : Nat) "java/util/ArrayList" "modCount" "I") ∈ mi_G := mi_t1 47 rfl rfl
theorem mw_80 : (Jvm.Cond.sameField "java/util/ArrayList" "java/util/AbstractList" "modCount" "I") ∈ mi_G := mi_t1 48 rfl rfl
theorem mw_81 : (Jvm.Cond.lays "java/util/ArrayList" "java/util/ArrayList" "elementData" "[Ljava/lang/Object;") ∈ mi_G := mi_t1 49 rfl rfl
theorem mw_83 : (Jvm.Cond.lays "java/util/ArrayList" "java/util/ArrayList" "size" "I") ∈ mi_G := mi_t1 51 rfl rfl
theorem mw_85 : (Jvm.Cond.lays "java/util/ArrayList" "java/util/AbstractList" "modCount" "I") ∈ mi_G := mi_t1 53 rfl rfl
theorem mw_88 : (Jvm.Cond.classLink "Voxelmint" (22 : Nat) "Voxelmint$PieceFinder") ∈ mi_G := mi_t1 56 rfl rfl
theorem mw_89 : (Jvm.Cond.instantiable "Voxelmint$PieceFinder" (3 : Nat)) ∈ mi_G := mi_t1 57 rfl rfl
theorem mw_90 : (Jvm.Cond.methodLink "Voxelmint" (24 : Nat) ({ cls := "Voxelmint$PieceFinder", name := "<init>", desc := "()V" } : Jvm.MethodName)) ∈ mi_G := mi_t1 58 rfl rfl
theorem mw_91 : (Jvm.Cond.instanceMethod ({ cls := "Voxelmint$PieceFinder", name := "<init>", desc := "()V" } : Jvm.MethodName)) ∈ mi_G := mi_t1 59 rfl rfl
theorem mw_92 : (Jvm.Cond.code ({ cls := "Voxelmint$PieceFinder", name := "<init>", desc := "()V" } : Jvm.MethodName) prog_4_method_1_code (1 : Nat) (Option.none : Option Jvm.ClassFile.FieldType)) ∈ mi_G := mi_t1 60 rfl rfl
theorem mw_93 : (Jvm.Cond.methodLink "Voxelmint$PieceFinder" (3 : Nat) ({ cls := "java/lang/Object", name := "<init>", desc := "()V" } : Jvm.MethodName)) ∈ mi_G := mi_t1 61 rfl rfl
theorem mw_94 : (Jvm.Cond.fieldLink "Voxelmint$PieceFinder" (9 : Nat) "Voxelmint$PieceFinder" "marks" "[I") ∈ mi_G := mi_t1 62 rfl rfl
theorem mw_95 : (Jvm.Cond.fieldLink "Voxelmint$PieceFinder" (15 : Nat) "Voxelmint$PieceFinder" "queue" "[I") ∈ mi_G := mi_t1 63 rfl rfl
theorem mw_96 : (Jvm.Cond.fieldLink "Voxelmint$PieceFinder" (24 : Nat) "Voxelmint$PieceFinder" "queued" "I") ∈ mi_G := mi_t1 64 rfl rfl
theorem mw_97 : (Jvm.Cond.laysFinal "Voxelmint$PieceFinder" "Voxelmint$PieceFinder" "marks" "[I") ∈ mi_G := mi_t1 65 rfl rfl
theorem mw_99 : (Jvm.Cond.laysFinal "Voxelmint$PieceFinder" "Voxelmint$PieceFinder" "queue" "[I") ∈ mi_G := mi_t1 67 rfl rfl
theorem mw_101 : (Jvm.Cond.lays "Voxelmint$PieceFinder" "Voxelmint$PieceFinder" "queued" "I") ∈ mi_G := mi_t1 69 rfl rfl
theorem mw_104 : (Jvm.Cond.arrayClass Jvm.ClassFile.FieldType.int) ∈ mi_G := mi_t1 72 rfl rfl
theorem mw_105 : (Jvm.Cond.classLink "Voxelmint" (29 : Nat) "Voxelmint$State") ∈ mi_G := mi_t1 73 rfl rfl
theorem mw_106 : (Jvm.Cond.instantiable "Voxelmint$State" (3 : Nat)) ∈ mi_G := mi_t1 74 rfl rfl
theorem mw_107 : (Jvm.Cond.methodLink "Voxelmint" (31 : Nat) ({ cls := "Voxelmint$State", name := "<init>", desc := "(ILVoxelmint$State;[I)V" } : Jvm.MethodName)) ∈ mi_G := mi_t1 75 rfl rfl
theorem mw_108 : (Jvm.Cond.instanceMethod ({ cls := "Voxelmint$State", name := "<init>", desc := "(ILVoxelmint$State;[I)V" } : Jvm.MethodName)) ∈ mi_G := mi_t1 76 rfl rfl
theorem mw_109 : (Jvm.Cond.code ({ cls := "Voxelmint$State", name := "<init>", desc := "(ILVoxelmint$State;[I)V" } : Jvm.MethodName) prog_5_method_1_code (4 : Nat) (Option.none : Option Jvm.ClassFile.FieldType)) ∈ mi_G := mi_t1 77 rfl rfl
theorem mw_110 : (Jvm.Cond.methodLink "Voxelmint$State" (3 : Nat) ({ cls := "java/lang/Object", name := "<init>", desc := "()V" } : Jvm.MethodName)) ∈ mi_G := mi_t1 78 rfl rfl
theorem mw_111 : (Jvm.Cond.fieldLink "Voxelmint$State" (9 : Nat) "Voxelmint$State" "number" "I") ∈ mi_G := mi_t1 79 rfl rfl
theorem mw_112 : (Jvm.Cond.fieldLink "Voxelmint" (62 : Nat) "Voxelmint$State" "number" "I") ∈ mi_G := mi_t1 80 rfl rfl
theorem mw_113 : (Jvm.Cond.fieldLink "Voxelmint$State" (15 : Nat) "Voxelmint$State" "parent" "LVoxelmint$State;") ∈ mi_G := mi_t1 81 rfl rfl
theorem mw_114 : (Jvm.Cond.fieldLink "Voxelmint" (111 : Nat) "Voxelmint$State" "parent" "LVoxelmint$State;") ∈ mi_G := mi_t1 82 rfl rfl
theorem mw_115 : (Jvm.Cond.fieldLink "Voxelmint$State" (19 : Nat) "Voxelmint$State" "kinds" "[I") ∈ mi_G := mi_t1 83 rfl rfl
theorem mw_116 : (Jvm.Cond.fieldLink "Voxelmint" (198 : Nat) "Voxelmint$State" "kinds" "[I") ∈ mi_G := mi_t1 84 rfl rfl
theorem mw_117 : (Jvm.Cond.laysFinal "Voxelmint$State" "Voxelmint$State" "number" "I") ∈ mi_G := mi_t1 85 rfl rfl
theorem mw_119 : (Jvm.Cond.laysFinal "Voxelmint$State" "Voxelmint$State" "parent" "LVoxelmint$State;") ∈ mi_G := mi_t1 87 rfl rfl
theorem mw_121 : (Jvm.Cond.laysFinal "Voxelmint$State" "Voxelmint$State" "kinds" "[I") ∈ mi_G := mi_t1 89 rfl rfl
theorem mw_124 : (Jvm.Cond.methodLink "Voxelmint" (38 : Nat) ({ cls := "java/util/ArrayList", name := "add", desc := "(Ljava/lang/Object;)Z" } : Jvm.MethodName)) ∈ mi_G := mi_t1 92 rfl rfl
theorem mw_125 : (Jvm.Cond.instanceMethod ({ cls := "java/util/ArrayList", name := "add", desc := "(Ljava/lang/Object;)Z" } : Jvm.MethodName)) ∈ mi_G := mi_t1 93 rfl rfl
theorem mw_126 : (Jvm.Cond.selects "java/util/ArrayList" ({ cls := "java/util/ArrayList", name := "add", desc := "(Ljava/lang/Object;)Z" } : Jvm.MethodName) ({ cls := "java/util/ArrayList", name := "add", desc := "(Ljava/lang/Object;)Z" } : Jvm.MethodName)) ∈ mi_G := mi_t1 94 rfl rfl
theorem mw_127 : (Jvm.Cond.code ({ cls := "java/util/ArrayList", name := "add", desc := "(Ljava/lang/Object;)Z" } : Jvm.MethodName) prog_22_method_25_code (2 : Nat) (Option.some Jvm.ClassFile.FieldType.boolean)) ∈ mi_G := mi_t1 95 rfl rfl
theorem mw_128 : (Jvm.Cond.methodLink "java/util/ArrayList" (131 : Nat) ({ cls := "java/util/ArrayList", name := "add", desc := "(Ljava/lang/Object;[Ljava/lang/Object;I)V" } : Jvm.MethodName)) ∈ mi_G := mi_t1 96 rfl rfl
theorem mw_130 : (Jvm.Cond.instanceMethod ({ cls := "java/util/ArrayList", name := "add", desc := "(Ljava/lang/Object;[Ljava/lang/Object;I)V" } : Jvm.MethodName)) ∈ mi_G := mi_t1 98 rfl rfl
theorem mw_131 : (Jvm.Cond.code ({ cls := "java/util/ArrayList", name := "add", desc := "(Ljava/lang/Object;[Ljava/lang/Object;I)V" } : Jvm.MethodName) prog_22_method_24_code (4 : Nat) (Option.none : Option Jvm.ClassFile.FieldType)) ∈ mi_G := mi_t1 99 rfl rfl
theorem mw_132 : (Jvm.Cond.methodLink "java/util/ArrayList" (129 : Nat) ({ cls := "java/util/ArrayList", name := "grow", desc := "()[Ljava/lang/Object;" } : Jvm.MethodName)) ∈ mi_G := mi_t1 100 rfl rfl
theorem mw_134 : (Jvm.Cond.instanceMethod ({ cls := "java/util/ArrayList", name := "grow", desc := "()[Ljava/lang/Object;" } : Jvm.MethodName)) ∈ mi_G := mi_t1 102 rfl rfl
theorem mw_135 : (Jvm.Cond.code ({ cls := "java/util/ArrayList", name := "grow", desc := "()[Ljava/lang/Object;" } : Jvm.MethodName) prog_22_method_7_code (1 : Nat) (Option.some (Jvm.ClassFile.FieldType.array (Jvm.ClassFile.FieldType.object "java/lang/Object")))) ∈ mi_G := mi_t1 103 rfl rfl
theorem mw_136 : (Jvm.Cond.methodLink "java/util/ArrayList" (69 : Nat) ({ cls := "java/util/ArrayList", name := "grow", desc := "(I)[Ljava/lang/Object;" } : Jvm.MethodName)) ∈ mi_G := mi_t1 104 rfl rfl
theorem mw_138 : (Jvm.Cond.instanceMethod ({ cls := "java/util/ArrayList", name := "grow", desc := "(I)[Ljava/lang/Object;" } : Jvm.MethodName)) ∈ mi_G := mi_t1 106 rfl rfl
theorem mw_139 : (Jvm.Cond.code ({ cls := "java/util/ArrayList", name := "grow", desc := "(I)[Ljava/lang/Object;" } : Jvm.MethodName) prog_22_method_6_code (4 : Nat) (Option.some (Jvm.ClassFile.FieldType.array (Jvm.ClassFile.FieldType.object "java/lang/Object")))) ∈ mi_G := mi_t1 107 rfl rfl
theorem mw_140 : (Jvm.Cond.methodLink "java/util/ArrayList" (73 : Nat) ({ cls := "jdk/internal/util/ArraysSupport", name := "newLength", desc := "(III)I" } : Jvm.MethodName)) ∈ mi_G := mi_t1 108 rfl rfl
theorem mw_141 : (Jvm.Cond.static ({ cls := "jdk/internal/util/ArraysSupport", name := "newLength", desc := "(III)I" } : Jvm.MethodName)) ∈ mi_G := mi_t1 109 rfl rfl
theorem mw_142 : (Jvm.Cond.code ({ cls := "jdk/internal/util/ArraysSupport", name := "newLength", desc := "(III)I" } : Jvm.MethodName) prog_29_method_27_code (4 : Nat) (Option.some Jvm.ClassFile.FieldType.int)) ∈ mi_G := mi_t1 110 rfl rfl
theorem mw_143 : (Jvm.Cond.methodLink "jdk/internal/util/ArraysSupport" (194 : Nat) ({ cls := "java/lang/Math", name := "max", desc := "(II)I" } : Jvm.MethodName)) ∈ mi_G := mi_t1 111 rfl rfl
theorem mw_144 : (Jvm.Cond.static ({ cls := "java/lang/Math", name := "max", desc := "(II)I" } : Jvm.MethodName)) ∈ mi_G := mi_t1 112 rfl rfl
theorem mw_145 : (Jvm.Cond.code ({ cls := "java/lang/Math", name := "max", desc := "(II)I" } : Jvm.MethodName) prog_15_method_65_code (2 : Nat) (Option.some Jvm.ClassFile.FieldType.int)) ∈ mi_G := mi_t1 113 rfl rfl
theorem mw_146 : (Jvm.Cond.constant "jdk/internal/util/ArraysSupport" (200 : Nat) (2147483639 : Int32)) ∈ mi_G := mi_t1 114 rfl rfl
theorem mw_147 : (Jvm.Cond.methodLink "jdk/internal/util/ArraysSupport" (201 : Nat) ({ cls := "jdk/internal/util/ArraysSupport", name := "hugeLength", desc := "(II)I" } : Jvm.MethodName)) ∈ mi_G := mi_t1 115 rfl rfl
theorem mw_148 : (Jvm.Cond.static ({ cls := "jdk/internal/util/ArraysSupport", name := "hugeLength", desc := "(II)I" } : Jvm.MethodName)) ∈ mi_G := mi_t1 116 rfl rfl
theorem mw_149 : (Jvm.Cond.code ({ cls := "jdk/internal/util/ArraysSupport", name := "hugeLength", desc := "(II)I" } : Jvm.MethodName) prog_29_method_28_code (3 : Nat) (Option.some Jvm.ClassFile.FieldType.int)) ∈ mi_G := mi_t1 117 rfl rfl
theorem mw_150 : (Jvm.Cond.methodLink "java/util/ArrayList" (66 : Nat) ({ cls := "java/util/Arrays", name := "copyOf", desc := "([Ljava/lang/Object;I)[Ljava/lang/Object;" } : Jvm.MethodName)) ∈ mi_G := mi_t1 118 rfl rfl
theorem mw_151 : (Jvm.Cond.static ({ cls := "java/util/Arrays", name := "copyOf", desc := "([Ljava/lang/Object;I)[Ljava/lang/Object;" } : Jvm.MethodName)) ∈ mi_G := mi_t1 119 rfl rfl
theorem mw_152 : (Jvm.Cond.code ({ cls := "java/util/Arrays", name := "copyOf", desc := "([Ljava/lang/Object;I)[Ljava/lang/Object;" } : Jvm.MethodName) prog_23_method_119_code (2 : Nat) (Option.some (Jvm.ClassFile.FieldType.array (Jvm.ClassFile.FieldType.object "java/lang/Object")))) ∈ mi_G := mi_t1 120 rfl rfl
theorem mw_153 : (Jvm.Cond.methodLink "java/util/Arrays" (86 : Nat) ({ cls := "java/lang/Object", name := "getClass", desc := "()Ljava/lang/Class;" } : Jvm.MethodName)) ∈ mi_G := mi_t1 121 rfl rfl
theorem mw_154 : (Jvm.Cond.instanceMethod ({ cls := "java/lang/Object", name := "getClass", desc := "()Ljava/lang/Class;" } : Jvm.MethodName)) ∈ mi_G := mi_t1 122 rfl rfl
theorem mw_155 : (Jvm.Cond.sameMethod "java/lang/Object" "java/lang/Object" "getClass" "()Ljava/lang/Class;") ∈ mi_G := mi_t1 123 rfl rfl
theorem mw_156 : (Jvm.Cond.selects "Voxelmint" ({ cls := "java/lang/Object", name := "getClass", desc := "()Ljava/lang/Class;" } : Jvm.MethodName) ({ cls := "java/lang/Object", name := "getClass", desc := "()Ljava/lang/Class;" } : Jvm.MethodName)) ∈ mi_G := mi_t1 124 rfl rfl
theorem mw_157 : (Jvm.Cond.selects "Voxelmint$Coin" ({ cls := "java/lang/Object", name := "getClass", desc := "()Ljava/lang/Class;" } : Jvm.MethodName) ({ cls := "java/lang/Object", name := "getClass", desc := "()Ljava/lang/Class;" } : Jvm.MethodName)) ∈ mi_G := mi_t1 125 rfl rfl
theorem mw_158 : (Jvm.Cond.selects "Voxelmint$Die" ({ cls := "java/lang/Object", name := "getClass", desc := "()Ljava/lang/Class;" } : Jvm.MethodName) ({ cls := "java/lang/Object", name := "getClass", desc := "()Ljava/lang/Class;" } : Jvm.MethodName)) ∈ mi_G := mi_t1 126 rfl rfl
theorem mw_159 : (Jvm.Cond.selects "Voxelmint$PieceFinder" ({ cls := "java/lang/Object", name := "getClass", desc := "()Ljava/lang/Class;" } : Jvm.MethodName) ({ cls := "java/lang/Object", name := "getClass", desc := "()Ljava/lang/Class;" } : Jvm.MethodName)) ∈ mi_G := mi_t1 127 rfl rfl
theorem mw_160 : (Jvm.Cond.selects "Voxelmint$State" ({ cls := "java/lang/Object", name := "getClass", desc := "()Ljava/lang/Class;" } : Jvm.MethodName) ({ cls := "java/lang/Object", name := "getClass", desc := "()Ljava/lang/Class;" } : Jvm.MethodName)) ∈ mi_G := mi_t1 128 rfl rfl
theorem mw_161 : (Jvm.Cond.selects "VoxelmintModel" ({ cls := "java/lang/Object", name := "getClass", desc := "()Ljava/lang/Class;" } : Jvm.MethodName) ({ cls := "java/lang/Object", name := "getClass", desc := "()Ljava/lang/Class;" } : Jvm.MethodName)) ∈ mi_G := mi_t1 129 rfl rfl
theorem mw_162 : (Jvm.Cond.selects "java/lang/IllegalArgumentException" ({ cls := "java/lang/Object", name := "getClass", desc := "()Ljava/lang/Class;" } : Jvm.MethodName) ({ cls := "java/lang/Object", name := "getClass", desc := "()Ljava/lang/Class;" } : Jvm.MethodName)) ∈ mi_G := mi_t1 130 rfl rfl
theorem mw_163 : (Jvm.Cond.selects "java/lang/IllegalStateException" ({ cls := "java/lang/Object", name := "getClass", desc := "()Ljava/lang/Class;" } : Jvm.MethodName) ({ cls := "java/lang/Object", name := "getClass", desc := "()Ljava/lang/Class;" } : Jvm.MethodName)) ∈ mi_G := mi_t1 131 rfl rfl
theorem mw_164 : (Jvm.Cond.selects "java/lang/IndexOutOfBoundsException" ({ cls := "java/lang/Object", name := "getClass", desc := "()Ljava/lang/Class;" } : Jvm.MethodName) ({ cls := "java/lang/Object", name := "getClass", desc := "()Ljava/lang/Class;" } : Jvm.MethodName)) ∈ mi_G := mi_t1 132 rfl rfl
theorem mw_165 : (Jvm.Cond.selects "java/util/ArrayList" ({ cls := "java/lang/Object", name := "getClass", desc := "()Ljava/lang/Class;" } : Jvm.MethodName) ({ cls := "java/lang/Object", name := "getClass", desc := "()Ljava/lang/Class;" } : Jvm.MethodName)) ∈ mi_G := mi_t1 133 rfl rfl
theorem mw_166 : (Jvm.Cond.native ({ cls := "java/lang/Object", name := "getClass", desc := "()Ljava/lang/Class;" } : Jvm.MethodName)) ∈ mi_G := mi_t1 134 rfl rfl
theorem mw_167 : (Jvm.Cond.methodLink "java/util/Arrays" (300 : Nat) ({ cls := "java/util/Arrays", name := "copyOf", desc := "([Ljava/lang/Object;ILjava/lang/Class;)[Ljava/lang/Object;" } : Jvm.MethodName)) ∈ mi_G := mi_t1 135 rfl rfl
theorem mw_168 : (Jvm.Cond.static ({ cls := "java/util/Arrays", name := "copyOf", desc := "([Ljava/lang/Object;ILjava/lang/Class;)[Ljava/lang/Object;" } : Jvm.MethodName)) ∈ mi_G := mi_t1 136 rfl rfl
theorem mw_169 : (Jvm.Cond.code ({ cls := "java/util/Arrays", name := "copyOf", desc := "([Ljava/lang/Object;ILjava/lang/Class;)[Ljava/lang/Object;" } : Jvm.MethodName) prog_23_method_120_code (4 : Nat) (Option.some (Jvm.ClassFile.FieldType.array (Jvm.ClassFile.FieldType.object "java/lang/Object")))) ∈ mi_G := mi_t1 137 rfl rfl
theorem mw_170 : (Jvm.Cond.classLink "java/util/Arrays" (110 : Nat) "[Ljava/lang/Object;") ∈ mi_G := mi_t1 138 rfl rfl
theorem mw_172 : (Jvm.Cond.classLink "java/util/Arrays" (2 : Nat) "java/lang/Object") ∈ mi_G := mi_t1 140 rfl rfl
theorem mw_173 : (Jvm.Cond.methodLink "java/util/Arrays" (304 : Nat) ({ cls := "java/lang/Math", name := "min", desc := "(II)I" } : Jvm.MethodName)) ∈ mi_G := mi_t1 141 rfl rfl
theorem mw_174 : (Jvm.Cond.static ({ cls := "java/lang/Math", name := "min", desc := "(II)I" } : Jvm.MethodName)) ∈ mi_G := mi_t1 142 rfl rfl
theorem mw_175 : (Jvm.Cond.code ({ cls := "java/lang/Math", name := "min", desc := "(II)I" } : Jvm.MethodName) prog_15_method_69_code (2 : Nat) (Option.some Jvm.ClassFile.FieldType.int)) ∈ mi_G := mi_t1 143 rfl rfl
theorem mw_176 : (Jvm.Cond.methodLink "java/util/Arrays" (150 : Nat) ({ cls := "java/lang/System", name := "arraycopy", desc := "(Ljava/lang/Object;ILjava/lang/Object;II)V" } : Jvm.MethodName)) ∈ mi_G := mi_t1 144 rfl rfl
theorem mw_177 : (Jvm.Cond.static ({ cls := "java/lang/System", name := "arraycopy", desc := "(Ljava/lang/Object;ILjava/lang/Object;II)V" } : Jvm.MethodName)) ∈ mi_G := mi_t1 145 rfl rfl
theorem mw_178 : (Jvm.Cond.native ({ cls := "java/lang/System", name := "arraycopy", desc := "(Ljava/lang/Object;ILjava/lang/Object;II)V" } : Jvm.MethodName)) ∈ mi_G := mi_t1 146 rfl rfl
theorem mw_179 : (Jvm.Cond.methodLink "java/util/ArrayList" (79 : Nat) ({ cls := "java/lang/Math", name := "max", desc := "(II)I" } : Jvm.MethodName)) ∈ mi_G := mi_t1 147 rfl rfl
theorem mw_180 : (Jvm.Cond.classLink "java/util/ArrayList" (7 : Nat) "java/lang/Object") ∈ mi_G := mi_t1 148 rfl rfl
theorem mw_181 : (Jvm.Cond.fieldLink "Voxelmint" (12 : Nat) "Voxelmint" "history" "Ljava/util/ArrayList;") ∈ mi_G := mi_t1 149 rfl rfl
theorem mw_182 : (Jvm.Cond.fieldLink "Voxelmint" (16 : Nat) "Voxelmint" "cutDies" "Ljava/util/ArrayList;") ∈ mi_G := mi_t1 150 rfl rfl
theorem mw_183 : (Jvm.Cond.fieldLink "Voxelmint" (19 : Nat) "Voxelmint" "madeCoins" "Ljava/util/ArrayList;") ∈ mi_G := mi_t1 151 rfl rfl
theorem mw_184 : (Jvm.Cond.fieldLink "Voxelmint" (25 : Nat) "Voxelmint" "pieceFinder" "LVoxelmint$PieceFinder;") ∈ mi_G := mi_t1 152 rfl rfl
theorem mw_185 : (Jvm.Cond.fieldLink "Voxelmint" (34 : Nat) "Voxelmint" "now" "LVoxelmint$State;") ∈ mi_G := mi_t1 153 rfl rfl
theorem mw_186 : (Jvm.Cond.laysFinal "Voxelmint" "Voxelmint" "history" "Ljava/util/ArrayList;") ∈ mi_G := mi_t1 154 rfl rfl
theorem mw_188 : (Jvm.Cond.laysFinal "Voxelmint" "Voxelmint" "cutDies" "Ljava/util/ArrayList;") ∈ mi_G := mi_t1 156 rfl rfl
theorem mw_190 : (Jvm.Cond.laysFinal "Voxelmint" "Voxelmint" "madeCoins" "Ljava/util/ArrayList;") ∈ mi_G := mi_t1 158 rfl rfl
theorem mw_192 : (Jvm.Cond.laysFinal "Voxelmint" "Voxelmint" "pieceFinder" "LVoxelmint$PieceFinder;") ∈ mi_G := mi_t1 160 rfl rfl
theorem mw_194 : (Jvm.Cond.lays "Voxelmint" "Voxelmint" "now" "LVoxelmint$State;") ∈ mi_G := mi_t1 162 rfl rfl
theorem mw_197 : (Jvm.Cond.methodLink "VoxelmintLaw" (107 : Nat) ({ cls := "Voxelmint", name := "blocks", desc := "()I" } : Jvm.MethodName)) ∈ mi_G := mi_t1 165 rfl rfl
theorem mw_198 : (Jvm.Cond.instanceMethod ({ cls := "Voxelmint", name := "blocks", desc := "()I" } : Jvm.MethodName)) ∈ mi_G := mi_t1 166 rfl rfl
theorem mw_199 : (Jvm.Cond.selects "Voxelmint" ({ cls := "Voxelmint", name := "blocks", desc := "()I" } : Jvm.MethodName) ({ cls := "Voxelmint", name := "blocks", desc := "()I" } : Jvm.MethodName)) ∈ mi_G := mi_t1 167 rfl rfl
theorem mw_200 : (Jvm.Cond.code ({ cls := "Voxelmint", name := "blocks", desc := "()I" } : Jvm.MethodName) prog_1_method_8_code (3 : Nat) (Option.some Jvm.ClassFile.FieldType.int)) ∈ mi_G := mi_t1 168 rfl rfl
theorem mw_201 : (Jvm.Cond.methodLink "Voxelmint" (90 : Nat) ({ cls := "Voxelmint$State", name := "countBlocksByRuns", desc := "(I)I" } : Jvm.MethodName)) ∈ mi_G := mi_t1 169 rfl rfl
theorem mw_202 : (Jvm.Cond.instanceMethod ({ cls := "Voxelmint$State", name := "countBlocksByRuns", desc := "(I)I" } : Jvm.MethodName)) ∈ mi_G := mi_t1 170 rfl rfl
theorem mw_203 : (Jvm.Cond.selects "Voxelmint$State" ({ cls := "Voxelmint$State", name := "countBlocksByRuns", desc := "(I)I" } : Jvm.MethodName) ({ cls := "Voxelmint$State", name := "countBlocksByRuns", desc := "(I)I" } : Jvm.MethodName)) ∈ mi_G := mi_t1 171 rfl rfl
theorem mw_204 : (Jvm.Cond.code ({ cls := "Voxelmint$State", name := "countBlocksByRuns", desc := "(I)I" } : Jvm.MethodName) prog_5_method_7_code (5 : Nat) (Option.some Jvm.ClassFile.FieldType.int)) ∈ mi_G := mi_t1 172 rfl rfl
theorem mw_205 : (Jvm.Cond.methodLink "Voxelmint$State" (34 : Nat) ({ cls := "Voxelmint$State", name := "endsRun", desc := "(II)Z" } : Jvm.MethodName)) ∈ mi_G := mi_t1 173 rfl rfl
theorem mw_207 : (Jvm.Cond.instanceMethod ({ cls := "Voxelmint$State", name := "endsRun", desc := "(II)Z" } : Jvm.MethodName)) ∈ mi_G := mi_t1 175 rfl rfl
theorem mw_208 : (Jvm.Cond.code ({ cls := "Voxelmint$State", name := "endsRun", desc := "(II)Z" } : Jvm.MethodName) prog_5_method_4_code (3 : Nat) (Option.some Jvm.ClassFile.FieldType.boolean)) ∈ mi_G := mi_t1 176 rfl rfl
theorem mw_209 : (Jvm.Cond.methodLink "Voxelmint$State" (30 : Nat) ({ cls := "Voxelmint$State", name := "kindAt", desc := "(II)I" } : Jvm.MethodName)) ∈ mi_G := mi_t1 177 rfl rfl
theorem mw_210 : (Jvm.Cond.instanceMethod ({ cls := "Voxelmint$State", name := "kindAt", desc := "(II)I" } : Jvm.MethodName)) ∈ mi_G := mi_t1 178 rfl rfl
theorem mw_211 : (Jvm.Cond.selects "Voxelmint$State" ({ cls := "Voxelmint$State", name := "kindAt", desc := "(II)I" } : Jvm.MethodName) ({ cls := "Voxelmint$State", name := "kindAt", desc := "(II)I" } : Jvm.MethodName)) ∈ mi_G := mi_t1 179 rfl rfl
theorem mw_212 : (Jvm.Cond.code ({ cls := "Voxelmint$State", name := "kindAt", desc := "(II)I" } : Jvm.MethodName) prog_5_method_2_code (3 : Nat) (Option.some Jvm.ClassFile.FieldType.int)) ∈ mi_G := mi_t1 180 rfl rfl
theorem mw_214 : (Jvm.Cond.static ({ cls := "Voxelmint", name := "isColumn", desc := "(I)Z" } : Jvm.MethodName)) ∈ mi_G := mi_t1 182 rfl rfl
theorem mw_215 : (Jvm.Cond.code ({ cls := "Voxelmint", name := "isColumn", desc := "(I)Z" } : Jvm.MethodName) prog_1_method_31_code (1 : Nat) (Option.some Jvm.ClassFile.FieldType.boolean)) ∈ mi_G := mi_t1 183 rfl rfl
theorem mw_217 : (Jvm.Cond.static ({ cls := "Voxelmint", name := "isLevel", desc := "(I)Z" } : Jvm.MethodName)) ∈ mi_G := mi_t1 185 rfl rfl
theorem mw_218 : (Jvm.Cond.code ({ cls := "Voxelmint", name := "isLevel", desc := "(I)Z" } : Jvm.MethodName) prog_1_method_32_code (1 : Nat) (Option.some Jvm.ClassFile.FieldType.boolean)) ∈ mi_G := mi_t1 186 rfl rfl
theorem mw_219 : (Jvm.Cond.methodLink "VoxelmintLaw" (111 : Nat) ({ cls := "Voxelmint", name := "blocksOneByOne", desc := "()I" } : Jvm.MethodName)) ∈ mi_G := mi_t1 187 rfl rfl
theorem mw_220 : (Jvm.Cond.instanceMethod ({ cls := "Voxelmint", name := "blocksOneByOne", desc := "()I" } : Jvm.MethodName)) ∈ mi_G := mi_t1 188 rfl rfl
theorem mw_221 : (Jvm.Cond.selects "Voxelmint" ({ cls := "Voxelmint", name := "blocksOneByOne", desc := "()I" } : Jvm.MethodName) ({ cls := "Voxelmint", name := "blocksOneByOne", desc := "()I" } : Jvm.MethodName)) ∈ mi_G := mi_t1 189 rfl rfl
theorem mw_222 : (Jvm.Cond.code ({ cls := "Voxelmint", name := "blocksOneByOne", desc := "()I" } : Jvm.MethodName) prog_1_method_9_code (4 : Nat) (Option.some Jvm.ClassFile.FieldType.int)) ∈ mi_G := mi_t1 190 rfl rfl
theorem mw_223 : (Jvm.Cond.methodLink "Voxelmint" (72 : Nat) ({ cls := "Voxelmint$State", name := "kindAt", desc := "(II)I" } : Jvm.MethodName)) ∈ mi_G := mi_t1 191 rfl rfl
theorem mw_224 : (Jvm.Cond.methodLink "VoxelmintLaw" (115 : Nat) ({ cls := "Voxelmint", name := "pieces", desc := "()I" } : Jvm.MethodName)) ∈ mi_G := mi_t1 192 rfl rfl
theorem mw_225 : (Jvm.Cond.instanceMethod ({ cls := "Voxelmint", name := "pieces", desc := "()I" } : Jvm.MethodName)) ∈ mi_G := mi_t1 193 rfl rfl
theorem mw_226 : (Jvm.Cond.selects "Voxelmint" ({ cls := "Voxelmint", name := "pieces", desc := "()I" } : Jvm.MethodName) ({ cls := "Voxelmint", name := "pieces", desc := "()I" } : Jvm.MethodName)) ∈ mi_G := mi_t1 194 rfl rfl
theorem mw_227 : (Jvm.Cond.code ({ cls := "Voxelmint", name := "pieces", desc := "()I" } : Jvm.MethodName) prog_1_method_10_code (1 : Nat) (Option.some Jvm.ClassFile.FieldType.int)) ∈ mi_G := mi_t1 195 rfl rfl
theorem mw_228 : (Jvm.Cond.methodLink "Voxelmint" (93 : Nat) ({ cls := "Voxelmint$PieceFinder", name := "countPieces", desc := "(LVoxelmint$State;)I" } : Jvm.MethodName)) ∈ mi_G := mi_t1 196 rfl rfl
theorem mw_229 : (Jvm.Cond.instanceMethod ({ cls := "Voxelmint$PieceFinder", name := "countPieces", desc := "(LVoxelmint$State;)I" } : Jvm.MethodName)) ∈ mi_G := mi_t1 197 rfl rfl
theorem mw_230 : (Jvm.Cond.selects "Voxelmint$PieceFinder" ({ cls := "Voxelmint$PieceFinder", name := "countPieces", desc := "(LVoxelmint$State;)I" } : Jvm.MethodName) ({ cls := "Voxelmint$PieceFinder", name := "countPieces", desc := "(LVoxelmint$State;)I" } : Jvm.MethodName)) ∈ mi_G := mi_t1 198 rfl rfl
theorem mw_231 : (Jvm.Cond.code ({ cls := "Voxelmint$PieceFinder", name := "countPieces", desc := "(LVoxelmint$State;)I" } : Jvm.MethodName) prog_4_method_2_code (6 : Nat) (Option.some Jvm.ClassFile.FieldType.int)) ∈ mi_G := mi_t1 199 rfl rfl
theorem mw_232 : (Jvm.Cond.methodLink "Voxelmint$PieceFinder" (18 : Nat) ({ cls := "java/util/Arrays", name := "fill", desc := "([II)V" } : Jvm.MethodName)) ∈ mi_G := mi_t1 200 rfl rfl
theorem mw_233 : (Jvm.Cond.static ({ cls := "java/util/Arrays", name := "fill", desc := "([II)V" } : Jvm.MethodName)) ∈ mi_G := mi_t1 201 rfl rfl
theorem mw_234 : (Jvm.Cond.code ({ cls := "java/util/Arrays", name := "fill", desc := "([II)V" } : Jvm.MethodName) prog_23_method_103_code (4 : Nat) (Option.none : Option Jvm.ClassFile.FieldType)) ∈ mi_G := mi_t1 202 rfl rfl
theorem mw_235 : (Jvm.Cond.methodLink "Voxelmint$PieceFinder" (28 : Nat) ({ cls := "Voxelmint$PieceFinder", name := "reach", desc := "(LVoxelmint$State;II)V" } : Jvm.MethodName)) ∈ mi_G := mi_t1 203 rfl rfl
theorem mw_237 : (Jvm.Cond.instanceMethod ({ cls := "Voxelmint$PieceFinder", name := "reach", desc := "(LVoxelmint$State;II)V" } : Jvm.MethodName)) ∈ mi_G := mi_t1 205 rfl rfl
theorem mw_238 : (Jvm.Cond.code ({ cls := "Voxelmint$PieceFinder", name := "reach", desc := "(LVoxelmint$State;II)V" } : Jvm.MethodName) prog_4_method_5_code (5 : Nat) (Option.none : Option Jvm.ClassFile.FieldType)) ∈ mi_G := mi_t1 206 rfl rfl
theorem mw_241 : (Jvm.Cond.methodLink "Voxelmint$PieceFinder" (46 : Nat) ({ cls := "Voxelmint$State", name := "kindAt", desc := "(II)I" } : Jvm.MethodName)) ∈ mi_G := mi_t1 209 rfl rfl
theorem mw_242 : (Jvm.Cond.methodLink "Voxelmint$PieceFinder" (32 : Nat) ({ cls := "Voxelmint$PieceFinder", name := "reachRestOfPiece", desc := "(LVoxelmint$State;I)V" } : Jvm.MethodName)) ∈ mi_G := mi_t1 210 rfl rfl
theorem mw_244 : (Jvm.Cond.instanceMethod ({ cls := "Voxelmint$PieceFinder", name := "reachRestOfPiece", desc := "(LVoxelmint$State;I)V" } : Jvm.MethodName)) ∈ mi_G := mi_t1 212 rfl rfl
theorem mw_245 : (Jvm.Cond.code ({ cls := "Voxelmint$PieceFinder", name := "reachRestOfPiece", desc := "(LVoxelmint$State;I)V" } : Jvm.MethodName) prog_4_method_3_code (4 : Nat) (Option.none : Option Jvm.ClassFile.FieldType)) ∈ mi_G := mi_t1 213 rfl rfl
theorem mw_246 : (Jvm.Cond.methodLink "Voxelmint$PieceFinder" (36 : Nat) ({ cls := "Voxelmint$PieceFinder", name := "reachTouching", desc := "(LVoxelmint$State;II)V" } : Jvm.MethodName)) ∈ mi_G := mi_t1 214 rfl rfl
theorem mw_248 : (Jvm.Cond.instanceMethod ({ cls := "Voxelmint$PieceFinder", name := "reachTouching", desc := "(LVoxelmint$State;II)V" } : Jvm.MethodName)) ∈ mi_G := mi_t1 216 rfl rfl
theorem mw_249 : (Jvm.Cond.code ({ cls := "Voxelmint$PieceFinder", name := "reachTouching", desc := "(LVoxelmint$State;II)V" } : Jvm.MethodName) prog_4_method_4_code (4 : Nat) (Option.none : Option Jvm.ClassFile.FieldType)) ∈ mi_G := mi_t1 217 rfl rfl
theorem mw_250 : (Jvm.Cond.methodLink "VoxelmintLaw" (122 : Nat) ({ cls := "Voxelmint", name := "state", desc := "()I" } : Jvm.MethodName)) ∈ mi_G := mi_t1 218 rfl rfl
theorem mw_251 : (Jvm.Cond.instanceMethod ({ cls := "Voxelmint", name := "state", desc := "()I" } : Jvm.MethodName)) ∈ mi_G := mi_t1 219 rfl rfl
theorem mw_252 : (Jvm.Cond.selects "Voxelmint" ({ cls := "Voxelmint", name := "state", desc := "()I" } : Jvm.MethodName) ({ cls := "Voxelmint", name := "state", desc := "()I" } : Jvm.MethodName)) ∈ mi_G := mi_t1 220 rfl rfl
theorem mw_253 : (Jvm.Cond.code ({ cls := "Voxelmint", name := "state", desc := "()I" } : Jvm.MethodName) prog_1_method_12_code (1 : Nat) (Option.some Jvm.ClassFile.FieldType.int)) ∈ mi_G := mi_t1 221 rfl rfl
theorem mw_254 : (Jvm.Cond.methodLink "VoxelmintLaw" (126 : Nat) ({ cls := "Voxelmint", name := "states", desc := "()I" } : Jvm.MethodName)) ∈ mi_G := mi_t1 222 rfl rfl
theorem mw_255 : (Jvm.Cond.instanceMethod ({ cls := "Voxelmint", name := "states", desc := "()I" } : Jvm.MethodName)) ∈ mi_G := mi_t1 223 rfl rfl
theorem mw_256 : (Jvm.Cond.selects "Voxelmint" ({ cls := "Voxelmint", name := "states", desc := "()I" } : Jvm.MethodName) ({ cls := "Voxelmint", name := "states", desc := "()I" } : Jvm.MethodName)) ∈ mi_G := mi_t1 224 rfl rfl
theorem mw_257 : (Jvm.Cond.code ({ cls := "Voxelmint", name := "states", desc := "()I" } : Jvm.MethodName) prog_1_method_13_code (1 : Nat) (Option.some Jvm.ClassFile.FieldType.int)) ∈ mi_G := mi_t1 225 rfl rfl
theorem mw_258 : (Jvm.Cond.methodLink "Voxelmint" (100 : Nat) ({ cls := "java/util/ArrayList", name := "size", desc := "()I" } : Jvm.MethodName)) ∈ mi_G := mi_t1 226 rfl rfl
theorem mw_259 : (Jvm.Cond.instanceMethod ({ cls := "java/util/ArrayList", name := "size", desc := "()I" } : Jvm.MethodName)) ∈ mi_G := mi_t1 227 rfl rfl
theorem mw_260 : (Jvm.Cond.selects "java/util/ArrayList" ({ cls := "java/util/ArrayList", name := "size", desc := "()I" } : Jvm.MethodName) ({ cls := "java/util/ArrayList", name := "size", desc := "()I" } : Jvm.MethodName)) ∈ mi_G := mi_t1 228 rfl rfl
theorem mw_261 : (Jvm.Cond.code ({ cls := "java/util/ArrayList", name := "size", desc := "()I" } : Jvm.MethodName) prog_22_method_8_code (1 : Nat) (Option.some Jvm.ClassFile.FieldType.int)) ∈ mi_G := mi_t1 229 rfl rfl
theorem mw_262 : (Jvm.Cond.methodLink "VoxelmintLaw" (140 : Nat) ({ cls := "Voxelmint", name := "branches", desc := "()I" } : Jvm.MethodName)) ∈ mi_G := mi_t1 230 rfl rfl
theorem mw_263 : (Jvm.Cond.instanceMethod ({ cls := "Voxelmint", name := "branches", desc := "()I" } : Jvm.MethodName)) ∈ mi_G := mi_t1 231 rfl rfl
theorem mw_264 : (Jvm.Cond.selects "Voxelmint" ({ cls := "Voxelmint", name := "branches", desc := "()I" } : Jvm.MethodName) ({ cls := "Voxelmint", name := "branches", desc := "()I" } : Jvm.MethodName)) ∈ mi_G := mi_t1 232 rfl rfl
theorem mw_265 : (Jvm.Cond.code ({ cls := "Voxelmint", name := "branches", desc := "()I" } : Jvm.MethodName) prog_1_method_17_code (3 : Nat) (Option.some Jvm.ClassFile.FieldType.int)) ∈ mi_G := mi_t1 233 rfl rfl
theorem mw_266 : (Jvm.Cond.methodLink "Voxelmint" (107 : Nat) ({ cls := "java/util/ArrayList", name := "get", desc := "(I)Ljava/lang/Object;" } : Jvm.MethodName)) ∈ mi_G := mi_t1 234 rfl rfl
theorem mw_267 : (Jvm.Cond.instanceMethod ({ cls := "java/util/ArrayList", name := "get", desc := "(I)Ljava/lang/Object;" } : Jvm.MethodName)) ∈ mi_G := mi_t1 235 rfl rfl
theorem mw_268 : (Jvm.Cond.selects "java/util/ArrayList" ({ cls := "java/util/ArrayList", name := "get", desc := "(I)Ljava/lang/Object;" } : Jvm.MethodName) ({ cls := "java/util/ArrayList", name := "get", desc := "(I)Ljava/lang/Object;" } : Jvm.MethodName)) ∈ mi_G := mi_t1 236 rfl rfl
theorem mw_269 : (Jvm.Cond.code ({ cls := "java/util/ArrayList", name := "get", desc := "(I)Ljava/lang/Object;" } : Jvm.MethodName) prog_22_method_20_code (2 : Nat) (Option.some (Jvm.ClassFile.FieldType.object "java/lang/Object"))) ∈ mi_G := mi_t1 237 rfl rfl
theorem mw_270 : (Jvm.Cond.methodLink "java/util/ArrayList" (118 : Nat) ({ cls := "java/util/Objects", name := "checkIndex", desc := "(II)I" } : Jvm.MethodName)) ∈ mi_G := mi_t1 238 rfl rfl
theorem mw_271 : (Jvm.Cond.static ({ cls := "java/util/Objects", name := "checkIndex", desc := "(II)I" } : Jvm.MethodName)) ∈ mi_G := mi_t1 239 rfl rfl
theorem mw_272 : (Jvm.Cond.code ({ cls := "java/util/Objects", name := "checkIndex", desc := "(II)I" } : Jvm.MethodName) prog_26_method_17_code (2 : Nat) (Option.some Jvm.ClassFile.FieldType.int)) ∈ mi_G := mi_t2 0 rfl rfl
theorem mw_273 : (Jvm.Cond.methodLink "java/util/Objects" (105 : Nat) ({ cls := "jdk/internal/util/Preconditions", name := "checkIndex", desc := "(IILjava/util/function/BiFunction;)I" } : Jvm.MethodName)) ∈ mi_G := mi_t2 1 rfl rfl
theorem mw_274 : (Jvm.Cond.static ({ cls := "jdk/internal/util/Preconditions", name := "checkIndex", desc := "(IILjava/util/function/BiFunction;)I" } : Jvm.MethodName)) ∈ mi_G := mi_t2 2 rfl rfl
theorem mw_275 : (Jvm.Cond.code ({ cls := "jdk/internal/util/Preconditions", name := "checkIndex", desc := "(IILjava/util/function/BiFunction;)I" } : Jvm.MethodName) prog_30_method_11_code (3 : Nat) (Option.some Jvm.ClassFile.FieldType.int)) ∈ mi_G := mi_t2 3 rfl rfl
theorem mw_276 : (Jvm.Cond.methodLink "java/util/ArrayList" (123 : Nat) ({ cls := "java/util/ArrayList", name := "elementData", desc := "(I)Ljava/lang/Object;" } : Jvm.MethodName)) ∈ mi_G := mi_t2 4 rfl rfl
theorem mw_277 : (Jvm.Cond.instanceMethod ({ cls := "java/util/ArrayList", name := "elementData", desc := "(I)Ljava/lang/Object;" } : Jvm.MethodName)) ∈ mi_G := mi_t2 5 rfl rfl
theorem mw_278 : (Jvm.Cond.selects "java/util/ArrayList" ({ cls := "java/util/ArrayList", name := "elementData", desc := "(I)Ljava/lang/Object;" } : Jvm.MethodName) ({ cls := "java/util/ArrayList", name := "elementData", desc := "(I)Ljava/lang/Object;" } : Jvm.MethodName)) ∈ mi_G := mi_t2 6 rfl rfl
theorem mw_279 : (Jvm.Cond.code ({ cls := "java/util/ArrayList", name := "elementData", desc := "(I)Ljava/lang/Object;" } : Jvm.MethodName) prog_22_method_18_code (2 : Nat) (Option.some (Jvm.ClassFile.FieldType.object "java/lang/Object"))) ∈ mi_G := mi_t2 7 rfl rfl
theorem mw_280 : (Jvm.Cond.methodLink "VoxelmintLaw" (81 : Nat) ({ cls := "VoxelmintLaw", name := "set", desc := "(LVoxelmint;III[J)I" } : Jvm.MethodName)) ∈ mi_G := mi_t2 8 rfl rfl
theorem mw_281 : (Jvm.Cond.static ({ cls := "VoxelmintLaw", name := "set", desc := "(LVoxelmint;III[J)I" } : Jvm.MethodName)) ∈ mi_G := mi_t2 9 rfl rfl
theorem mw_282 : (Jvm.Cond.codeWith ({ cls := "VoxelmintLaw", name := "set", desc := "(LVoxelmint;III[J)I" } : Jvm.MethodName) method_3_code (6 : Nat) (Option.some Jvm.ClassFile.FieldType.int) [((0 : Nat), (12 : Nat), (15 : Nat), (13 : Nat)), ((0 : Nat), (12 : Nat), (19 : Nat), (15 : Nat)), ((0 : Nat), (12 : Nat), (23 : Nat), (17 : Nat))]) ∈ mi_G := mi_t2 10 rfl rfl
theorem mw_283 : (Jvm.Cond.classLink "VoxelmintLaw" (13 : Nat) "java/lang/IndexOutOfBoundsException") ∈ mi_G := mi_t2 11 rfl rfl
theorem mw_284 : (Jvm.Cond.classLink "VoxelmintLaw" (15 : Nat) "java/lang/IllegalArgumentException") ∈ mi_G := mi_t2 12 rfl rfl
theorem mw_285 : (Jvm.Cond.classLink "VoxelmintLaw" (17 : Nat) "java/lang/IllegalStateException") ∈ mi_G := mi_t2 13 rfl rfl
theorem mw_286 : (Jvm.Cond.methodLink "VoxelmintLaw" (7 : Nat) ({ cls := "Voxelmint", name := "set", desc := "(III)I" } : Jvm.MethodName)) ∈ mi_G := mi_t2 14 rfl rfl
theorem mw_287 : (Jvm.Cond.instanceMethod ({ cls := "Voxelmint", name := "set", desc := "(III)I" } : Jvm.MethodName)) ∈ mi_G := mi_t2 15 rfl rfl
theorem mw_288 : (Jvm.Cond.selects "Voxelmint" ({ cls := "Voxelmint", name := "set", desc := "(III)I" } : Jvm.MethodName) ({ cls := "Voxelmint", name := "set", desc := "(III)I" } : Jvm.MethodName)) ∈ mi_G := mi_t2 16 rfl rfl
theorem mw_289 : (Jvm.Cond.code ({ cls := "Voxelmint", name := "set", desc := "(III)I" } : Jvm.MethodName) prog_1_method_2_code (4 : Nat) (Option.some Jvm.ClassFile.FieldType.int)) ∈ mi_G := mi_t2 17 rfl rfl
theorem mw_290 : (Jvm.Cond.methodLink "Voxelmint" (42 : Nat) ({ cls := "Voxelmint", name := "checkColumn", desc := "(I)V" } : Jvm.MethodName)) ∈ mi_G := mi_t2 18 rfl rfl
theorem mw_291 : (Jvm.Cond.static ({ cls := "Voxelmint", name := "checkColumn", desc := "(I)V" } : Jvm.MethodName)) ∈ mi_G := mi_t2 19 rfl rfl
theorem mw_292 : (Jvm.Cond.code ({ cls := "Voxelmint", name := "checkColumn", desc := "(I)V" } : Jvm.MethodName) prog_1_method_33_code (1 : Nat) (Option.none : Option Jvm.ClassFile.FieldType)) ∈ mi_G := mi_t2 20 rfl rfl
theorem mw_293 : (Jvm.Cond.methodLink "Voxelmint" (209 : Nat) ({ cls := "Voxelmint", name := "isColumn", desc := "(I)Z" } : Jvm.MethodName)) ∈ mi_G := mi_t2 21 rfl rfl
theorem mw_294 : (Jvm.Cond.classLink "Voxelmint" (80 : Nat) "java/lang/IndexOutOfBoundsException") ∈ mi_G := mi_t2 22 rfl rfl
theorem mw_295 : (Jvm.Cond.instantiable "java/lang/IndexOutOfBoundsException" (6 : Nat)) ∈ mi_G := mi_t2 23 rfl rfl
theorem mw_303 : (Jvm.Cond.selects "java/lang/IndexOutOfBoundsException" ({ cls := "java/lang/Throwable", name := "fillInStackTrace", desc := "(I)Ljava/lang/Throwable;" } : Jvm.MethodName) ({ cls := "java/lang/Throwable", name := "fillInStackTrace", desc := "(I)Ljava/lang/Throwable;" } : Jvm.MethodName)) ∈ mi_G := mi_t2 31 rfl rfl
theorem mw_304 : (Jvm.Cond.selects "java/lang/IndexOutOfBoundsException" ({ cls := "java/lang/Throwable", name := "fillInStackTrace", desc := "()Ljava/lang/Throwable;" } : Jvm.MethodName) ({ cls := "java/lang/Throwable", name := "fillInStackTrace", desc := "()Ljava/lang/Throwable;" } : Jvm.MethodName)) ∈ mi_G := mi_t2 32 rfl rfl
theorem mw_305 : (Jvm.Cond.lays "java/lang/IndexOutOfBoundsException" "java/lang/Throwable" "cause" "Ljava/lang/Throwable;") ∈ mi_G := mi_t2 33 rfl rfl
theorem mw_306 : (Jvm.Cond.lays "java/lang/Throwable" "java/lang/Throwable" "cause" "Ljava/lang/Throwable;") ∈ mi_G := mi_t2 34 rfl rfl
theorem mw_307 : (Jvm.Cond.lays "java/lang/IndexOutOfBoundsException" "java/lang/Throwable" "stackTrace" "[Ljava/lang/StackTraceElement;") ∈ mi_G := mi_t2 35 rfl rfl
theorem mw_308 : (Jvm.Cond.lays "java/lang/Throwable" "java/lang/Throwable" "stackTrace" "[Ljava/lang/StackTraceElement;") ∈ mi_G := mi_t2 36 rfl rfl
theorem mw_309 : (Jvm.Cond.lays "java/lang/IndexOutOfBoundsException" "java/lang/Throwable" "suppressedExceptions" "Ljava/util/List;") ∈ mi_G := mi_t2 37 rfl rfl
theorem mw_310 : (Jvm.Cond.lays "java/lang/Throwable" "java/lang/Throwable" "suppressedExceptions" "Ljava/util/List;") ∈ mi_G := mi_t2 38 rfl rfl
theorem mw_311 : (Jvm.Cond.lays "java/lang/IndexOutOfBoundsException" "java/lang/Throwable" "detailMessage" "Ljava/lang/String;") ∈ mi_G := mi_t2 39 rfl rfl
theorem mw_312 : (Jvm.Cond.lays "java/lang/Throwable" "java/lang/Throwable" "detailMessage" "Ljava/lang/String;") ∈ mi_G := mi_t2 40 rfl rfl
theorem mw_313 : (Jvm.Cond.lays "java/lang/IndexOutOfBoundsException" "java/lang/Throwable" "backtrace" "Ljava/lang/Object;") ∈ mi_G := mi_t2 41 rfl rfl
theorem mw_314 : (Jvm.Cond.lays "java/lang/Throwable" "java/lang/Throwable" "backtrace" "Ljava/lang/Object;") ∈ mi_G := mi_t2 42 rfl rfl
theorem mw_315 : (Jvm.Cond.fieldLink "java/lang/Throwable" (198 : Nat) "java/lang/Throwable" "backtrace" "Ljava/lang/Object;") ∈ mi_G := mi_t2 43 rfl rfl
theorem mw_317 : (Jvm.Cond.instanceMethod ({ cls := "java/lang/Throwable", name := "<init>", desc := "()V" } : Jvm.MethodName)) ∈ mi_G := mi_t2 45 rfl rfl
theorem mw_318 : (Jvm.Cond.code ({ cls := "java/lang/Throwable", name := "<init>", desc := "()V" } : Jvm.MethodName) prog_19_method_1_code (1 : Nat) (Option.none : Option Jvm.ClassFile.FieldType)) ∈ mi_G := mi_t2 46 rfl rfl
theorem mw_319 : (Jvm.Cond.methodLink "java/lang/Throwable" (1 : Nat) ({ cls := "java/lang/Object", name := "<init>", desc := "()V" } : Jvm.MethodName)) ∈ mi_G := mi_t2 47 rfl rfl
theorem mw_320 : (Jvm.Cond.fieldLink "java/lang/Throwable" (13 : Nat) "java/lang/Throwable" "UNASSIGNED_STACK" "[Ljava/lang/StackTraceElement;") ∈ mi_G := mi_t2 48 rfl rfl
theorem mw_322 : (Jvm.Cond.fieldLink "java/lang/Throwable" (20 : Nat) "java/lang/Throwable" "SUPPRESSED_SENTINEL" "Ljava/util/List;") ∈ mi_G := mi_t2 50 rfl rfl
theorem mw_324 : (Jvm.Cond.methodLink "java/lang/Throwable" (27 : Nat) ({ cls := "java/lang/Throwable", name := "fillInStackTrace", desc := "()Ljava/lang/Throwable;" } : Jvm.MethodName)) ∈ mi_G := mi_t2 52 rfl rfl
theorem mw_325 : (Jvm.Cond.instanceMethod ({ cls := "java/lang/Throwable", name := "fillInStackTrace", desc := "()Ljava/lang/Throwable;" } : Jvm.MethodName)) ∈ mi_G := mi_t2 53 rfl rfl
theorem mw_326 : (Jvm.Cond.sameMethod "java/lang/Throwable" "java/lang/Throwable" "fillInStackTrace" "()Ljava/lang/Throwable;") ∈ mi_G := mi_t2 54 rfl rfl
theorem mw_327 : (Jvm.Cond.selects "java/lang/IllegalArgumentException" ({ cls := "java/lang/Throwable", name := "fillInStackTrace", desc := "()Ljava/lang/Throwable;" } : Jvm.MethodName) ({ cls := "java/lang/Throwable", name := "fillInStackTrace", desc := "()Ljava/lang/Throwable;" } : Jvm.MethodName)) ∈ mi_G := mi_t2 55 rfl rfl
theorem mw_328 : (Jvm.Cond.selects "java/lang/IllegalStateException" ({ cls := "java/lang/Throwable", name := "fillInStackTrace", desc := "()Ljava/lang/Throwable;" } : Jvm.MethodName) ({ cls := "java/lang/Throwable", name := "fillInStackTrace", desc := "()Ljava/lang/Throwable;" } : Jvm.MethodName)) ∈ mi_G := mi_t2 56 rfl rfl
theorem mw_329 : (Jvm.Cond.codeSync ({ cls := "java/lang/Throwable", name := "fillInStackTrace", desc := "()Ljava/lang/Throwable;" } : Jvm.MethodName) prog_19_method_18_code (1 : Nat) (Option.some (Jvm.ClassFile.FieldType.object "java/lang/Throwable"))) ∈ mi_G := mi_t2 57 rfl rfl
theorem mw_330 : (Jvm.Cond.methodLink "java/lang/Throwable" (202 : Nat) ({ cls := "java/lang/Throwable", name := "fillInStackTrace", desc := "(I)Ljava/lang/Throwable;" } : Jvm.MethodName)) ∈ mi_G := mi_t2 58 rfl rfl
theorem mw_332 : (Jvm.Cond.instanceMethod ({ cls := "java/lang/Throwable", name := "fillInStackTrace", desc := "(I)Ljava/lang/Throwable;" } : Jvm.MethodName)) ∈ mi_G := mi_t2 60 rfl rfl
theorem mw_333 : (Jvm.Cond.instantiable "java/lang/Throwable" (6 : Nat)) ∈ mi_G := mi_t2 61 rfl rfl
theorem mw_334 : (Jvm.Cond.native ({ cls := "java/lang/Throwable", name := "fillInStackTrace", desc := "(I)Ljava/lang/Throwable;" } : Jvm.MethodName)) ∈ mi_G := mi_t2 62 rfl rfl
theorem mw_336 : (Jvm.Cond.methodLink "Voxelmint" (84 : Nat) ({ cls := "java/lang/IndexOutOfBoundsException", name := "<init>", desc := "(Ljava/lang/String;)V" } : Jvm.MethodName)) ∈ mi_G := mi_t2 64 rfl rfl
theorem mw_337 : (Jvm.Cond.instanceMethod ({ cls := "java/lang/IndexOutOfBoundsException", name := "<init>", desc := "(Ljava/lang/String;)V" } : Jvm.MethodName)) ∈ mi_G := mi_t2 65 rfl rfl
theorem mw_338 : (Jvm.Cond.code ({ cls := "java/lang/IndexOutOfBoundsException", name := "<init>", desc := "(Ljava/lang/String;)V" } : Jvm.MethodName) prog_13_method_2_code (2 : Nat) (Option.none : Option Jvm.ClassFile.FieldType)) ∈ mi_G := mi_t2 66 rfl rfl
theorem mw_339 : (Jvm.Cond.methodLink "java/lang/IndexOutOfBoundsException" (7 : Nat) ({ cls := "java/lang/RuntimeException", name := "<init>", desc := "(Ljava/lang/String;)V" } : Jvm.MethodName)) ∈ mi_G := mi_t2 67 rfl rfl
theorem mw_340 : (Jvm.Cond.instanceMethod ({ cls := "java/lang/RuntimeException", name := "<init>", desc := "(Ljava/lang/String;)V" } : Jvm.MethodName)) ∈ mi_G := mi_t2 68 rfl rfl
theorem mw_341 : (Jvm.Cond.code ({ cls := "java/lang/RuntimeException", name := "<init>", desc := "(Ljava/lang/String;)V" } : Jvm.MethodName) prog_16_method_2_code (2 : Nat) (Option.none : Option Jvm.ClassFile.FieldType)) ∈ mi_G := mi_t2 69 rfl rfl
theorem mw_342 : (Jvm.Cond.methodLink "java/lang/RuntimeException" (7 : Nat) ({ cls := "java/lang/Exception", name := "<init>", desc := "(Ljava/lang/String;)V" } : Jvm.MethodName)) ∈ mi_G := mi_t2 70 rfl rfl
theorem mw_343 : (Jvm.Cond.instanceMethod ({ cls := "java/lang/Exception", name := "<init>", desc := "(Ljava/lang/String;)V" } : Jvm.MethodName)) ∈ mi_G := mi_t2 71 rfl rfl
theorem mw_344 : (Jvm.Cond.code ({ cls := "java/lang/Exception", name := "<init>", desc := "(Ljava/lang/String;)V" } : Jvm.MethodName) prog_10_method_2_code (2 : Nat) (Option.none : Option Jvm.ClassFile.FieldType)) ∈ mi_G := mi_t2 72 rfl rfl
theorem mw_345 : (Jvm.Cond.methodLink "java/lang/Exception" (7 : Nat) ({ cls := "java/lang/Throwable", name := "<init>", desc := "(Ljava/lang/String;)V" } : Jvm.MethodName)) ∈ mi_G := mi_t2 73 rfl rfl
theorem mw_346 : (Jvm.Cond.instanceMethod ({ cls := "java/lang/Throwable", name := "<init>", desc := "(Ljava/lang/String;)V" } : Jvm.MethodName)) ∈ mi_G := mi_t2 74 rfl rfl
theorem mw_347 : (Jvm.Cond.code ({ cls := "java/lang/Throwable", name := "<init>", desc := "(Ljava/lang/String;)V" } : Jvm.MethodName) prog_19_method_2_code (2 : Nat) (Option.none : Option Jvm.ClassFile.FieldType)) ∈ mi_G := mi_t2 75 rfl rfl
theorem mw_348 : (Jvm.Cond.fieldLink "java/lang/Throwable" (198 : Nat) "java/lang/Throwable" "backtrace" "Ljava/lang/Object;") ∈ mi_G := mi_t2 76 rfl rfl
theorem mw_349 : (Jvm.Cond.fieldLink "java/lang/Throwable" (31 : Nat) "java/lang/Throwable" "detailMessage" "Ljava/lang/String;") ∈ mi_G := mi_t2 77 rfl rfl
theorem mw_350 : (Jvm.Cond.fieldLink "java/lang/Throwable" (7 : Nat) "java/lang/Throwable" "cause" "Ljava/lang/Throwable;") ∈ mi_G := mi_t2 78 rfl rfl
theorem mw_351 : (Jvm.Cond.fieldLink "java/lang/Throwable" (17 : Nat) "java/lang/Throwable" "stackTrace" "[Ljava/lang/StackTraceElement;") ∈ mi_G := mi_t2 79 rfl rfl
theorem mw_352 : (Jvm.Cond.fieldLink "java/lang/Throwable" (24 : Nat) "java/lang/Throwable" "suppressedExceptions" "Ljava/util/List;") ∈ mi_G := mi_t2 80 rfl rfl
theorem mw_357 : (Jvm.Cond.lays "java/lang/IndexOutOfBoundsException" "java/lang/Throwable" "depth" "I") ∈ mi_G := mi_t2 85 rfl rfl
theorem mw_361 : (Jvm.Cond.arrayClass Jvm.ClassFile.FieldType.byte) ∈ mi_G := mi_t2 89 rfl rfl
theorem mw_362 : (Jvm.Cond.methodLink "Voxelmint" (46 : Nat) ({ cls := "Voxelmint", name := "checkLevel", desc := "(I)V" } : Jvm.MethodName)) ∈ mi_G := mi_t2 90 rfl rfl
theorem mw_363 : (Jvm.Cond.static ({ cls := "Voxelmint", name := "checkLevel", desc := "(I)V" } : Jvm.MethodName)) ∈ mi_G := mi_t2 91 rfl rfl
theorem mw_364 : (Jvm.Cond.code ({ cls := "Voxelmint", name := "checkLevel", desc := "(I)V" } : Jvm.MethodName) prog_1_method_34_code (1 : Nat) (Option.none : Option Jvm.ClassFile.FieldType)) ∈ mi_G := mi_t2 92 rfl rfl
theorem mw_365 : (Jvm.Cond.methodLink "Voxelmint" (215 : Nat) ({ cls := "Voxelmint", name := "isLevel", desc := "(I)Z" } : Jvm.MethodName)) ∈ mi_G := mi_t2 93 rfl rfl
theorem mw_367 : (Jvm.Cond.methodLink "Voxelmint" (49 : Nat) ({ cls := "Voxelmint", name := "checkKindOrAir", desc := "(I)V" } : Jvm.MethodName)) ∈ mi_G := mi_t2 95 rfl rfl
theorem mw_368 : (Jvm.Cond.static ({ cls := "Voxelmint", name := "checkKindOrAir", desc := "(I)V" } : Jvm.MethodName)) ∈ mi_G := mi_t2 96 rfl rfl
theorem mw_369 : (Jvm.Cond.code ({ cls := "Voxelmint", name := "checkKindOrAir", desc := "(I)V" } : Jvm.MethodName) prog_1_method_36_code (1 : Nat) (Option.none : Option Jvm.ClassFile.FieldType)) ∈ mi_G := mi_t2 97 rfl rfl
theorem mw_370 : (Jvm.Cond.classLink "Voxelmint" (159 : Nat) "java/lang/IllegalArgumentException") ∈ mi_G := mi_t2 98 rfl rfl
theorem mw_371 : (Jvm.Cond.instantiable "java/lang/IllegalArgumentException" (6 : Nat)) ∈ mi_G := mi_t2 99 rfl rfl
theorem mw_373 : (Jvm.Cond.selects "java/lang/IllegalArgumentException" ({ cls := "java/lang/Throwable", name := "fillInStackTrace", desc := "(I)Ljava/lang/Throwable;" } : Jvm.MethodName) ({ cls := "java/lang/Throwable", name := "fillInStackTrace", desc := "(I)Ljava/lang/Throwable;" } : Jvm.MethodName)) ∈ mi_G := mi_t2 101 rfl rfl
theorem mw_374 : (Jvm.Cond.lays "java/lang/IllegalArgumentException" "java/lang/Throwable" "cause" "Ljava/lang/Throwable;") ∈ mi_G := mi_t2 102 rfl rfl
theorem mw_375 : (Jvm.Cond.lays "java/lang/IllegalArgumentException" "java/lang/Throwable" "stackTrace" "[Ljava/lang/StackTraceElement;") ∈ mi_G := mi_t2 103 rfl rfl
theorem mw_376 : (Jvm.Cond.lays "java/lang/IllegalArgumentException" "java/lang/Throwable" "suppressedExceptions" "Ljava/util/List;") ∈ mi_G := mi_t2 104 rfl rfl
theorem mw_377 : (Jvm.Cond.lays "java/lang/IllegalArgumentException" "java/lang/Throwable" "detailMessage" "Ljava/lang/String;") ∈ mi_G := mi_t2 105 rfl rfl
theorem mw_378 : (Jvm.Cond.lays "java/lang/IllegalArgumentException" "java/lang/Throwable" "backtrace" "Ljava/lang/Object;") ∈ mi_G := mi_t2 106 rfl rfl
theorem mw_380 : (Jvm.Cond.methodLink "Voxelmint" (163 : Nat) ({ cls := "java/lang/IllegalArgumentException", name := "<init>", desc := "(Ljava/lang/String;)V" } : Jvm.MethodName)) ∈ mi_G := mi_t2 108 rfl rfl
theorem mw_381 : (Jvm.Cond.instanceMethod ({ cls := "java/lang/IllegalArgumentException", name := "<init>", desc := "(Ljava/lang/String;)V" } : Jvm.MethodName)) ∈ mi_G := mi_t2 109 rfl rfl
theorem mw_382 : (Jvm.Cond.code ({ cls := "java/lang/IllegalArgumentException", name := "<init>", desc := "(Ljava/lang/String;)V" } : Jvm.MethodName) prog_11_method_2_code (2 : Nat) (Option.none : Option Jvm.ClassFile.FieldType)) ∈ mi_G := mi_t2 110 rfl rfl
theorem mw_383 : (Jvm.Cond.methodLink "java/lang/IllegalArgumentException" (7 : Nat) ({ cls := "java/lang/RuntimeException", name := "<init>", desc := "(Ljava/lang/String;)V" } : Jvm.MethodName)) ∈ mi_G := mi_t2 111 rfl rfl
theorem mw_384 : (Jvm.Cond.lays "java/lang/IllegalArgumentException" "java/lang/Throwable" "depth" "I") ∈ mi_G := mi_t2 112 rfl rfl
theorem mw_386 : (Jvm.Cond.methodLink "Voxelmint" (52 : Nat) ({ cls := "Voxelmint", name := "checkRoomForState", desc := "()V" } : Jvm.MethodName)) ∈ mi_G := mi_t2 114 rfl rfl
theorem mw_388 : (Jvm.Cond.instanceMethod ({ cls := "Voxelmint", name := "checkRoomForState", desc := "()V" } : Jvm.MethodName)) ∈ mi_G := mi_t2 116 rfl rfl
theorem mw_389 : (Jvm.Cond.code ({ cls := "Voxelmint", name := "checkRoomForState", desc := "()V" } : Jvm.MethodName) prog_1_method_41_code (1 : Nat) (Option.none : Option Jvm.ClassFile.FieldType)) ∈ mi_G := mi_t2 117 rfl rfl
theorem mw_390 : (Jvm.Cond.classLink "Voxelmint" (114 : Nat) "java/lang/IllegalStateException") ∈ mi_G := mi_t2 118 rfl rfl
theorem mw_391 : (Jvm.Cond.instantiable "java/lang/IllegalStateException" (6 : Nat)) ∈ mi_G := mi_t2 119 rfl rfl
theorem mw_393 : (Jvm.Cond.selects "java/lang/IllegalStateException" ({ cls := "java/lang/Throwable", name := "fillInStackTrace", desc := "(I)Ljava/lang/Throwable;" } : Jvm.MethodName) ({ cls := "java/lang/Throwable", name := "fillInStackTrace", desc := "(I)Ljava/lang/Throwable;" } : Jvm.MethodName)) ∈ mi_G := mi_t2 121 rfl rfl
theorem mw_394 : (Jvm.Cond.lays "java/lang/IllegalStateException" "java/lang/Throwable" "cause" "Ljava/lang/Throwable;") ∈ mi_G := mi_t2 122 rfl rfl
theorem mw_395 : (Jvm.Cond.lays "java/lang/IllegalStateException" "java/lang/Throwable" "stackTrace" "[Ljava/lang/StackTraceElement;") ∈ mi_G := mi_t2 123 rfl rfl
theorem mw_396 : (Jvm.Cond.lays "java/lang/IllegalStateException" "java/lang/Throwable" "suppressedExceptions" "Ljava/util/List;") ∈ mi_G := mi_t2 124 rfl rfl
theorem mw_397 : (Jvm.Cond.lays "java/lang/IllegalStateException" "java/lang/Throwable" "detailMessage" "Ljava/lang/String;") ∈ mi_G := mi_t2 125 rfl rfl
theorem mw_398 : (Jvm.Cond.lays "java/lang/IllegalStateException" "java/lang/Throwable" "backtrace" "Ljava/lang/Object;") ∈ mi_G := mi_t2 126 rfl rfl
theorem mw_400 : (Jvm.Cond.methodLink "Voxelmint" (118 : Nat) ({ cls := "java/lang/IllegalStateException", name := "<init>", desc := "(Ljava/lang/String;)V" } : Jvm.MethodName)) ∈ mi_G := mi_t2 128 rfl rfl
theorem mw_401 : (Jvm.Cond.instanceMethod ({ cls := "java/lang/IllegalStateException", name := "<init>", desc := "(Ljava/lang/String;)V" } : Jvm.MethodName)) ∈ mi_G := mi_t2 129 rfl rfl
theorem mw_402 : (Jvm.Cond.code ({ cls := "java/lang/IllegalStateException", name := "<init>", desc := "(Ljava/lang/String;)V" } : Jvm.MethodName) prog_12_method_2_code (2 : Nat) (Option.none : Option Jvm.ClassFile.FieldType)) ∈ mi_G := mi_t2 130 rfl rfl
theorem mw_403 : (Jvm.Cond.methodLink "java/lang/IllegalStateException" (7 : Nat) ({ cls := "java/lang/RuntimeException", name := "<init>", desc := "(Ljava/lang/String;)V" } : Jvm.MethodName)) ∈ mi_G := mi_t2 131 rfl rfl
theorem mw_404 : (Jvm.Cond.lays "java/lang/IllegalStateException" "java/lang/Throwable" "depth" "I") ∈ mi_G := mi_t2 132 rfl rfl
theorem mw_406 : (Jvm.Cond.methodLink "Voxelmint" (55 : Nat) ({ cls := "Voxelmint", name := "beginState", desc := "()V" } : Jvm.MethodName)) ∈ mi_G := mi_t2 134 rfl rfl
theorem mw_408 : (Jvm.Cond.instanceMethod ({ cls := "Voxelmint", name := "beginState", desc := "()V" } : Jvm.MethodName)) ∈ mi_G := mi_t2 136 rfl rfl
theorem mw_409 : (Jvm.Cond.code ({ cls := "Voxelmint", name := "beginState", desc := "()V" } : Jvm.MethodName) prog_1_method_27_code (1 : Nat) (Option.none : Option Jvm.ClassFile.FieldType)) ∈ mi_G := mi_t2 137 rfl rfl
theorem mw_410 : (Jvm.Cond.methodLink "Voxelmint" (201 : Nat) ({ cls := "[I", name := "clone", desc := "()Ljava/lang/Object;" } : Jvm.MethodName)) ∈ mi_G := mi_t2 138 rfl rfl
theorem mw_411 : (Jvm.Cond.sameMethod "[I" "java/lang/Object" "clone" "()Ljava/lang/Object;") ∈ mi_G := mi_t2 139 rfl rfl
theorem mw_412 : (Jvm.Cond.native ({ cls := "java/lang/Object", name := "clone", desc := "()Ljava/lang/Object;" } : Jvm.MethodName)) ∈ mi_G := mi_t2 140 rfl rfl
theorem mw_413 : (Jvm.Cond.instanceMethod ({ cls := "java/lang/Object", name := "clone", desc := "()Ljava/lang/Object;" } : Jvm.MethodName)) ∈ mi_G := mi_t2 141 rfl rfl
theorem mw_414 : (Jvm.Cond.selects "[I" ({ cls := "[I", name := "clone", desc := "()Ljava/lang/Object;" } : Jvm.MethodName) ({ cls := "java/lang/Object", name := "clone", desc := "()Ljava/lang/Object;" } : Jvm.MethodName)) ∈ mi_G := mi_t2 142 rfl rfl
theorem mw_416 : (Jvm.Cond.classLink "Voxelmint" (202 : Nat) "[I") ∈ mi_G := mi_t2 144 rfl rfl
theorem mw_417 : (Jvm.Cond.methodLink "Voxelmint" (58 : Nat) ({ cls := "Voxelmint$State", name := "put", desc := "(III)V" } : Jvm.MethodName)) ∈ mi_G := mi_t2 145 rfl rfl
theorem mw_418 : (Jvm.Cond.instanceMethod ({ cls := "Voxelmint$State", name := "put", desc := "(III)V" } : Jvm.MethodName)) ∈ mi_G := mi_t2 146 rfl rfl
theorem mw_419 : (Jvm.Cond.selects "Voxelmint$State" ({ cls := "Voxelmint$State", name := "put", desc := "(III)V" } : Jvm.MethodName) ({ cls := "Voxelmint$State", name := "put", desc := "(III)V" } : Jvm.MethodName)) ∈ mi_G := mi_t2 147 rfl rfl
theorem mw_420 : (Jvm.Cond.code ({ cls := "Voxelmint$State", name := "put", desc := "(III)V" } : Jvm.MethodName) prog_5_method_3_code (4 : Nat) (Option.none : Option Jvm.ClassFile.FieldType)) ∈ mi_G := mi_t2 148 rfl rfl
theorem mw_421 : (Jvm.Cond.methodLink "VoxelmintLaw" (90 : Nat) ({ cls := "VoxelmintLaw", name := "raise", desc := "(LVoxelmint;III[J)I" } : Jvm.MethodName)) ∈ mi_G := mi_t2 149 rfl rfl
theorem mw_422 : (Jvm.Cond.static ({ cls := "VoxelmintLaw", name := "raise", desc := "(LVoxelmint;III[J)I" } : Jvm.MethodName)) ∈ mi_G := mi_t2 150 rfl rfl
theorem mw_423 : (Jvm.Cond.codeWith ({ cls := "VoxelmintLaw", name := "raise", desc := "(LVoxelmint;III[J)I" } : Jvm.MethodName) method_4_code (6 : Nat) (Option.some Jvm.ClassFile.FieldType.int) [((0 : Nat), (12 : Nat), (15 : Nat), (13 : Nat)), ((0 : Nat), (12 : Nat), (19 : Nat), (15 : Nat)), ((0 : Nat), (12 : Nat), (23 : Nat), (17 : Nat))]) ∈ mi_G := mi_t2 151 rfl rfl
theorem mw_424 : (Jvm.Cond.methodLink "VoxelmintLaw" (19 : Nat) ({ cls := "Voxelmint", name := "raise", desc := "(III)I" } : Jvm.MethodName)) ∈ mi_G := mi_t2 152 rfl rfl
theorem mw_425 : (Jvm.Cond.instanceMethod ({ cls := "Voxelmint", name := "raise", desc := "(III)I" } : Jvm.MethodName)) ∈ mi_G := mi_t2 153 rfl rfl
theorem mw_426 : (Jvm.Cond.selects "Voxelmint" ({ cls := "Voxelmint", name := "raise", desc := "(III)I" } : Jvm.MethodName) ({ cls := "Voxelmint", name := "raise", desc := "(III)I" } : Jvm.MethodName)) ∈ mi_G := mi_t2 154 rfl rfl
theorem mw_427 : (Jvm.Cond.code ({ cls := "Voxelmint", name := "raise", desc := "(III)I" } : Jvm.MethodName) prog_1_method_3_code (5 : Nat) (Option.some Jvm.ClassFile.FieldType.int)) ∈ mi_G := mi_t2 155 rfl rfl
theorem mw_428 : (Jvm.Cond.methodLink "Voxelmint" (66 : Nat) ({ cls := "Voxelmint", name := "checkHeight", desc := "(I)V" } : Jvm.MethodName)) ∈ mi_G := mi_t2 156 rfl rfl
theorem mw_429 : (Jvm.Cond.static ({ cls := "Voxelmint", name := "checkHeight", desc := "(I)V" } : Jvm.MethodName)) ∈ mi_G := mi_t2 157 rfl rfl
theorem mw_430 : (Jvm.Cond.code ({ cls := "Voxelmint", name := "checkHeight", desc := "(I)V" } : Jvm.MethodName) prog_1_method_35_code (1 : Nat) (Option.none : Option Jvm.ClassFile.FieldType)) ∈ mi_G := mi_t2 158 rfl rfl
theorem mw_432 : (Jvm.Cond.methodLink "Voxelmint" (69 : Nat) ({ cls := "Voxelmint", name := "checkKindOfBlock", desc := "(I)V" } : Jvm.MethodName)) ∈ mi_G := mi_t2 160 rfl rfl
theorem mw_433 : (Jvm.Cond.static ({ cls := "Voxelmint", name := "checkKindOfBlock", desc := "(I)V" } : Jvm.MethodName)) ∈ mi_G := mi_t2 161 rfl rfl
theorem mw_434 : (Jvm.Cond.code ({ cls := "Voxelmint", name := "checkKindOfBlock", desc := "(I)V" } : Jvm.MethodName) prog_1_method_37_code (1 : Nat) (Option.none : Option Jvm.ClassFile.FieldType)) ∈ mi_G := mi_t2 162 rfl rfl
theorem mw_435 : (Jvm.Cond.methodLink "VoxelmintLaw" (93 : Nat) ({ cls := "VoxelmintLaw", name := "layer", desc := "(LVoxelmint;II[J)I" } : Jvm.MethodName)) ∈ mi_G := mi_t2 163 rfl rfl
theorem mw_436 : (Jvm.Cond.static ({ cls := "VoxelmintLaw", name := "layer", desc := "(LVoxelmint;II[J)I" } : Jvm.MethodName)) ∈ mi_G := mi_t2 164 rfl rfl
theorem mw_437 : (Jvm.Cond.codeWith ({ cls := "VoxelmintLaw", name := "layer", desc := "(LVoxelmint;II[J)I" } : Jvm.MethodName) method_5_code (5 : Nat) (Option.some Jvm.ClassFile.FieldType.int) [((0 : Nat), (10 : Nat), (13 : Nat), (13 : Nat)), ((0 : Nat), (10 : Nat), (17 : Nat), (15 : Nat)), ((0 : Nat), (10 : Nat), (21 : Nat), (17 : Nat))]) ∈ mi_G := mi_t2 165 rfl rfl
theorem mw_438 : (Jvm.Cond.methodLink "VoxelmintLaw" (22 : Nat) ({ cls := "Voxelmint", name := "layer", desc := "(II)I" } : Jvm.MethodName)) ∈ mi_G := mi_t2 166 rfl rfl
theorem mw_439 : (Jvm.Cond.instanceMethod ({ cls := "Voxelmint", name := "layer", desc := "(II)I" } : Jvm.MethodName)) ∈ mi_G := mi_t2 167 rfl rfl
theorem mw_440 : (Jvm.Cond.selects "Voxelmint" ({ cls := "Voxelmint", name := "layer", desc := "(II)I" } : Jvm.MethodName) ({ cls := "Voxelmint", name := "layer", desc := "(II)I" } : Jvm.MethodName)) ∈ mi_G := mi_t2 168 rfl rfl
theorem mw_441 : (Jvm.Cond.code ({ cls := "Voxelmint", name := "layer", desc := "(II)I" } : Jvm.MethodName) prog_1_method_4_code (4 : Nat) (Option.some Jvm.ClassFile.FieldType.int)) ∈ mi_G := mi_t2 169 rfl rfl
theorem mw_442 : (Jvm.Cond.methodLink "VoxelmintLaw" (97 : Nat) ({ cls := "VoxelmintLaw", name := "kind", desc := "(LVoxelmint;II[J)I" } : Jvm.MethodName)) ∈ mi_G := mi_t2 170 rfl rfl
theorem mw_443 : (Jvm.Cond.static ({ cls := "VoxelmintLaw", name := "kind", desc := "(LVoxelmint;II[J)I" } : Jvm.MethodName)) ∈ mi_G := mi_t2 171 rfl rfl
theorem mw_444 : (Jvm.Cond.codeWith ({ cls := "VoxelmintLaw", name := "kind", desc := "(LVoxelmint;II[J)I" } : Jvm.MethodName) method_6_code (5 : Nat) (Option.some Jvm.ClassFile.FieldType.int) [((0 : Nat), (10 : Nat), (13 : Nat), (13 : Nat))]) ∈ mi_G := mi_t2 172 rfl rfl
theorem mw_445 : (Jvm.Cond.methodLink "VoxelmintLaw" (26 : Nat) ({ cls := "Voxelmint", name := "kind", desc := "(II)I" } : Jvm.MethodName)) ∈ mi_G := mi_t2 173 rfl rfl
theorem mw_446 : (Jvm.Cond.instanceMethod ({ cls := "Voxelmint", name := "kind", desc := "(II)I" } : Jvm.MethodName)) ∈ mi_G := mi_t2 174 rfl rfl
theorem mw_447 : (Jvm.Cond.selects "Voxelmint" ({ cls := "Voxelmint", name := "kind", desc := "(II)I" } : Jvm.MethodName) ({ cls := "Voxelmint", name := "kind", desc := "(II)I" } : Jvm.MethodName)) ∈ mi_G := mi_t2 175 rfl rfl
theorem mw_448 : (Jvm.Cond.code ({ cls := "Voxelmint", name := "kind", desc := "(II)I" } : Jvm.MethodName) prog_1_method_5_code (3 : Nat) (Option.some Jvm.ClassFile.FieldType.int)) ∈ mi_G := mi_t2 176 rfl rfl
theorem mw_449 : (Jvm.Cond.methodLink "VoxelmintLaw" (100 : Nat) ({ cls := "VoxelmintLaw", name := "runs", desc := "(LVoxelmint;I[J)I" } : Jvm.MethodName)) ∈ mi_G := mi_t2 177 rfl rfl
theorem mw_450 : (Jvm.Cond.static ({ cls := "VoxelmintLaw", name := "runs", desc := "(LVoxelmint;I[J)I" } : Jvm.MethodName)) ∈ mi_G := mi_t2 178 rfl rfl
theorem mw_451 : (Jvm.Cond.codeWith ({ cls := "VoxelmintLaw", name := "runs", desc := "(LVoxelmint;I[J)I" } : Jvm.MethodName) method_7_code (4 : Nat) (Option.some Jvm.ClassFile.FieldType.int) [((0 : Nat), (9 : Nat), (12 : Nat), (13 : Nat))]) ∈ mi_G := mi_t2 179 rfl rfl
theorem mw_452 : (Jvm.Cond.methodLink "VoxelmintLaw" (29 : Nat) ({ cls := "Voxelmint", name := "runs", desc := "(I)I" } : Jvm.MethodName)) ∈ mi_G := mi_t2 180 rfl rfl
theorem mw_453 : (Jvm.Cond.instanceMethod ({ cls := "Voxelmint", name := "runs", desc := "(I)I" } : Jvm.MethodName)) ∈ mi_G := mi_t2 181 rfl rfl
theorem mw_454 : (Jvm.Cond.selects "Voxelmint" ({ cls := "Voxelmint", name := "runs", desc := "(I)I" } : Jvm.MethodName) ({ cls := "Voxelmint", name := "runs", desc := "(I)I" } : Jvm.MethodName)) ∈ mi_G := mi_t2 182 rfl rfl
theorem mw_455 : (Jvm.Cond.code ({ cls := "Voxelmint", name := "runs", desc := "(I)I" } : Jvm.MethodName) prog_1_method_6_code (2 : Nat) (Option.some Jvm.ClassFile.FieldType.int)) ∈ mi_G := mi_t2 183 rfl rfl
theorem mw_456 : (Jvm.Cond.methodLink "Voxelmint" (76 : Nat) ({ cls := "Voxelmint$State", name := "countRuns", desc := "(I)I" } : Jvm.MethodName)) ∈ mi_G := mi_t2 184 rfl rfl
theorem mw_457 : (Jvm.Cond.instanceMethod ({ cls := "Voxelmint$State", name := "countRuns", desc := "(I)I" } : Jvm.MethodName)) ∈ mi_G := mi_t2 185 rfl rfl
theorem mw_458 : (Jvm.Cond.selects "Voxelmint$State" ({ cls := "Voxelmint$State", name := "countRuns", desc := "(I)I" } : Jvm.MethodName) ({ cls := "Voxelmint$State", name := "countRuns", desc := "(I)I" } : Jvm.MethodName)) ∈ mi_G := mi_t2 186 rfl rfl
theorem mw_459 : (Jvm.Cond.code ({ cls := "Voxelmint$State", name := "countRuns", desc := "(I)I" } : Jvm.MethodName) prog_5_method_5_code (4 : Nat) (Option.some Jvm.ClassFile.FieldType.int)) ∈ mi_G := mi_t2 187 rfl rfl
theorem mw_460 : (Jvm.Cond.methodLink "VoxelmintLaw" (104 : Nat) ({ cls := "VoxelmintLaw", name := "runLength", desc := "(LVoxelmint;II[J)I" } : Jvm.MethodName)) ∈ mi_G := mi_t2 188 rfl rfl
theorem mw_461 : (Jvm.Cond.static ({ cls := "VoxelmintLaw", name := "runLength", desc := "(LVoxelmint;II[J)I" } : Jvm.MethodName)) ∈ mi_G := mi_t2 189 rfl rfl
theorem mw_462 : (Jvm.Cond.codeWith ({ cls := "VoxelmintLaw", name := "runLength", desc := "(LVoxelmint;II[J)I" } : Jvm.MethodName) method_8_code (5 : Nat) (Option.some Jvm.ClassFile.FieldType.int) [((0 : Nat), (10 : Nat), (13 : Nat), (13 : Nat))]) ∈ mi_G := mi_t2 190 rfl rfl
theorem mw_463 : (Jvm.Cond.methodLink "VoxelmintLaw" (33 : Nat) ({ cls := "Voxelmint", name := "runLength", desc := "(II)I" } : Jvm.MethodName)) ∈ mi_G := mi_t2 191 rfl rfl
theorem mw_464 : (Jvm.Cond.instanceMethod ({ cls := "Voxelmint", name := "runLength", desc := "(II)I" } : Jvm.MethodName)) ∈ mi_G := mi_t2 192 rfl rfl
theorem mw_465 : (Jvm.Cond.selects "Voxelmint" ({ cls := "Voxelmint", name := "runLength", desc := "(II)I" } : Jvm.MethodName) ({ cls := "Voxelmint", name := "runLength", desc := "(II)I" } : Jvm.MethodName)) ∈ mi_G := mi_t2 193 rfl rfl
theorem mw_466 : (Jvm.Cond.code ({ cls := "Voxelmint", name := "runLength", desc := "(II)I" } : Jvm.MethodName) prog_1_method_7_code (3 : Nat) (Option.some Jvm.ClassFile.FieldType.int)) ∈ mi_G := mi_t2 194 rfl rfl
theorem mw_468 : (Jvm.Cond.methodLink "Voxelmint" (87 : Nat) ({ cls := "Voxelmint$State", name := "lengthOfRun", desc := "(II)I" } : Jvm.MethodName)) ∈ mi_G := mi_t2 196 rfl rfl
theorem mw_469 : (Jvm.Cond.instanceMethod ({ cls := "Voxelmint$State", name := "lengthOfRun", desc := "(II)I" } : Jvm.MethodName)) ∈ mi_G := mi_t2 197 rfl rfl
theorem mw_470 : (Jvm.Cond.selects "Voxelmint$State" ({ cls := "Voxelmint$State", name := "lengthOfRun", desc := "(II)I" } : Jvm.MethodName) ({ cls := "Voxelmint$State", name := "lengthOfRun", desc := "(II)I" } : Jvm.MethodName)) ∈ mi_G := mi_t2 198 rfl rfl
theorem mw_471 : (Jvm.Cond.code ({ cls := "Voxelmint$State", name := "lengthOfRun", desc := "(II)I" } : Jvm.MethodName) prog_5_method_6_code (6 : Nat) (Option.some Jvm.ClassFile.FieldType.int)) ∈ mi_G := mi_t2 199 rfl rfl
theorem mw_472 : (Jvm.Cond.methodLink "VoxelmintLaw" (119 : Nat) ({ cls := "VoxelmintLaw", name := "height", desc := "(LVoxelmint;I[J)I" } : Jvm.MethodName)) ∈ mi_G := mi_t2 200 rfl rfl
theorem mw_473 : (Jvm.Cond.static ({ cls := "VoxelmintLaw", name := "height", desc := "(LVoxelmint;I[J)I" } : Jvm.MethodName)) ∈ mi_G := mi_t2 201 rfl rfl
theorem mw_474 : (Jvm.Cond.codeWith ({ cls := "VoxelmintLaw", name := "height", desc := "(LVoxelmint;I[J)I" } : Jvm.MethodName) method_9_code (4 : Nat) (Option.some Jvm.ClassFile.FieldType.int) [((0 : Nat), (9 : Nat), (12 : Nat), (13 : Nat))]) ∈ mi_G := mi_t2 202 rfl rfl
theorem mw_475 : (Jvm.Cond.methodLink "VoxelmintLaw" (36 : Nat) ({ cls := "Voxelmint", name := "height", desc := "(I)I" } : Jvm.MethodName)) ∈ mi_G := mi_t2 203 rfl rfl
theorem mw_476 : (Jvm.Cond.instanceMethod ({ cls := "Voxelmint", name := "height", desc := "(I)I" } : Jvm.MethodName)) ∈ mi_G := mi_t2 204 rfl rfl
theorem mw_477 : (Jvm.Cond.selects "Voxelmint" ({ cls := "Voxelmint", name := "height", desc := "(I)I" } : Jvm.MethodName) ({ cls := "Voxelmint", name := "height", desc := "(I)I" } : Jvm.MethodName)) ∈ mi_G := mi_t2 205 rfl rfl
theorem mw_478 : (Jvm.Cond.code ({ cls := "Voxelmint", name := "height", desc := "(I)I" } : Jvm.MethodName) prog_1_method_11_code (2 : Nat) (Option.some Jvm.ClassFile.FieldType.int)) ∈ mi_G := mi_t2 206 rfl rfl
theorem mw_479 : (Jvm.Cond.methodLink "Voxelmint" (97 : Nat) ({ cls := "Voxelmint$State", name := "heightOf", desc := "(I)I" } : Jvm.MethodName)) ∈ mi_G := mi_t2 207 rfl rfl
theorem mw_480 : (Jvm.Cond.instanceMethod ({ cls := "Voxelmint$State", name := "heightOf", desc := "(I)I" } : Jvm.MethodName)) ∈ mi_G := mi_t2 208 rfl rfl
theorem mw_481 : (Jvm.Cond.selects "Voxelmint$State" ({ cls := "Voxelmint$State", name := "heightOf", desc := "(I)I" } : Jvm.MethodName) ({ cls := "Voxelmint$State", name := "heightOf", desc := "(I)I" } : Jvm.MethodName)) ∈ mi_G := mi_t2 209 rfl rfl
theorem mw_482 : (Jvm.Cond.code ({ cls := "Voxelmint$State", name := "heightOf", desc := "(I)I" } : Jvm.MethodName) prog_5_method_8_code (3 : Nat) (Option.some Jvm.ClassFile.FieldType.int)) ∈ mi_G := mi_t2 210 rfl rfl
theorem mw_483 : (Jvm.Cond.methodLink "VoxelmintLaw" (130 : Nat) ({ cls := "VoxelmintLaw", name := "visit", desc := "(LVoxelmint;I[J)I" } : Jvm.MethodName)) ∈ mi_G := mi_t2 211 rfl rfl
theorem mw_484 : (Jvm.Cond.static ({ cls := "VoxelmintLaw", name := "visit", desc := "(LVoxelmint;I[J)I" } : Jvm.MethodName)) ∈ mi_G := mi_t2 212 rfl rfl
theorem mw_485 : (Jvm.Cond.codeWith ({ cls := "VoxelmintLaw", name := "visit", desc := "(LVoxelmint;I[J)I" } : Jvm.MethodName) method_10_code (4 : Nat) (Option.some Jvm.ClassFile.FieldType.int) [((0 : Nat), (9 : Nat), (12 : Nat), (13 : Nat))]) ∈ mi_G := mi_t2 213 rfl rfl
theorem mw_486 : (Jvm.Cond.methodLink "VoxelmintLaw" (39 : Nat) ({ cls := "Voxelmint", name := "visit", desc := "(I)I" } : Jvm.MethodName)) ∈ mi_G := mi_t2 214 rfl rfl
theorem mw_487 : (Jvm.Cond.instanceMethod ({ cls := "Voxelmint", name := "visit", desc := "(I)I" } : Jvm.MethodName)) ∈ mi_G := mi_t2 215 rfl rfl
theorem mw_488 : (Jvm.Cond.selects "Voxelmint" ({ cls := "Voxelmint", name := "visit", desc := "(I)I" } : Jvm.MethodName) ({ cls := "Voxelmint", name := "visit", desc := "(I)I" } : Jvm.MethodName)) ∈ mi_G := mi_t2 216 rfl rfl
theorem mw_489 : (Jvm.Cond.code ({ cls := "Voxelmint", name := "visit", desc := "(I)I" } : Jvm.MethodName) prog_1_method_14_code (3 : Nat) (Option.some Jvm.ClassFile.FieldType.int)) ∈ mi_G := mi_t2 217 rfl rfl
theorem mw_490 : (Jvm.Cond.methodLink "Voxelmint" (104 : Nat) ({ cls := "Voxelmint", name := "checkState", desc := "(I)V" } : Jvm.MethodName)) ∈ mi_G := mi_t2 218 rfl rfl
theorem mw_492 : (Jvm.Cond.instanceMethod ({ cls := "Voxelmint", name := "checkState", desc := "(I)V" } : Jvm.MethodName)) ∈ mi_G := mi_t2 220 rfl rfl
theorem mw_493 : (Jvm.Cond.code ({ cls := "Voxelmint", name := "checkState", desc := "(I)V" } : Jvm.MethodName) prog_1_method_38_code (2 : Nat) (Option.none : Option Jvm.ClassFile.FieldType)) ∈ mi_G := mi_t2 221 rfl rfl
theorem mw_495 : (Jvm.Cond.methodLink "VoxelmintLaw" (133 : Nat) ({ cls := "VoxelmintLaw", name := "undo", desc := "(LVoxelmint;[J)I" } : Jvm.MethodName)) ∈ mi_G := mi_t2 223 rfl rfl
theorem mw_496 : (Jvm.Cond.static ({ cls := "VoxelmintLaw", name := "undo", desc := "(LVoxelmint;[J)I" } : Jvm.MethodName)) ∈ mi_G := mi_t2 224 rfl rfl
theorem mw_497 : (Jvm.Cond.codeWith ({ cls := "VoxelmintLaw", name := "undo", desc := "(LVoxelmint;[J)I" } : Jvm.MethodName) method_11_code (3 : Nat) (Option.some Jvm.ClassFile.FieldType.int) [((0 : Nat), (8 : Nat), (11 : Nat), (17 : Nat))]) ∈ mi_G := mi_t2 225 rfl rfl
theorem mw_498 : (Jvm.Cond.methodLink "VoxelmintLaw" (42 : Nat) ({ cls := "Voxelmint", name := "undo", desc := "()I" } : Jvm.MethodName)) ∈ mi_G := mi_t2 226 rfl rfl
theorem mw_499 : (Jvm.Cond.instanceMethod ({ cls := "Voxelmint", name := "undo", desc := "()I" } : Jvm.MethodName)) ∈ mi_G := mi_t2 227 rfl rfl
theorem mw_500 : (Jvm.Cond.selects "Voxelmint" ({ cls := "Voxelmint", name := "undo", desc := "()I" } : Jvm.MethodName) ({ cls := "Voxelmint", name := "undo", desc := "()I" } : Jvm.MethodName)) ∈ mi_G := mi_t2 228 rfl rfl
theorem mw_501 : (Jvm.Cond.code ({ cls := "Voxelmint", name := "undo", desc := "()I" } : Jvm.MethodName) prog_1_method_15_code (2 : Nat) (Option.some Jvm.ClassFile.FieldType.int)) ∈ mi_G := mi_t2 229 rfl rfl
theorem mw_503 : (Jvm.Cond.methodLink "VoxelmintLaw" (137 : Nat) ({ cls := "VoxelmintLaw", name := "redo", desc := "(LVoxelmint;I[J)I" } : Jvm.MethodName)) ∈ mi_G := mi_t2 231 rfl rfl
theorem mw_504 : (Jvm.Cond.static ({ cls := "VoxelmintLaw", name := "redo", desc := "(LVoxelmint;I[J)I" } : Jvm.MethodName)) ∈ mi_G := mi_t2 232 rfl rfl
theorem mw_505 : (Jvm.Cond.codeWith ({ cls := "VoxelmintLaw", name := "redo", desc := "(LVoxelmint;I[J)I" } : Jvm.MethodName) method_12_code (4 : Nat) (Option.some Jvm.ClassFile.FieldType.int) [((0 : Nat), (9 : Nat), (12 : Nat), (13 : Nat))]) ∈ mi_G := mi_t2 233 rfl rfl
theorem mw_506 : (Jvm.Cond.methodLink "VoxelmintLaw" (46 : Nat) ({ cls := "Voxelmint", name := "redo", desc := "(I)I" } : Jvm.MethodName)) ∈ mi_G := mi_t2 234 rfl rfl
theorem mw_507 : (Jvm.Cond.instanceMethod ({ cls := "Voxelmint", name := "redo", desc := "(I)I" } : Jvm.MethodName)) ∈ mi_G := mi_t2 235 rfl rfl
theorem mw_508 : (Jvm.Cond.selects "Voxelmint" ({ cls := "Voxelmint", name := "redo", desc := "(I)I" } : Jvm.MethodName) ({ cls := "Voxelmint", name := "redo", desc := "(I)I" } : Jvm.MethodName)) ∈ mi_G := mi_t2 236 rfl rfl
theorem mw_509 : (Jvm.Cond.code ({ cls := "Voxelmint", name := "redo", desc := "(I)I" } : Jvm.MethodName) prog_1_method_16_code (3 : Nat) (Option.some Jvm.ClassFile.FieldType.int)) ∈ mi_G := mi_t2 237 rfl rfl
theorem mw_510 : (Jvm.Cond.methodLink "Voxelmint" (119 : Nat) ({ cls := "Voxelmint", name := "findChild", desc := "(I)LVoxelmint$State;" } : Jvm.MethodName)) ∈ mi_G := mi_t2 238 rfl rfl
theorem mw_512 : (Jvm.Cond.instanceMethod ({ cls := "Voxelmint", name := "findChild", desc := "(I)LVoxelmint$State;" } : Jvm.MethodName)) ∈ mi_G := mi_t3 0 rfl rfl
theorem mw_513 : (Jvm.Cond.code ({ cls := "Voxelmint", name := "findChild", desc := "(I)LVoxelmint$State;" } : Jvm.MethodName) prog_1_method_28_code (5 : Nat) (Option.some (Jvm.ClassFile.FieldType.object "Voxelmint$State"))) ∈ mi_G := mi_t3 1 rfl rfl
theorem mw_515 : (Jvm.Cond.methodLink "VoxelmintLaw" (144 : Nat) ({ cls := "VoxelmintLaw", name := "unlike", desc := "(LVoxelmint;II[J)I" } : Jvm.MethodName)) ∈ mi_G := mi_t3 3 rfl rfl
theorem mw_516 : (Jvm.Cond.static ({ cls := "VoxelmintLaw", name := "unlike", desc := "(LVoxelmint;II[J)I" } : Jvm.MethodName)) ∈ mi_G := mi_t3 4 rfl rfl
theorem mw_517 : (Jvm.Cond.codeWith ({ cls := "VoxelmintLaw", name := "unlike", desc := "(LVoxelmint;II[J)I" } : Jvm.MethodName) method_13_code (5 : Nat) (Option.some Jvm.ClassFile.FieldType.int) [((0 : Nat), (10 : Nat), (13 : Nat), (13 : Nat))]) ∈ mi_G := mi_t3 5 rfl rfl
theorem mw_518 : (Jvm.Cond.methodLink "VoxelmintLaw" (49 : Nat) ({ cls := "Voxelmint", name := "unlike", desc := "(II)I" } : Jvm.MethodName)) ∈ mi_G := mi_t3 6 rfl rfl
theorem mw_519 : (Jvm.Cond.instanceMethod ({ cls := "Voxelmint", name := "unlike", desc := "(II)I" } : Jvm.MethodName)) ∈ mi_G := mi_t3 7 rfl rfl
theorem mw_520 : (Jvm.Cond.selects "Voxelmint" ({ cls := "Voxelmint", name := "unlike", desc := "(II)I" } : Jvm.MethodName) ({ cls := "Voxelmint", name := "unlike", desc := "(II)I" } : Jvm.MethodName)) ∈ mi_G := mi_t3 8 rfl rfl
theorem mw_521 : (Jvm.Cond.code ({ cls := "Voxelmint", name := "unlike", desc := "(II)I" } : Jvm.MethodName) prog_1_method_18_code (7 : Nat) (Option.some Jvm.ClassFile.FieldType.int)) ∈ mi_G := mi_t3 9 rfl rfl
theorem mw_522 : (Jvm.Cond.methodLink "Voxelmint" (125 : Nat) ({ cls := "Voxelmint$State", name := "hasColumnAlike", desc := "(LVoxelmint$State;I)Z" } : Jvm.MethodName)) ∈ mi_G := mi_t3 10 rfl rfl
theorem mw_523 : (Jvm.Cond.instanceMethod ({ cls := "Voxelmint$State", name := "hasColumnAlike", desc := "(LVoxelmint$State;I)Z" } : Jvm.MethodName)) ∈ mi_G := mi_t3 11 rfl rfl
theorem mw_524 : (Jvm.Cond.selects "Voxelmint$State" ({ cls := "Voxelmint$State", name := "hasColumnAlike", desc := "(LVoxelmint$State;I)Z" } : Jvm.MethodName) ({ cls := "Voxelmint$State", name := "hasColumnAlike", desc := "(LVoxelmint$State;I)Z" } : Jvm.MethodName)) ∈ mi_G := mi_t3 12 rfl rfl
theorem mw_525 : (Jvm.Cond.code ({ cls := "Voxelmint$State", name := "hasColumnAlike", desc := "(LVoxelmint$State;I)Z" } : Jvm.MethodName) prog_5_method_10_code (4 : Nat) (Option.some Jvm.ClassFile.FieldType.boolean)) ∈ mi_G := mi_t3 13 rfl rfl
theorem mw_526 : (Jvm.Cond.methodLink "VoxelmintLaw" (147 : Nat) ({ cls := "VoxelmintLaw", name := "cut", desc := "(LVoxelmint;[J)I" } : Jvm.MethodName)) ∈ mi_G := mi_t3 14 rfl rfl
theorem mw_527 : (Jvm.Cond.static ({ cls := "VoxelmintLaw", name := "cut", desc := "(LVoxelmint;[J)I" } : Jvm.MethodName)) ∈ mi_G := mi_t3 15 rfl rfl
theorem mw_528 : (Jvm.Cond.codeWith ({ cls := "VoxelmintLaw", name := "cut", desc := "(LVoxelmint;[J)I" } : Jvm.MethodName) method_14_code (3 : Nat) (Option.some Jvm.ClassFile.FieldType.int) [((0 : Nat), (8 : Nat), (11 : Nat), (17 : Nat))]) ∈ mi_G := mi_t3 16 rfl rfl
theorem mw_529 : (Jvm.Cond.methodLink "VoxelmintLaw" (52 : Nat) ({ cls := "Voxelmint", name := "cut", desc := "()I" } : Jvm.MethodName)) ∈ mi_G := mi_t3 17 rfl rfl
theorem mw_530 : (Jvm.Cond.instanceMethod ({ cls := "Voxelmint", name := "cut", desc := "()I" } : Jvm.MethodName)) ∈ mi_G := mi_t3 18 rfl rfl
theorem mw_531 : (Jvm.Cond.selects "Voxelmint" ({ cls := "Voxelmint", name := "cut", desc := "()I" } : Jvm.MethodName) ({ cls := "Voxelmint", name := "cut", desc := "()I" } : Jvm.MethodName)) ∈ mi_G := mi_t3 19 rfl rfl
theorem mw_532 : (Jvm.Cond.code ({ cls := "Voxelmint", name := "cut", desc := "()I" } : Jvm.MethodName) prog_1_method_19_code (1 : Nat) (Option.some Jvm.ClassFile.FieldType.int)) ∈ mi_G := mi_t3 20 rfl rfl
theorem mw_535 : (Jvm.Cond.classLink "Voxelmint" (133 : Nat) "Voxelmint$Die") ∈ mi_G := mi_t3 23 rfl rfl
theorem mw_536 : (Jvm.Cond.instantiable "Voxelmint$Die" (3 : Nat)) ∈ mi_G := mi_t3 24 rfl rfl
theorem mw_537 : (Jvm.Cond.methodLink "Voxelmint" (135 : Nat) ({ cls := "Voxelmint$State", name := "copyHeights", desc := "()[I" } : Jvm.MethodName)) ∈ mi_G := mi_t3 25 rfl rfl
theorem mw_538 : (Jvm.Cond.instanceMethod ({ cls := "Voxelmint$State", name := "copyHeights", desc := "()[I" } : Jvm.MethodName)) ∈ mi_G := mi_t3 26 rfl rfl
theorem mw_539 : (Jvm.Cond.selects "Voxelmint$State" ({ cls := "Voxelmint$State", name := "copyHeights", desc := "()[I" } : Jvm.MethodName) ({ cls := "Voxelmint$State", name := "copyHeights", desc := "()[I" } : Jvm.MethodName)) ∈ mi_G := mi_t3 27 rfl rfl
theorem mw_540 : (Jvm.Cond.code ({ cls := "Voxelmint$State", name := "copyHeights", desc := "()[I" } : Jvm.MethodName) prog_5_method_9_code (3 : Nat) (Option.some (Jvm.ClassFile.FieldType.array Jvm.ClassFile.FieldType.int))) ∈ mi_G := mi_t3 28 rfl rfl
theorem mw_541 : (Jvm.Cond.methodLink "Voxelmint$State" (38 : Nat) ({ cls := "Voxelmint$State", name := "heightOf", desc := "(I)I" } : Jvm.MethodName)) ∈ mi_G := mi_t3 29 rfl rfl
theorem mw_542 : (Jvm.Cond.methodLink "Voxelmint" (139 : Nat) ({ cls := "Voxelmint$Die", name := "<init>", desc := "([I)V" } : Jvm.MethodName)) ∈ mi_G := mi_t3 30 rfl rfl
theorem mw_543 : (Jvm.Cond.instanceMethod ({ cls := "Voxelmint$Die", name := "<init>", desc := "([I)V" } : Jvm.MethodName)) ∈ mi_G := mi_t3 31 rfl rfl
theorem mw_544 : (Jvm.Cond.code ({ cls := "Voxelmint$Die", name := "<init>", desc := "([I)V" } : Jvm.MethodName) prog_3_method_1_code (2 : Nat) (Option.none : Option Jvm.ClassFile.FieldType)) ∈ mi_G := mi_t3 32 rfl rfl
theorem mw_545 : (Jvm.Cond.methodLink "Voxelmint$Die" (3 : Nat) ({ cls := "java/lang/Object", name := "<init>", desc := "()V" } : Jvm.MethodName)) ∈ mi_G := mi_t3 33 rfl rfl
theorem mw_546 : (Jvm.Cond.methodLink "Voxelmint$Die" (15 : Nat) ({ cls := "[I", name := "clone", desc := "()Ljava/lang/Object;" } : Jvm.MethodName)) ∈ mi_G := mi_t3 34 rfl rfl
theorem mw_547 : (Jvm.Cond.classLink "Voxelmint$Die" (16 : Nat) "[I") ∈ mi_G := mi_t3 35 rfl rfl
theorem mw_548 : (Jvm.Cond.classLink "Voxelmint$Die" (23 : Nat) "java/util/ArrayList") ∈ mi_G := mi_t3 36 rfl rfl
theorem mw_549 : (Jvm.Cond.methodLink "Voxelmint$Die" (25 : Nat) ({ cls := "java/util/ArrayList", name := "<init>", desc := "()V" } : Jvm.MethodName)) ∈ mi_G := mi_t3 37 rfl rfl
theorem mw_550 : (Jvm.Cond.fieldLink "Voxelmint$Die" (9 : Nat) "Voxelmint$Die" "firstHeights" "[I") ∈ mi_G := mi_t3 38 rfl rfl
theorem mw_551 : (Jvm.Cond.fieldLink "Voxelmint" (183 : Nat) "Voxelmint$Die" "firstHeights" "[I") ∈ mi_G := mi_t3 39 rfl rfl
theorem mw_552 : (Jvm.Cond.fieldLink "Voxelmint$Die" (20 : Nat) "Voxelmint$Die" "heights" "[I") ∈ mi_G := mi_t3 40 rfl rfl
theorem mw_553 : (Jvm.Cond.fieldLink "Voxelmint" (178 : Nat) "Voxelmint$Die" "heights" "[I") ∈ mi_G := mi_t3 41 rfl rfl
theorem mw_554 : (Jvm.Cond.fieldLink "Voxelmint$Die" (26 : Nat) "Voxelmint$Die" "struck" "Ljava/util/ArrayList;") ∈ mi_G := mi_t3 42 rfl rfl
theorem mw_555 : (Jvm.Cond.fieldLink "Voxelmint" (164 : Nat) "Voxelmint$Die" "struck" "Ljava/util/ArrayList;") ∈ mi_G := mi_t3 43 rfl rfl
theorem mw_556 : (Jvm.Cond.laysFinal "Voxelmint$Die" "Voxelmint$Die" "firstHeights" "[I") ∈ mi_G := mi_t3 44 rfl rfl
theorem mw_558 : (Jvm.Cond.laysFinal "Voxelmint$Die" "Voxelmint$Die" "heights" "[I") ∈ mi_G := mi_t3 46 rfl rfl
theorem mw_560 : (Jvm.Cond.laysFinal "Voxelmint$Die" "Voxelmint$Die" "struck" "Ljava/util/ArrayList;") ∈ mi_G := mi_t3 48 rfl rfl
theorem mw_563 : (Jvm.Cond.methodLink "VoxelmintLaw" (150 : Nat) ({ cls := "VoxelmintLaw", name := "strike", desc := "(LVoxelmint;I[J)I" } : Jvm.MethodName)) ∈ mi_G := mi_t3 51 rfl rfl
theorem mw_564 : (Jvm.Cond.static ({ cls := "VoxelmintLaw", name := "strike", desc := "(LVoxelmint;I[J)I" } : Jvm.MethodName)) ∈ mi_G := mi_t3 52 rfl rfl
theorem mw_565 : (Jvm.Cond.codeWith ({ cls := "VoxelmintLaw", name := "strike", desc := "(LVoxelmint;I[J)I" } : Jvm.MethodName) method_15_code (4 : Nat) (Option.some Jvm.ClassFile.FieldType.int) [((0 : Nat), (9 : Nat), (12 : Nat), (13 : Nat)), ((0 : Nat), (9 : Nat), (15 : Nat), (17 : Nat))]) ∈ mi_G := mi_t3 53 rfl rfl
theorem mw_566 : (Jvm.Cond.methodLink "VoxelmintLaw" (55 : Nat) ({ cls := "Voxelmint", name := "strike", desc := "(I)I" } : Jvm.MethodName)) ∈ mi_G := mi_t3 54 rfl rfl
theorem mw_567 : (Jvm.Cond.instanceMethod ({ cls := "Voxelmint", name := "strike", desc := "(I)I" } : Jvm.MethodName)) ∈ mi_G := mi_t3 55 rfl rfl
theorem mw_568 : (Jvm.Cond.selects "Voxelmint" ({ cls := "Voxelmint", name := "strike", desc := "(I)I" } : Jvm.MethodName) ({ cls := "Voxelmint", name := "strike", desc := "(I)I" } : Jvm.MethodName)) ∈ mi_G := mi_t3 56 rfl rfl
theorem mw_569 : (Jvm.Cond.code ({ cls := "Voxelmint", name := "strike", desc := "(I)I" } : Jvm.MethodName) prog_1_method_20_code (2 : Nat) (Option.some Jvm.ClassFile.FieldType.int)) ∈ mi_G := mi_t3 57 rfl rfl
theorem mw_570 : (Jvm.Cond.methodLink "Voxelmint" (142 : Nat) ({ cls := "Voxelmint", name := "checkDie", desc := "(I)V" } : Jvm.MethodName)) ∈ mi_G := mi_t3 58 rfl rfl
theorem mw_572 : (Jvm.Cond.instanceMethod ({ cls := "Voxelmint", name := "checkDie", desc := "(I)V" } : Jvm.MethodName)) ∈ mi_G := mi_t3 60 rfl rfl
theorem mw_573 : (Jvm.Cond.code ({ cls := "Voxelmint", name := "checkDie", desc := "(I)V" } : Jvm.MethodName) prog_1_method_39_code (2 : Nat) (Option.none : Option Jvm.ClassFile.FieldType)) ∈ mi_G := mi_t3 61 rfl rfl
theorem mw_575 : (Jvm.Cond.methodLink "Voxelmint" (145 : Nat) ({ cls := "Voxelmint", name := "checkRoomForCoin", desc := "()V" } : Jvm.MethodName)) ∈ mi_G := mi_t3 63 rfl rfl
theorem mw_577 : (Jvm.Cond.instanceMethod ({ cls := "Voxelmint", name := "checkRoomForCoin", desc := "()V" } : Jvm.MethodName)) ∈ mi_G := mi_t3 65 rfl rfl
theorem mw_578 : (Jvm.Cond.code ({ cls := "Voxelmint", name := "checkRoomForCoin", desc := "()V" } : Jvm.MethodName) prog_1_method_42_code (1 : Nat) (Option.none : Option Jvm.ClassFile.FieldType)) ∈ mi_G := mi_t3 66 rfl rfl
theorem mw_580 : (Jvm.Cond.methodLink "Voxelmint" (148 : Nat) ({ cls := "Voxelmint$Die", name := "makeCoin", desc := "()LVoxelmint$Coin;" } : Jvm.MethodName)) ∈ mi_G := mi_t3 68 rfl rfl
theorem mw_581 : (Jvm.Cond.instanceMethod ({ cls := "Voxelmint$Die", name := "makeCoin", desc := "()LVoxelmint$Coin;" } : Jvm.MethodName)) ∈ mi_G := mi_t3 69 rfl rfl
theorem mw_582 : (Jvm.Cond.selects "Voxelmint$Die" ({ cls := "Voxelmint$Die", name := "makeCoin", desc := "()LVoxelmint$Coin;" } : Jvm.MethodName) ({ cls := "Voxelmint$Die", name := "makeCoin", desc := "()LVoxelmint$Coin;" } : Jvm.MethodName)) ∈ mi_G := mi_t3 70 rfl rfl
theorem mw_583 : (Jvm.Cond.code ({ cls := "Voxelmint$Die", name := "makeCoin", desc := "()LVoxelmint$Coin;" } : Jvm.MethodName) prog_3_method_2_code (3 : Nat) (Option.some (Jvm.ClassFile.FieldType.object "Voxelmint$Coin"))) ∈ mi_G := mi_t3 71 rfl rfl
theorem mw_584 : (Jvm.Cond.classLink "Voxelmint$Die" (30 : Nat) "Voxelmint$Coin") ∈ mi_G := mi_t3 72 rfl rfl
theorem mw_585 : (Jvm.Cond.instantiable "Voxelmint$Coin" (3 : Nat)) ∈ mi_G := mi_t3 73 rfl rfl
theorem mw_586 : (Jvm.Cond.methodLink "Voxelmint$Die" (32 : Nat) ({ cls := "Voxelmint$Coin", name := "<init>", desc := "(LVoxelmint$Die;[I[I)V" } : Jvm.MethodName)) ∈ mi_G := mi_t3 74 rfl rfl
theorem mw_587 : (Jvm.Cond.instanceMethod ({ cls := "Voxelmint$Coin", name := "<init>", desc := "(LVoxelmint$Die;[I[I)V" } : Jvm.MethodName)) ∈ mi_G := mi_t3 75 rfl rfl
theorem mw_588 : (Jvm.Cond.code ({ cls := "Voxelmint$Coin", name := "<init>", desc := "(LVoxelmint$Die;[I[I)V" } : Jvm.MethodName) prog_2_method_1_code (4 : Nat) (Option.none : Option Jvm.ClassFile.FieldType)) ∈ mi_G := mi_t3 76 rfl rfl
theorem mw_589 : (Jvm.Cond.methodLink "Voxelmint$Coin" (1 : Nat) ({ cls := "java/lang/Object", name := "<init>", desc := "()V" } : Jvm.MethodName)) ∈ mi_G := mi_t3 77 rfl rfl
theorem mw_590 : (Jvm.Cond.fieldLink "Voxelmint$Coin" (7 : Nat) "Voxelmint$Coin" "die" "LVoxelmint$Die;") ∈ mi_G := mi_t3 78 rfl rfl
theorem mw_591 : (Jvm.Cond.fieldLink "Voxelmint" (179 : Nat) "Voxelmint$Coin" "die" "LVoxelmint$Die;") ∈ mi_G := mi_t3 79 rfl rfl
theorem mw_592 : (Jvm.Cond.fieldLink "Voxelmint$Coin" (13 : Nat) "Voxelmint$Coin" "heights" "[I") ∈ mi_G := mi_t3 80 rfl rfl
theorem mw_593 : (Jvm.Cond.fieldLink "Voxelmint" (171 : Nat) "Voxelmint$Coin" "heights" "[I") ∈ mi_G := mi_t3 81 rfl rfl
theorem mw_594 : (Jvm.Cond.fieldLink "Voxelmint$Coin" (17 : Nat) "Voxelmint$Coin" "genuineHeights" "[I") ∈ mi_G := mi_t3 82 rfl rfl
theorem mw_595 : (Jvm.Cond.fieldLink "Voxelmint" (195 : Nat) "Voxelmint$Coin" "genuineHeights" "[I") ∈ mi_G := mi_t3 83 rfl rfl
theorem mw_596 : (Jvm.Cond.laysFinal "Voxelmint$Coin" "Voxelmint$Coin" "die" "LVoxelmint$Die;") ∈ mi_G := mi_t3 84 rfl rfl
theorem mw_598 : (Jvm.Cond.laysFinal "Voxelmint$Coin" "Voxelmint$Coin" "heights" "[I") ∈ mi_G := mi_t3 86 rfl rfl
theorem mw_600 : (Jvm.Cond.laysFinal "Voxelmint$Coin" "Voxelmint$Coin" "genuineHeights" "[I") ∈ mi_G := mi_t3 88 rfl rfl
theorem mw_603 : (Jvm.Cond.methodLink "Voxelmint$Die" (35 : Nat) ({ cls := "java/util/ArrayList", name := "add", desc := "(Ljava/lang/Object;)Z" } : Jvm.MethodName)) ∈ mi_G := mi_t3 91 rfl rfl
theorem mw_604 : (Jvm.Cond.methodLink "Voxelmint$Die" (39 : Nat) ({ cls := "java/util/ArrayList", name := "size", desc := "()I" } : Jvm.MethodName)) ∈ mi_G := mi_t3 92 rfl rfl
theorem mw_605 : (Jvm.Cond.methodLink "Voxelmint$Die" (43 : Nat) ({ cls := "Voxelmint$Die", name := "wear", desc := "()V" } : Jvm.MethodName)) ∈ mi_G := mi_t3 93 rfl rfl
theorem mw_607 : (Jvm.Cond.instanceMethod ({ cls := "Voxelmint$Die", name := "wear", desc := "()V" } : Jvm.MethodName)) ∈ mi_G := mi_t3 95 rfl rfl
theorem mw_608 : (Jvm.Cond.code ({ cls := "Voxelmint$Die", name := "wear", desc := "()V" } : Jvm.MethodName) prog_3_method_3_code (3 : Nat) (Option.none : Option Jvm.ClassFile.FieldType)) ∈ mi_G := mi_t3 96 rfl rfl
theorem mw_609 : (Jvm.Cond.methodLink "Voxelmint" (152 : Nat) ({ cls := "Voxelmint", name := "keepCoin", desc := "(LVoxelmint$Coin;)I" } : Jvm.MethodName)) ∈ mi_G := mi_t3 97 rfl rfl
theorem mw_611 : (Jvm.Cond.instanceMethod ({ cls := "Voxelmint", name := "keepCoin", desc := "(LVoxelmint$Coin;)I" } : Jvm.MethodName)) ∈ mi_G := mi_t3 99 rfl rfl
theorem mw_612 : (Jvm.Cond.code ({ cls := "Voxelmint", name := "keepCoin", desc := "(LVoxelmint$Coin;)I" } : Jvm.MethodName) prog_1_method_29_code (2 : Nat) (Option.some Jvm.ClassFile.FieldType.int)) ∈ mi_G := mi_t3 100 rfl rfl
theorem mw_613 : (Jvm.Cond.methodLink "VoxelmintLaw" (153 : Nat) ({ cls := "VoxelmintLaw", name := "forge", desc := "(LVoxelmint;III[J)I" } : Jvm.MethodName)) ∈ mi_G := mi_t3 101 rfl rfl
theorem mw_614 : (Jvm.Cond.static ({ cls := "VoxelmintLaw", name := "forge", desc := "(LVoxelmint;III[J)I" } : Jvm.MethodName)) ∈ mi_G := mi_t3 102 rfl rfl
theorem mw_615 : (Jvm.Cond.codeWith ({ cls := "VoxelmintLaw", name := "forge", desc := "(LVoxelmint;III[J)I" } : Jvm.MethodName) method_16_code (6 : Nat) (Option.some Jvm.ClassFile.FieldType.int) [((0 : Nat), (12 : Nat), (15 : Nat), (13 : Nat)), ((0 : Nat), (12 : Nat), (19 : Nat), (15 : Nat)), ((0 : Nat), (12 : Nat), (23 : Nat), (17 : Nat))]) ∈ mi_G := mi_t3 103 rfl rfl
theorem mw_616 : (Jvm.Cond.methodLink "VoxelmintLaw" (58 : Nat) ({ cls := "Voxelmint", name := "forge", desc := "(III)I" } : Jvm.MethodName)) ∈ mi_G := mi_t3 104 rfl rfl
theorem mw_617 : (Jvm.Cond.instanceMethod ({ cls := "Voxelmint", name := "forge", desc := "(III)I" } : Jvm.MethodName)) ∈ mi_G := mi_t3 105 rfl rfl
theorem mw_618 : (Jvm.Cond.selects "Voxelmint" ({ cls := "Voxelmint", name := "forge", desc := "(III)I" } : Jvm.MethodName) ({ cls := "Voxelmint", name := "forge", desc := "(III)I" } : Jvm.MethodName)) ∈ mi_G := mi_t3 106 rfl rfl
theorem mw_619 : (Jvm.Cond.code ({ cls := "Voxelmint", name := "forge", desc := "(III)I" } : Jvm.MethodName) prog_1_method_21_code (6 : Nat) (Option.some Jvm.ClassFile.FieldType.int)) ∈ mi_G := mi_t3 107 rfl rfl
theorem mw_620 : (Jvm.Cond.methodLink "Voxelmint" (156 : Nat) ({ cls := "Voxelmint", name := "checkCoin", desc := "(I)V" } : Jvm.MethodName)) ∈ mi_G := mi_t3 108 rfl rfl
theorem mw_622 : (Jvm.Cond.instanceMethod ({ cls := "Voxelmint", name := "checkCoin", desc := "(I)V" } : Jvm.MethodName)) ∈ mi_G := mi_t3 110 rfl rfl
theorem mw_623 : (Jvm.Cond.code ({ cls := "Voxelmint", name := "checkCoin", desc := "(I)V" } : Jvm.MethodName) prog_1_method_40_code (2 : Nat) (Option.none : Option Jvm.ClassFile.FieldType)) ∈ mi_G := mi_t3 111 rfl rfl
theorem mw_627 : (Jvm.Cond.classLink "Voxelmint" (169 : Nat) "Voxelmint$Coin") ∈ mi_G := mi_t3 115 rfl rfl
theorem mw_628 : (Jvm.Cond.methodLink "Voxelmint" (175 : Nat) ({ cls := "Voxelmint$Coin", name := "<init>", desc := "(LVoxelmint$Die;[I[I)V" } : Jvm.MethodName)) ∈ mi_G := mi_t3 116 rfl rfl
theorem mw_629 : (Jvm.Cond.methodLink "VoxelmintLaw" (156 : Nat) ({ cls := "VoxelmintLaw", name := "dieHeight", desc := "(LVoxelmint;II[J)I" } : Jvm.MethodName)) ∈ mi_G := mi_t3 117 rfl rfl
theorem mw_630 : (Jvm.Cond.static ({ cls := "VoxelmintLaw", name := "dieHeight", desc := "(LVoxelmint;II[J)I" } : Jvm.MethodName)) ∈ mi_G := mi_t3 118 rfl rfl
theorem mw_631 : (Jvm.Cond.codeWith ({ cls := "VoxelmintLaw", name := "dieHeight", desc := "(LVoxelmint;II[J)I" } : Jvm.MethodName) method_17_code (5 : Nat) (Option.some Jvm.ClassFile.FieldType.int) [((0 : Nat), (10 : Nat), (13 : Nat), (13 : Nat))]) ∈ mi_G := mi_t3 119 rfl rfl
theorem mw_632 : (Jvm.Cond.methodLink "VoxelmintLaw" (61 : Nat) ({ cls := "Voxelmint", name := "dieHeight", desc := "(II)I" } : Jvm.MethodName)) ∈ mi_G := mi_t3 120 rfl rfl
theorem mw_633 : (Jvm.Cond.instanceMethod ({ cls := "Voxelmint", name := "dieHeight", desc := "(II)I" } : Jvm.MethodName)) ∈ mi_G := mi_t3 121 rfl rfl
theorem mw_634 : (Jvm.Cond.selects "Voxelmint" ({ cls := "Voxelmint", name := "dieHeight", desc := "(II)I" } : Jvm.MethodName) ({ cls := "Voxelmint", name := "dieHeight", desc := "(II)I" } : Jvm.MethodName)) ∈ mi_G := mi_t3 122 rfl rfl
theorem mw_635 : (Jvm.Cond.code ({ cls := "Voxelmint", name := "dieHeight", desc := "(II)I" } : Jvm.MethodName) prog_1_method_22_code (3 : Nat) (Option.some Jvm.ClassFile.FieldType.int)) ∈ mi_G := mi_t3 123 rfl rfl
theorem mw_636 : (Jvm.Cond.methodLink "VoxelmintLaw" (159 : Nat) ({ cls := "VoxelmintLaw", name := "coinHeight", desc := "(LVoxelmint;II[J)I" } : Jvm.MethodName)) ∈ mi_G := mi_t3 124 rfl rfl
theorem mw_637 : (Jvm.Cond.static ({ cls := "VoxelmintLaw", name := "coinHeight", desc := "(LVoxelmint;II[J)I" } : Jvm.MethodName)) ∈ mi_G := mi_t3 125 rfl rfl
theorem mw_638 : (Jvm.Cond.codeWith ({ cls := "VoxelmintLaw", name := "coinHeight", desc := "(LVoxelmint;II[J)I" } : Jvm.MethodName) method_18_code (5 : Nat) (Option.some Jvm.ClassFile.FieldType.int) [((0 : Nat), (10 : Nat), (13 : Nat), (13 : Nat))]) ∈ mi_G := mi_t3 126 rfl rfl
theorem mw_639 : (Jvm.Cond.methodLink "VoxelmintLaw" (64 : Nat) ({ cls := "Voxelmint", name := "coinHeight", desc := "(II)I" } : Jvm.MethodName)) ∈ mi_G := mi_t3 127 rfl rfl
theorem mw_640 : (Jvm.Cond.instanceMethod ({ cls := "Voxelmint", name := "coinHeight", desc := "(II)I" } : Jvm.MethodName)) ∈ mi_G := mi_t3 128 rfl rfl
theorem mw_641 : (Jvm.Cond.selects "Voxelmint" ({ cls := "Voxelmint", name := "coinHeight", desc := "(II)I" } : Jvm.MethodName) ({ cls := "Voxelmint", name := "coinHeight", desc := "(II)I" } : Jvm.MethodName)) ∈ mi_G := mi_t3 129 rfl rfl
theorem mw_642 : (Jvm.Cond.code ({ cls := "Voxelmint", name := "coinHeight", desc := "(II)I" } : Jvm.MethodName) prog_1_method_23_code (3 : Nat) (Option.some Jvm.ClassFile.FieldType.int)) ∈ mi_G := mi_t3 130 rfl rfl
theorem mw_643 : (Jvm.Cond.methodLink "VoxelmintLaw" (162 : Nat) ({ cls := "VoxelmintLaw", name := "grade", desc := "(LVoxelmint;I[J)I" } : Jvm.MethodName)) ∈ mi_G := mi_t3 131 rfl rfl
theorem mw_644 : (Jvm.Cond.static ({ cls := "VoxelmintLaw", name := "grade", desc := "(LVoxelmint;I[J)I" } : Jvm.MethodName)) ∈ mi_G := mi_t3 132 rfl rfl
theorem mw_645 : (Jvm.Cond.codeWith ({ cls := "VoxelmintLaw", name := "grade", desc := "(LVoxelmint;I[J)I" } : Jvm.MethodName) method_19_code (4 : Nat) (Option.some Jvm.ClassFile.FieldType.int) [((0 : Nat), (9 : Nat), (12 : Nat), (13 : Nat))]) ∈ mi_G := mi_t3 133 rfl rfl
theorem mw_646 : (Jvm.Cond.methodLink "VoxelmintLaw" (67 : Nat) ({ cls := "Voxelmint", name := "grade", desc := "(I)I" } : Jvm.MethodName)) ∈ mi_G := mi_t3 134 rfl rfl
theorem mw_647 : (Jvm.Cond.instanceMethod ({ cls := "Voxelmint", name := "grade", desc := "(I)I" } : Jvm.MethodName)) ∈ mi_G := mi_t3 135 rfl rfl
theorem mw_648 : (Jvm.Cond.selects "Voxelmint" ({ cls := "Voxelmint", name := "grade", desc := "(I)I" } : Jvm.MethodName) ({ cls := "Voxelmint", name := "grade", desc := "(I)I" } : Jvm.MethodName)) ∈ mi_G := mi_t3 136 rfl rfl
theorem mw_649 : (Jvm.Cond.code ({ cls := "Voxelmint", name := "grade", desc := "(I)I" } : Jvm.MethodName) prog_1_method_24_code (4 : Nat) (Option.some Jvm.ClassFile.FieldType.int)) ∈ mi_G := mi_t3 137 rfl rfl
theorem mw_650 : (Jvm.Cond.methodLink "Voxelmint" (186 : Nat) ({ cls := "Voxelmint", name := "distanceOfRows", desc := "([I[I)I" } : Jvm.MethodName)) ∈ mi_G := mi_t3 138 rfl rfl
theorem mw_651 : (Jvm.Cond.static ({ cls := "Voxelmint", name := "distanceOfRows", desc := "([I[I)I" } : Jvm.MethodName)) ∈ mi_G := mi_t3 139 rfl rfl
theorem mw_652 : (Jvm.Cond.code ({ cls := "Voxelmint", name := "distanceOfRows", desc := "([I[I)I" } : Jvm.MethodName) prog_1_method_30_code (4 : Nat) (Option.some Jvm.ClassFile.FieldType.int)) ∈ mi_G := mi_t3 140 rfl rfl
theorem mw_653 : (Jvm.Cond.methodLink "Voxelmint" (206 : Nat) ({ cls := "java/lang/Math", name := "abs", desc := "(I)I" } : Jvm.MethodName)) ∈ mi_G := mi_t3 141 rfl rfl
theorem mw_654 : (Jvm.Cond.static ({ cls := "java/lang/Math", name := "abs", desc := "(I)I" } : Jvm.MethodName)) ∈ mi_G := mi_t3 142 rfl rfl
theorem mw_655 : (Jvm.Cond.code ({ cls := "java/lang/Math", name := "abs", desc := "(I)I" } : Jvm.MethodName) prog_15_method_59_code (1 : Nat) (Option.some Jvm.ClassFile.FieldType.int)) ∈ mi_G := mi_t3 143 rfl rfl
theorem mw_656 : (Jvm.Cond.methodLink "Voxelmint" (190 : Nat) ({ cls := "java/lang/Math", name := "max", desc := "(II)I" } : Jvm.MethodName)) ∈ mi_G := mi_t3 144 rfl rfl
theorem mw_657 : (Jvm.Cond.methodLink "VoxelmintLaw" (165 : Nat) ({ cls := "VoxelmintLaw", name := "isForged", desc := "(LVoxelmint;I[J)I" } : Jvm.MethodName)) ∈ mi_G := mi_t3 145 rfl rfl
theorem mw_658 : (Jvm.Cond.static ({ cls := "VoxelmintLaw", name := "isForged", desc := "(LVoxelmint;I[J)I" } : Jvm.MethodName)) ∈ mi_G := mi_t3 146 rfl rfl
theorem mw_659 : (Jvm.Cond.codeWith ({ cls := "VoxelmintLaw", name := "isForged", desc := "(LVoxelmint;I[J)I" } : Jvm.MethodName) method_20_code (4 : Nat) (Option.some Jvm.ClassFile.FieldType.int) [((0 : Nat), (16 : Nat), (19 : Nat), (13 : Nat))]) ∈ mi_G := mi_t3 147 rfl rfl
theorem mw_660 : (Jvm.Cond.methodLink "VoxelmintLaw" (70 : Nat) ({ cls := "Voxelmint", name := "isForged", desc := "(I)Z" } : Jvm.MethodName)) ∈ mi_G := mi_t3 148 rfl rfl
theorem mw_661 : (Jvm.Cond.instanceMethod ({ cls := "Voxelmint", name := "isForged", desc := "(I)Z" } : Jvm.MethodName)) ∈ mi_G := mi_t3 149 rfl rfl
theorem mw_662 : (Jvm.Cond.selects "Voxelmint" ({ cls := "Voxelmint", name := "isForged", desc := "(I)Z" } : Jvm.MethodName) ({ cls := "Voxelmint", name := "isForged", desc := "(I)Z" } : Jvm.MethodName)) ∈ mi_G := mi_t3 150 rfl rfl
theorem mw_663 : (Jvm.Cond.code ({ cls := "Voxelmint", name := "isForged", desc := "(I)Z" } : Jvm.MethodName) prog_1_method_25_code (3 : Nat) (Option.some Jvm.ClassFile.FieldType.boolean)) ∈ mi_G := mi_t3 151 rfl rfl
theorem mw_664 : (Jvm.Cond.methodLink "VoxelmintLaw" (168 : Nat) ({ cls := "VoxelmintLaw", name := "distance", desc := "(LVoxelmint;II[J)I" } : Jvm.MethodName)) ∈ mi_G := mi_t3 152 rfl rfl
theorem mw_665 : (Jvm.Cond.static ({ cls := "VoxelmintLaw", name := "distance", desc := "(LVoxelmint;II[J)I" } : Jvm.MethodName)) ∈ mi_G := mi_t3 153 rfl rfl
theorem mw_666 : (Jvm.Cond.codeWith ({ cls := "VoxelmintLaw", name := "distance", desc := "(LVoxelmint;II[J)I" } : Jvm.MethodName) method_21_code (5 : Nat) (Option.some Jvm.ClassFile.FieldType.int) [((0 : Nat), (10 : Nat), (13 : Nat), (13 : Nat))]) ∈ mi_G := mi_t3 154 rfl rfl
theorem mw_667 : (Jvm.Cond.methodLink "VoxelmintLaw" (74 : Nat) ({ cls := "Voxelmint", name := "distance", desc := "(II)I" } : Jvm.MethodName)) ∈ mi_G := mi_t3 155 rfl rfl
theorem mw_668 : (Jvm.Cond.instanceMethod ({ cls := "Voxelmint", name := "distance", desc := "(II)I" } : Jvm.MethodName)) ∈ mi_G := mi_t3 156 rfl rfl
theorem mw_669 : (Jvm.Cond.selects "Voxelmint" ({ cls := "Voxelmint", name := "distance", desc := "(II)I" } : Jvm.MethodName) ({ cls := "Voxelmint", name := "distance", desc := "(II)I" } : Jvm.MethodName)) ∈ mi_G := mi_t3 157 rfl rfl
theorem mw_670 : (Jvm.Cond.code ({ cls := "Voxelmint", name := "distance", desc := "(II)I" } : Jvm.MethodName) prog_1_method_26_code (3 : Nat) (Option.some Jvm.ClassFile.FieldType.int)) ∈ mi_G := mi_t3 158 rfl rfl
theorem mw_671 : (Jvm.Cond.classLink "VoxelmintLaw" (78 : Nat) "VoxelmintModel") ∈ mi_G := mi_t3 159 rfl rfl
theorem mw_672 : (Jvm.Cond.instantiable "VoxelmintModel" (15 : Nat)) ∈ mi_G := mi_t3 160 rfl rfl
theorem mw_673 : (Jvm.Cond.methodLink "VoxelmintLaw" (80 : Nat) ({ cls := "VoxelmintModel", name := "<init>", desc := "()V" } : Jvm.MethodName)) ∈ mi_G := mi_t3 161 rfl rfl
theorem mw_674 : (Jvm.Cond.instanceMethod ({ cls := "VoxelmintModel", name := "<init>", desc := "()V" } : Jvm.MethodName)) ∈ mi_G := mi_t3 162 rfl rfl
theorem mw_675 : (Jvm.Cond.code ({ cls := "VoxelmintModel", name := "<init>", desc := "()V" } : Jvm.MethodName) prog_7_method_1_code (1 : Nat) (Option.none : Option Jvm.ClassFile.FieldType)) ∈ mi_G := mi_t3 163 rfl rfl
theorem mw_676 : (Jvm.Cond.methodLink "VoxelmintModel" (1 : Nat) ({ cls := "java/lang/Object", name := "<init>", desc := "()V" } : Jvm.MethodName)) ∈ mi_G := mi_t3 164 rfl rfl
theorem mw_677 : (Jvm.Cond.fieldLink "VoxelmintModel" (44 : Nat) "VoxelmintModel" "thrown" "I") ∈ mi_G := mi_t3 165 rfl rfl
theorem mw_678 : (Jvm.Cond.fieldLink "VoxelmintModel" (7 : Nat) "VoxelmintModel" "states" "I") ∈ mi_G := mi_t3 166 rfl rfl
theorem mw_679 : (Jvm.Cond.fieldLink "VoxelmintModel" (51 : Nat) "VoxelmintModel" "now" "I") ∈ mi_G := mi_t3 167 rfl rfl
theorem mw_680 : (Jvm.Cond.fieldLink "VoxelmintModel" (13 : Nat) "VoxelmintModel" "parent" "[I") ∈ mi_G := mi_t3 168 rfl rfl
theorem mw_681 : (Jvm.Cond.fieldLink "VoxelmintModel" (17 : Nat) "VoxelmintModel" "column" "[I") ∈ mi_G := mi_t3 169 rfl rfl
theorem mw_682 : (Jvm.Cond.fieldLink "VoxelmintModel" (20 : Nat) "VoxelmintModel" "label" "[I") ∈ mi_G := mi_t3 170 rfl rfl
theorem mw_683 : (Jvm.Cond.fieldLink "VoxelmintModel" (104 : Nat) "VoxelmintModel" "dies" "I") ∈ mi_G := mi_t3 171 rfl rfl
theorem mw_684 : (Jvm.Cond.fieldLink "VoxelmintModel" (23 : Nat) "VoxelmintModel" "first" "[I") ∈ mi_G := mi_t3 172 rfl rfl
theorem mw_685 : (Jvm.Cond.fieldLink "VoxelmintModel" (26 : Nat) "VoxelmintModel" "worn" "[I") ∈ mi_G := mi_t3 173 rfl rfl
theorem mw_686 : (Jvm.Cond.fieldLink "VoxelmintModel" (29 : Nat) "VoxelmintModel" "strikes" "[I") ∈ mi_G := mi_t3 174 rfl rfl
theorem mw_687 : (Jvm.Cond.fieldLink "VoxelmintModel" (107 : Nat) "VoxelmintModel" "coins" "I") ∈ mi_G := mi_t3 175 rfl rfl
theorem mw_688 : (Jvm.Cond.fieldLink "VoxelmintModel" (32 : Nat) "VoxelmintModel" "heights" "[I") ∈ mi_G := mi_t3 176 rfl rfl
theorem mw_689 : (Jvm.Cond.fieldLink "VoxelmintModel" (35 : Nat) "VoxelmintModel" "die" "[I") ∈ mi_G := mi_t3 177 rfl rfl
theorem mw_690 : (Jvm.Cond.fieldLink "VoxelmintModel" (38 : Nat) "VoxelmintModel" "number" "[I") ∈ mi_G := mi_t3 178 rfl rfl
theorem mw_691 : (Jvm.Cond.fieldLink "VoxelmintModel" (41 : Nat) "VoxelmintModel" "then" "[I") ∈ mi_G := mi_t3 179 rfl rfl
theorem mw_692 : (Jvm.Cond.lays "VoxelmintModel" "VoxelmintModel" "thrown" "I") ∈ mi_G := mi_t3 180 rfl rfl
theorem mw_694 : (Jvm.Cond.lays "VoxelmintModel" "VoxelmintModel" "states" "I") ∈ mi_G := mi_t3 182 rfl rfl
theorem mw_696 : (Jvm.Cond.lays "VoxelmintModel" "VoxelmintModel" "now" "I") ∈ mi_G := mi_t3 184 rfl rfl
theorem mw_698 : (Jvm.Cond.laysFinal "VoxelmintModel" "VoxelmintModel" "parent" "[I") ∈ mi_G := mi_t3 186 rfl rfl
theorem mw_700 : (Jvm.Cond.laysFinal "VoxelmintModel" "VoxelmintModel" "column" "[I") ∈ mi_G := mi_t3 188 rfl rfl
theorem mw_702 : (Jvm.Cond.laysFinal "VoxelmintModel" "VoxelmintModel" "label" "[I") ∈ mi_G := mi_t3 190 rfl rfl
theorem mw_704 : (Jvm.Cond.lays "VoxelmintModel" "VoxelmintModel" "dies" "I") ∈ mi_G := mi_t3 192 rfl rfl
theorem mw_706 : (Jvm.Cond.laysFinal "VoxelmintModel" "VoxelmintModel" "first" "[I") ∈ mi_G := mi_t3 194 rfl rfl
theorem mw_708 : (Jvm.Cond.laysFinal "VoxelmintModel" "VoxelmintModel" "worn" "[I") ∈ mi_G := mi_t3 196 rfl rfl
theorem mw_710 : (Jvm.Cond.laysFinal "VoxelmintModel" "VoxelmintModel" "strikes" "[I") ∈ mi_G := mi_t3 198 rfl rfl
theorem mw_712 : (Jvm.Cond.lays "VoxelmintModel" "VoxelmintModel" "coins" "I") ∈ mi_G := mi_t3 200 rfl rfl
theorem mw_714 : (Jvm.Cond.laysFinal "VoxelmintModel" "VoxelmintModel" "heights" "[I") ∈ mi_G := mi_t3 202 rfl rfl
theorem mw_716 : (Jvm.Cond.laysFinal "VoxelmintModel" "VoxelmintModel" "die" "[I") ∈ mi_G := mi_t3 204 rfl rfl
theorem mw_718 : (Jvm.Cond.laysFinal "VoxelmintModel" "VoxelmintModel" "number" "[I") ∈ mi_G := mi_t3 206 rfl rfl
theorem mw_720 : (Jvm.Cond.laysFinal "VoxelmintModel" "VoxelmintModel" "then" "[I") ∈ mi_G := mi_t3 208 rfl rfl
theorem mw_723 : (Jvm.Cond.methodLink "VoxelmintLaw" (87 : Nat) ({ cls := "VoxelmintModel", name := "thrown", desc := "()I" } : Jvm.MethodName)) ∈ mi_G := mi_t3 211 rfl rfl
theorem mw_724 : (Jvm.Cond.instanceMethod ({ cls := "VoxelmintModel", name := "thrown", desc := "()I" } : Jvm.MethodName)) ∈ mi_G := mi_t3 212 rfl rfl
theorem mw_725 : (Jvm.Cond.selects "VoxelmintModel" ({ cls := "VoxelmintModel", name := "thrown", desc := "()I" } : Jvm.MethodName) ({ cls := "VoxelmintModel", name := "thrown", desc := "()I" } : Jvm.MethodName)) ∈ mi_G := mi_t3 213 rfl rfl
theorem mw_726 : (Jvm.Cond.code ({ cls := "VoxelmintModel", name := "thrown", desc := "()I" } : Jvm.MethodName) prog_7_method_2_code (1 : Nat) (Option.some Jvm.ClassFile.FieldType.int)) ∈ mi_G := mi_t3 214 rfl rfl
theorem mw_727 : (Jvm.Cond.methodLink "VoxelmintLaw" (86 : Nat) ({ cls := "VoxelmintModel", name := "set", desc := "(III)I" } : Jvm.MethodName)) ∈ mi_G := mi_t3 215 rfl rfl
theorem mw_728 : (Jvm.Cond.instanceMethod ({ cls := "VoxelmintModel", name := "set", desc := "(III)I" } : Jvm.MethodName)) ∈ mi_G := mi_t3 216 rfl rfl
theorem mw_729 : (Jvm.Cond.selects "VoxelmintModel" ({ cls := "VoxelmintModel", name := "set", desc := "(III)I" } : Jvm.MethodName) ({ cls := "VoxelmintModel", name := "set", desc := "(III)I" } : Jvm.MethodName)) ∈ mi_G := mi_t3 217 rfl rfl
theorem mw_730 : (Jvm.Cond.code ({ cls := "VoxelmintModel", name := "set", desc := "(III)I" } : Jvm.MethodName) prog_7_method_10_code (4 : Nat) (Option.some Jvm.ClassFile.FieldType.int)) ∈ mi_G := mi_t3 218 rfl rfl
theorem mw_731 : (Jvm.Cond.methodLink "VoxelmintModel" (58 : Nat) ({ cls := "VoxelmintModel", name := "isColumn", desc := "(I)Z" } : Jvm.MethodName)) ∈ mi_G := mi_t3 219 rfl rfl
theorem mw_732 : (Jvm.Cond.static ({ cls := "VoxelmintModel", name := "isColumn", desc := "(I)Z" } : Jvm.MethodName)) ∈ mi_G := mi_t3 220 rfl rfl
theorem mw_733 : (Jvm.Cond.code ({ cls := "VoxelmintModel", name := "isColumn", desc := "(I)Z" } : Jvm.MethodName) prog_7_method_4_code (1 : Nat) (Option.some Jvm.ClassFile.FieldType.boolean)) ∈ mi_G := mi_t3 221 rfl rfl
theorem mw_734 : (Jvm.Cond.methodLink "VoxelmintModel" (47 : Nat) ({ cls := "VoxelmintModel", name := "in", desc := "(III)Z" } : Jvm.MethodName)) ∈ mi_G := mi_t3 222 rfl rfl
theorem mw_735 : (Jvm.Cond.static ({ cls := "VoxelmintModel", name := "in", desc := "(III)Z" } : Jvm.MethodName)) ∈ mi_G := mi_t3 223 rfl rfl
theorem mw_736 : (Jvm.Cond.code ({ cls := "VoxelmintModel", name := "in", desc := "(III)Z" } : Jvm.MethodName) prog_7_method_3_code (3 : Nat) (Option.some Jvm.ClassFile.FieldType.boolean)) ∈ mi_G := mi_t3 224 rfl rfl
theorem mw_737 : (Jvm.Cond.methodLink "VoxelmintModel" (62 : Nat) ({ cls := "VoxelmintModel", name := "isLevel", desc := "(I)Z" } : Jvm.MethodName)) ∈ mi_G := mi_t3 225 rfl rfl
theorem mw_738 : (Jvm.Cond.static ({ cls := "VoxelmintModel", name := "isLevel", desc := "(I)Z" } : Jvm.MethodName)) ∈ mi_G := mi_t3 226 rfl rfl
theorem mw_739 : (Jvm.Cond.code ({ cls := "VoxelmintModel", name := "isLevel", desc := "(I)Z" } : Jvm.MethodName) prog_7_method_5_code (1 : Nat) (Option.some Jvm.ClassFile.FieldType.boolean)) ∈ mi_G := mi_t3 227 rfl rfl
theorem mw_740 : (Jvm.Cond.methodLink "VoxelmintModel" (65 : Nat) ({ cls := "VoxelmintModel", name := "grows", desc := "()V" } : Jvm.MethodName)) ∈ mi_G := mi_t3 228 rfl rfl
theorem mw_742 : (Jvm.Cond.instanceMethod ({ cls := "VoxelmintModel", name := "grows", desc := "()V" } : Jvm.MethodName)) ∈ mi_G := mi_t3 230 rfl rfl
theorem mw_743 : (Jvm.Cond.code ({ cls := "VoxelmintModel", name := "grows", desc := "()V" } : Jvm.MethodName) prog_7_method_8_code (2 : Nat) (Option.none : Option Jvm.ClassFile.FieldType)) ∈ mi_G := mi_t3 231 rfl rfl
theorem mw_744 : (Jvm.Cond.methodLink "VoxelmintModel" (68 : Nat) ({ cls := "VoxelmintModel", name := "puts", desc := "(III)V" } : Jvm.MethodName)) ∈ mi_G := mi_t3 232 rfl rfl
theorem mw_746 : (Jvm.Cond.instanceMethod ({ cls := "VoxelmintModel", name := "puts", desc := "(III)V" } : Jvm.MethodName)) ∈ mi_G := mi_t3 234 rfl rfl
theorem mw_747 : (Jvm.Cond.code ({ cls := "VoxelmintModel", name := "puts", desc := "(III)V" } : Jvm.MethodName) prog_7_method_9_code (5 : Nat) (Option.none : Option Jvm.ClassFile.FieldType)) ∈ mi_G := mi_t3 235 rfl rfl
theorem mw_748 : (Jvm.Cond.methodLink "VoxelmintLaw" (92 : Nat) ({ cls := "VoxelmintModel", name := "raise", desc := "(III)I" } : Jvm.MethodName)) ∈ mi_G := mi_t3 236 rfl rfl
theorem mw_749 : (Jvm.Cond.instanceMethod ({ cls := "VoxelmintModel", name := "raise", desc := "(III)I" } : Jvm.MethodName)) ∈ mi_G := mi_t3 237 rfl rfl
theorem mw_750 : (Jvm.Cond.selects "VoxelmintModel" ({ cls := "VoxelmintModel", name := "raise", desc := "(III)I" } : Jvm.MethodName) ({ cls := "VoxelmintModel", name := "raise", desc := "(III)I" } : Jvm.MethodName)) ∈ mi_G := mi_t3 238 rfl rfl
theorem mw_751 : (Jvm.Cond.code ({ cls := "VoxelmintModel", name := "raise", desc := "(III)I" } : Jvm.MethodName) prog_7_method_11_code (5 : Nat) (Option.some Jvm.ClassFile.FieldType.int)) ∈ mi_G := mi_t3 239 rfl rfl
theorem mw_752 : (Jvm.Cond.methodLink "VoxelmintLaw" (96 : Nat) ({ cls := "VoxelmintModel", name := "layer", desc := "(II)I" } : Jvm.MethodName)) ∈ mi_G := mi_t4 0 rfl rfl
theorem mw_753 : (Jvm.Cond.instanceMethod ({ cls := "VoxelmintModel", name := "layer", desc := "(II)I" } : Jvm.MethodName)) ∈ mi_G := mi_t4 1 rfl rfl
theorem mw_754 : (Jvm.Cond.selects "VoxelmintModel" ({ cls := "VoxelmintModel", name := "layer", desc := "(II)I" } : Jvm.MethodName) ({ cls := "VoxelmintModel", name := "layer", desc := "(II)I" } : Jvm.MethodName)) ∈ mi_G := mi_t4 2 rfl rfl
theorem mw_755 : (Jvm.Cond.code ({ cls := "VoxelmintModel", name := "layer", desc := "(II)I" } : Jvm.MethodName) prog_7_method_12_code (4 : Nat) (Option.some Jvm.ClassFile.FieldType.int)) ∈ mi_G := mi_t4 3 rfl rfl
theorem mw_756 : (Jvm.Cond.methodLink "VoxelmintLaw" (99 : Nat) ({ cls := "VoxelmintModel", name := "kind", desc := "(II)I" } : Jvm.MethodName)) ∈ mi_G := mi_t4 4 rfl rfl
theorem mw_757 : (Jvm.Cond.instanceMethod ({ cls := "VoxelmintModel", name := "kind", desc := "(II)I" } : Jvm.MethodName)) ∈ mi_G := mi_t4 5 rfl rfl
theorem mw_758 : (Jvm.Cond.selects "VoxelmintModel" ({ cls := "VoxelmintModel", name := "kind", desc := "(II)I" } : Jvm.MethodName) ({ cls := "VoxelmintModel", name := "kind", desc := "(II)I" } : Jvm.MethodName)) ∈ mi_G := mi_t4 6 rfl rfl
theorem mw_759 : (Jvm.Cond.code ({ cls := "VoxelmintModel", name := "kind", desc := "(II)I" } : Jvm.MethodName) prog_7_method_13_code (3 : Nat) (Option.some Jvm.ClassFile.FieldType.int)) ∈ mi_G := mi_t4 7 rfl rfl
theorem mw_760 : (Jvm.Cond.methodLink "VoxelmintModel" (72 : Nat) ({ cls := "VoxelmintModel", name := "kindNow", desc := "(II)I" } : Jvm.MethodName)) ∈ mi_G := mi_t4 8 rfl rfl
theorem mw_762 : (Jvm.Cond.instanceMethod ({ cls := "VoxelmintModel", name := "kindNow", desc := "(II)I" } : Jvm.MethodName)) ∈ mi_G := mi_t4 10 rfl rfl
theorem mw_763 : (Jvm.Cond.code ({ cls := "VoxelmintModel", name := "kindNow", desc := "(II)I" } : Jvm.MethodName) prog_7_method_7_code (3 : Nat) (Option.some Jvm.ClassFile.FieldType.int)) ∈ mi_G := mi_t4 11 rfl rfl
theorem mw_764 : (Jvm.Cond.methodLink "VoxelmintModel" (54 : Nat) ({ cls := "VoxelmintModel", name := "kindAt", desc := "(III)I" } : Jvm.MethodName)) ∈ mi_G := mi_t4 12 rfl rfl
theorem mw_766 : (Jvm.Cond.instanceMethod ({ cls := "VoxelmintModel", name := "kindAt", desc := "(III)I" } : Jvm.MethodName)) ∈ mi_G := mi_t4 14 rfl rfl
theorem mw_767 : (Jvm.Cond.code ({ cls := "VoxelmintModel", name := "kindAt", desc := "(III)I" } : Jvm.MethodName) prog_7_method_6_code (4 : Nat) (Option.some Jvm.ClassFile.FieldType.int)) ∈ mi_G := mi_t4 15 rfl rfl
theorem mw_768 : (Jvm.Cond.methodLink "VoxelmintLaw" (103 : Nat) ({ cls := "VoxelmintModel", name := "runs", desc := "(I)I" } : Jvm.MethodName)) ∈ mi_G := mi_t4 16 rfl rfl
theorem mw_769 : (Jvm.Cond.instanceMethod ({ cls := "VoxelmintModel", name := "runs", desc := "(I)I" } : Jvm.MethodName)) ∈ mi_G := mi_t4 17 rfl rfl
theorem mw_770 : (Jvm.Cond.selects "VoxelmintModel" ({ cls := "VoxelmintModel", name := "runs", desc := "(I)I" } : Jvm.MethodName) ({ cls := "VoxelmintModel", name := "runs", desc := "(I)I" } : Jvm.MethodName)) ∈ mi_G := mi_t4 18 rfl rfl
theorem mw_771 : (Jvm.Cond.code ({ cls := "VoxelmintModel", name := "runs", desc := "(I)I" } : Jvm.MethodName) prog_7_method_15_code (2 : Nat) (Option.some Jvm.ClassFile.FieldType.int)) ∈ mi_G := mi_t4 19 rfl rfl
theorem mw_772 : (Jvm.Cond.methodLink "VoxelmintModel" (76 : Nat) ({ cls := "VoxelmintModel", name := "runsOf", desc := "(I)I" } : Jvm.MethodName)) ∈ mi_G := mi_t4 20 rfl rfl
theorem mw_774 : (Jvm.Cond.instanceMethod ({ cls := "VoxelmintModel", name := "runsOf", desc := "(I)I" } : Jvm.MethodName)) ∈ mi_G := mi_t4 22 rfl rfl
theorem mw_775 : (Jvm.Cond.code ({ cls := "VoxelmintModel", name := "runsOf", desc := "(I)I" } : Jvm.MethodName) prog_7_method_14_code (4 : Nat) (Option.some Jvm.ClassFile.FieldType.int)) ∈ mi_G := mi_t4 23 rfl rfl
theorem mw_776 : (Jvm.Cond.methodLink "VoxelmintLaw" (106 : Nat) ({ cls := "VoxelmintModel", name := "runLength", desc := "(II)I" } : Jvm.MethodName)) ∈ mi_G := mi_t4 24 rfl rfl
theorem mw_777 : (Jvm.Cond.instanceMethod ({ cls := "VoxelmintModel", name := "runLength", desc := "(II)I" } : Jvm.MethodName)) ∈ mi_G := mi_t4 25 rfl rfl
theorem mw_778 : (Jvm.Cond.selects "VoxelmintModel" ({ cls := "VoxelmintModel", name := "runLength", desc := "(II)I" } : Jvm.MethodName) ({ cls := "VoxelmintModel", name := "runLength", desc := "(II)I" } : Jvm.MethodName)) ∈ mi_G := mi_t4 26 rfl rfl
theorem mw_779 : (Jvm.Cond.code ({ cls := "VoxelmintModel", name := "runLength", desc := "(II)I" } : Jvm.MethodName) prog_7_method_16_code (6 : Nat) (Option.some Jvm.ClassFile.FieldType.int)) ∈ mi_G := mi_t4 27 rfl rfl
theorem mw_780 : (Jvm.Cond.methodLink "VoxelmintLaw" (110 : Nat) ({ cls := "VoxelmintModel", name := "blocks", desc := "()I" } : Jvm.MethodName)) ∈ mi_G := mi_t4 28 rfl rfl
theorem mw_781 : (Jvm.Cond.instanceMethod ({ cls := "VoxelmintModel", name := "blocks", desc := "()I" } : Jvm.MethodName)) ∈ mi_G := mi_t4 29 rfl rfl
theorem mw_782 : (Jvm.Cond.selects "VoxelmintModel" ({ cls := "VoxelmintModel", name := "blocks", desc := "()I" } : Jvm.MethodName) ({ cls := "VoxelmintModel", name := "blocks", desc := "()I" } : Jvm.MethodName)) ∈ mi_G := mi_t4 30 rfl rfl
theorem mw_783 : (Jvm.Cond.code ({ cls := "VoxelmintModel", name := "blocks", desc := "()I" } : Jvm.MethodName) prog_7_method_18_code (1 : Nat) (Option.some Jvm.ClassFile.FieldType.int)) ∈ mi_G := mi_t4 31 rfl rfl
theorem mw_784 : (Jvm.Cond.methodLink "VoxelmintModel" (80 : Nat) ({ cls := "VoxelmintModel", name := "manyBlocks", desc := "()I" } : Jvm.MethodName)) ∈ mi_G := mi_t4 32 rfl rfl
theorem mw_786 : (Jvm.Cond.instanceMethod ({ cls := "VoxelmintModel", name := "manyBlocks", desc := "()I" } : Jvm.MethodName)) ∈ mi_G := mi_t4 34 rfl rfl
theorem mw_787 : (Jvm.Cond.code ({ cls := "VoxelmintModel", name := "manyBlocks", desc := "()I" } : Jvm.MethodName) prog_7_method_17_code (4 : Nat) (Option.some Jvm.ClassFile.FieldType.int)) ∈ mi_G := mi_t4 35 rfl rfl
theorem mw_788 : (Jvm.Cond.methodLink "VoxelmintLaw" (114 : Nat) ({ cls := "VoxelmintModel", name := "blocksOneByOne", desc := "()I" } : Jvm.MethodName)) ∈ mi_G := mi_t4 36 rfl rfl
theorem mw_789 : (Jvm.Cond.instanceMethod ({ cls := "VoxelmintModel", name := "blocksOneByOne", desc := "()I" } : Jvm.MethodName)) ∈ mi_G := mi_t4 37 rfl rfl
theorem mw_790 : (Jvm.Cond.selects "VoxelmintModel" ({ cls := "VoxelmintModel", name := "blocksOneByOne", desc := "()I" } : Jvm.MethodName) ({ cls := "VoxelmintModel", name := "blocksOneByOne", desc := "()I" } : Jvm.MethodName)) ∈ mi_G := mi_t4 38 rfl rfl
theorem mw_791 : (Jvm.Cond.code ({ cls := "VoxelmintModel", name := "blocksOneByOne", desc := "()I" } : Jvm.MethodName) prog_7_method_19_code (1 : Nat) (Option.some Jvm.ClassFile.FieldType.int)) ∈ mi_G := mi_t4 39 rfl rfl
theorem mw_792 : (Jvm.Cond.methodLink "VoxelmintLaw" (118 : Nat) ({ cls := "VoxelmintModel", name := "pieces", desc := "()I" } : Jvm.MethodName)) ∈ mi_G := mi_t4 40 rfl rfl
theorem mw_793 : (Jvm.Cond.instanceMethod ({ cls := "VoxelmintModel", name := "pieces", desc := "()I" } : Jvm.MethodName)) ∈ mi_G := mi_t4 41 rfl rfl
theorem mw_794 : (Jvm.Cond.selects "VoxelmintModel" ({ cls := "VoxelmintModel", name := "pieces", desc := "()I" } : Jvm.MethodName) ({ cls := "VoxelmintModel", name := "pieces", desc := "()I" } : Jvm.MethodName)) ∈ mi_G := mi_t4 42 rfl rfl
theorem mw_795 : (Jvm.Cond.code ({ cls := "VoxelmintModel", name := "pieces", desc := "()I" } : Jvm.MethodName) prog_7_method_23_code (1 : Nat) (Option.some Jvm.ClassFile.FieldType.int)) ∈ mi_G := mi_t4 43 rfl rfl
theorem mw_796 : (Jvm.Cond.methodLink "VoxelmintModel" (92 : Nat) ({ cls := "VoxelmintModel", name := "manyPieces", desc := "()I" } : Jvm.MethodName)) ∈ mi_G := mi_t4 44 rfl rfl
theorem mw_798 : (Jvm.Cond.instanceMethod ({ cls := "VoxelmintModel", name := "manyPieces", desc := "()I" } : Jvm.MethodName)) ∈ mi_G := mi_t4 46 rfl rfl
theorem mw_799 : (Jvm.Cond.code ({ cls := "VoxelmintModel", name := "manyPieces", desc := "()I" } : Jvm.MethodName) prog_7_method_22_code (4 : Nat) (Option.some Jvm.ClassFile.FieldType.int)) ∈ mi_G := mi_t4 47 rfl rfl
theorem mw_800 : (Jvm.Cond.methodLink "VoxelmintModel" (88 : Nat) ({ cls := "VoxelmintModel", name := "joinsAll", desc := "()Z" } : Jvm.MethodName)) ∈ mi_G := mi_t4 48 rfl rfl
theorem mw_802 : (Jvm.Cond.instanceMethod ({ cls := "VoxelmintModel", name := "joinsAll", desc := "()Z" } : Jvm.MethodName)) ∈ mi_G := mi_t4 50 rfl rfl
theorem mw_803 : (Jvm.Cond.code ({ cls := "VoxelmintModel", name := "joinsAll", desc := "()Z" } : Jvm.MethodName) prog_7_method_21_code (5 : Nat) (Option.some Jvm.ClassFile.FieldType.boolean)) ∈ mi_G := mi_t4 51 rfl rfl
theorem mw_804 : (Jvm.Cond.methodLink "VoxelmintModel" (84 : Nat) ({ cls := "VoxelmintModel", name := "joins", desc := "(II)Z" } : Jvm.MethodName)) ∈ mi_G := mi_t4 52 rfl rfl
theorem mw_806 : (Jvm.Cond.instanceMethod ({ cls := "VoxelmintModel", name := "joins", desc := "(II)Z" } : Jvm.MethodName)) ∈ mi_G := mi_t4 54 rfl rfl
theorem mw_807 : (Jvm.Cond.code ({ cls := "VoxelmintModel", name := "joins", desc := "(II)Z" } : Jvm.MethodName) prog_7_method_20_code (4 : Nat) (Option.some Jvm.ClassFile.FieldType.boolean)) ∈ mi_G := mi_t4 55 rfl rfl
theorem mw_808 : (Jvm.Cond.methodLink "VoxelmintLaw" (121 : Nat) ({ cls := "VoxelmintModel", name := "height", desc := "(I)I" } : Jvm.MethodName)) ∈ mi_G := mi_t4 56 rfl rfl
theorem mw_809 : (Jvm.Cond.instanceMethod ({ cls := "VoxelmintModel", name := "height", desc := "(I)I" } : Jvm.MethodName)) ∈ mi_G := mi_t4 57 rfl rfl
theorem mw_810 : (Jvm.Cond.selects "VoxelmintModel" ({ cls := "VoxelmintModel", name := "height", desc := "(I)I" } : Jvm.MethodName) ({ cls := "VoxelmintModel", name := "height", desc := "(I)I" } : Jvm.MethodName)) ∈ mi_G := mi_t4 58 rfl rfl
theorem mw_811 : (Jvm.Cond.code ({ cls := "VoxelmintModel", name := "height", desc := "(I)I" } : Jvm.MethodName) prog_7_method_25_code (2 : Nat) (Option.some Jvm.ClassFile.FieldType.int)) ∈ mi_G := mi_t4 59 rfl rfl
theorem mw_812 : (Jvm.Cond.methodLink "VoxelmintModel" (95 : Nat) ({ cls := "VoxelmintModel", name := "heightNow", desc := "(I)I" } : Jvm.MethodName)) ∈ mi_G := mi_t4 60 rfl rfl
theorem mw_814 : (Jvm.Cond.instanceMethod ({ cls := "VoxelmintModel", name := "heightNow", desc := "(I)I" } : Jvm.MethodName)) ∈ mi_G := mi_t4 62 rfl rfl
theorem mw_815 : (Jvm.Cond.code ({ cls := "VoxelmintModel", name := "heightNow", desc := "(I)I" } : Jvm.MethodName) prog_7_method_24_code (4 : Nat) (Option.some Jvm.ClassFile.FieldType.int)) ∈ mi_G := mi_t4 63 rfl rfl
theorem mw_816 : (Jvm.Cond.methodLink "VoxelmintLaw" (125 : Nat) ({ cls := "VoxelmintModel", name := "state", desc := "()I" } : Jvm.MethodName)) ∈ mi_G := mi_t4 64 rfl rfl
theorem mw_817 : (Jvm.Cond.instanceMethod ({ cls := "VoxelmintModel", name := "state", desc := "()I" } : Jvm.MethodName)) ∈ mi_G := mi_t4 65 rfl rfl
theorem mw_818 : (Jvm.Cond.selects "VoxelmintModel" ({ cls := "VoxelmintModel", name := "state", desc := "()I" } : Jvm.MethodName) ({ cls := "VoxelmintModel", name := "state", desc := "()I" } : Jvm.MethodName)) ∈ mi_G := mi_t4 66 rfl rfl
theorem mw_819 : (Jvm.Cond.code ({ cls := "VoxelmintModel", name := "state", desc := "()I" } : Jvm.MethodName) prog_7_method_26_code (1 : Nat) (Option.some Jvm.ClassFile.FieldType.int)) ∈ mi_G := mi_t4 67 rfl rfl
theorem mw_820 : (Jvm.Cond.methodLink "VoxelmintLaw" (129 : Nat) ({ cls := "VoxelmintModel", name := "states", desc := "()I" } : Jvm.MethodName)) ∈ mi_G := mi_t4 68 rfl rfl
theorem mw_821 : (Jvm.Cond.instanceMethod ({ cls := "VoxelmintModel", name := "states", desc := "()I" } : Jvm.MethodName)) ∈ mi_G := mi_t4 69 rfl rfl
theorem mw_822 : (Jvm.Cond.selects "VoxelmintModel" ({ cls := "VoxelmintModel", name := "states", desc := "()I" } : Jvm.MethodName) ({ cls := "VoxelmintModel", name := "states", desc := "()I" } : Jvm.MethodName)) ∈ mi_G := mi_t4 70 rfl rfl
theorem mw_823 : (Jvm.Cond.code ({ cls := "VoxelmintModel", name := "states", desc := "()I" } : Jvm.MethodName) prog_7_method_27_code (1 : Nat) (Option.some Jvm.ClassFile.FieldType.int)) ∈ mi_G := mi_t4 71 rfl rfl
theorem mw_824 : (Jvm.Cond.methodLink "VoxelmintLaw" (132 : Nat) ({ cls := "VoxelmintModel", name := "visit", desc := "(I)I" } : Jvm.MethodName)) ∈ mi_G := mi_t4 72 rfl rfl
theorem mw_825 : (Jvm.Cond.instanceMethod ({ cls := "VoxelmintModel", name := "visit", desc := "(I)I" } : Jvm.MethodName)) ∈ mi_G := mi_t4 73 rfl rfl
theorem mw_826 : (Jvm.Cond.selects "VoxelmintModel" ({ cls := "VoxelmintModel", name := "visit", desc := "(I)I" } : Jvm.MethodName) ({ cls := "VoxelmintModel", name := "visit", desc := "(I)I" } : Jvm.MethodName)) ∈ mi_G := mi_t4 74 rfl rfl
theorem mw_827 : (Jvm.Cond.code ({ cls := "VoxelmintModel", name := "visit", desc := "(I)I" } : Jvm.MethodName) prog_7_method_29_code (3 : Nat) (Option.some Jvm.ClassFile.FieldType.int)) ∈ mi_G := mi_t4 75 rfl rfl
theorem mw_828 : (Jvm.Cond.methodLink "VoxelmintModel" (98 : Nat) ({ cls := "VoxelmintModel", name := "isState", desc := "(I)Z" } : Jvm.MethodName)) ∈ mi_G := mi_t4 76 rfl rfl
theorem mw_830 : (Jvm.Cond.instanceMethod ({ cls := "VoxelmintModel", name := "isState", desc := "(I)Z" } : Jvm.MethodName)) ∈ mi_G := mi_t4 78 rfl rfl
theorem mw_831 : (Jvm.Cond.code ({ cls := "VoxelmintModel", name := "isState", desc := "(I)Z" } : Jvm.MethodName) prog_7_method_28_code (2 : Nat) (Option.some Jvm.ClassFile.FieldType.boolean)) ∈ mi_G := mi_t4 79 rfl rfl
theorem mw_832 : (Jvm.Cond.methodLink "VoxelmintLaw" (136 : Nat) ({ cls := "VoxelmintModel", name := "undo", desc := "()I" } : Jvm.MethodName)) ∈ mi_G := mi_t4 80 rfl rfl
theorem mw_833 : (Jvm.Cond.instanceMethod ({ cls := "VoxelmintModel", name := "undo", desc := "()I" } : Jvm.MethodName)) ∈ mi_G := mi_t4 81 rfl rfl
theorem mw_834 : (Jvm.Cond.selects "VoxelmintModel" ({ cls := "VoxelmintModel", name := "undo", desc := "()I" } : Jvm.MethodName) ({ cls := "VoxelmintModel", name := "undo", desc := "()I" } : Jvm.MethodName)) ∈ mi_G := mi_t4 82 rfl rfl
theorem mw_835 : (Jvm.Cond.code ({ cls := "VoxelmintModel", name := "undo", desc := "()I" } : Jvm.MethodName) prog_7_method_30_code (1 : Nat) (Option.some Jvm.ClassFile.FieldType.int)) ∈ mi_G := mi_t4 83 rfl rfl
theorem mw_836 : (Jvm.Cond.methodLink "VoxelmintLaw" (139 : Nat) ({ cls := "VoxelmintModel", name := "redo", desc := "(I)I" } : Jvm.MethodName)) ∈ mi_G := mi_t4 84 rfl rfl
theorem mw_837 : (Jvm.Cond.instanceMethod ({ cls := "VoxelmintModel", name := "redo", desc := "(I)I" } : Jvm.MethodName)) ∈ mi_G := mi_t4 85 rfl rfl
theorem mw_838 : (Jvm.Cond.selects "VoxelmintModel" ({ cls := "VoxelmintModel", name := "redo", desc := "(I)I" } : Jvm.MethodName) ({ cls := "VoxelmintModel", name := "redo", desc := "(I)I" } : Jvm.MethodName)) ∈ mi_G := mi_t4 86 rfl rfl
theorem mw_839 : (Jvm.Cond.code ({ cls := "VoxelmintModel", name := "redo", desc := "(I)I" } : Jvm.MethodName) prog_7_method_32_code (6 : Nat) (Option.some Jvm.ClassFile.FieldType.int)) ∈ mi_G := mi_t4 87 rfl rfl
theorem mw_840 : (Jvm.Cond.methodLink "VoxelmintModel" (101 : Nat) ({ cls := "VoxelmintModel", name := "manyBranches", desc := "()I" } : Jvm.MethodName)) ∈ mi_G := mi_t4 88 rfl rfl
theorem mw_842 : (Jvm.Cond.instanceMethod ({ cls := "VoxelmintModel", name := "manyBranches", desc := "()I" } : Jvm.MethodName)) ∈ mi_G := mi_t4 90 rfl rfl
theorem mw_843 : (Jvm.Cond.code ({ cls := "VoxelmintModel", name := "manyBranches", desc := "()I" } : Jvm.MethodName) prog_7_method_31_code (3 : Nat) (Option.some Jvm.ClassFile.FieldType.int)) ∈ mi_G := mi_t4 91 rfl rfl
theorem mw_844 : (Jvm.Cond.methodLink "VoxelmintLaw" (143 : Nat) ({ cls := "VoxelmintModel", name := "branches", desc := "()I" } : Jvm.MethodName)) ∈ mi_G := mi_t4 92 rfl rfl
theorem mw_845 : (Jvm.Cond.instanceMethod ({ cls := "VoxelmintModel", name := "branches", desc := "()I" } : Jvm.MethodName)) ∈ mi_G := mi_t4 93 rfl rfl
theorem mw_846 : (Jvm.Cond.selects "VoxelmintModel" ({ cls := "VoxelmintModel", name := "branches", desc := "()I" } : Jvm.MethodName) ({ cls := "VoxelmintModel", name := "branches", desc := "()I" } : Jvm.MethodName)) ∈ mi_G := mi_t4 94 rfl rfl
theorem mw_847 : (Jvm.Cond.code ({ cls := "VoxelmintModel", name := "branches", desc := "()I" } : Jvm.MethodName) prog_7_method_33_code (1 : Nat) (Option.some Jvm.ClassFile.FieldType.int)) ∈ mi_G := mi_t4 95 rfl rfl
theorem mw_848 : (Jvm.Cond.methodLink "VoxelmintLaw" (146 : Nat) ({ cls := "VoxelmintModel", name := "unlike", desc := "(II)I" } : Jvm.MethodName)) ∈ mi_G := mi_t4 96 rfl rfl
theorem mw_849 : (Jvm.Cond.instanceMethod ({ cls := "VoxelmintModel", name := "unlike", desc := "(II)I" } : Jvm.MethodName)) ∈ mi_G := mi_t4 97 rfl rfl
theorem mw_850 : (Jvm.Cond.selects "VoxelmintModel" ({ cls := "VoxelmintModel", name := "unlike", desc := "(II)I" } : Jvm.MethodName) ({ cls := "VoxelmintModel", name := "unlike", desc := "(II)I" } : Jvm.MethodName)) ∈ mi_G := mi_t4 98 rfl rfl
theorem mw_851 : (Jvm.Cond.code ({ cls := "VoxelmintModel", name := "unlike", desc := "(II)I" } : Jvm.MethodName) prog_7_method_34_code (5 : Nat) (Option.some Jvm.ClassFile.FieldType.int)) ∈ mi_G := mi_t4 99 rfl rfl
theorem mw_852 : (Jvm.Cond.methodLink "VoxelmintLaw" (149 : Nat) ({ cls := "VoxelmintModel", name := "cut", desc := "()I" } : Jvm.MethodName)) ∈ mi_G := mi_t4 100 rfl rfl
theorem mw_853 : (Jvm.Cond.instanceMethod ({ cls := "VoxelmintModel", name := "cut", desc := "()I" } : Jvm.MethodName)) ∈ mi_G := mi_t4 101 rfl rfl
theorem mw_854 : (Jvm.Cond.selects "VoxelmintModel" ({ cls := "VoxelmintModel", name := "cut", desc := "()I" } : Jvm.MethodName) ({ cls := "VoxelmintModel", name := "cut", desc := "()I" } : Jvm.MethodName)) ∈ mi_G := mi_t4 102 rfl rfl
theorem mw_855 : (Jvm.Cond.code ({ cls := "VoxelmintModel", name := "cut", desc := "()I" } : Jvm.MethodName) prog_7_method_37_code (2 : Nat) (Option.some Jvm.ClassFile.FieldType.int)) ∈ mi_G := mi_t4 103 rfl rfl
theorem mw_856 : (Jvm.Cond.methodLink "VoxelmintLaw" (152 : Nat) ({ cls := "VoxelmintModel", name := "strike", desc := "(I)I" } : Jvm.MethodName)) ∈ mi_G := mi_t4 104 rfl rfl
theorem mw_857 : (Jvm.Cond.instanceMethod ({ cls := "VoxelmintModel", name := "strike", desc := "(I)I" } : Jvm.MethodName)) ∈ mi_G := mi_t4 105 rfl rfl
theorem mw_858 : (Jvm.Cond.selects "VoxelmintModel" ({ cls := "VoxelmintModel", name := "strike", desc := "(I)I" } : Jvm.MethodName) ({ cls := "VoxelmintModel", name := "strike", desc := "(I)I" } : Jvm.MethodName)) ∈ mi_G := mi_t4 106 rfl rfl
theorem mw_859 : (Jvm.Cond.code ({ cls := "VoxelmintModel", name := "strike", desc := "(I)I" } : Jvm.MethodName) prog_7_method_38_code (4 : Nat) (Option.some Jvm.ClassFile.FieldType.int)) ∈ mi_G := mi_t4 107 rfl rfl
theorem mw_860 : (Jvm.Cond.methodLink "VoxelmintModel" (110 : Nat) ({ cls := "VoxelmintModel", name := "isDie", desc := "(I)Z" } : Jvm.MethodName)) ∈ mi_G := mi_t4 108 rfl rfl
theorem mw_862 : (Jvm.Cond.instanceMethod ({ cls := "VoxelmintModel", name := "isDie", desc := "(I)Z" } : Jvm.MethodName)) ∈ mi_G := mi_t4 110 rfl rfl
theorem mw_863 : (Jvm.Cond.code ({ cls := "VoxelmintModel", name := "isDie", desc := "(I)Z" } : Jvm.MethodName) prog_7_method_35_code (2 : Nat) (Option.some Jvm.ClassFile.FieldType.boolean)) ∈ mi_G := mi_t4 111 rfl rfl
theorem mw_864 : (Jvm.Cond.methodLink "VoxelmintLaw" (155 : Nat) ({ cls := "VoxelmintModel", name := "forge", desc := "(III)I" } : Jvm.MethodName)) ∈ mi_G := mi_t4 112 rfl rfl
theorem mw_865 : (Jvm.Cond.instanceMethod ({ cls := "VoxelmintModel", name := "forge", desc := "(III)I" } : Jvm.MethodName)) ∈ mi_G := mi_t4 113 rfl rfl
theorem mw_866 : (Jvm.Cond.selects "VoxelmintModel" ({ cls := "VoxelmintModel", name := "forge", desc := "(III)I" } : Jvm.MethodName) ({ cls := "VoxelmintModel", name := "forge", desc := "(III)I" } : Jvm.MethodName)) ∈ mi_G := mi_t4 114 rfl rfl
theorem mw_867 : (Jvm.Cond.code ({ cls := "VoxelmintModel", name := "forge", desc := "(III)I" } : Jvm.MethodName) prog_7_method_39_code (5 : Nat) (Option.some Jvm.ClassFile.FieldType.int)) ∈ mi_G := mi_t4 115 rfl rfl
theorem mw_868 : (Jvm.Cond.methodLink "VoxelmintModel" (113 : Nat) ({ cls := "VoxelmintModel", name := "isCoin", desc := "(I)Z" } : Jvm.MethodName)) ∈ mi_G := mi_t4 116 rfl rfl
theorem mw_870 : (Jvm.Cond.instanceMethod ({ cls := "VoxelmintModel", name := "isCoin", desc := "(I)Z" } : Jvm.MethodName)) ∈ mi_G := mi_t4 118 rfl rfl
theorem mw_871 : (Jvm.Cond.code ({ cls := "VoxelmintModel", name := "isCoin", desc := "(I)Z" } : Jvm.MethodName) prog_7_method_36_code (2 : Nat) (Option.some Jvm.ClassFile.FieldType.boolean)) ∈ mi_G := mi_t4 119 rfl rfl
theorem mw_872 : (Jvm.Cond.methodLink "VoxelmintLaw" (158 : Nat) ({ cls := "VoxelmintModel", name := "dieHeight", desc := "(II)I" } : Jvm.MethodName)) ∈ mi_G := mi_t4 120 rfl rfl
theorem mw_873 : (Jvm.Cond.instanceMethod ({ cls := "VoxelmintModel", name := "dieHeight", desc := "(II)I" } : Jvm.MethodName)) ∈ mi_G := mi_t4 121 rfl rfl
theorem mw_874 : (Jvm.Cond.selects "VoxelmintModel" ({ cls := "VoxelmintModel", name := "dieHeight", desc := "(II)I" } : Jvm.MethodName) ({ cls := "VoxelmintModel", name := "dieHeight", desc := "(II)I" } : Jvm.MethodName)) ∈ mi_G := mi_t4 122 rfl rfl
theorem mw_875 : (Jvm.Cond.code ({ cls := "VoxelmintModel", name := "dieHeight", desc := "(II)I" } : Jvm.MethodName) prog_7_method_40_code (3 : Nat) (Option.some Jvm.ClassFile.FieldType.int)) ∈ mi_G := mi_t4 123 rfl rfl
theorem mw_876 : (Jvm.Cond.methodLink "VoxelmintLaw" (161 : Nat) ({ cls := "VoxelmintModel", name := "coinHeight", desc := "(II)I" } : Jvm.MethodName)) ∈ mi_G := mi_t4 124 rfl rfl
theorem mw_877 : (Jvm.Cond.instanceMethod ({ cls := "VoxelmintModel", name := "coinHeight", desc := "(II)I" } : Jvm.MethodName)) ∈ mi_G := mi_t4 125 rfl rfl
theorem mw_878 : (Jvm.Cond.selects "VoxelmintModel" ({ cls := "VoxelmintModel", name := "coinHeight", desc := "(II)I" } : Jvm.MethodName) ({ cls := "VoxelmintModel", name := "coinHeight", desc := "(II)I" } : Jvm.MethodName)) ∈ mi_G := mi_t4 126 rfl rfl
theorem mw_879 : (Jvm.Cond.code ({ cls := "VoxelmintModel", name := "coinHeight", desc := "(II)I" } : Jvm.MethodName) prog_7_method_41_code (3 : Nat) (Option.some Jvm.ClassFile.FieldType.int)) ∈ mi_G := mi_t4 127 rfl rfl
theorem mw_880 : (Jvm.Cond.methodLink "VoxelmintLaw" (164 : Nat) ({ cls := "VoxelmintModel", name := "grade", desc := "(I)I" } : Jvm.MethodName)) ∈ mi_G := mi_t4 128 rfl rfl
theorem mw_881 : (Jvm.Cond.instanceMethod ({ cls := "VoxelmintModel", name := "grade", desc := "(I)I" } : Jvm.MethodName)) ∈ mi_G := mi_t4 129 rfl rfl
theorem mw_882 : (Jvm.Cond.selects "VoxelmintModel" ({ cls := "VoxelmintModel", name := "grade", desc := "(I)I" } : Jvm.MethodName) ({ cls := "VoxelmintModel", name := "grade", desc := "(I)I" } : Jvm.MethodName)) ∈ mi_G := mi_t4 130 rfl rfl
theorem mw_883 : (Jvm.Cond.code ({ cls := "VoxelmintModel", name := "grade", desc := "(I)I" } : Jvm.MethodName) prog_7_method_43_code (4 : Nat) (Option.some Jvm.ClassFile.FieldType.int)) ∈ mi_G := mi_t4 131 rfl rfl
theorem mw_884 : (Jvm.Cond.methodLink "VoxelmintModel" (116 : Nat) ({ cls := "VoxelmintModel", name := "far", desc := "(II)I" } : Jvm.MethodName)) ∈ mi_G := mi_t4 132 rfl rfl
theorem mw_885 : (Jvm.Cond.static ({ cls := "VoxelmintModel", name := "far", desc := "(II)I" } : Jvm.MethodName)) ∈ mi_G := mi_t4 133 rfl rfl
theorem mw_886 : (Jvm.Cond.code ({ cls := "VoxelmintModel", name := "far", desc := "(II)I" } : Jvm.MethodName) prog_7_method_42_code (2 : Nat) (Option.some Jvm.ClassFile.FieldType.int)) ∈ mi_G := mi_t4 134 rfl rfl
theorem mw_887 : (Jvm.Cond.methodLink "VoxelmintLaw" (167 : Nat) ({ cls := "VoxelmintModel", name := "isForged", desc := "(I)Z" } : Jvm.MethodName)) ∈ mi_G := mi_t4 135 rfl rfl
theorem mw_888 : (Jvm.Cond.instanceMethod ({ cls := "VoxelmintModel", name := "isForged", desc := "(I)Z" } : Jvm.MethodName)) ∈ mi_G := mi_t4 136 rfl rfl
theorem mw_889 : (Jvm.Cond.selects "VoxelmintModel" ({ cls := "VoxelmintModel", name := "isForged", desc := "(I)Z" } : Jvm.MethodName) ({ cls := "VoxelmintModel", name := "isForged", desc := "(I)Z" } : Jvm.MethodName)) ∈ mi_G := mi_t4 137 rfl rfl
theorem mw_890 : (Jvm.Cond.code ({ cls := "VoxelmintModel", name := "isForged", desc := "(I)Z" } : Jvm.MethodName) prog_7_method_45_code (4 : Nat) (Option.some Jvm.ClassFile.FieldType.boolean)) ∈ mi_G := mi_t4 138 rfl rfl
theorem mw_891 : (Jvm.Cond.methodLink "VoxelmintModel" (119 : Nat) ({ cls := "VoxelmintModel", name := "laysThen", desc := "(II)V" } : Jvm.MethodName)) ∈ mi_G := mi_t4 139 rfl rfl
theorem mw_893 : (Jvm.Cond.instanceMethod ({ cls := "VoxelmintModel", name := "laysThen", desc := "(II)V" } : Jvm.MethodName)) ∈ mi_G := mi_t4 141 rfl rfl
theorem mw_894 : (Jvm.Cond.code ({ cls := "VoxelmintModel", name := "laysThen", desc := "(II)V" } : Jvm.MethodName) prog_7_method_44_code (6 : Nat) (Option.none : Option Jvm.ClassFile.FieldType)) ∈ mi_G := mi_t4 142 rfl rfl
theorem mw_895 : (Jvm.Cond.methodLink "VoxelmintLaw" (170 : Nat) ({ cls := "VoxelmintModel", name := "distance", desc := "(II)I" } : Jvm.MethodName)) ∈ mi_G := mi_t4 143 rfl rfl
theorem mw_896 : (Jvm.Cond.instanceMethod ({ cls := "VoxelmintModel", name := "distance", desc := "(II)I" } : Jvm.MethodName)) ∈ mi_G := mi_t4 144 rfl rfl
theorem mw_897 : (Jvm.Cond.selects "VoxelmintModel" ({ cls := "VoxelmintModel", name := "distance", desc := "(II)I" } : Jvm.MethodName) ({ cls := "VoxelmintModel", name := "distance", desc := "(II)I" } : Jvm.MethodName)) ∈ mi_G := mi_t4 145 rfl rfl
theorem mw_898 : (Jvm.Cond.code ({ cls := "VoxelmintModel", name := "distance", desc := "(II)I" } : Jvm.MethodName) prog_7_method_46_code (5 : Nat) (Option.some Jvm.ClassFile.FieldType.int)) ∈ mi_G := mi_t4 146 rfl rfl
theorem mw_899 : (Jvm.Cond.arrayClass Jvm.ClassFile.FieldType.long) ∈ mi_G := mi_t4 147 rfl rfl
theorem mw_900 : (Jvm.Cond.sameMethod "java/lang/Throwable" "java/lang/Throwable" "fillInStackTrace" "(I)Ljava/lang/Throwable;") ∈ mi_G := mi_t4 148 rfl rfl
theorem mw_913 : (Jvm.Cond.sameMethod "[Ljava/lang/Object;" "java/lang/Object" "getClass" "()Ljava/lang/Class;") ∈ mi_G := mi_t4 161 rfl rfl
theorem mw_914 : (Jvm.Cond.selects "[Ljava/lang/Object;" ({ cls := "java/lang/Object", name := "getClass", desc := "()Ljava/lang/Class;" } : Jvm.MethodName) ({ cls := "java/lang/Object", name := "getClass", desc := "()Ljava/lang/Class;" } : Jvm.MethodName)) ∈ mi_G := mi_t4 162 rfl rfl
theorem mh_Jx4a65c : ∀ w ∈ u_ws RJx4a65c TJx4a65c 3, w ∈ mi_G := (mi_cons mw_85 (mi_cons mw_81 (mi_cons mw_83 mi_nil)))
theorem mg_Jx4a65c (w0 : Cond) : ∀ w ∈ u_ws RJx4a65c TJx4a65c 3, w ∈ w0 :: mi_G := fun w h => List.mem_cons_of_mem _ (mh_Jx4a65c w h)
theorem mh_X0 : ∀ w ∈ u_ws RX0 TX0 3, w ∈ mi_G := (mi_cons mw_596 (mi_cons mw_598 (mi_cons mw_600 mi_nil)))
theorem mg_X0 (w0 : Cond) : ∀ w ∈ u_ws RX0 TX0 3, w ∈ w0 :: mi_G := fun w h => List.mem_cons_of_mem _ (mh_X0 w h)
theorem mh_X1 : ∀ w ∈ u_ws RX1 TX1 3, w ∈ mi_G := (mi_cons mw_556 (mi_cons mw_558 (mi_cons mw_560 mi_nil)))
theorem mg_X1 (w0 : Cond) : ∀ w ∈ u_ws RX1 TX1 3, w ∈ w0 :: mi_G := fun w h => List.mem_cons_of_mem _ (mh_X1 w h)
theorem mh_X2 : ∀ w ∈ u_ws RX2 TX2 3, w ∈ mi_G := (mi_cons mw_97 (mi_cons mw_99 (mi_cons mw_101 mi_nil)))
theorem mg_X2 (w0 : Cond) : ∀ w ∈ u_ws RX2 TX2 3, w ∈ w0 :: mi_G := fun w h => List.mem_cons_of_mem _ (mh_X2 w h)
theorem mh_X3 : ∀ w ∈ u_ws RX3 TX3 3, w ∈ mi_G := (mi_cons mw_117 (mi_cons mw_119 (mi_cons mw_121 mi_nil)))
theorem mg_X3 (w0 : Cond) : ∀ w ∈ u_ws RX3 TX3 3, w ∈ w0 :: mi_G := fun w h => List.mem_cons_of_mem _ (mh_X3 w h)
theorem mh_X4 : ∀ w ∈ u_ws RX4 TX4 5, w ∈ mi_G := (mi_cons mw_186 (mi_cons mw_188 (mi_cons mw_190 (mi_cons mw_192 (mi_cons mw_194 mi_nil)))))
theorem mg_X4 (w0 : Cond) : ∀ w ∈ u_ws RX4 TX4 5, w ∈ w0 :: mi_G := fun w h => List.mem_cons_of_mem _ (mh_X4 w h)
theorem mh_X5 : ∀ w ∈ u_ws RX5 TX5 15, w ∈ mi_G := (mi_cons mw_692 (mi_cons mw_694 (mi_cons mw_696 (mi_cons mw_698 (mi_cons mw_700 (mi_cons mw_702 (mi_cons mw_704 (mi_cons mw_706 (mi_cons mw_708 (mi_cons mw_710 (mi_cons mw_712 (mi_cons mw_714 (mi_cons mw_716 (mi_cons mw_718 (mi_cons mw_720 mi_nil)))))))))))))))
theorem mg_X5 (w0 : Cond) : ∀ w ∈ u_ws RX5 TX5 15, w ∈ w0 :: mi_G := fun w h => List.mem_cons_of_mem _ (mh_X5 w h)
section MWF
variable {p : Program} {l : Launch} {e : Env} {R : Room} {s : State} {m : MethodId} {args : Array Value} {below : List Frame} {meth : Method} {c : Code} {H : Heap} {locs : List Loc} {cells slots : Nat} {Q : State → Prop}
variable {cc : ByteArray} {pc nL : Nat} {ls : Array Slot} {rest : List Value} {D : va_G} {A : Nat → Prop} {ad : Nat → Nat} {cf : Nat → Option va_E} {w0 : Cond}
theorem fg_Jx4a65c_9 (S : CallFix p m c cc nL s args (w0 :: mi_G) RJx4a65c) (E : mi_E D A s) (hW : mi_W D A ad cf H) (r : Nat) {a : Nat} (ha : ad r = a) {fs : List Value} {v : Value} (he : cf r = some (.inr (0, fs))) (hv : fs[1]? = some v) (hdg : decode cc pc = .ok (.getfield 9, 3)) (kk : W p l e R s m args below meth c H locs cells slots Q (F0 m (pc + 3) ls (v :: rest))) : W p l e R s m args below meth c H locs cells slots Q (F0 m pc ls (.ref a :: rest)) := mi_get S E hW r ha he hv rfl (mg_Jx4a65c w0) (k := 1) (by decide) (List.mem_cons_of_mem _ mw_76) (fun _ h => h) hdg kk
theorem fp_Jx4a65c_9 (S : CallFix p m c cc nL s args (w0 :: mi_G) RJx4a65c) (E : mi_E D A s) (hS : va_S A s.heap H locs) (hW : mi_W D A ad cf H) (r : Nat) {a : Nat} (ha : ad r = a) {fs : List Value} {v : Value} (he : cf r = some (.inr (0, fs))) (hl : 1 < fs.length) (hn : narrow (.array (.object "java/lang/Object")) v = v) (hfit : fits (.array (.object "java/lang/Object")) v = true) (hdg : decode cc pc = .ok (.putfield 9, 3)) (kk : ∀ (H1 : Heap) (locs1 : List Loc), mi_W D A ad (va_up cf r (some (.inr (0, fs.set 1 (v))))) H1 → va_S A s.heap H1 locs1 → H1.size = H.size → W p l e R s m args below meth c H1 locs1 cells slots Q (F0 m (pc + 3) ls rest)) : W p l e R s m args below meth c H locs cells slots Q (F0 m pc ls (v :: .ref a :: rest)) := mi_put S E hS hW r ha (ty := .array (.object "java/lang/Object")) he hl rfl (mg_Jx4a65c w0) tyJx4a65c tyJx4a65c_ok nmJx4a65c (k := 1) (by decide) rfl (by decide +kernel) (List.mem_cons_of_mem _ mw_76) (fun _ h => h) hn hfit hdg kk
theorem fg_Jx4a65c_48 (S : CallFix p m c cc nL s args (w0 :: mi_G) RJx4a65c) (E : mi_E D A s) (hW : mi_W D A ad cf H) (r : Nat) {a : Nat} (ha : ad r = a) {fs : List Value} {v : Value} (he : cf r = some (.inr (0, fs))) (hv : fs[2]? = some v) (hdg : decode cc pc = .ok (.getfield 48, 3)) (kk : W p l e R s m args below meth c H locs cells slots Q (F0 m (pc + 3) ls (v :: rest))) : W p l e R s m args below meth c H locs cells slots Q (F0 m pc ls (.ref a :: rest)) := mi_get S E hW r ha he hv rfl (mg_Jx4a65c w0) (k := 2) (by decide) (List.mem_cons_of_mem _ mw_77) (fun _ h => h) hdg kk
theorem fp_Jx4a65c_48 (S : CallFix p m c cc nL s args (w0 :: mi_G) RJx4a65c) (E : mi_E D A s) (hS : va_S A s.heap H locs) (hW : mi_W D A ad cf H) (r : Nat) {a : Nat} (ha : ad r = a) {fs : List Value} {v : Int32} (he : cf r = some (.inr (0, fs))) (hl : 2 < fs.length) (hdg : decode cc pc = .ok (.putfield 48, 3)) (kk : ∀ (H1 : Heap) (locs1 : List Loc), mi_W D A ad (va_up cf r (some (.inr (0, fs.set 2 (.int v))))) H1 → va_S A s.heap H1 locs1 → H1.size = H.size → W p l e R s m args below meth c H1 locs1 cells slots Q (F0 m (pc + 3) ls rest)) : W p l e R s m args below meth c H locs cells slots Q (F0 m pc ls (.int v :: .ref a :: rest)) := mi_put S E hS hW r ha (ty := .int) he hl rfl (mg_Jx4a65c w0) tyJx4a65c tyJx4a65c_ok nmJx4a65c (k := 2) (by decide) rfl (by decide +kernel) (List.mem_cons_of_mem _ mw_77) (fun _ h => h) rfl rfl hdg kk
theorem fg_Jxc12de_7 (S : CallFix p m c cc nL s args (w0 :: mi_G) RJxc12de) (E : mi_E D A s) (hW : mi_W D A ad cf H) (r : Nat) {a : Nat} (ha : ad r = a) {fs : List Value} {v : Value} (he : cf r = some (.inr (0, fs))) (hv : fs[0]? = some v) (hdg : decode cc pc = .ok (.getfield 7, 3)) (kk : W p l e R s m args below meth c H locs cells slots Q (F0 m (pc + 3) ls (v :: rest))) : W p l e R s m args below meth c H locs cells slots Q (F0 m pc ls (.ref a :: rest)) := mi_get S E hW r ha he hv rfl (mg_Jx4a65c w0) (k := 0) (by decide) (List.mem_cons_of_mem _ mw_78) (fun _ h => h) hdg kk
theorem fp_Jxc12de_7 (S : CallFix p m c cc nL s args (w0 :: mi_G) RJxc12de) (E : mi_E D A s) (hS : va_S A s.heap H locs) (hW : mi_W D A ad cf H) (r : Nat) {a : Nat} (ha : ad r = a) {fs : List Value} {v : Int32} (he : cf r = some (.inr (0, fs))) (hl : 0 < fs.length) (hdg : decode cc pc = .ok (.putfield 7, 3)) (kk : ∀ (H1 : Heap) (locs1 : List Loc), mi_W D A ad (va_up cf r (some (.inr (0, fs.set 0 (.int v))))) H1 → va_S A s.heap H1 locs1 → H1.size = H.size → W p l e R s m args below meth c H1 locs1 cells slots Q (F0 m (pc + 3) ls rest)) : W p l e R s m args below meth c H locs cells slots Q (F0 m pc ls (.int v :: .ref a :: rest)) := mi_put S E hS hW r ha (ty := .int) he hl rfl (mg_Jx4a65c w0) tyJx4a65c tyJx4a65c_ok nmJx4a65c (k := 0) (by decide) rfl (by decide +kernel) (List.mem_cons_of_mem _ mw_78) (fun _ h => h) rfl rfl hdg kk
theorem fg_Jx4a65c_63 (S : CallFix p m c cc nL s args (w0 :: mi_G) RJx4a65c) (E : mi_E D A s) (hW : mi_W D A ad cf H) (r : Nat) {a : Nat} (ha : ad r = a) {fs : List Value} {v : Value} (he : cf r = some (.inr (0, fs))) (hv : fs[0]? = some v) (hdg : decode cc pc = .ok (.getfield 63, 3)) (kk : W p l e R s m args below meth c H locs cells slots Q (F0 m (pc + 3) ls (v :: rest))) : W p l e R s m args below meth c H locs cells slots Q (F0 m pc ls (.ref a :: rest)) := mi_get S E hW r ha he hv rfl (mg_Jx4a65c w0) (k := 0) (by decide) (List.mem_cons_of_mem _ mw_79) (fun x9 h9 => u_same (S.2.2.2.2 _ (List.mem_cons_of_mem _ mw_80)) x9 h9) hdg kk
theorem fp_Jx4a65c_63 (S : CallFix p m c cc nL s args (w0 :: mi_G) RJx4a65c) (E : mi_E D A s) (hS : va_S A s.heap H locs) (hW : mi_W D A ad cf H) (r : Nat) {a : Nat} (ha : ad r = a) {fs : List Value} {v : Int32} (he : cf r = some (.inr (0, fs))) (hl : 0 < fs.length) (hdg : decode cc pc = .ok (.putfield 63, 3)) (kk : ∀ (H1 : Heap) (locs1 : List Loc), mi_W D A ad (va_up cf r (some (.inr (0, fs.set 0 (.int v))))) H1 → va_S A s.heap H1 locs1 → H1.size = H.size → W p l e R s m args below meth c H1 locs1 cells slots Q (F0 m (pc + 3) ls rest)) : W p l e R s m args below meth c H locs cells slots Q (F0 m pc ls (.int v :: .ref a :: rest)) := mi_put S E hS hW r ha (ty := .int) he hl rfl (mg_Jx4a65c w0) tyJx4a65c tyJx4a65c_ok nmJx4a65c (k := 0) (by decide) rfl (by decide +kernel) (List.mem_cons_of_mem _ mw_79) (fun x9 h9 => u_same (S.2.2.2.2 _ (List.mem_cons_of_mem _ mw_80)) x9 h9) rfl rfl hdg kk
theorem fg_X2_9 (S : CallFix p m c cc nL s args (w0 :: mi_G) RX2) (E : mi_E D A s) (hW : mi_W D A ad cf H) (r : Nat) {a : Nat} (ha : ad r = a) {fs : List Value} {v : Value} (he : cf r = some (.inr (3, fs))) (hv : fs[0]? = some v) (hdg : decode cc pc = .ok (.getfield 9, 3)) (kk : W p l e R s m args below meth c H locs cells slots Q (F0 m (pc + 3) ls (v :: rest))) : W p l e R s m args below meth c H locs cells slots Q (F0 m pc ls (.ref a :: rest)) := mi_get S E hW r ha he hv rfl (mg_X2 w0) (k := 0) (by decide) (List.mem_cons_of_mem _ mw_94) (fun _ h => h) hdg kk
theorem fp_X2_9 (S : CallFix p m c cc nL s args (w0 :: mi_G) RX2) (E : mi_E D A s) (hS : va_S A s.heap H locs) (hW : mi_W D A ad cf H) (r : Nat) {a : Nat} (ha : ad r = a) {fs : List Value} {v : Value} (he : cf r = some (.inr (3, fs))) (hl : 0 < fs.length) (hn : narrow (.array .int) v = v) (hfit : fits (.array .int) v = true) (hin2 : meth.name = "<init>") (hdg : decode cc pc = .ok (.putfield 9, 3)) (kk : ∀ (H1 : Heap) (locs1 : List Loc), mi_W D A ad (va_up cf r (some (.inr (3, fs.set 0 (v))))) H1 → va_S A s.heap H1 locs1 → H1.size = H.size → W p l e R s m args below meth c H1 locs1 cells slots Q (F0 m (pc + 3) ls rest)) : W p l e R s m args below meth c H locs cells slots Q (F0 m pc ls (v :: .ref a :: rest)) := mi_putF S E hS hW r ha (ty := .array .int) he hl rfl (mg_X2 w0) tyX2 tyX2_ok nmX2 (k := 0) (by decide) rfl hin2 rfl (by decide +kernel) (List.mem_cons_of_mem _ mw_94) (fun _ h => h) hn hfit hdg kk
theorem fg_X2_15 (S : CallFix p m c cc nL s args (w0 :: mi_G) RX2) (E : mi_E D A s) (hW : mi_W D A ad cf H) (r : Nat) {a : Nat} (ha : ad r = a) {fs : List Value} {v : Value} (he : cf r = some (.inr (3, fs))) (hv : fs[1]? = some v) (hdg : decode cc pc = .ok (.getfield 15, 3)) (kk : W p l e R s m args below meth c H locs cells slots Q (F0 m (pc + 3) ls (v :: rest))) : W p l e R s m args below meth c H locs cells slots Q (F0 m pc ls (.ref a :: rest)) := mi_get S E hW r ha he hv rfl (mg_X2 w0) (k := 1) (by decide) (List.mem_cons_of_mem _ mw_95) (fun _ h => h) hdg kk
theorem fp_X2_15 (S : CallFix p m c cc nL s args (w0 :: mi_G) RX2) (E : mi_E D A s) (hS : va_S A s.heap H locs) (hW : mi_W D A ad cf H) (r : Nat) {a : Nat} (ha : ad r = a) {fs : List Value} {v : Value} (he : cf r = some (.inr (3, fs))) (hl : 1 < fs.length) (hn : narrow (.array .int) v = v) (hfit : fits (.array .int) v = true) (hin2 : meth.name = "<init>") (hdg : decode cc pc = .ok (.putfield 15, 3)) (kk : ∀ (H1 : Heap) (locs1 : List Loc), mi_W D A ad (va_up cf r (some (.inr (3, fs.set 1 (v))))) H1 → va_S A s.heap H1 locs1 → H1.size = H.size → W p l e R s m args below meth c H1 locs1 cells slots Q (F0 m (pc + 3) ls rest)) : W p l e R s m args below meth c H locs cells slots Q (F0 m pc ls (v :: .ref a :: rest)) := mi_putF S E hS hW r ha (ty := .array .int) he hl rfl (mg_X2 w0) tyX2 tyX2_ok nmX2 (k := 1) (by decide) rfl hin2 rfl (by decide +kernel) (List.mem_cons_of_mem _ mw_95) (fun _ h => h) hn hfit hdg kk
theorem fg_X2_24 (S : CallFix p m c cc nL s args (w0 :: mi_G) RX2) (E : mi_E D A s) (hW : mi_W D A ad cf H) (r : Nat) {a : Nat} (ha : ad r = a) {fs : List Value} {v : Value} (he : cf r = some (.inr (3, fs))) (hv : fs[2]? = some v) (hdg : decode cc pc = .ok (.getfield 24, 3)) (kk : W p l e R s m args below meth c H locs cells slots Q (F0 m (pc + 3) ls (v :: rest))) : W p l e R s m args below meth c H locs cells slots Q (F0 m pc ls (.ref a :: rest)) := mi_get S E hW r ha he hv rfl (mg_X2 w0) (k := 2) (by decide) (List.mem_cons_of_mem _ mw_96) (fun _ h => h) hdg kk
theorem fp_X2_24 (S : CallFix p m c cc nL s args (w0 :: mi_G) RX2) (E : mi_E D A s) (hS : va_S A s.heap H locs) (hW : mi_W D A ad cf H) (r : Nat) {a : Nat} (ha : ad r = a) {fs : List Value} {v : Int32} (he : cf r = some (.inr (3, fs))) (hl : 2 < fs.length) (hdg : decode cc pc = .ok (.putfield 24, 3)) (kk : ∀ (H1 : Heap) (locs1 : List Loc), mi_W D A ad (va_up cf r (some (.inr (3, fs.set 2 (.int v))))) H1 → va_S A s.heap H1 locs1 → H1.size = H.size → W p l e R s m args below meth c H1 locs1 cells slots Q (F0 m (pc + 3) ls rest)) : W p l e R s m args below meth c H locs cells slots Q (F0 m pc ls (.int v :: .ref a :: rest)) := mi_put S E hS hW r ha (ty := .int) he hl rfl (mg_X2 w0) tyX2 tyX2_ok nmX2 (k := 2) (by decide) rfl (by decide +kernel) (List.mem_cons_of_mem _ mw_96) (fun _ h => h) rfl rfl hdg kk
theorem fg_X3_9 (S : CallFix p m c cc nL s args (w0 :: mi_G) RX3) (E : mi_E D A s) (hW : mi_W D A ad cf H) (r : Nat) {a : Nat} (ha : ad r = a) {fs : List Value} {v : Value} (he : cf r = some (.inr (4, fs))) (hv : fs[0]? = some v) (hdg : decode cc pc = .ok (.getfield 9, 3)) (kk : W p l e R s m args below meth c H locs cells slots Q (F0 m (pc + 3) ls (v :: rest))) : W p l e R s m args below meth c H locs cells slots Q (F0 m pc ls (.ref a :: rest)) := mi_get S E hW r ha he hv rfl (mg_X3 w0) (k := 0) (by decide) (List.mem_cons_of_mem _ mw_111) (fun _ h => h) hdg kk
theorem fp_X3_9 (S : CallFix p m c cc nL s args (w0 :: mi_G) RX3) (E : mi_E D A s) (hS : va_S A s.heap H locs) (hW : mi_W D A ad cf H) (r : Nat) {a : Nat} (ha : ad r = a) {fs : List Value} {v : Int32} (he : cf r = some (.inr (4, fs))) (hl : 0 < fs.length) (hin2 : meth.name = "<init>") (hdg : decode cc pc = .ok (.putfield 9, 3)) (kk : ∀ (H1 : Heap) (locs1 : List Loc), mi_W D A ad (va_up cf r (some (.inr (4, fs.set 0 (.int v))))) H1 → va_S A s.heap H1 locs1 → H1.size = H.size → W p l e R s m args below meth c H1 locs1 cells slots Q (F0 m (pc + 3) ls rest)) : W p l e R s m args below meth c H locs cells slots Q (F0 m pc ls (.int v :: .ref a :: rest)) := mi_putF S E hS hW r ha (ty := .int) he hl rfl (mg_X3 w0) tyX3 tyX3_ok nmX3 (k := 0) (by decide) rfl hin2 rfl (by decide +kernel) (List.mem_cons_of_mem _ mw_111) (fun _ h => h) rfl rfl hdg kk
theorem fg_X4_62 (S : CallFix p m c cc nL s args (w0 :: mi_G) RX4) (E : mi_E D A s) (hW : mi_W D A ad cf H) (r : Nat) {a : Nat} (ha : ad r = a) {fs : List Value} {v : Value} (he : cf r = some (.inr (4, fs))) (hv : fs[0]? = some v) (hdg : decode cc pc = .ok (.getfield 62, 3)) (kk : W p l e R s m args below meth c H locs cells slots Q (F0 m (pc + 3) ls (v :: rest))) : W p l e R s m args below meth c H locs cells slots Q (F0 m pc ls (.ref a :: rest)) := mi_get S E hW r ha he hv rfl (mg_X3 w0) (k := 0) (by decide) (List.mem_cons_of_mem _ mw_112) (fun _ h => h) hdg kk
theorem fg_X3_15 (S : CallFix p m c cc nL s args (w0 :: mi_G) RX3) (E : mi_E D A s) (hW : mi_W D A ad cf H) (r : Nat) {a : Nat} (ha : ad r = a) {fs : List Value} {v : Value} (he : cf r = some (.inr (4, fs))) (hv : fs[1]? = some v) (hdg : decode cc pc = .ok (.getfield 15, 3)) (kk : W p l e R s m args below meth c H locs cells slots Q (F0 m (pc + 3) ls (v :: rest))) : W p l e R s m args below meth c H locs cells slots Q (F0 m pc ls (.ref a :: rest)) := mi_get S E hW r ha he hv rfl (mg_X3 w0) (k := 1) (by decide) (List.mem_cons_of_mem _ mw_113) (fun _ h => h) hdg kk
theorem fp_X3_15 (S : CallFix p m c cc nL s args (w0 :: mi_G) RX3) (E : mi_E D A s) (hS : va_S A s.heap H locs) (hW : mi_W D A ad cf H) (r : Nat) {a : Nat} (ha : ad r = a) {fs : List Value} {v : Value} (he : cf r = some (.inr (4, fs))) (hl : 1 < fs.length) (hn : narrow (.object "Voxelmint$State") v = v) (hfit : fits (.object "Voxelmint$State") v = true) (hin2 : meth.name = "<init>") (hdg : decode cc pc = .ok (.putfield 15, 3)) (kk : ∀ (H1 : Heap) (locs1 : List Loc), mi_W D A ad (va_up cf r (some (.inr (4, fs.set 1 (v))))) H1 → va_S A s.heap H1 locs1 → H1.size = H.size → W p l e R s m args below meth c H1 locs1 cells slots Q (F0 m (pc + 3) ls rest)) : W p l e R s m args below meth c H locs cells slots Q (F0 m pc ls (v :: .ref a :: rest)) := mi_putF S E hS hW r ha (ty := .object "Voxelmint$State") he hl rfl (mg_X3 w0) tyX3 tyX3_ok nmX3 (k := 1) (by decide) rfl hin2 rfl (by decide +kernel) (List.mem_cons_of_mem _ mw_113) (fun _ h => h) hn hfit hdg kk
theorem fg_X4_111 (S : CallFix p m c cc nL s args (w0 :: mi_G) RX4) (E : mi_E D A s) (hW : mi_W D A ad cf H) (r : Nat) {a : Nat} (ha : ad r = a) {fs : List Value} {v : Value} (he : cf r = some (.inr (4, fs))) (hv : fs[1]? = some v) (hdg : decode cc pc = .ok (.getfield 111, 3)) (kk : W p l e R s m args below meth c H locs cells slots Q (F0 m (pc + 3) ls (v :: rest))) : W p l e R s m args below meth c H locs cells slots Q (F0 m pc ls (.ref a :: rest)) := mi_get S E hW r ha he hv rfl (mg_X3 w0) (k := 1) (by decide) (List.mem_cons_of_mem _ mw_114) (fun _ h => h) hdg kk
theorem fg_X3_19 (S : CallFix p m c cc nL s args (w0 :: mi_G) RX3) (E : mi_E D A s) (hW : mi_W D A ad cf H) (r : Nat) {a : Nat} (ha : ad r = a) {fs : List Value} {v : Value} (he : cf r = some (.inr (4, fs))) (hv : fs[2]? = some v) (hdg : decode cc pc = .ok (.getfield 19, 3)) (kk : W p l e R s m args below meth c H locs cells slots Q (F0 m (pc + 3) ls (v :: rest))) : W p l e R s m args below meth c H locs cells slots Q (F0 m pc ls (.ref a :: rest)) := mi_get S E hW r ha he hv rfl (mg_X3 w0) (k := 2) (by decide) (List.mem_cons_of_mem _ mw_115) (fun _ h => h) hdg kk
theorem fp_X3_19 (S : CallFix p m c cc nL s args (w0 :: mi_G) RX3) (E : mi_E D A s) (hS : va_S A s.heap H locs) (hW : mi_W D A ad cf H) (r : Nat) {a : Nat} (ha : ad r = a) {fs : List Value} {v : Value} (he : cf r = some (.inr (4, fs))) (hl : 2 < fs.length) (hn : narrow (.array .int) v = v) (hfit : fits (.array .int) v = true) (hin2 : meth.name = "<init>") (hdg : decode cc pc = .ok (.putfield 19, 3)) (kk : ∀ (H1 : Heap) (locs1 : List Loc), mi_W D A ad (va_up cf r (some (.inr (4, fs.set 2 (v))))) H1 → va_S A s.heap H1 locs1 → H1.size = H.size → W p l e R s m args below meth c H1 locs1 cells slots Q (F0 m (pc + 3) ls rest)) : W p l e R s m args below meth c H locs cells slots Q (F0 m pc ls (v :: .ref a :: rest)) := mi_putF S E hS hW r ha (ty := .array .int) he hl rfl (mg_X3 w0) tyX3 tyX3_ok nmX3 (k := 2) (by decide) rfl hin2 rfl (by decide +kernel) (List.mem_cons_of_mem _ mw_115) (fun _ h => h) hn hfit hdg kk
theorem fg_X4_198 (S : CallFix p m c cc nL s args (w0 :: mi_G) RX4) (E : mi_E D A s) (hW : mi_W D A ad cf H) (r : Nat) {a : Nat} (ha : ad r = a) {fs : List Value} {v : Value} (he : cf r = some (.inr (4, fs))) (hv : fs[2]? = some v) (hdg : decode cc pc = .ok (.getfield 198, 3)) (kk : W p l e R s m args below meth c H locs cells slots Q (F0 m (pc + 3) ls (v :: rest))) : W p l e R s m args below meth c H locs cells slots Q (F0 m pc ls (.ref a :: rest)) := mi_get S E hW r ha he hv rfl (mg_X3 w0) (k := 2) (by decide) (List.mem_cons_of_mem _ mw_116) (fun _ h => h) hdg kk
theorem fg_X4_12 (S : CallFix p m c cc nL s args (w0 :: mi_G) RX4) (E : mi_E D A s) (hW : mi_W D A ad cf H) (r : Nat) {a : Nat} (ha : ad r = a) {fs : List Value} {v : Value} (he : cf r = some (.inr (5, fs))) (hv : fs[0]? = some v) (hdg : decode cc pc = .ok (.getfield 12, 3)) (kk : W p l e R s m args below meth c H locs cells slots Q (F0 m (pc + 3) ls (v :: rest))) : W p l e R s m args below meth c H locs cells slots Q (F0 m pc ls (.ref a :: rest)) := mi_get S E hW r ha he hv rfl (mg_X4 w0) (k := 0) (by decide) (List.mem_cons_of_mem _ mw_181) (fun _ h => h) hdg kk
theorem fp_X4_12 (S : CallFix p m c cc nL s args (w0 :: mi_G) RX4) (E : mi_E D A s) (hS : va_S A s.heap H locs) (hW : mi_W D A ad cf H) (r : Nat) {a : Nat} (ha : ad r = a) {fs : List Value} {v : Value} (he : cf r = some (.inr (5, fs))) (hl : 0 < fs.length) (hn : narrow (.object "java/util/ArrayList") v = v) (hfit : fits (.object "java/util/ArrayList") v = true) (hin2 : meth.name = "<init>") (hdg : decode cc pc = .ok (.putfield 12, 3)) (kk : ∀ (H1 : Heap) (locs1 : List Loc), mi_W D A ad (va_up cf r (some (.inr (5, fs.set 0 (v))))) H1 → va_S A s.heap H1 locs1 → H1.size = H.size → W p l e R s m args below meth c H1 locs1 cells slots Q (F0 m (pc + 3) ls rest)) : W p l e R s m args below meth c H locs cells slots Q (F0 m pc ls (v :: .ref a :: rest)) := mi_putF S E hS hW r ha (ty := .object "java/util/ArrayList") he hl rfl (mg_X4 w0) tyX4 tyX4_ok nmX4 (k := 0) (by decide) rfl hin2 rfl (by decide +kernel) (List.mem_cons_of_mem _ mw_181) (fun _ h => h) hn hfit hdg kk
theorem fg_X4_16 (S : CallFix p m c cc nL s args (w0 :: mi_G) RX4) (E : mi_E D A s) (hW : mi_W D A ad cf H) (r : Nat) {a : Nat} (ha : ad r = a) {fs : List Value} {v : Value} (he : cf r = some (.inr (5, fs))) (hv : fs[1]? = some v) (hdg : decode cc pc = .ok (.getfield 16, 3)) (kk : W p l e R s m args below meth c H locs cells slots Q (F0 m (pc + 3) ls (v :: rest))) : W p l e R s m args below meth c H locs cells slots Q (F0 m pc ls (.ref a :: rest)) := mi_get S E hW r ha he hv rfl (mg_X4 w0) (k := 1) (by decide) (List.mem_cons_of_mem _ mw_182) (fun _ h => h) hdg kk
theorem fp_X4_16 (S : CallFix p m c cc nL s args (w0 :: mi_G) RX4) (E : mi_E D A s) (hS : va_S A s.heap H locs) (hW : mi_W D A ad cf H) (r : Nat) {a : Nat} (ha : ad r = a) {fs : List Value} {v : Value} (he : cf r = some (.inr (5, fs))) (hl : 1 < fs.length) (hn : narrow (.object "java/util/ArrayList") v = v) (hfit : fits (.object "java/util/ArrayList") v = true) (hin2 : meth.name = "<init>") (hdg : decode cc pc = .ok (.putfield 16, 3)) (kk : ∀ (H1 : Heap) (locs1 : List Loc), mi_W D A ad (va_up cf r (some (.inr (5, fs.set 1 (v))))) H1 → va_S A s.heap H1 locs1 → H1.size = H.size → W p l e R s m args below meth c H1 locs1 cells slots Q (F0 m (pc + 3) ls rest)) : W p l e R s m args below meth c H locs cells slots Q (F0 m pc ls (v :: .ref a :: rest)) := mi_putF S E hS hW r ha (ty := .object "java/util/ArrayList") he hl rfl (mg_X4 w0) tyX4 tyX4_ok nmX4 (k := 1) (by decide) rfl hin2 rfl (by decide +kernel) (List.mem_cons_of_mem _ mw_182) (fun _ h => h) hn hfit hdg kk
theorem fg_X4_19 (S : CallFix p m c cc nL s args (w0 :: mi_G) RX4) (E : mi_E D A s) (hW : mi_W D A ad cf H) (r : Nat) {a : Nat} (ha : ad r = a) {fs : List Value} {v : Value} (he : cf r = some (.inr (5, fs))) (hv : fs[2]? = some v) (hdg : decode cc pc = .ok (.getfield 19, 3)) (kk : W p l e R s m args below meth c H locs cells slots Q (F0 m (pc + 3) ls (v :: rest))) : W p l e R s m args below meth c H locs cells slots Q (F0 m pc ls (.ref a :: rest)) := mi_get S E hW r ha he hv rfl (mg_X4 w0) (k := 2) (by decide) (List.mem_cons_of_mem _ mw_183) (fun _ h => h) hdg kk
theorem fp_X4_19 (S : CallFix p m c cc nL s args (w0 :: mi_G) RX4) (E : mi_E D A s) (hS : va_S A s.heap H locs) (hW : mi_W D A ad cf H) (r : Nat) {a : Nat} (ha : ad r = a) {fs : List Value} {v : Value} (he : cf r = some (.inr (5, fs))) (hl : 2 < fs.length) (hn : narrow (.object "java/util/ArrayList") v = v) (hfit : fits (.object "java/util/ArrayList") v = true) (hin2 : meth.name = "<init>") (hdg : decode cc pc = .ok (.putfield 19, 3)) (kk : ∀ (H1 : Heap) (locs1 : List Loc), mi_W D A ad (va_up cf r (some (.inr (5, fs.set 2 (v))))) H1 → va_S A s.heap H1 locs1 → H1.size = H.size → W p l e R s m args below meth c H1 locs1 cells slots Q (F0 m (pc + 3) ls rest)) : W p l e R s m args below meth c H locs cells slots Q (F0 m pc ls (v :: .ref a :: rest)) := mi_putF S E hS hW r ha (ty := .object "java/util/ArrayList") he hl rfl (mg_X4 w0) tyX4 tyX4_ok nmX4 (k := 2) (by decide) rfl hin2 rfl (by decide +kernel) (List.mem_cons_of_mem _ mw_183) (fun _ h => h) hn hfit hdg kk
theorem fg_X4_25 (S : CallFix p m c cc nL s args (w0 :: mi_G) RX4) (E : mi_E D A s) (hW : mi_W D A ad cf H) (r : Nat) {a : Nat} (ha : ad r = a) {fs : List Value} {v : Value} (he : cf r = some (.inr (5, fs))) (hv : fs[3]? = some v) (hdg : decode cc pc = .ok (.getfield 25, 3)) (kk : W p l e R s m args below meth c H locs cells slots Q (F0 m (pc + 3) ls (v :: rest))) : W p l e R s m args below meth c H locs cells slots Q (F0 m pc ls (.ref a :: rest)) := mi_get S E hW r ha he hv rfl (mg_X4 w0) (k := 3) (by decide) (List.mem_cons_of_mem _ mw_184) (fun _ h => h) hdg kk
theorem fp_X4_25 (S : CallFix p m c cc nL s args (w0 :: mi_G) RX4) (E : mi_E D A s) (hS : va_S A s.heap H locs) (hW : mi_W D A ad cf H) (r : Nat) {a : Nat} (ha : ad r = a) {fs : List Value} {v : Value} (he : cf r = some (.inr (5, fs))) (hl : 3 < fs.length) (hn : narrow (.object "Voxelmint$PieceFinder") v = v) (hfit : fits (.object "Voxelmint$PieceFinder") v = true) (hin2 : meth.name = "<init>") (hdg : decode cc pc = .ok (.putfield 25, 3)) (kk : ∀ (H1 : Heap) (locs1 : List Loc), mi_W D A ad (va_up cf r (some (.inr (5, fs.set 3 (v))))) H1 → va_S A s.heap H1 locs1 → H1.size = H.size → W p l e R s m args below meth c H1 locs1 cells slots Q (F0 m (pc + 3) ls rest)) : W p l e R s m args below meth c H locs cells slots Q (F0 m pc ls (v :: .ref a :: rest)) := mi_putF S E hS hW r ha (ty := .object "Voxelmint$PieceFinder") he hl rfl (mg_X4 w0) tyX4 tyX4_ok nmX4 (k := 3) (by decide) rfl hin2 rfl (by decide +kernel) (List.mem_cons_of_mem _ mw_184) (fun _ h => h) hn hfit hdg kk
theorem fg_X4_34 (S : CallFix p m c cc nL s args (w0 :: mi_G) RX4) (E : mi_E D A s) (hW : mi_W D A ad cf H) (r : Nat) {a : Nat} (ha : ad r = a) {fs : List Value} {v : Value} (he : cf r = some (.inr (5, fs))) (hv : fs[4]? = some v) (hdg : decode cc pc = .ok (.getfield 34, 3)) (kk : W p l e R s m args below meth c H locs cells slots Q (F0 m (pc + 3) ls (v :: rest))) : W p l e R s m args below meth c H locs cells slots Q (F0 m pc ls (.ref a :: rest)) := mi_get S E hW r ha he hv rfl (mg_X4 w0) (k := 4) (by decide) (List.mem_cons_of_mem _ mw_185) (fun _ h => h) hdg kk
theorem fp_X4_34 (S : CallFix p m c cc nL s args (w0 :: mi_G) RX4) (E : mi_E D A s) (hS : va_S A s.heap H locs) (hW : mi_W D A ad cf H) (r : Nat) {a : Nat} (ha : ad r = a) {fs : List Value} {v : Value} (he : cf r = some (.inr (5, fs))) (hl : 4 < fs.length) (hn : narrow (.object "Voxelmint$State") v = v) (hfit : fits (.object "Voxelmint$State") v = true) (hdg : decode cc pc = .ok (.putfield 34, 3)) (kk : ∀ (H1 : Heap) (locs1 : List Loc), mi_W D A ad (va_up cf r (some (.inr (5, fs.set 4 (v))))) H1 → va_S A s.heap H1 locs1 → H1.size = H.size → W p l e R s m args below meth c H1 locs1 cells slots Q (F0 m (pc + 3) ls rest)) : W p l e R s m args below meth c H locs cells slots Q (F0 m pc ls (v :: .ref a :: rest)) := mi_put S E hS hW r ha (ty := .object "Voxelmint$State") he hl rfl (mg_X4 w0) tyX4 tyX4_ok nmX4 (k := 4) (by decide) rfl (by decide +kernel) (List.mem_cons_of_mem _ mw_185) (fun _ h => h) hn hfit hdg kk
theorem fg_X1_9 (S : CallFix p m c cc nL s args (w0 :: mi_G) RX1) (E : mi_E D A s) (hW : mi_W D A ad cf H) (r : Nat) {a : Nat} (ha : ad r = a) {fs : List Value} {v : Value} (he : cf r = some (.inr (2, fs))) (hv : fs[0]? = some v) (hdg : decode cc pc = .ok (.getfield 9, 3)) (kk : W p l e R s m args below meth c H locs cells slots Q (F0 m (pc + 3) ls (v :: rest))) : W p l e R s m args below meth c H locs cells slots Q (F0 m pc ls (.ref a :: rest)) := mi_get S E hW r ha he hv rfl (mg_X1 w0) (k := 0) (by decide) (List.mem_cons_of_mem _ mw_550) (fun _ h => h) hdg kk
theorem fp_X1_9 (S : CallFix p m c cc nL s args (w0 :: mi_G) RX1) (E : mi_E D A s) (hS : va_S A s.heap H locs) (hW : mi_W D A ad cf H) (r : Nat) {a : Nat} (ha : ad r = a) {fs : List Value} {v : Value} (he : cf r = some (.inr (2, fs))) (hl : 0 < fs.length) (hn : narrow (.array .int) v = v) (hfit : fits (.array .int) v = true) (hin2 : meth.name = "<init>") (hdg : decode cc pc = .ok (.putfield 9, 3)) (kk : ∀ (H1 : Heap) (locs1 : List Loc), mi_W D A ad (va_up cf r (some (.inr (2, fs.set 0 (v))))) H1 → va_S A s.heap H1 locs1 → H1.size = H.size → W p l e R s m args below meth c H1 locs1 cells slots Q (F0 m (pc + 3) ls rest)) : W p l e R s m args below meth c H locs cells slots Q (F0 m pc ls (v :: .ref a :: rest)) := mi_putF S E hS hW r ha (ty := .array .int) he hl rfl (mg_X1 w0) tyX1 tyX1_ok nmX1 (k := 0) (by decide) rfl hin2 rfl (by decide +kernel) (List.mem_cons_of_mem _ mw_550) (fun _ h => h) hn hfit hdg kk
theorem fg_X4_183 (S : CallFix p m c cc nL s args (w0 :: mi_G) RX4) (E : mi_E D A s) (hW : mi_W D A ad cf H) (r : Nat) {a : Nat} (ha : ad r = a) {fs : List Value} {v : Value} (he : cf r = some (.inr (2, fs))) (hv : fs[0]? = some v) (hdg : decode cc pc = .ok (.getfield 183, 3)) (kk : W p l e R s m args below meth c H locs cells slots Q (F0 m (pc + 3) ls (v :: rest))) : W p l e R s m args below meth c H locs cells slots Q (F0 m pc ls (.ref a :: rest)) := mi_get S E hW r ha he hv rfl (mg_X1 w0) (k := 0) (by decide) (List.mem_cons_of_mem _ mw_551) (fun _ h => h) hdg kk
theorem fg_X1_20 (S : CallFix p m c cc nL s args (w0 :: mi_G) RX1) (E : mi_E D A s) (hW : mi_W D A ad cf H) (r : Nat) {a : Nat} (ha : ad r = a) {fs : List Value} {v : Value} (he : cf r = some (.inr (2, fs))) (hv : fs[1]? = some v) (hdg : decode cc pc = .ok (.getfield 20, 3)) (kk : W p l e R s m args below meth c H locs cells slots Q (F0 m (pc + 3) ls (v :: rest))) : W p l e R s m args below meth c H locs cells slots Q (F0 m pc ls (.ref a :: rest)) := mi_get S E hW r ha he hv rfl (mg_X1 w0) (k := 1) (by decide) (List.mem_cons_of_mem _ mw_552) (fun _ h => h) hdg kk
theorem fp_X1_20 (S : CallFix p m c cc nL s args (w0 :: mi_G) RX1) (E : mi_E D A s) (hS : va_S A s.heap H locs) (hW : mi_W D A ad cf H) (r : Nat) {a : Nat} (ha : ad r = a) {fs : List Value} {v : Value} (he : cf r = some (.inr (2, fs))) (hl : 1 < fs.length) (hn : narrow (.array .int) v = v) (hfit : fits (.array .int) v = true) (hin2 : meth.name = "<init>") (hdg : decode cc pc = .ok (.putfield 20, 3)) (kk : ∀ (H1 : Heap) (locs1 : List Loc), mi_W D A ad (va_up cf r (some (.inr (2, fs.set 1 (v))))) H1 → va_S A s.heap H1 locs1 → H1.size = H.size → W p l e R s m args below meth c H1 locs1 cells slots Q (F0 m (pc + 3) ls rest)) : W p l e R s m args below meth c H locs cells slots Q (F0 m pc ls (v :: .ref a :: rest)) := mi_putF S E hS hW r ha (ty := .array .int) he hl rfl (mg_X1 w0) tyX1 tyX1_ok nmX1 (k := 1) (by decide) rfl hin2 rfl (by decide +kernel) (List.mem_cons_of_mem _ mw_552) (fun _ h => h) hn hfit hdg kk
theorem fg_X4_178 (S : CallFix p m c cc nL s args (w0 :: mi_G) RX4) (E : mi_E D A s) (hW : mi_W D A ad cf H) (r : Nat) {a : Nat} (ha : ad r = a) {fs : List Value} {v : Value} (he : cf r = some (.inr (2, fs))) (hv : fs[1]? = some v) (hdg : decode cc pc = .ok (.getfield 178, 3)) (kk : W p l e R s m args below meth c H locs cells slots Q (F0 m (pc + 3) ls (v :: rest))) : W p l e R s m args below meth c H locs cells slots Q (F0 m pc ls (.ref a :: rest)) := mi_get S E hW r ha he hv rfl (mg_X1 w0) (k := 1) (by decide) (List.mem_cons_of_mem _ mw_553) (fun _ h => h) hdg kk
theorem fg_X1_26 (S : CallFix p m c cc nL s args (w0 :: mi_G) RX1) (E : mi_E D A s) (hW : mi_W D A ad cf H) (r : Nat) {a : Nat} (ha : ad r = a) {fs : List Value} {v : Value} (he : cf r = some (.inr (2, fs))) (hv : fs[2]? = some v) (hdg : decode cc pc = .ok (.getfield 26, 3)) (kk : W p l e R s m args below meth c H locs cells slots Q (F0 m (pc + 3) ls (v :: rest))) : W p l e R s m args below meth c H locs cells slots Q (F0 m pc ls (.ref a :: rest)) := mi_get S E hW r ha he hv rfl (mg_X1 w0) (k := 2) (by decide) (List.mem_cons_of_mem _ mw_554) (fun _ h => h) hdg kk
theorem fp_X1_26 (S : CallFix p m c cc nL s args (w0 :: mi_G) RX1) (E : mi_E D A s) (hS : va_S A s.heap H locs) (hW : mi_W D A ad cf H) (r : Nat) {a : Nat} (ha : ad r = a) {fs : List Value} {v : Value} (he : cf r = some (.inr (2, fs))) (hl : 2 < fs.length) (hn : narrow (.object "java/util/ArrayList") v = v) (hfit : fits (.object "java/util/ArrayList") v = true) (hin2 : meth.name = "<init>") (hdg : decode cc pc = .ok (.putfield 26, 3)) (kk : ∀ (H1 : Heap) (locs1 : List Loc), mi_W D A ad (va_up cf r (some (.inr (2, fs.set 2 (v))))) H1 → va_S A s.heap H1 locs1 → H1.size = H.size → W p l e R s m args below meth c H1 locs1 cells slots Q (F0 m (pc + 3) ls rest)) : W p l e R s m args below meth c H locs cells slots Q (F0 m pc ls (v :: .ref a :: rest)) := mi_putF S E hS hW r ha (ty := .object "java/util/ArrayList") he hl rfl (mg_X1 w0) tyX1 tyX1_ok nmX1 (k := 2) (by decide) rfl hin2 rfl (by decide +kernel) (List.mem_cons_of_mem _ mw_554) (fun _ h => h) hn hfit hdg kk
theorem fg_X4_164 (S : CallFix p m c cc nL s args (w0 :: mi_G) RX4) (E : mi_E D A s) (hW : mi_W D A ad cf H) (r : Nat) {a : Nat} (ha : ad r = a) {fs : List Value} {v : Value} (he : cf r = some (.inr (2, fs))) (hv : fs[2]? = some v) (hdg : decode cc pc = .ok (.getfield 164, 3)) (kk : W p l e R s m args below meth c H locs cells slots Q (F0 m (pc + 3) ls (v :: rest))) : W p l e R s m args below meth c H locs cells slots Q (F0 m pc ls (.ref a :: rest)) := mi_get S E hW r ha he hv rfl (mg_X1 w0) (k := 2) (by decide) (List.mem_cons_of_mem _ mw_555) (fun _ h => h) hdg kk
theorem fg_X0_7 (S : CallFix p m c cc nL s args (w0 :: mi_G) RX0) (E : mi_E D A s) (hW : mi_W D A ad cf H) (r : Nat) {a : Nat} (ha : ad r = a) {fs : List Value} {v : Value} (he : cf r = some (.inr (1, fs))) (hv : fs[0]? = some v) (hdg : decode cc pc = .ok (.getfield 7, 3)) (kk : W p l e R s m args below meth c H locs cells slots Q (F0 m (pc + 3) ls (v :: rest))) : W p l e R s m args below meth c H locs cells slots Q (F0 m pc ls (.ref a :: rest)) := mi_get S E hW r ha he hv rfl (mg_X0 w0) (k := 0) (by decide) (List.mem_cons_of_mem _ mw_590) (fun _ h => h) hdg kk
theorem fp_X0_7 (S : CallFix p m c cc nL s args (w0 :: mi_G) RX0) (E : mi_E D A s) (hS : va_S A s.heap H locs) (hW : mi_W D A ad cf H) (r : Nat) {a : Nat} (ha : ad r = a) {fs : List Value} {v : Value} (he : cf r = some (.inr (1, fs))) (hl : 0 < fs.length) (hn : narrow (.object "Voxelmint$Die") v = v) (hfit : fits (.object "Voxelmint$Die") v = true) (hin2 : meth.name = "<init>") (hdg : decode cc pc = .ok (.putfield 7, 3)) (kk : ∀ (H1 : Heap) (locs1 : List Loc), mi_W D A ad (va_up cf r (some (.inr (1, fs.set 0 (v))))) H1 → va_S A s.heap H1 locs1 → H1.size = H.size → W p l e R s m args below meth c H1 locs1 cells slots Q (F0 m (pc + 3) ls rest)) : W p l e R s m args below meth c H locs cells slots Q (F0 m pc ls (v :: .ref a :: rest)) := mi_putF S E hS hW r ha (ty := .object "Voxelmint$Die") he hl rfl (mg_X0 w0) tyX0 tyX0_ok nmX0 (k := 0) (by decide) rfl hin2 rfl (by decide +kernel) (List.mem_cons_of_mem _ mw_590) (fun _ h => h) hn hfit hdg kk
theorem fg_X4_179 (S : CallFix p m c cc nL s args (w0 :: mi_G) RX4) (E : mi_E D A s) (hW : mi_W D A ad cf H) (r : Nat) {a : Nat} (ha : ad r = a) {fs : List Value} {v : Value} (he : cf r = some (.inr (1, fs))) (hv : fs[0]? = some v) (hdg : decode cc pc = .ok (.getfield 179, 3)) (kk : W p l e R s m args below meth c H locs cells slots Q (F0 m (pc + 3) ls (v :: rest))) : W p l e R s m args below meth c H locs cells slots Q (F0 m pc ls (.ref a :: rest)) := mi_get S E hW r ha he hv rfl (mg_X0 w0) (k := 0) (by decide) (List.mem_cons_of_mem _ mw_591) (fun _ h => h) hdg kk
theorem fg_X0_13 (S : CallFix p m c cc nL s args (w0 :: mi_G) RX0) (E : mi_E D A s) (hW : mi_W D A ad cf H) (r : Nat) {a : Nat} (ha : ad r = a) {fs : List Value} {v : Value} (he : cf r = some (.inr (1, fs))) (hv : fs[1]? = some v) (hdg : decode cc pc = .ok (.getfield 13, 3)) (kk : W p l e R s m args below meth c H locs cells slots Q (F0 m (pc + 3) ls (v :: rest))) : W p l e R s m args below meth c H locs cells slots Q (F0 m pc ls (.ref a :: rest)) := mi_get S E hW r ha he hv rfl (mg_X0 w0) (k := 1) (by decide) (List.mem_cons_of_mem _ mw_592) (fun _ h => h) hdg kk
theorem fp_X0_13 (S : CallFix p m c cc nL s args (w0 :: mi_G) RX0) (E : mi_E D A s) (hS : va_S A s.heap H locs) (hW : mi_W D A ad cf H) (r : Nat) {a : Nat} (ha : ad r = a) {fs : List Value} {v : Value} (he : cf r = some (.inr (1, fs))) (hl : 1 < fs.length) (hn : narrow (.array .int) v = v) (hfit : fits (.array .int) v = true) (hin2 : meth.name = "<init>") (hdg : decode cc pc = .ok (.putfield 13, 3)) (kk : ∀ (H1 : Heap) (locs1 : List Loc), mi_W D A ad (va_up cf r (some (.inr (1, fs.set 1 (v))))) H1 → va_S A s.heap H1 locs1 → H1.size = H.size → W p l e R s m args below meth c H1 locs1 cells slots Q (F0 m (pc + 3) ls rest)) : W p l e R s m args below meth c H locs cells slots Q (F0 m pc ls (v :: .ref a :: rest)) := mi_putF S E hS hW r ha (ty := .array .int) he hl rfl (mg_X0 w0) tyX0 tyX0_ok nmX0 (k := 1) (by decide) rfl hin2 rfl (by decide +kernel) (List.mem_cons_of_mem _ mw_592) (fun _ h => h) hn hfit hdg kk
theorem fg_X4_171 (S : CallFix p m c cc nL s args (w0 :: mi_G) RX4) (E : mi_E D A s) (hW : mi_W D A ad cf H) (r : Nat) {a : Nat} (ha : ad r = a) {fs : List Value} {v : Value} (he : cf r = some (.inr (1, fs))) (hv : fs[1]? = some v) (hdg : decode cc pc = .ok (.getfield 171, 3)) (kk : W p l e R s m args below meth c H locs cells slots Q (F0 m (pc + 3) ls (v :: rest))) : W p l e R s m args below meth c H locs cells slots Q (F0 m pc ls (.ref a :: rest)) := mi_get S E hW r ha he hv rfl (mg_X0 w0) (k := 1) (by decide) (List.mem_cons_of_mem _ mw_593) (fun _ h => h) hdg kk
theorem fg_X0_17 (S : CallFix p m c cc nL s args (w0 :: mi_G) RX0) (E : mi_E D A s) (hW : mi_W D A ad cf H) (r : Nat) {a : Nat} (ha : ad r = a) {fs : List Value} {v : Value} (he : cf r = some (.inr (1, fs))) (hv : fs[2]? = some v) (hdg : decode cc pc = .ok (.getfield 17, 3)) (kk : W p l e R s m args below meth c H locs cells slots Q (F0 m (pc + 3) ls (v :: rest))) : W p l e R s m args below meth c H locs cells slots Q (F0 m pc ls (.ref a :: rest)) := mi_get S E hW r ha he hv rfl (mg_X0 w0) (k := 2) (by decide) (List.mem_cons_of_mem _ mw_594) (fun _ h => h) hdg kk
theorem fp_X0_17 (S : CallFix p m c cc nL s args (w0 :: mi_G) RX0) (E : mi_E D A s) (hS : va_S A s.heap H locs) (hW : mi_W D A ad cf H) (r : Nat) {a : Nat} (ha : ad r = a) {fs : List Value} {v : Value} (he : cf r = some (.inr (1, fs))) (hl : 2 < fs.length) (hn : narrow (.array .int) v = v) (hfit : fits (.array .int) v = true) (hin2 : meth.name = "<init>") (hdg : decode cc pc = .ok (.putfield 17, 3)) (kk : ∀ (H1 : Heap) (locs1 : List Loc), mi_W D A ad (va_up cf r (some (.inr (1, fs.set 2 (v))))) H1 → va_S A s.heap H1 locs1 → H1.size = H.size → W p l e R s m args below meth c H1 locs1 cells slots Q (F0 m (pc + 3) ls rest)) : W p l e R s m args below meth c H locs cells slots Q (F0 m pc ls (v :: .ref a :: rest)) := mi_putF S E hS hW r ha (ty := .array .int) he hl rfl (mg_X0 w0) tyX0 tyX0_ok nmX0 (k := 2) (by decide) rfl hin2 rfl (by decide +kernel) (List.mem_cons_of_mem _ mw_594) (fun _ h => h) hn hfit hdg kk
theorem fg_X4_195 (S : CallFix p m c cc nL s args (w0 :: mi_G) RX4) (E : mi_E D A s) (hW : mi_W D A ad cf H) (r : Nat) {a : Nat} (ha : ad r = a) {fs : List Value} {v : Value} (he : cf r = some (.inr (1, fs))) (hv : fs[2]? = some v) (hdg : decode cc pc = .ok (.getfield 195, 3)) (kk : W p l e R s m args below meth c H locs cells slots Q (F0 m (pc + 3) ls (v :: rest))) : W p l e R s m args below meth c H locs cells slots Q (F0 m pc ls (.ref a :: rest)) := mi_get S E hW r ha he hv rfl (mg_X0 w0) (k := 2) (by decide) (List.mem_cons_of_mem _ mw_595) (fun _ h => h) hdg kk
theorem fg_X5_44 (S : CallFix p m c cc nL s args (w0 :: mi_G) RX5) (E : mi_E D A s) (hW : mi_W D A ad cf H) (r : Nat) {a : Nat} (ha : ad r = a) {fs : List Value} {v : Value} (he : cf r = some (.inr (6, fs))) (hv : fs[0]? = some v) (hdg : decode cc pc = .ok (.getfield 44, 3)) (kk : W p l e R s m args below meth c H locs cells slots Q (F0 m (pc + 3) ls (v :: rest))) : W p l e R s m args below meth c H locs cells slots Q (F0 m pc ls (.ref a :: rest)) := mi_get S E hW r ha he hv rfl (mg_X5 w0) (k := 0) (by decide) (List.mem_cons_of_mem _ mw_677) (fun _ h => h) hdg kk
theorem fp_X5_44 (S : CallFix p m c cc nL s args (w0 :: mi_G) RX5) (E : mi_E D A s) (hS : va_S A s.heap H locs) (hW : mi_W D A ad cf H) (r : Nat) {a : Nat} (ha : ad r = a) {fs : List Value} {v : Int32} (he : cf r = some (.inr (6, fs))) (hl : 0 < fs.length) (hdg : decode cc pc = .ok (.putfield 44, 3)) (kk : ∀ (H1 : Heap) (locs1 : List Loc), mi_W D A ad (va_up cf r (some (.inr (6, fs.set 0 (.int v))))) H1 → va_S A s.heap H1 locs1 → H1.size = H.size → W p l e R s m args below meth c H1 locs1 cells slots Q (F0 m (pc + 3) ls rest)) : W p l e R s m args below meth c H locs cells slots Q (F0 m pc ls (.int v :: .ref a :: rest)) := mi_put S E hS hW r ha (ty := .int) he hl rfl (mg_X5 w0) tyX5 tyX5_ok nmX5 (k := 0) (by decide) rfl (by decide +kernel) (List.mem_cons_of_mem _ mw_677) (fun _ h => h) rfl rfl hdg kk
theorem fg_X5_7 (S : CallFix p m c cc nL s args (w0 :: mi_G) RX5) (E : mi_E D A s) (hW : mi_W D A ad cf H) (r : Nat) {a : Nat} (ha : ad r = a) {fs : List Value} {v : Value} (he : cf r = some (.inr (6, fs))) (hv : fs[1]? = some v) (hdg : decode cc pc = .ok (.getfield 7, 3)) (kk : W p l e R s m args below meth c H locs cells slots Q (F0 m (pc + 3) ls (v :: rest))) : W p l e R s m args below meth c H locs cells slots Q (F0 m pc ls (.ref a :: rest)) := mi_get S E hW r ha he hv rfl (mg_X5 w0) (k := 1) (by decide) (List.mem_cons_of_mem _ mw_678) (fun _ h => h) hdg kk
theorem fp_X5_7 (S : CallFix p m c cc nL s args (w0 :: mi_G) RX5) (E : mi_E D A s) (hS : va_S A s.heap H locs) (hW : mi_W D A ad cf H) (r : Nat) {a : Nat} (ha : ad r = a) {fs : List Value} {v : Int32} (he : cf r = some (.inr (6, fs))) (hl : 1 < fs.length) (hdg : decode cc pc = .ok (.putfield 7, 3)) (kk : ∀ (H1 : Heap) (locs1 : List Loc), mi_W D A ad (va_up cf r (some (.inr (6, fs.set 1 (.int v))))) H1 → va_S A s.heap H1 locs1 → H1.size = H.size → W p l e R s m args below meth c H1 locs1 cells slots Q (F0 m (pc + 3) ls rest)) : W p l e R s m args below meth c H locs cells slots Q (F0 m pc ls (.int v :: .ref a :: rest)) := mi_put S E hS hW r ha (ty := .int) he hl rfl (mg_X5 w0) tyX5 tyX5_ok nmX5 (k := 1) (by decide) rfl (by decide +kernel) (List.mem_cons_of_mem _ mw_678) (fun _ h => h) rfl rfl hdg kk
theorem fg_X5_51 (S : CallFix p m c cc nL s args (w0 :: mi_G) RX5) (E : mi_E D A s) (hW : mi_W D A ad cf H) (r : Nat) {a : Nat} (ha : ad r = a) {fs : List Value} {v : Value} (he : cf r = some (.inr (6, fs))) (hv : fs[2]? = some v) (hdg : decode cc pc = .ok (.getfield 51, 3)) (kk : W p l e R s m args below meth c H locs cells slots Q (F0 m (pc + 3) ls (v :: rest))) : W p l e R s m args below meth c H locs cells slots Q (F0 m pc ls (.ref a :: rest)) := mi_get S E hW r ha he hv rfl (mg_X5 w0) (k := 2) (by decide) (List.mem_cons_of_mem _ mw_679) (fun _ h => h) hdg kk
theorem fp_X5_51 (S : CallFix p m c cc nL s args (w0 :: mi_G) RX5) (E : mi_E D A s) (hS : va_S A s.heap H locs) (hW : mi_W D A ad cf H) (r : Nat) {a : Nat} (ha : ad r = a) {fs : List Value} {v : Int32} (he : cf r = some (.inr (6, fs))) (hl : 2 < fs.length) (hdg : decode cc pc = .ok (.putfield 51, 3)) (kk : ∀ (H1 : Heap) (locs1 : List Loc), mi_W D A ad (va_up cf r (some (.inr (6, fs.set 2 (.int v))))) H1 → va_S A s.heap H1 locs1 → H1.size = H.size → W p l e R s m args below meth c H1 locs1 cells slots Q (F0 m (pc + 3) ls rest)) : W p l e R s m args below meth c H locs cells slots Q (F0 m pc ls (.int v :: .ref a :: rest)) := mi_put S E hS hW r ha (ty := .int) he hl rfl (mg_X5 w0) tyX5 tyX5_ok nmX5 (k := 2) (by decide) rfl (by decide +kernel) (List.mem_cons_of_mem _ mw_679) (fun _ h => h) rfl rfl hdg kk
theorem fg_X5_13 (S : CallFix p m c cc nL s args (w0 :: mi_G) RX5) (E : mi_E D A s) (hW : mi_W D A ad cf H) (r : Nat) {a : Nat} (ha : ad r = a) {fs : List Value} {v : Value} (he : cf r = some (.inr (6, fs))) (hv : fs[3]? = some v) (hdg : decode cc pc = .ok (.getfield 13, 3)) (kk : W p l e R s m args below meth c H locs cells slots Q (F0 m (pc + 3) ls (v :: rest))) : W p l e R s m args below meth c H locs cells slots Q (F0 m pc ls (.ref a :: rest)) := mi_get S E hW r ha he hv rfl (mg_X5 w0) (k := 3) (by decide) (List.mem_cons_of_mem _ mw_680) (fun _ h => h) hdg kk
theorem fp_X5_13 (S : CallFix p m c cc nL s args (w0 :: mi_G) RX5) (E : mi_E D A s) (hS : va_S A s.heap H locs) (hW : mi_W D A ad cf H) (r : Nat) {a : Nat} (ha : ad r = a) {fs : List Value} {v : Value} (he : cf r = some (.inr (6, fs))) (hl : 3 < fs.length) (hn : narrow (.array .int) v = v) (hfit : fits (.array .int) v = true) (hin2 : meth.name = "<init>") (hdg : decode cc pc = .ok (.putfield 13, 3)) (kk : ∀ (H1 : Heap) (locs1 : List Loc), mi_W D A ad (va_up cf r (some (.inr (6, fs.set 3 (v))))) H1 → va_S A s.heap H1 locs1 → H1.size = H.size → W p l e R s m args below meth c H1 locs1 cells slots Q (F0 m (pc + 3) ls rest)) : W p l e R s m args below meth c H locs cells slots Q (F0 m pc ls (v :: .ref a :: rest)) := mi_putF S E hS hW r ha (ty := .array .int) he hl rfl (mg_X5 w0) tyX5 tyX5_ok nmX5 (k := 3) (by decide) rfl hin2 rfl (by decide +kernel) (List.mem_cons_of_mem _ mw_680) (fun _ h => h) hn hfit hdg kk
theorem fg_X5_17 (S : CallFix p m c cc nL s args (w0 :: mi_G) RX5) (E : mi_E D A s) (hW : mi_W D A ad cf H) (r : Nat) {a : Nat} (ha : ad r = a) {fs : List Value} {v : Value} (he : cf r = some (.inr (6, fs))) (hv : fs[4]? = some v) (hdg : decode cc pc = .ok (.getfield 17, 3)) (kk : W p l e R s m args below meth c H locs cells slots Q (F0 m (pc + 3) ls (v :: rest))) : W p l e R s m args below meth c H locs cells slots Q (F0 m pc ls (.ref a :: rest)) := mi_get S E hW r ha he hv rfl (mg_X5 w0) (k := 4) (by decide) (List.mem_cons_of_mem _ mw_681) (fun _ h => h) hdg kk
theorem fp_X5_17 (S : CallFix p m c cc nL s args (w0 :: mi_G) RX5) (E : mi_E D A s) (hS : va_S A s.heap H locs) (hW : mi_W D A ad cf H) (r : Nat) {a : Nat} (ha : ad r = a) {fs : List Value} {v : Value} (he : cf r = some (.inr (6, fs))) (hl : 4 < fs.length) (hn : narrow (.array .int) v = v) (hfit : fits (.array .int) v = true) (hin2 : meth.name = "<init>") (hdg : decode cc pc = .ok (.putfield 17, 3)) (kk : ∀ (H1 : Heap) (locs1 : List Loc), mi_W D A ad (va_up cf r (some (.inr (6, fs.set 4 (v))))) H1 → va_S A s.heap H1 locs1 → H1.size = H.size → W p l e R s m args below meth c H1 locs1 cells slots Q (F0 m (pc + 3) ls rest)) : W p l e R s m args below meth c H locs cells slots Q (F0 m pc ls (v :: .ref a :: rest)) := mi_putF S E hS hW r ha (ty := .array .int) he hl rfl (mg_X5 w0) tyX5 tyX5_ok nmX5 (k := 4) (by decide) rfl hin2 rfl (by decide +kernel) (List.mem_cons_of_mem _ mw_681) (fun _ h => h) hn hfit hdg kk
theorem fg_X5_20 (S : CallFix p m c cc nL s args (w0 :: mi_G) RX5) (E : mi_E D A s) (hW : mi_W D A ad cf H) (r : Nat) {a : Nat} (ha : ad r = a) {fs : List Value} {v : Value} (he : cf r = some (.inr (6, fs))) (hv : fs[5]? = some v) (hdg : decode cc pc = .ok (.getfield 20, 3)) (kk : W p l e R s m args below meth c H locs cells slots Q (F0 m (pc + 3) ls (v :: rest))) : W p l e R s m args below meth c H locs cells slots Q (F0 m pc ls (.ref a :: rest)) := mi_get S E hW r ha he hv rfl (mg_X5 w0) (k := 5) (by decide) (List.mem_cons_of_mem _ mw_682) (fun _ h => h) hdg kk
theorem fp_X5_20 (S : CallFix p m c cc nL s args (w0 :: mi_G) RX5) (E : mi_E D A s) (hS : va_S A s.heap H locs) (hW : mi_W D A ad cf H) (r : Nat) {a : Nat} (ha : ad r = a) {fs : List Value} {v : Value} (he : cf r = some (.inr (6, fs))) (hl : 5 < fs.length) (hn : narrow (.array .int) v = v) (hfit : fits (.array .int) v = true) (hin2 : meth.name = "<init>") (hdg : decode cc pc = .ok (.putfield 20, 3)) (kk : ∀ (H1 : Heap) (locs1 : List Loc), mi_W D A ad (va_up cf r (some (.inr (6, fs.set 5 (v))))) H1 → va_S A s.heap H1 locs1 → H1.size = H.size → W p l e R s m args below meth c H1 locs1 cells slots Q (F0 m (pc + 3) ls rest)) : W p l e R s m args below meth c H locs cells slots Q (F0 m pc ls (v :: .ref a :: rest)) := mi_putF S E hS hW r ha (ty := .array .int) he hl rfl (mg_X5 w0) tyX5 tyX5_ok nmX5 (k := 5) (by decide) rfl hin2 rfl (by decide +kernel) (List.mem_cons_of_mem _ mw_682) (fun _ h => h) hn hfit hdg kk
theorem fg_X5_104 (S : CallFix p m c cc nL s args (w0 :: mi_G) RX5) (E : mi_E D A s) (hW : mi_W D A ad cf H) (r : Nat) {a : Nat} (ha : ad r = a) {fs : List Value} {v : Value} (he : cf r = some (.inr (6, fs))) (hv : fs[6]? = some v) (hdg : decode cc pc = .ok (.getfield 104, 3)) (kk : W p l e R s m args below meth c H locs cells slots Q (F0 m (pc + 3) ls (v :: rest))) : W p l e R s m args below meth c H locs cells slots Q (F0 m pc ls (.ref a :: rest)) := mi_get S E hW r ha he hv rfl (mg_X5 w0) (k := 6) (by decide) (List.mem_cons_of_mem _ mw_683) (fun _ h => h) hdg kk
theorem fp_X5_104 (S : CallFix p m c cc nL s args (w0 :: mi_G) RX5) (E : mi_E D A s) (hS : va_S A s.heap H locs) (hW : mi_W D A ad cf H) (r : Nat) {a : Nat} (ha : ad r = a) {fs : List Value} {v : Int32} (he : cf r = some (.inr (6, fs))) (hl : 6 < fs.length) (hdg : decode cc pc = .ok (.putfield 104, 3)) (kk : ∀ (H1 : Heap) (locs1 : List Loc), mi_W D A ad (va_up cf r (some (.inr (6, fs.set 6 (.int v))))) H1 → va_S A s.heap H1 locs1 → H1.size = H.size → W p l e R s m args below meth c H1 locs1 cells slots Q (F0 m (pc + 3) ls rest)) : W p l e R s m args below meth c H locs cells slots Q (F0 m pc ls (.int v :: .ref a :: rest)) := mi_put S E hS hW r ha (ty := .int) he hl rfl (mg_X5 w0) tyX5 tyX5_ok nmX5 (k := 6) (by decide) rfl (by decide +kernel) (List.mem_cons_of_mem _ mw_683) (fun _ h => h) rfl rfl hdg kk
theorem fg_X5_23 (S : CallFix p m c cc nL s args (w0 :: mi_G) RX5) (E : mi_E D A s) (hW : mi_W D A ad cf H) (r : Nat) {a : Nat} (ha : ad r = a) {fs : List Value} {v : Value} (he : cf r = some (.inr (6, fs))) (hv : fs[7]? = some v) (hdg : decode cc pc = .ok (.getfield 23, 3)) (kk : W p l e R s m args below meth c H locs cells slots Q (F0 m (pc + 3) ls (v :: rest))) : W p l e R s m args below meth c H locs cells slots Q (F0 m pc ls (.ref a :: rest)) := mi_get S E hW r ha he hv rfl (mg_X5 w0) (k := 7) (by decide) (List.mem_cons_of_mem _ mw_684) (fun _ h => h) hdg kk
theorem fp_X5_23 (S : CallFix p m c cc nL s args (w0 :: mi_G) RX5) (E : mi_E D A s) (hS : va_S A s.heap H locs) (hW : mi_W D A ad cf H) (r : Nat) {a : Nat} (ha : ad r = a) {fs : List Value} {v : Value} (he : cf r = some (.inr (6, fs))) (hl : 7 < fs.length) (hn : narrow (.array .int) v = v) (hfit : fits (.array .int) v = true) (hin2 : meth.name = "<init>") (hdg : decode cc pc = .ok (.putfield 23, 3)) (kk : ∀ (H1 : Heap) (locs1 : List Loc), mi_W D A ad (va_up cf r (some (.inr (6, fs.set 7 (v))))) H1 → va_S A s.heap H1 locs1 → H1.size = H.size → W p l e R s m args below meth c H1 locs1 cells slots Q (F0 m (pc + 3) ls rest)) : W p l e R s m args below meth c H locs cells slots Q (F0 m pc ls (v :: .ref a :: rest)) := mi_putF S E hS hW r ha (ty := .array .int) he hl rfl (mg_X5 w0) tyX5 tyX5_ok nmX5 (k := 7) (by decide) rfl hin2 rfl (by decide +kernel) (List.mem_cons_of_mem _ mw_684) (fun _ h => h) hn hfit hdg kk
theorem fg_X5_26 (S : CallFix p m c cc nL s args (w0 :: mi_G) RX5) (E : mi_E D A s) (hW : mi_W D A ad cf H) (r : Nat) {a : Nat} (ha : ad r = a) {fs : List Value} {v : Value} (he : cf r = some (.inr (6, fs))) (hv : fs[8]? = some v) (hdg : decode cc pc = .ok (.getfield 26, 3)) (kk : W p l e R s m args below meth c H locs cells slots Q (F0 m (pc + 3) ls (v :: rest))) : W p l e R s m args below meth c H locs cells slots Q (F0 m pc ls (.ref a :: rest)) := mi_get S E hW r ha he hv rfl (mg_X5 w0) (k := 8) (by decide) (List.mem_cons_of_mem _ mw_685) (fun _ h => h) hdg kk
theorem fp_X5_26 (S : CallFix p m c cc nL s args (w0 :: mi_G) RX5) (E : mi_E D A s) (hS : va_S A s.heap H locs) (hW : mi_W D A ad cf H) (r : Nat) {a : Nat} (ha : ad r = a) {fs : List Value} {v : Value} (he : cf r = some (.inr (6, fs))) (hl : 8 < fs.length) (hn : narrow (.array .int) v = v) (hfit : fits (.array .int) v = true) (hin2 : meth.name = "<init>") (hdg : decode cc pc = .ok (.putfield 26, 3)) (kk : ∀ (H1 : Heap) (locs1 : List Loc), mi_W D A ad (va_up cf r (some (.inr (6, fs.set 8 (v))))) H1 → va_S A s.heap H1 locs1 → H1.size = H.size → W p l e R s m args below meth c H1 locs1 cells slots Q (F0 m (pc + 3) ls rest)) : W p l e R s m args below meth c H locs cells slots Q (F0 m pc ls (v :: .ref a :: rest)) := mi_putF S E hS hW r ha (ty := .array .int) he hl rfl (mg_X5 w0) tyX5 tyX5_ok nmX5 (k := 8) (by decide) rfl hin2 rfl (by decide +kernel) (List.mem_cons_of_mem _ mw_685) (fun _ h => h) hn hfit hdg kk
theorem fg_X5_29 (S : CallFix p m c cc nL s args (w0 :: mi_G) RX5) (E : mi_E D A s) (hW : mi_W D A ad cf H) (r : Nat) {a : Nat} (ha : ad r = a) {fs : List Value} {v : Value} (he : cf r = some (.inr (6, fs))) (hv : fs[9]? = some v) (hdg : decode cc pc = .ok (.getfield 29, 3)) (kk : W p l e R s m args below meth c H locs cells slots Q (F0 m (pc + 3) ls (v :: rest))) : W p l e R s m args below meth c H locs cells slots Q (F0 m pc ls (.ref a :: rest)) := mi_get S E hW r ha he hv rfl (mg_X5 w0) (k := 9) (by decide) (List.mem_cons_of_mem _ mw_686) (fun _ h => h) hdg kk
theorem fp_X5_29 (S : CallFix p m c cc nL s args (w0 :: mi_G) RX5) (E : mi_E D A s) (hS : va_S A s.heap H locs) (hW : mi_W D A ad cf H) (r : Nat) {a : Nat} (ha : ad r = a) {fs : List Value} {v : Value} (he : cf r = some (.inr (6, fs))) (hl : 9 < fs.length) (hn : narrow (.array .int) v = v) (hfit : fits (.array .int) v = true) (hin2 : meth.name = "<init>") (hdg : decode cc pc = .ok (.putfield 29, 3)) (kk : ∀ (H1 : Heap) (locs1 : List Loc), mi_W D A ad (va_up cf r (some (.inr (6, fs.set 9 (v))))) H1 → va_S A s.heap H1 locs1 → H1.size = H.size → W p l e R s m args below meth c H1 locs1 cells slots Q (F0 m (pc + 3) ls rest)) : W p l e R s m args below meth c H locs cells slots Q (F0 m pc ls (v :: .ref a :: rest)) := mi_putF S E hS hW r ha (ty := .array .int) he hl rfl (mg_X5 w0) tyX5 tyX5_ok nmX5 (k := 9) (by decide) rfl hin2 rfl (by decide +kernel) (List.mem_cons_of_mem _ mw_686) (fun _ h => h) hn hfit hdg kk
theorem fg_X5_107 (S : CallFix p m c cc nL s args (w0 :: mi_G) RX5) (E : mi_E D A s) (hW : mi_W D A ad cf H) (r : Nat) {a : Nat} (ha : ad r = a) {fs : List Value} {v : Value} (he : cf r = some (.inr (6, fs))) (hv : fs[10]? = some v) (hdg : decode cc pc = .ok (.getfield 107, 3)) (kk : W p l e R s m args below meth c H locs cells slots Q (F0 m (pc + 3) ls (v :: rest))) : W p l e R s m args below meth c H locs cells slots Q (F0 m pc ls (.ref a :: rest)) := mi_get S E hW r ha he hv rfl (mg_X5 w0) (k := 10) (by decide) (List.mem_cons_of_mem _ mw_687) (fun _ h => h) hdg kk
theorem fp_X5_107 (S : CallFix p m c cc nL s args (w0 :: mi_G) RX5) (E : mi_E D A s) (hS : va_S A s.heap H locs) (hW : mi_W D A ad cf H) (r : Nat) {a : Nat} (ha : ad r = a) {fs : List Value} {v : Int32} (he : cf r = some (.inr (6, fs))) (hl : 10 < fs.length) (hdg : decode cc pc = .ok (.putfield 107, 3)) (kk : ∀ (H1 : Heap) (locs1 : List Loc), mi_W D A ad (va_up cf r (some (.inr (6, fs.set 10 (.int v))))) H1 → va_S A s.heap H1 locs1 → H1.size = H.size → W p l e R s m args below meth c H1 locs1 cells slots Q (F0 m (pc + 3) ls rest)) : W p l e R s m args below meth c H locs cells slots Q (F0 m pc ls (.int v :: .ref a :: rest)) := mi_put S E hS hW r ha (ty := .int) he hl rfl (mg_X5 w0) tyX5 tyX5_ok nmX5 (k := 10) (by decide) rfl (by decide +kernel) (List.mem_cons_of_mem _ mw_687) (fun _ h => h) rfl rfl hdg kk
theorem fg_X5_32 (S : CallFix p m c cc nL s args (w0 :: mi_G) RX5) (E : mi_E D A s) (hW : mi_W D A ad cf H) (r : Nat) {a : Nat} (ha : ad r = a) {fs : List Value} {v : Value} (he : cf r = some (.inr (6, fs))) (hv : fs[11]? = some v) (hdg : decode cc pc = .ok (.getfield 32, 3)) (kk : W p l e R s m args below meth c H locs cells slots Q (F0 m (pc + 3) ls (v :: rest))) : W p l e R s m args below meth c H locs cells slots Q (F0 m pc ls (.ref a :: rest)) := mi_get S E hW r ha he hv rfl (mg_X5 w0) (k := 11) (by decide) (List.mem_cons_of_mem _ mw_688) (fun _ h => h) hdg kk
theorem fp_X5_32 (S : CallFix p m c cc nL s args (w0 :: mi_G) RX5) (E : mi_E D A s) (hS : va_S A s.heap H locs) (hW : mi_W D A ad cf H) (r : Nat) {a : Nat} (ha : ad r = a) {fs : List Value} {v : Value} (he : cf r = some (.inr (6, fs))) (hl : 11 < fs.length) (hn : narrow (.array .int) v = v) (hfit : fits (.array .int) v = true) (hin2 : meth.name = "<init>") (hdg : decode cc pc = .ok (.putfield 32, 3)) (kk : ∀ (H1 : Heap) (locs1 : List Loc), mi_W D A ad (va_up cf r (some (.inr (6, fs.set 11 (v))))) H1 → va_S A s.heap H1 locs1 → H1.size = H.size → W p l e R s m args below meth c H1 locs1 cells slots Q (F0 m (pc + 3) ls rest)) : W p l e R s m args below meth c H locs cells slots Q (F0 m pc ls (v :: .ref a :: rest)) := mi_putF S E hS hW r ha (ty := .array .int) he hl rfl (mg_X5 w0) tyX5 tyX5_ok nmX5 (k := 11) (by decide) rfl hin2 rfl (by decide +kernel) (List.mem_cons_of_mem _ mw_688) (fun _ h => h) hn hfit hdg kk
theorem fg_X5_35 (S : CallFix p m c cc nL s args (w0 :: mi_G) RX5) (E : mi_E D A s) (hW : mi_W D A ad cf H) (r : Nat) {a : Nat} (ha : ad r = a) {fs : List Value} {v : Value} (he : cf r = some (.inr (6, fs))) (hv : fs[12]? = some v) (hdg : decode cc pc = .ok (.getfield 35, 3)) (kk : W p l e R s m args below meth c H locs cells slots Q (F0 m (pc + 3) ls (v :: rest))) : W p l e R s m args below meth c H locs cells slots Q (F0 m pc ls (.ref a :: rest)) := mi_get S E hW r ha he hv rfl (mg_X5 w0) (k := 12) (by decide) (List.mem_cons_of_mem _ mw_689) (fun _ h => h) hdg kk
theorem fp_X5_35 (S : CallFix p m c cc nL s args (w0 :: mi_G) RX5) (E : mi_E D A s) (hS : va_S A s.heap H locs) (hW : mi_W D A ad cf H) (r : Nat) {a : Nat} (ha : ad r = a) {fs : List Value} {v : Value} (he : cf r = some (.inr (6, fs))) (hl : 12 < fs.length) (hn : narrow (.array .int) v = v) (hfit : fits (.array .int) v = true) (hin2 : meth.name = "<init>") (hdg : decode cc pc = .ok (.putfield 35, 3)) (kk : ∀ (H1 : Heap) (locs1 : List Loc), mi_W D A ad (va_up cf r (some (.inr (6, fs.set 12 (v))))) H1 → va_S A s.heap H1 locs1 → H1.size = H.size → W p l e R s m args below meth c H1 locs1 cells slots Q (F0 m (pc + 3) ls rest)) : W p l e R s m args below meth c H locs cells slots Q (F0 m pc ls (v :: .ref a :: rest)) := mi_putF S E hS hW r ha (ty := .array .int) he hl rfl (mg_X5 w0) tyX5 tyX5_ok nmX5 (k := 12) (by decide) rfl hin2 rfl (by decide +kernel) (List.mem_cons_of_mem _ mw_689) (fun _ h => h) hn hfit hdg kk
theorem fg_X5_38 (S : CallFix p m c cc nL s args (w0 :: mi_G) RX5) (E : mi_E D A s) (hW : mi_W D A ad cf H) (r : Nat) {a : Nat} (ha : ad r = a) {fs : List Value} {v : Value} (he : cf r = some (.inr (6, fs))) (hv : fs[13]? = some v) (hdg : decode cc pc = .ok (.getfield 38, 3)) (kk : W p l e R s m args below meth c H locs cells slots Q (F0 m (pc + 3) ls (v :: rest))) : W p l e R s m args below meth c H locs cells slots Q (F0 m pc ls (.ref a :: rest)) := mi_get S E hW r ha he hv rfl (mg_X5 w0) (k := 13) (by decide) (List.mem_cons_of_mem _ mw_690) (fun _ h => h) hdg kk
theorem fp_X5_38 (S : CallFix p m c cc nL s args (w0 :: mi_G) RX5) (E : mi_E D A s) (hS : va_S A s.heap H locs) (hW : mi_W D A ad cf H) (r : Nat) {a : Nat} (ha : ad r = a) {fs : List Value} {v : Value} (he : cf r = some (.inr (6, fs))) (hl : 13 < fs.length) (hn : narrow (.array .int) v = v) (hfit : fits (.array .int) v = true) (hin2 : meth.name = "<init>") (hdg : decode cc pc = .ok (.putfield 38, 3)) (kk : ∀ (H1 : Heap) (locs1 : List Loc), mi_W D A ad (va_up cf r (some (.inr (6, fs.set 13 (v))))) H1 → va_S A s.heap H1 locs1 → H1.size = H.size → W p l e R s m args below meth c H1 locs1 cells slots Q (F0 m (pc + 3) ls rest)) : W p l e R s m args below meth c H locs cells slots Q (F0 m pc ls (v :: .ref a :: rest)) := mi_putF S E hS hW r ha (ty := .array .int) he hl rfl (mg_X5 w0) tyX5 tyX5_ok nmX5 (k := 13) (by decide) rfl hin2 rfl (by decide +kernel) (List.mem_cons_of_mem _ mw_690) (fun _ h => h) hn hfit hdg kk
theorem fg_X5_41 (S : CallFix p m c cc nL s args (w0 :: mi_G) RX5) (E : mi_E D A s) (hW : mi_W D A ad cf H) (r : Nat) {a : Nat} (ha : ad r = a) {fs : List Value} {v : Value} (he : cf r = some (.inr (6, fs))) (hv : fs[14]? = some v) (hdg : decode cc pc = .ok (.getfield 41, 3)) (kk : W p l e R s m args below meth c H locs cells slots Q (F0 m (pc + 3) ls (v :: rest))) : W p l e R s m args below meth c H locs cells slots Q (F0 m pc ls (.ref a :: rest)) := mi_get S E hW r ha he hv rfl (mg_X5 w0) (k := 14) (by decide) (List.mem_cons_of_mem _ mw_691) (fun _ h => h) hdg kk
theorem fp_X5_41 (S : CallFix p m c cc nL s args (w0 :: mi_G) RX5) (E : mi_E D A s) (hS : va_S A s.heap H locs) (hW : mi_W D A ad cf H) (r : Nat) {a : Nat} (ha : ad r = a) {fs : List Value} {v : Value} (he : cf r = some (.inr (6, fs))) (hl : 14 < fs.length) (hn : narrow (.array .int) v = v) (hfit : fits (.array .int) v = true) (hin2 : meth.name = "<init>") (hdg : decode cc pc = .ok (.putfield 41, 3)) (kk : ∀ (H1 : Heap) (locs1 : List Loc), mi_W D A ad (va_up cf r (some (.inr (6, fs.set 14 (v))))) H1 → va_S A s.heap H1 locs1 → H1.size = H.size → W p l e R s m args below meth c H1 locs1 cells slots Q (F0 m (pc + 3) ls rest)) : W p l e R s m args below meth c H locs cells slots Q (F0 m pc ls (v :: .ref a :: rest)) := mi_putF S E hS hW r ha (ty := .array .int) he hl rfl (mg_X5 w0) tyX5 tyX5_ok nmX5 (k := 14) (by decide) rfl hin2 rfl (by decide +kernel) (List.mem_cons_of_mem _ mw_691) (fun _ h => h) hn hfit hdg kk
end MWF
end
section
/-! pasted from kit/laws: counts, sums, bits -/
/-! ===== how many places have a property ===== -/
def fb_ct (p : Nat → Bool) : Nat → Nat
  | 0 => 0
  | n + 1 => fb_ct p n + (if p n then 1 else 0)
theorem fb_ct_succ (p : Nat → Bool) (n : Nat) : fb_ct p (n + 1) = fb_ct p n + (if p n then 1 else 0) := rfl
theorem fb_ct_le (p : Nat → Bool) : ∀ n, fb_ct p n ≤ n
  | 0 => Nat.le_refl _
  | n + 1 => by
    have h := fb_ct_le p n
    rw [fb_ct_succ]
    split <;> omega
theorem fb_ct_step (p : Nat → Bool) (m : Nat) : ∀ n, fb_ct p m ≤ fb_ct p (m + n)
  | 0 => Nat.le_refl _
  | n + 1 => by
    have h := fb_ct_step p m n
    show fb_ct p m ≤ fb_ct p (m + n + 1)
    rw [fb_ct_succ]
    omega
theorem fb_ct_mono (p : Nat → Bool) {m n : Nat} (h : m ≤ n) : fb_ct p m ≤ fb_ct p n := by
  have := fb_ct_step p m (n - m)
  rwa [Nat.add_sub_cancel' h] at this
theorem fb_ct_cong {p q : Nat → Bool} : ∀ {n : Nat}, (∀ k, k < n → p k = q k) → fb_ct p n = fb_ct q n
  | 0, _ => rfl
  | n + 1, h => by
    rw [fb_ct_succ, fb_ct_succ, fb_ct_cong (fun k hk => h k (by omega)), h n (by omega)]
/-- one place changed -/
theorem fb_ct_out (p : Nat → Bool) (b : Bool) {i n : Nat} (h : n ≤ i) : fb_ct (fun k => if k = i then b else p k) n = fb_ct p n :=
  fb_ct_cong fun k hk => if_neg (by omega)
theorem fb_ct_upd (p : Nat → Bool) (b : Bool) {i : Nat} : ∀ {n : Nat}, i < n → fb_ct (fun k => if k = i then b else p k) n + (if p i then 1 else 0) = fb_ct p n + (if b then 1 else 0)
  | 0, h => absurd h (Nat.not_lt_zero i)
  | n + 1, h => by
    rw [fb_ct_succ, fb_ct_succ]
    rcases Nat.lt_or_ge i n with q | q
    · have := fb_ct_upd p b q
      have e : (if n = i then b else p n) = p n := if_neg (by omega)
      rw [e]
      omega
    · have e : i = n := by omega
      subst e
      rw [fb_ct_out p b (Nat.le_refl _)]
      simp only [if_true]
      omega
theorem fb_ct_sub {p q : Nat → Bool} : ∀ {n : Nat}, (∀ k, k < n → p k = true → q k = true) → fb_ct p n ≤ fb_ct q n
  | 0, _ => Nat.le_refl _
  | n + 1, h => by
    have h1 := fb_ct_sub (n := n) (p := p) (q := q) (fun k hk => h k (by omega))
    have h2 := h n (by omega)
    rw [fb_ct_succ, fb_ct_succ]
    cases hp : p n <;> cases hq : q n <;> simp_all <;> omega
theorem fb_ct_or {p q : Nat → Bool} : ∀ {n : Nat}, (∀ k, k < n → ¬ (p k = true ∧ q k = true)) → fb_ct (fun k => p k || q k) n = fb_ct p n + fb_ct q n
  | 0, _ => rfl
  | n + 1, h => by
    have h1 := fb_ct_or (n := n) (p := p) (q := q) (fun k hk => h k (by omega))
    have h2 := h n (by omega)
    rw [fb_ct_succ, fb_ct_succ, fb_ct_succ, h1]
    cases hp : p n <;> cases hq : q n <;> simp_all <;> omega
theorem fb_ct_not (p : Nat → Bool) : ∀ n, fb_ct p n + fb_ct (fun k => !p k) n = n
  | 0 => rfl
  | n + 1 => by
    have h := fb_ct_not p n
    rw [fb_ct_succ, fb_ct_succ]
    cases p n <;> simp <;> omega
theorem fb_ct_split (p : Nat → Bool) (m : Nat) : ∀ n, fb_ct p (m + n) = fb_ct p m + fb_ct (fun k => p (m + k)) n
  | 0 => rfl
  | n + 1 => by
    have h := fb_ct_split p m n
    show fb_ct p (m + n + 1) = _
    rw [fb_ct_succ, fb_ct_succ, h, Nat.add_assoc]
theorem fb_ct_zero {p : Nat → Bool} : ∀ {n : Nat}, fb_ct p n = 0 ↔ ∀ k, k < n → p k = false
  | 0 => ⟨fun _ k hk => absurd hk (Nat.not_lt_zero k), fun _ => rfl⟩
  | n + 1 => by
    have h := fb_ct_zero (p := p) (n := n)
    rw [fb_ct_succ]
    constructor
    · intro e k hk
      have e1 : fb_ct p n = 0 := by omega
      rcases Nat.lt_or_ge k n with q | q
      · exact h.mp e1 k q
      · have ek : k = n := by omega
        subst ek
        cases hp : p k
        · rfl
        · simp [hp] at e
    · intro a
      rw [h.mpr (fun k hk => a k (by omega)), a n (by omega)]
      rfl
theorem fb_ct_pos {p : Nat → Bool} {n : Nat} : 0 < fb_ct p n ↔ ∃ k, k < n ∧ p k = true := by
  constructor
  · intro h
    refine Classical.byContradiction fun hx => ?_
    have := fb_ct_zero.mpr (fun k hk => by
      cases hp : p k
      · rfl
      · exact absurd ⟨k, hk, hp⟩ hx : ∀ k, k < n → p k = false)
    omega
  · rintro ⟨k, hk, hp⟩
    rcases Nat.eq_zero_or_pos (fb_ct p n) with e | e
    · have := fb_ct_zero.mp e k hk
      rw [this] at hp
      cases hp
    · exact e
theorem fb_ct_all {p : Nat → Bool} {n : Nat} : fb_ct p n = n ↔ ∀ k, k < n → p k = true := by
  have h := fb_ct_not p n
  constructor
  · intro e k hk
    have z : fb_ct (fun k => !p k) n = 0 := by omega
    have := fb_ct_zero.mp z k hk
    cases hp : p k
    · simp [hp] at this
    · rfl
  · intro a
    have z : fb_ct (fun k => !p k) n = 0 := fb_ct_zero.mpr (fun k hk => by simp [a k hk])
    omega
/-- the k-th place with the property -/
theorem fb_ct_kth {p : Nat → Bool} {k : Nat} : ∀ {n : Nat}, k < fb_ct p n → ∃ i, i < n ∧ p i = true ∧ fb_ct p i = k
  | 0, h => absurd h (Nat.not_lt_zero k)
  | n + 1, h => by
    rcases Nat.lt_or_ge k (fb_ct p n) with q | q
    · obtain ⟨i, h1, h2⟩ := fb_ct_kth q
      exact ⟨i, by omega, h2⟩
    · rw [fb_ct_succ] at h
      cases hp : p n
      · simp [hp] at h; omega
      · simp [hp] at h
        exact ⟨n, by omega, hp, by omega⟩
theorem fb_ct_kth_one {p : Nat → Bool} {i j : Nat} (hi : p i = true) (hj : p j = true) (e : fb_ct p i = fb_ct p j) : i = j := by
  have key : ∀ a b : Nat, a < b → p a = true → fb_ct p a < fb_ct p b := by
    intro a b hab ha
    have h := fb_ct_mono p (show a + 1 ≤ b from hab)
    rw [fb_ct_succ, ha] at h
    simp at h
    omega
  rcases Nat.lt_trichotomy i j with q | q | q
  · have := key i j q hi; omega
  · exact q
  · have := key j i q hj; omega
/-! ===== sums over a range: one place changed, parts, bounds ===== -/
def fb_sm (f : Nat → Nat) : Nat → Nat
  | 0 => 0
  | n + 1 => fb_sm f n + f n
theorem fb_sm_succ (f : Nat → Nat) (n : Nat) : fb_sm f (n + 1) = fb_sm f n + f n := rfl
theorem fb_sm_cong {f g : Nat → Nat} : ∀ {n : Nat}, (∀ k, k < n → f k = g k) → fb_sm f n = fb_sm g n
  | 0, _ => rfl
  | n + 1, h => by rw [fb_sm_succ, fb_sm_succ, fb_sm_cong (fun k hk => h k (by omega)), h n (by omega)]
theorem fb_sm_out (f : Nat → Nat) (v : Nat) {i n : Nat} (h : n ≤ i) : fb_sm (fun k => if k = i then v else f k) n = fb_sm f n :=
  fb_sm_cong fun k hk => if_neg (by omega)
theorem fb_sm_upd (f : Nat → Nat) (v : Nat) {i : Nat} : ∀ {n : Nat}, i < n → fb_sm (fun k => if k = i then v else f k) n + f i = fb_sm f n + v
  | 0, h => absurd h (Nat.not_lt_zero i)
  | n + 1, h => by
    rw [fb_sm_succ, fb_sm_succ]
    rcases Nat.lt_or_ge i n with q | q
    · have := fb_sm_upd f v q
      have e : (if n = i then v else f n) = f n := if_neg (by omega)
      rw [e]
      omega
    · have e : i = n := by omega
      subst e
      rw [fb_sm_out f v (Nat.le_refl _)]
      simp only [if_true]
      omega
theorem fb_sm_add (f g : Nat → Nat) : ∀ n, fb_sm (fun k => f k + g k) n = fb_sm f n + fb_sm g n
  | 0 => rfl
  | n + 1 => by
    have h := fb_sm_add f g n
    rw [fb_sm_succ, fb_sm_succ, fb_sm_succ, h]
    omega
theorem fb_sm_le {f g : Nat → Nat} : ∀ {n : Nat}, (∀ k, k < n → f k ≤ g k) → fb_sm f n ≤ fb_sm g n
  | 0, _ => Nat.le_refl _
  | n + 1, h => by
    have h1 := fb_sm_le (n := n) (f := f) (g := g) (fun k hk => h k (by omega))
    have h2 := h n (by omega)
    rw [fb_sm_succ, fb_sm_succ]
    omega
theorem fb_sm_const (c : Nat) : ∀ n, fb_sm (fun _ => c) n = n * c
  | 0 => by rw [Nat.zero_mul]; rfl
  | n + 1 => by rw [fb_sm_succ, fb_sm_const c n, Nat.succ_mul]
theorem fb_sm_bound {f : Nat → Nat} {c n : Nat} (h : ∀ k, k < n → f k ≤ c) : fb_sm f n ≤ n * c := by
  rw [← fb_sm_const c n]
  exact fb_sm_le h
theorem fb_sm_mono (f : Nat → Nat) (m : Nat) : ∀ n, fb_sm f m ≤ fb_sm f (m + n)
  | 0 => Nat.le_refl _
  | n + 1 => by
    have h := fb_sm_mono f m n
    show fb_sm f m ≤ fb_sm f (m + n + 1)
    rw [fb_sm_succ]
    omega
theorem fb_sm_part (f : Nat → Nat) {i n : Nat} (h : i < n) : fb_sm f i + f i ≤ fb_sm f n := by
  have := fb_sm_mono f (i + 1) (n - (i + 1))
  rw [fb_sm_succ, show i + 1 + (n - (i + 1)) = n by omega] at this
  exact this
theorem fb_sm_split (f : Nat → Nat) (m : Nat) : ∀ n, fb_sm f (m + n) = fb_sm f m + fb_sm (fun k => f (m + k)) n
  | 0 => rfl
  | n + 1 => by
    have h := fb_sm_split f m n
    show fb_sm f (m + n + 1) = _
    rw [fb_sm_succ, fb_sm_succ, h, Nat.add_assoc]
theorem fb_sm_zero {f : Nat → Nat} {n : Nat} (h : fb_sm f n = 0) : ∀ k, k < n → f k = 0 := fun k hk => by
  have := fb_sm_part f hk
  omega
/-! ===== Int32 by its bits: bt x i ===== -/
def bt (x : Int32) (i : Nat) : Bool := x.toBitVec.getLsbD i
theorem b_ext {x y : Int32} (h : ∀ i, i < 32 → bt x i = bt y i) : x = y := Int32.toBitVec_inj.mp (BitVec.eq_of_getLsbD_eq (fun i hi => h i hi))
theorem b_or (x y : Int32) (i : Nat) : bt (x ||| y) i = (bt x i || bt y i) := by unfold bt; rw [Int32.toBitVec_or, BitVec.getLsbD_or]
theorem b_and (x y : Int32) (i : Nat) : bt (x &&& y) i = (bt x i && bt y i) := by unfold bt; rw [Int32.toBitVec_and, BitVec.getLsbD_and]
theorem b_xor (x y : Int32) (i : Nat) : bt (x ^^^ y) i = (bt x i ^^ bt y i) := by unfold bt; rw [Int32.toBitVec_xor, BitVec.getLsbD_xor]
theorem b_big {x : Int32} {i : Nat} (h : 32 ≤ i) : bt x i = false := BitVec.getLsbD_of_ge _ _ h
theorem b_255 (i : Nat) : bt 255 i = decide (i < 8) := by
  rcases Nat.lt_or_ge i 32 with h | h
  · exact (by decide +kernel : ∀ i, i < 32 → bt 255 i = decide (i < 8)) i h
  · rw [b_big h, decide_eq_false (by omega)]
theorem b_65535 (i : Nat) : bt 65535 i = decide (i < 16) := by
  rcases Nat.lt_or_ge i 32 with h | h
  · exact (by decide +kernel : ∀ i, i < 32 → bt 65535 i = decide (i < 16)) i h
  · rw [b_big h, decide_eq_false (by omega)]
theorem b_m1 : ∀ i, i < 32 → bt (-1) i = true := by decide +kernel
theorem b_0 (i : Nat) : bt 0 i = false := BitVec.getLsbD_zero
theorem s_l : ∀ n, n < 32 → ((nI n &&& 31).toBitVec.smod 32).toNat = n := by decide +kernel
theorem s_u : ∀ n, n < 32 → (((nI n).toUInt32 &&& Int32.toUInt32 31).toBitVec % 32).toNat = n := by decide +kernel
theorem b_shl (n : Nat) (hn : n < 32) (x : Int32) {i : Nat} (hi : i < 32) : bt (x <<< (nI n &&& 31)) i = (decide (n ≤ i) && bt x (i - n)) := by
  unfold bt
  rw [Int32.toBitVec_shiftLeft]
  show (x.toBitVec <<< ((nI n &&& 31).toBitVec.smod 32).toNat).getLsbD i = _
  rw [s_l n hn, BitVec.getLsbD_shiftLeft]
  rcases Nat.lt_or_ge i n with h | h
  · simp [h, Nat.not_le.mpr h]
  · simp [hi, h, Nat.not_lt.mpr h]
theorem b_ushr (n : Nat) (hn : n < 32) (x : Int32) (i : Nat) : bt ((x.toUInt32 >>> ((nI n).toUInt32 &&& Int32.toUInt32 31)).toInt32) i = bt x (n + i) := by
  show (x.toUInt32 >>> ((nI n).toUInt32 &&& Int32.toUInt32 31)).toBitVec.getLsbD i = x.toUInt32.toBitVec.getLsbD (n + i)
  rw [UInt32.toBitVec_shiftRight]
  show (x.toUInt32.toBitVec >>> (((nI n).toUInt32 &&& Int32.toUInt32 31).toBitVec % 32).toNat).getLsbD i = _
  rw [s_u n hn, BitVec.getLsbD_ushiftRight]
theorem b_sshr (n : Nat) (hn : n < 32) (x : Int32) {i : Nat} (hi : i < 32) : bt (x >>> (nI n &&& 31)) i = if n + i < 32 then bt x (n + i) else bt x 31 := by
  unfold bt
  rw [Int32.toBitVec_shiftRight]
  show (x.toBitVec.sshiftRight ((nI n &&& 31).toBitVec.smod 32).toNat).getLsbD i = _
  rw [s_l n hn, BitVec.getLsbD_sshiftRight, BitVec.msb_eq_getLsbD_last]
  simp [hi]
theorem b_shl8 (x : Int32) {i : Nat} (hi : i < 32) : bt (x <<< ((8 : Int32) &&& 31)) i = (decide (8 ≤ i) && bt x (i - 8)) := b_shl 8 (by omega) x hi
theorem b_shl16 (x : Int32) {i : Nat} (hi : i < 32) : bt (x <<< ((16 : Int32) &&& 31)) i = (decide (16 ≤ i) && bt x (i - 16)) := b_shl 16 (by omega) x hi
theorem b_shl24 (x : Int32) {i : Nat} (hi : i < 32) : bt (x <<< ((24 : Int32) &&& 31)) i = (decide (24 ≤ i) && bt x (i - 24)) := b_shl 24 (by omega) x hi
theorem b_sshr8 (x : Int32) {i : Nat} (hi : i < 32) : bt (x >>> ((8 : Int32) &&& 31)) i = if 8 + i < 32 then bt x (8 + i) else bt x 31 := b_sshr 8 (by omega) x hi
end
section
/-! what is asked of a row of kinds K: runs, blocks, heights (column c, level l: the place 8 * c + l) -/
def sp_ne (K : Nat → Nat) (p : Nat) : Nat := if K p = K (p + 1) then 0 else 1
def sp_er (K : Nat → Nat) (c l : Nat) : Nat := if l = 7 then 1 else sp_ne K (8 * c + l)
def sp_ri (K : Nat → Nat) (c l : Nat) : Nat := fb_sm (fun j => sp_ne K (8 * c + j)) l
def sp_runs (K : Nat → Nat) (c : Nat) : Nat := 1 + sp_ri K c 7
def sp_rl (K : Nat → Nat) (c r : Nat) : Nat := fb_sm (fun j => if sp_ri K c j = r then 1 else 0) 8
def sp_bl (K : Nat → Nat) (p : Nat) : Nat := if K p = 0 then 0 else 1
def sp_blocks (K : Nat → Nat) : Nat := fb_sm (sp_bl K) 128
def sp_h (K : Nat → Nat) (c : Nat) : Nat → Nat
  | 0 => 0
  | n + 1 => if K (8 * c + n) = 0 then sp_h K c n else n + 1
theorem sp_ne_le (K : Nat → Nat) (p : Nat) : sp_ne K p ≤ 1 := by unfold sp_ne; split <;> omega
theorem sp_er_le (K : Nat → Nat) (c l : Nat) : sp_er K c l ≤ 1 := by unfold sp_er; split; exact Nat.le_refl 1; exact sp_ne_le K _
theorem sp_er_7 (K : Nat → Nat) (c : Nat) : sp_er K c 7 = 1 := if_pos rfl
theorem sp_er_n (K : Nat → Nat) (c : Nat) {l : Nat} (h : l ≠ 7) : sp_er K c l = sp_ne K (8 * c + l) := if_neg h
theorem sp_er_sum (K : Nat → Nat) (c : Nat) {l : Nat} (h : l ≤ 7) : fb_sm (sp_er K c) l = sp_ri K c l := fb_sm_cong (fun k hk => sp_er_n K c (by omega))
theorem sp_er_all (K : Nat → Nat) (c : Nat) : fb_sm (sp_er K c) 8 = sp_runs K c := by
  rw [fb_sm_succ, sp_er_sum K c (Nat.le_refl 7), sp_er_7]
  unfold sp_runs
  omega
theorem sp_ri_succ (K : Nat → Nat) (c l : Nat) : sp_ri K c (l + 1) = sp_ri K c l + sp_ne K (8 * c + l) := rfl
theorem sp_ri_le (K : Nat → Nat) (c : Nat) : ∀ l, sp_ri K c l ≤ l
  | 0 => Nat.le_refl 0
  | l + 1 => by
    have h1 := sp_ri_le K c l
    have h2 := sp_ne_le K (8 * c + l)
    rw [sp_ri_succ]
    omega
theorem sp_bl_le (K : Nat → Nat) (p : Nat) : sp_bl K p ≤ 1 := by unfold sp_bl; split <;> omega
theorem sp_bl_0 {K : Nat → Nat} {p : Nat} (h : K p = 0) : sp_bl K p = 0 := if_pos h
theorem sp_bl_1 {K : Nat → Nat} {p : Nat} (h : K p ≠ 0) : sp_bl K p = 1 := if_neg h
theorem sp_h_le (K : Nat → Nat) (c : Nat) : ∀ l, sp_h K c l ≤ l
  | 0 => Nat.le_refl 0
  | l + 1 => by
    have h1 := sp_h_le K c l
    rw [sp_h]
    split <;> omega
theorem sp_h_0 {K : Nat → Nat} {c l : Nat} (h : K (8 * c + l) = 0) : sp_h K c (l + 1) = sp_h K c l := if_pos h
theorem sp_h_1 {K : Nat → Nat} {c l : Nat} (h : K (8 * c + l) ≠ 0) : sp_h K c (l + 1) = l + 1 := if_neg h
/-- a number, or one less than none -/
def mi_dn : Nat → Int32
  | 0 => -1
  | n + 1 => nI n
theorem mi_dn_toInt {n : Nat} (h : n < 2 ^ 31) : (mi_dn n).toInt = (n : Int) - 1 := by
  cases n with
  | zero => decide
  | succ n =>
    show (nI n).toInt = _
    rw [nI_toInt (by omega)]
    omega
theorem mi_dn_dec (n : Nat) : nI n + Int32.ofInt (-1) = mi_dn n := by
  cases n with
  | zero => decide
  | succ n =>
    show nI (n + 1) + (-1) = nI n
    exact pk_m1 n
def mi_un (K : Nat → Nat) (p v : Nat) : Nat → Nat := fun j => if j = p then v else K j
theorem mi_un_upd (K : Nat → Nat) (p v : Nat) : upd (fun j => nI (K j)) p (nI v) = fun j => nI (mi_un K p v j) := by
  funext j
  show (if j = p then nI v else nI (K j)) = nI (if j = p then v else K j)
  by_cases h : j = p
  · rw [if_pos h, if_pos h]
  · rw [if_neg h, if_neg h]
theorem mi_un_s {K : Nat → Nat} {p v : Nat} : mi_un K p v p = v := if_pos rfl
theorem mi_un_n {K : Nat → Nat} {p v j : Nat} (h : j ≠ p) : mi_un K p v j = K j := if_neg h
theorem mi_up_up {α : Type} (f : Nat → α) (k : Nat) (v w : α) : va_up (va_up f k v) k w = va_up f k w := by
  funext j
  by_cases h : j = k
  · subst h
    rw [mi_up_s, mi_up_s]
  · rw [mi_up_n h, mi_up_n h, mi_up_n h]
theorem mi_un_un (K : Nat → Nat) (p v w : Nat) : mi_un (mi_un K p v) p w = mi_un K p w := by
  funext j
  by_cases h : j = p
  · subst h
    rw [mi_un_s, mi_un_s]
  · rw [mi_un_n h, mi_un_n h, mi_un_n h]
/-- the kind on level l of a packed column -/
def mo_kd (x : Int32) (l : Nat) : Int32 := (x >>> (nI (2 * l) &&& 31)) &&& nI 3
end
section
/-! more rows over the world: copies, casts, statics, classes; roles moved -/
theorem mi_W.move {D : va_G} {A : Nat → Prop} {ad : Nat → Nat} {cf : Nat → Option va_E} {H : Heap} (h : mi_W D A ad cf H) (q t : Nat) (hn : t ≠ q) {e : va_E} (he : cf t = some e) : mi_W D A (va_up ad q (ad t)) (va_up (va_up cf q (some e)) t none) H := by
  have key : ∀ (k : Nat) (x : va_E), va_up (va_up cf q (some e)) t none k = some x → k ≠ t ∧ ((k = q ∧ x = e) ∨ (k ≠ q ∧ cf k = some x)) := by
    intro k x hx
    by_cases hk : k = t
    · subst hk
      rw [mi_up_s] at hx
      cases hx
    · rw [mi_up_n hk] at hx
      refine ⟨hk, ?_⟩
      by_cases hq : k = q
      · subst hq
        rw [mi_up_s] at hx
        cases hx
        exact Or.inl ⟨rfl, rfl⟩
      · rw [mi_up_n hq] at hx
        exact Or.inr ⟨hq, hx⟩
  have adk : ∀ k, k ≠ q → va_up ad q (ad t) k = ad k := fun k hk => mi_up_n hk
  refine ⟨fun k x hx => ?_, fun k k' x x' hx hx' ha => ?_⟩
  · rcases (key k x hx).2 with ⟨rfl, rfl⟩ | ⟨h1, h2⟩
    · rw [mi_up_s]
      exact h.1 t _ he
    · rw [adk k h1]
      exact h.1 k x h2
  · obtain ⟨n1, g1⟩ := key k x hx
    obtain ⟨n2, g2⟩ := key k' x' hx'
    rcases g1 with ⟨e1, e2⟩ | ⟨e1, e2⟩ <;> rcases g2 with ⟨f1, f2⟩ | ⟨f1, f2⟩
    · rw [e1, f1]
    · rw [e1, mi_up_s, adk k' f1] at ha
      exact absurd (h.2 t k' _ _ he f2 ha).symm n2
    · rw [f1, mi_up_s, adk k e1] at ha
      exact absurd (h.2 k t _ _ e2 he ha) n1
    · rw [adk k e1, adk k' f1] at ha
      exact h.2 k k' _ _ e2 f2 ha
section MIJ
variable {p : Program} {l : Launch} {e : Env} {R : Room} {s : State} {m : MethodId} {args : Array Value} {below : List Frame} {meth : Method} {c : Code} {H : Heap} {locs : List Loc} {cells slots : Nat} {Q : State → Prop}
variable {cc : ByteArray} {pc nL : Nat} {ls : Array Slot} {rest : List Value} {D : va_G} {A : Nat → Prop} {ad : Nat → Nat} {cf : Nat → Option va_E} {Ts : List Cond} {own : String}
theorem mi_castX (S : CallFix p m c cc nL s args Ts own) (E : mi_E D A s) (hW : mi_W D A ad cf H) (r : Nat) {a : Nat} (ha : ad r = a) {ci idx : Nat} {fs : List Value} {q : vw_C} (he : cf r = some (.inr (ci, fs))) (hc : vwCl[ci]? = some q) (hlink : Cond.classLink own idx q.1 ∈ Ts) (hdg : decode cc pc = .ok (.checkcast idx, 3))
    (k : W p l e R s m args below meth c H locs cells slots Q (F0 m (pc + 3) ls (.ref a :: rest))) : W p l e R s m args below meth c H locs cells slots Q (F0 m pc ls (.ref a :: rest)) := by
  subst ha
  exact va_castS S.1 S.2.1 S.2.2.2.1 (S.2.2.2.2 _ hlink) (E.K.1 ci q hc).2 (hW.recv E he hc) hdg k
theorem mi_castI (S : CallFix p m c cc nL s args Ts own) (E : mi_E D A s) (hW : mi_W D A ad cf H) (r : Nat) {a : Nat} (ha : ad r = a) {idx n : Nat} {f : Nat → Int32} (he : cf r = some (mi_ai D n f)) (hlink : Cond.classLink own idx "[I" ∈ Ts) (hdg : decode cc pc = .ok (.checkcast idx, 3))
    (k : W p l e R s m args below meth c H locs cells slots Q (F0 m (pc + 3) ls (.ref a :: rest))) : W p l e R s m args below meth c H locs cells slots Q (F0 m pc ls (.ref a :: rest)) := by
  subst ha
  exact va_castA S.1 S.2.1 S.2.2.2.1 (S.2.2.2.2 _ hlink) (hW.P he) 0 rfl (E.K.2 0 _ rfl).2 hdg k
theorem mi_clone (S : CallFix p m c cc nL s args Ts own) (E : mi_E D A s) (hS : va_S A s.heap H locs) (hA : ∀ q, s.heap.size ≤ q → A q) (hW : mi_W D A ad cf H) (r t : Nat) {a : Nat} (ha : ad r = a) {idx n : Nat} {f : Nat → Int32} (he : cf r = some (mi_ai D n f)) (hsize : ls.size = nL)
    (hlink : Cond.methodLink own idx ⟨"[I", "clone", "()Ljava/lang/Object;"⟩ ∈ Ts) (hsame : Cond.sameMethod "[I" "java/lang/Object" "clone" "()Ljava/lang/Object;" ∈ Ts) (hnat : Cond.native ⟨"java/lang/Object", "clone", "()Ljava/lang/Object;"⟩ ∈ Ts) (hinst : Cond.instanceMethod ⟨"java/lang/Object", "clone", "()Ljava/lang/Object;"⟩ ∈ Ts) (hsel : Cond.selects "[I" ⟨"[I", "clone", "()Ljava/lang/Object;"⟩ ⟨"java/lang/Object", "clone", "()Ljava/lang/Object;"⟩ ∈ Ts)
    (hframes : 1 ≤ R.frames) (hlocals : (rest.map fun v => v.category).sum + 14 ≤ R.locals) (hcells : cells + 1 ≤ R.cells) (hslots : slots + n ≤ R.slots) (hdg : decode cc pc = .ok (.invokevirtual idx, 3))
    (kk : ∀ (H1 : Heap), mi_W D A (va_up ad t H.size) (va_up cf t (some (mi_ai D n f))) H1 → va_S A s.heap H1 locs → H1.size = H.size + 1 → W p l e R s m args below meth c H1 locs (cells + 1) (slots + n) Q (F0 m (pc + 3) ls (.ref H.size :: rest))) : W p l e R s m args below meth c H locs cells slots Q (F0 m pc ls (.ref a :: rest)) := by
  subst ha
  have hts := S.2.2.2.2
  obtain ⟨c0, t0', f1, f2, f3⟩ := Cond.castable_spec (va_Nw.use (A := args) rfl (E.2.2.1 ("[I", "java/lang/Cloneable") (by decide +kernel)))
  have hnm : s.vm.findClass "[I" = some (D.1 100) := (E.K.2 0 _ rfl).2
  cases hnm.symm.trans f1
  intro T hT X
  have hcell : H[ad r]? = some (vp_cell (D.1 100) (n, .inl f)) := hW.at he
  have hcellT : T.heap[ad r]? = some (vp_cell (D.1 100) (n, .inl f)) := by rw [hT]; exact hcell
  obtain ⟨-, kA, hkA, comp, hkind⟩ := State.isArrayOf_alike X.warmed.alike ((E.K.2 0 _ rfl).1 0 (fun _ => .null))
  obtain ⟨-, kS, hkS, compS, hkindS⟩ := (E.K.2 0 _ rfl).1 0 (fun _ => .null)
  obtain ⟨vm', X', st⟩ := X.cloneArray S.1 S.2.2.2.1 (hts _ hlink) (hts _ hsame) (hts _ hnat) (hts _ hinst) (hts _ hsel) (a := ad r) (cell := vp_cell (D.1 100) (n, .inl f)) hcellT (fun k h => by cases h) (fun h => by cases h) hnm f2 f3
    (fun i v hv => by
      have hk' : T.vm.classes[D.1 100]? = some kA := hkA
      have hfit : fits .int v = true := va_fit (fun i _ => rfl) i v (by rw [vp_cell_i] at hv; exact hv)
      simpa [State.fitsSlot, State.slotType?, vp_cell, arrV, hk', hkind] using hfit)
    (g := F0 m pc ls (.ref (ad r) :: rest)) rfl (by rw [S.2.2.1]; exact hsize) rfl (by rw [S.2.1]; exact hdg) hframes (by show 2 * 0 + _ + 14 ≤ _; omega) hcells (by rw [vp_cell_i, arrV_size]; exact hslots) (hloader := Vm.clonesLoader_of_array hkS hkindS)
  have hcellE : ({ cls := (vp_cell (D.1 100) (n, .inl f)).cls, slots := (vp_cell (D.1 100) (n, .inl f)).slots } : Cell) = vp_cell (D.1 100) (n, .inl f) := rfl
  have hsz : (vp_cell (D.1 100) (n, .inl f)).slots.size = n := by rw [vp_cell_i, arrV_size]
  rw [hcellE, hsz] at X'
  generalize hH1 : H.push (vp_cell (D.1 100) (n, .inl f)) = H1
  have z1 : H1.size = H.size + 1 := by rw [← hH1, Array.size_push]
  have e1 : H1[H.size]? = some (vp_cell (D.1 100) (n, .inl f)) := by rw [← hH1, Array.getElem?_push_size]
  have o1 : ∀ q : Nat, q < H.size → H1[q]? = H[q]? := fun q hq => by rw [← hH1, Array.getElem?_push, if_neg (Nat.ne_of_lt hq)]
  obtain ⟨t1, b1, b2⟩ := kk H1 (hW.new t (hA _ hS.1) e1 o1) (mi_S_new hS z1 o1) z1 ((T.setVm vm').pushCell (vp_cell (D.1 100) (n, .inl f))) (by rw [← hH1, ← hT]; rfl) X'
  refine ⟨t1, st t1 ?_, b2⟩
  rw [hcellE, hT]
  exact b1
/-- the elements of a row: objects that may stand in an array of Object -/
def mi_els (ad : Nat → Nat) (cf : Nat → Option va_E) (n : Nat) (f : Nat → Option Nat) : Prop := ∀ i, i < n → ∀ y, f i = some y → ∃ (ro ci : Nat) (fs : List Value) (q : vw_C), y = ad ro ∧ cf ro = some (.inr (ci, fs)) ∧ vwCl[ci]? = some q ∧ (q.1, mi_ob) ∈ mi_casts
theorem mi_any (E : mi_E D A s) (hW : mi_W D A ad cf H) {ro ci : Nat} {fs : List Value} {q : vw_C} (he : cf ro = some (.inr (ci, fs))) (hc : vwCl[ci]? = some q) (hcast : (q.1, mi_ob) ∈ mi_casts) : va_Any mi_ob s H (ad ro) := by
  obtain ⟨cellV, g1, g2, g3⟩ := hW.recv E he hc
  obtain ⟨kC, hkC, -⟩ := Vm.findClass_spec g3
  refine ⟨cellV, g1, g2, ⟨kC, hkC⟩, fun comp h => ?_⟩
  obtain ⟨c0, t0, f1, f2, f3⟩ := Cond.castable_spec (va_Nw.use (A := #[]) rfl (E.2.2.1 _ hcast))
  have e1 : c0 = cellV.cls := Option.some.inj (f1.symm.trans g3)
  have e2 : t0 = comp := Option.some.inj (f2.symm.trans h)
  rw [← e1, ← e2]
  exact f3
/-- arraycopy of the first n references of role r into role t -/
theorem mi_copy (S : CallFix p m c cc nL s args Ts own) (E : mi_E D A s) (hS : va_S A s.heap H locs) (hW : mi_W D A ad cf H) (r t : Nat) {a a2 : Nat} (ha : ad r = a) (hat : ad t = a2) (hrt : r ≠ t) {idx n0 n1 n : Nat} {f g : Nat → Option Nat} (he : cf r = some (mi_aq D n0 f)) (ht : cf t = some (mi_aq D n1 g)) (h4 : n ≤ n0) (h5 : n ≤ n1) (hb : n0 < 2 ^ 31) (hb1 : n1 < 2 ^ 31) (hel : mi_els ad cf n f) (hsize : ls.size = nL)
    (hlink : Cond.methodLink own idx arraycopyName ∈ Ts) (hnat : Cond.native arraycopyName ∈ Ts) (hstat : Cond.static arraycopyName ∈ Ts) (hini : Cond.initialized "java/lang/System" ∈ Ts)
    (hframes : 1 ≤ R.frames) (hlocals : (rest.map fun v => v.category).sum + (nativeFrameWords "java/lang/System" "arraycopy" 5 + 11) ≤ R.locals) (hdg : decode cc pc = .ok (.invokestatic idx, 3))
    (kk : ∀ (H1 : Heap) (locs1 : List Loc), mi_W D A ad (va_up cf t (some (mi_aq D n1 (va_cpy f g 0 0 n)))) H1 → va_S A s.heap H1 locs1 → H1.size = H.size → W p l e R s m args below meth c H1 locs1 cells slots Q (F0 m (pc + 3) ls rest)) : W p l e R s m args below meth c H locs cells slots Q (F0 m pc ls (.int (nI n) :: .int (nI 0) :: .ref a2 :: .int (nI 0) :: .ref a :: rest)) := by
  subst ha hat
  have hts := S.2.2.2.2
  have hn := nI_clamp (n := n) (by omega)
  have hz := nI_clamp (n := 0) (by omega)
  have hni := nI_toInt (n := n) (by omega)
  have hzi := nI_toInt (n := 0) (by omega)
  intro T hT X
  have hc0 : H[ad r]? = some (vp_cell (D.1 101) (n0, .inr (.inr (.inr (.inr f))))) := hW.at he
  have hc1 : H[ad t]? = some (vp_cell (D.1 101) (n1, .inr (.inr (.inr (.inr g))))) := hW.at ht
  obtain ⟨-, k0, hk0, cm0, hkk0⟩ := (E.K.2 1 _ rfl).1 n0 (fun j => va_rf (f j))
  obtain ⟨vm', X', step⟩ := X.arraycopy S.1 S.2.2.2.1 (hts _ hlink) (hts _ hnat) (hts _ hstat) (hts _ hini) (src := ad r) (dst := ad t) (cs := vp_cell (D.1 101) (n0, .inr (.inr (.inr (.inr f))))) (cd := vp_cell (D.1 101) (n1, .inr (.inr (.inr (.inr g))))) (srcPos := nI 0) (destPos := nI 0) (n := nI n) (by rw [hT]; exact hc0) (by rw [hT]; exact hc1)
    (fun _ h => by cases h) (fun _ h => by cases h) (fun h => by cases h) (fun h => by cases h) hk0 hk0 hkk0 hkk0 rfl (nI_pos (by omega)) (nI_pos (by omega)) (nI_pos (by omega))
    (by rw [hzi, hni]; show ¬ _ > ((arrV (D.1 101) n0 (fun j => va_rf (f j))).slots.size : Int); rw [arrV_size]; omega)
    (by rw [hzi, hni]; show ¬ _ > ((arrV (D.1 101) n1 (fun j => va_rf (g j))).slots.size : Int); rw [arrV_size]; omega)
    (fun vm₁ hal i hi => by
      rw [hn] at hi
      have e : (vp_cell (D.1 101) (n0, .inr (.inr (.inr (.inr f))))).slots.getD ((nI 0).toNatClampNeg + i) .null = va_rf (f i) := by
        show (arrV (D.1 101) n0 (fun j => va_rf (f j))).slots.getD _ _ = _
        rw [hz, Nat.zero_add, Array.getD_eq_getD_getElem?, arrV_read _ _ (by omega)]
        rfl
      rw [e]
      cases hy : f i with
      | none => exact ⟨rfl, trivial⟩
      | some y =>
        obtain ⟨ro, ci, fs, q, rfl, h1, h2, h3⟩ := hel i hi y hy
        obtain ⟨cellV, g1, g2, ⟨kC, hkC⟩, hasg⟩ := mi_any E hW h1 h2 h3
        obtain ⟨kA, comp, r1, r2, r3, -⟩ := (E.K.2 1 _ rfl).2
        cases hk0.symm.trans r1
        cases hkk0.symm.trans r2
        obtain ⟨kE, hkE, -⟩ := Vm.findClass_spec r3
        obtain ⟨kC', hkC', -⟩ := hal.2.2 _ _ hkC
        obtain ⟨kE', hkE', -⟩ := hal.2.2 _ _ hkE
        refine ⟨rfl, cellV, (show T.heap[ad ro]? = some cellV by rw [hT]; exact g1), (fun q h => by rw [h] at g2; cases g2), ⟨kC', hkC'⟩, ?_, ?_⟩
        · exact ⟨kE', hkE'⟩
        · show vm₁.assignable _ _ = true
          rw [hal.assignable]
          exact hasg _ r3)
    (g := F0 m pc ls (.int (nI n) :: .int (nI 0) :: .ref (ad t) :: .int (nI 0) :: .ref (ad r) :: rest)) rfl (by rw [S.2.2.1]; exact hsize) (rest := rest) rfl (by rw [S.2.1]; exact hdg) hframes (by show 2 * 0 + _ + _ ≤ _; omega)
  have e1 : copied (vp_cell (D.1 101) (n0, .inr (.inr (.inr (.inr f))))) (vp_cell (D.1 101) (n1, .inr (.inr (.inr (.inr g))))) (nI 0) (nI 0) (nI n) = vp_cell (D.1 101) (n1, .inr (.inr (.inr (.inr (va_cpy f g 0 0 n))))) := by
    have h0 := va_copied (fun z => va_rf z) (D.1 101) (D.1 101) (n0 := n0) (n1 := n1) (sp := 0) (dp := 0) (n := n) f g (by omega)
    rw [vp_cell_q, vp_cell_q, vp_cell_q, ← h0]
    unfold copied
    rw [hz, hn]
  rw [e1] at X' step
  have hl : ad t < H.size := hW.lt ht
  have hheap : ((T.setVm vm').setCell (ad t) (vp_cell (D.1 101) (n1, .inr (.inr (.inr (.inr (va_cpy f g 0 0 n))))))).heap = H.setIfInBounds (ad t) (vp_cell (D.1 101) (n1, .inr (.inr (.inr (.inr (va_cpy f g 0 0 n)))))) := by rw [← hT]; rfl
  have oq : ∀ q : Nat, q ≠ ad t → (H.setIfInBounds (ad t) (vp_cell (D.1 101) (n1, .inr (.inr (.inr (.inr (va_cpy f g 0 0 n)))))))[q]? = H[q]? := fun q hq => by simp [Array.getElem?_setIfInBounds, Ne.symm hq]
  obtain ⟨t1, a1, b1⟩ := kk _ _ (hW.set ht (show (H.setIfInBounds (ad t) _)[ad t]? = some _ by simp [Array.getElem?_setIfInBounds, hl]) oq) ⟨by simp; exact hS.1, fun q g1 g2 => by
      rw [oq q (fun e => g2 (by rw [e]; exact (hW.1 t _ ht).1))]
      exact hS.2.1 q g1 g2, fun q hq => by
      rcases List.mem_append.mp hq with h | h
      · exact hS.2.2 q h
      · obtain ⟨z, -, hz⟩ := List.mem_map.mp h
        rw [← hz]
        exact (hW.1 t _ ht).1⟩ (by simp) _ hheap X'
  exact ⟨t1, step t1 a1, b1⟩
theorem mi_gets (S : CallFix p m c cc nL s args Ts own) (E : mi_E D A s) (hS : va_S A s.heap H locs) {idx : Nat} (hlink : Cond.fieldLink own idx RJx4a65c "DEFAULTCAPACITY_EMPTY_ELEMENTDATA" "[Ljava/lang/Object;" ∈ Ts) (hdg : decode cc pc = .ok (.getstatic idx, 3))
    (kk : W p l e R s m args below meth c H locs cells slots Q (F0 m (pc + 3) ls (.ref (mi_de D) :: rest))) : W p l e R s m args below meth c H locs cells slots Q (F0 m pc ls rest) :=
  va_gets S.1 S.2.1 E.2.2.2.2.2.2.2.1 hS S.2.2.2.1 (S.2.2.2.2 _ hlink) (fun _ h => h) hdg kk
theorem mi_delen (S : CallFix p m c cc nL s args Ts own) (E : mi_E D A s) (hS : va_S A s.heap H locs) (hdg : decode cc pc = .ok (.arraylength, 1))
    (kk : W p l e R s m args below meth c H locs cells slots Q (F0 m (pc + 1) ls (.int (nI 0) :: rest))) : W p l e R s m args below meth c H locs cells slots Q (F0 m pc ls (.ref (mi_de D) :: rest)) :=
  va_tlen S.1 S.2.1 E.2.2.2.2.2.2.2.2.1 hS rfl hdg kk
/-- the empty default array is no cell of the world -/
theorem mi_de_ne (E : mi_E D A s) (hW : mi_W D A ad cf H) {r : Nat} {x : va_E} (he : cf r = some x) : mi_de D ≠ ad r := fun h => E.2.2.2.2.2.2.2.2.1.out (by rw [h]; exact (hW.1 r x he).1)
theorem mi_getC (S : CallFix p m c cc nL s args Ts own) (E : mi_E D A s) (hW : mi_W D A ad cf H) (r : Nat) {a : Nat} (ha : ad r = a) {idx n : Nat} {f : Nat → Option Nat} (he : cf r = some (mi_aq D n f)) (hsize : ls.size = nL) (hlink : Cond.methodLink own idx ⟨"java/lang/Object", "getClass", "()Ljava/lang/Class;"⟩ ∈ Ts) (hsel : Cond.selects "[Ljava/lang/Object;" ⟨"java/lang/Object", "getClass", "()Ljava/lang/Class;"⟩ ⟨"java/lang/Object", "getClass", "()Ljava/lang/Class;"⟩ ∈ Ts) (hinst : Cond.instanceMethod ⟨"java/lang/Object", "getClass", "()Ljava/lang/Class;"⟩ ∈ Ts) (hnat : Cond.native ⟨"java/lang/Object", "getClass", "()Ljava/lang/Class;"⟩ ∈ Ts) (hframes : 1 ≤ R.frames) (hlocals : (rest.map fun v => v.category).sum + 14 ≤ R.locals) (hdg : decode cc pc = .ok (.invokevirtual idx, 3))
    (kk : W p l e R s m args below meth c H locs cells slots Q (F0 m (pc + 3) ls (.ref (mi_mi D) :: rest))) : W p l e R s m args below meth c H locs cells slots Q (F0 m pc ls (.ref a :: rest)) := by
  subst ha
  have hcl : s.vm.findClass "[Ljava/lang/Object;" = some (D.1 101) := by
    obtain ⟨-, -, -, -, -, h4⟩ := (E.K.2 1 _ rfl).2
    exact h4
  exact va_getC (C := "[Ljava/lang/Object;") (mi := mi_mi D) S.1 S.2.1 (by rw [S.2.2.1]; exact hsize.symm) S.2.2.2.1 (S.2.2.2.2 _ hlink) (va_Dc.use E.2.2.2.2.2.2.2.2.2.2.1) (S.2.2.2.2 _ hsel) (S.2.2.2.2 _ hinst) (S.2.2.2.2 _ hnat) E.2.2.2.2.2.2.2.2.2.1 ⟨_, hW.at he, rfl, hcl⟩ hframes hlocals hdg kk
theorem mi_ldcM (S : CallFix p m c cc nL s args Ts own) (E : mi_E D A s) {idx : Nat} (hlink : Cond.classLink own idx "[Ljava/lang/Object;" ∈ Ts) (hdg : decode cc pc = .ok (.ldc idx, 2))
    (k : W p l e R s m args below meth c H locs cells slots Q (F0 m (pc + 2) ls (.ref (mi_mi D) :: rest))) : W p l e R s m args below meth c H locs cells slots Q (F0 m pc ls rest) :=
  va_ldcM S.1 S.2.1 S.2.2.2.1 (S.2.2.2.2 _ hlink) E.2.2.2.2.2.2.2.2.2.1 hdg k
theorem mi_acmp_ne (S : CallFix p m c cc nL s args Ts own) {a b tgt : Nat} {off : Int} (hdg : decode cc pc = .ok (.if_acmp .ne off, 3)) (ht : (pc : Int) + off = (tgt : Int)) (kt : a ≠ b → W p l e R s m args below meth c H locs cells slots Q (F0 m tgt ls rest)) (kf : a = b → W p l e R s m args below meth c H locs cells slots Q (F0 m (pc + 3) ls rest)) : W p l e R s m args below meth c H locs cells slots Q (F0 m pc ls (.ref b :: .ref a :: rest)) :=
  lv_acmp_ne (rx := some a) (ry := some b) S.1 S.2.1 hdg ht (fun h => kt (fun z => h (congrArg some z))) (fun h => kf (Option.some.inj h))
theorem mi_acmp_eq (S : CallFix p m c cc nL s args Ts own) {a b tgt : Nat} {off : Int} (hdg : decode cc pc = .ok (.if_acmp .eq off, 3)) (ht : (pc : Int) + off = (tgt : Int)) (kt : a = b → W p l e R s m args below meth c H locs cells slots Q (F0 m tgt ls rest)) (kf : a ≠ b → W p l e R s m args below meth c H locs cells slots Q (F0 m (pc + 3) ls rest)) : W p l e R s m args below meth c H locs cells slots Q (F0 m pc ls (.ref b :: .ref a :: rest)) :=
  lv_acmp_eq (rx := some a) (ry := some b) S.1 S.2.1 hdg ht (fun h => kt (Option.some.inj h)) (fun h => kf (fun z => h (congrArg some z)))
end MIJ
section MIM
variable {p : Program} {l : Launch} {e : Env} {R : Room} {s : State} {m : MethodId} {args : Array Value} {below : List Frame} {meth : Method} {c : Code} {H : Heap} {locs : List Loc} {cells slots : Nat} {Q : State → Prop}
variable {cc : ByteArray} {pc nL : Nat} {ls : Array Slot} {rest : List Value} {Ts : List Cond} {own : String}
theorem mi_mmax (S : CallFix p m c cc nL s args Ts own) {a b idx : Nat} (ha : a < 2 ^ 31) (hb : b < 2 ^ 31) (hl : Cond.methodLink own idx Lib.Math.max.name ∈ Ts) (hst : Cond.static Lib.Math.max.name ∈ Ts) (hini : Cond.initialized "java/lang/Math" ∈ Ts) (hcode : Cond.code Lib.Math.max.name Lib.Math.max.code 2 (some .int) ∈ Ts) (hsize : ls.size = nL) (hf : 1 ≤ R.frames) (hlo : (rest.map fun v => v.category).sum + 13 ≤ R.locals) (hc : cells ≤ R.cells) (hs : slots ≤ R.slots) (hdg : decode cc pc = .ok (.invokestatic idx, 3))
    (kk : W p l e R s m args below meth c H locs cells slots Q (F0 m (pc + 3) ls (.int (nI (if a < b then b else a)) :: rest))) : W p l e R s m args below meth c H locs cells slots Q (F0 m pc ls (.int (nI b) :: .int (nI a) :: rest)) := by
  refine va_mmax S.1 S.2.1 (by rw [S.2.2.1]; exact hsize.symm) S.2.2.2.1 (S.2.2.2.2 _ hl) (S.2.2.2.2 _ hst) (S.2.2.2.2 _ hini) (S.2.2.2.2 _ hcode) hf hlo hc hs hdg ?_
  refine mi_top (congrArg Value.int ?_) kk
  by_cases h : a < b
  · rw [if_pos h, if_pos (nI_lt h hb)]
  · rw [if_neg h, if_neg (nI_nlt (by omega) ha)]
theorem mi_mmin (S : CallFix p m c cc nL s args Ts own) {a b idx : Nat} (ha : a < 2 ^ 31) (hb : b < 2 ^ 31) (hl : Cond.methodLink own idx Lib.Math.min.name ∈ Ts) (hst : Cond.static Lib.Math.min.name ∈ Ts) (hini : Cond.initialized "java/lang/Math" ∈ Ts) (hcode : Cond.code Lib.Math.min.name Lib.Math.min.code 2 (some .int) ∈ Ts) (hsize : ls.size = nL) (hf : 1 ≤ R.frames) (hlo : (rest.map fun v => v.category).sum + 13 ≤ R.locals) (hc : cells ≤ R.cells) (hs : slots ≤ R.slots) (hdg : decode cc pc = .ok (.invokestatic idx, 3))
    (kk : W p l e R s m args below meth c H locs cells slots Q (F0 m (pc + 3) ls (.int (nI (if b < a then b else a)) :: rest))) : W p l e R s m args below meth c H locs cells slots Q (F0 m pc ls (.int (nI b) :: .int (nI a) :: rest)) := by
  refine va_mmin S.1 S.2.1 (by rw [S.2.2.1]; exact hsize.symm) S.2.2.2.1 (S.2.2.2.2 _ hl) (S.2.2.2.2 _ hst) (S.2.2.2.2 _ hini) (S.2.2.2.2 _ hcode) hf hlo hc hs hdg ?_
  refine mi_top (congrArg Value.int ?_) kk
  by_cases h : b < a
  · rw [if_pos h, if_pos (nI_lt h ha)]
  · rw [if_neg h, if_neg (nI_nlt (by omega) hb)]
theorem mi_mabs (S : CallFix p m c cc nL s args Ts own) {a b idx : Nat} (ha : a < 2 ^ 30) (hb : b < 2 ^ 30) (hl : Cond.methodLink own idx Lib.Math.abs.name ∈ Ts) (hst : Cond.static Lib.Math.abs.name ∈ Ts) (hini : Cond.initialized "java/lang/Math" ∈ Ts) (hcode : Cond.code Lib.Math.abs.name Lib.Math.abs.code 1 (some .int) ∈ Ts) (hsize : ls.size = nL) (hf : 1 ≤ R.frames) (hlo : (rest.map fun v => v.category).sum + 13 ≤ R.locals) (hc : cells ≤ R.cells) (hs : slots ≤ R.slots) (hdg : decode cc pc = .ok (.invokestatic idx, 3))
    (kk : W p l e R s m args below meth c H locs cells slots Q (F0 m (pc + 3) ls (.int (nI (if a < b then b - a else a - b)) :: rest))) : W p l e R s m args below meth c H locs cells slots Q (F0 m pc ls (.int (nI a - nI b) :: rest)) := by
  refine va_mabs S.1 S.2.1 (by rw [S.2.2.1]; exact hsize.symm) S.2.2.2.1 (S.2.2.2.2 _ hl) (S.2.2.2.2 _ hst) (S.2.2.2.2 _ hini) (S.2.2.2.2 _ hcode) hf hlo hc hs hdg ?_
  refine mi_top (congrArg Value.int ?_) kk
  have ht := pk_sub_toInt ha hb
  by_cases h : a < b
  · rw [if_pos h, if_neg (by rw [Int32.le_iff_toInt_le, ht]; show ¬ (0 : Int) ≤ _; omega), Int32.zero_sub, Int32.neg_sub, pk_sub (by omega)]
  · rw [if_neg h, if_pos (by rw [Int32.le_iff_toInt_le, ht]; show (0 : Int) ≤ _; omega), pk_sub (by omega)]
end MIM
theorem mi_W.up {D : va_G} {A : Nat → Prop} {ad : Nat → Nat} {cf : Nat → Option va_E} {H : Heap} (h : mi_W D A ad cf H) (hAu : ∀ a b, A a → a ≤ b → A b) {r : Nat} {x : va_E} (he : cf r = some x) : ∀ q, H.size ≤ q → A q := fun q hq => hAu _ q (h.1 r x he).1 (Nat.le_trans (Nat.le_of_lt (h.lt he)) hq)
theorem mi_W.mono {D : va_G} {A : Nat → Prop} {ad ad' : Nat → Nat} {cf cg : Nat → Option va_E} {H : Heap} (h : mi_W D A ad cf H) (hs : ∀ k e, cg k = some e → cf k = some e ∧ ad' k = ad k) : mi_W D A ad' cg H := by
  refine ⟨fun k x hx => ?_, fun k k' x x' hx hx' ha => ?_⟩
  · obtain ⟨h1, h2⟩ := hs k x hx
    rw [h2]
    exact h.1 k x h1
  · obtain ⟨h1, h2⟩ := hs k x hx
    obtain ⟨h3, h4⟩ := hs k' x' hx'
    rw [h2, h4] at ha
    exact h.2 k k' x x' h1 h3 ha
/-- the longer row takes the old one's role -/
theorem mi_grown {D : va_G} {A : Nat → Prop} {ad : Nat → Nat} {cf : Nat → Option va_E} {H : Heap} {q r a : Nat} {e1 e2 : va_E} (hq9 : q ≠ 999) (hr9 : r ≠ 999) (hrq : r ≠ q) (h9 : cf 999 = none) (h : mi_W D A (va_up ad 999 a) (va_up (va_up cf 999 (some e1)) r (some e2)) H) : mi_W D A (va_up ad q a) (va_up (va_up cf q (some e1)) r (some e2)) H := by
  have h1 := h.move q 999 (Ne.symm hq9) (e := e1) (by rw [mi_up_n (Ne.symm hr9), mi_up_s])
  refine h1.mono (fun k x hk => ?_)
  by_cases hk9 : k = 999
  · subst hk9
    rw [mi_up_n (Ne.symm hr9), mi_up_n (Ne.symm hq9), h9] at hk
    cases hk
  · rw [mi_up_n hk9]
    by_cases hkq : k = q
    · subst hkq
      rw [mi_up_n (Ne.symm hrq), mi_up_s] at hk
      rw [mi_up_s, mi_up_s, mi_up_s, mi_up_s]
      exact ⟨hk, rfl⟩
    · rw [mi_up_n hkq, mi_up_n hkq, mi_up_n hkq, mi_up_n hk9]
      by_cases hkr : k = r
      · subst hkr
        rw [mi_up_s] at hk ⊢
        exact ⟨hk, rfl⟩
      · rw [mi_up_n hkr, mi_up_n hkq] at hk
        rw [mi_up_n hkr, mi_up_n hk9]
        exact ⟨hk, rfl⟩
end
section
/-! the reference's world: f, its numbers by their places; g, its rows by their places. Roles: the object 1000020, the row of the field k: 1000000 + k -/
def mo_len (k : Nat) : Nat := match k with
  | 3 => 61
  | 4 => 976
  | 5 => 128
  | 7 => 128
  | 8 => 128
  | 9 => 8
  | 11 => 960
  | 12 => 60
  | 13 => 60
  | _ => 16
def mo_ar (k : Nat) : Bool := k == 3 || k == 4 || k == 5 || k == 7 || k == 8 || k == 9 || k == 11 || k == 12 || k == 13 || k == 14
def mo_fs (ad : Nat → Nat) (f : Nat → Int32) : List Value := [.int (f 0), .int (f 1), .int (f 2), .ref (ad 1000003), .ref (ad 1000004), .ref (ad 1000005), .int (f 6), .ref (ad 1000007), .ref (ad 1000008), .ref (ad 1000009), .int (f 10), .ref (ad 1000011), .ref (ad 1000012), .ref (ad 1000013), .ref (ad 1000014)]
def mo_at (D : va_G) (ad : Nat → Nat) (cf : Nat → Option va_E) (f : Nat → Int32) (g : Nat → Nat → Int32) : Prop := cf 1000020 = some (.inr (6, mo_fs ad f)) ∧ ∀ k, mo_ar k = true → cf (1000000 + k) = some (mi_ai D (mo_len k) (g k))
/-- the other roles are as they were -/
def mo_sm (cf0 cf : Nat → Option va_E) : Prop := ∀ r, (r < 1000000 ∨ 2000000 ≤ r) → cf r = cf0 r
def mo_W (D : va_G) (A : Nat → Prop) (ad : Nat → Nat) (cf0 : Nat → Option va_E) (f : Nat → Int32) (g : Nat → Nat → Int32) (H : Heap) : Prop := ∃ cf, mi_W D A ad cf H ∧ mo_at D ad cf f g ∧ mo_sm cf0 cf
theorem mo_ar_lt {k : Nat} (h : mo_ar k = true) : k < 20 := by
  simp only [mo_ar, Bool.or_eq_true, beq_iff_eq] at h
  omega
theorem mo_sm_up {cf0 cf : Nat → Option va_E} {k : Nat} {x : Option va_E} (h : mo_sm cf0 cf) (h1 : 1000000 ≤ k) (h2 : k < 2000000) : mo_sm cf0 (va_up cf k x) := fun r hr => (mi_up_n (by omega)).trans (h r hr)
theorem mo_set {D : va_G} {ad : Nat → Nat} {cf : Nat → Option va_E} {f f' : Nat → Int32} {g : Nat → Nat → Int32} {fs : List Value} (h : mo_at D ad cf f g) (hf : fs = mo_fs ad f') : mo_at D ad (va_up cf 1000020 (some (.inr (6, fs)))) f' g :=
  ⟨by rw [mi_up_s, hf], fun k hk => (mi_up_n (by have := mo_ar_lt hk; omega)).trans (h.2 k hk)⟩
theorem mo_setA {D : va_G} {ad : Nat → Nat} {cf : Nat → Option va_E} {f : Nat → Int32} {g : Nat → Nat → Int32} {k : Nat} {x : Nat → Int32} (h : mo_at D ad cf f g) (hk : mo_ar k = true) : mo_at D ad (va_up cf (1000000 + k) (some (mi_ai D (mo_len k) x))) f (va_up g k x) := by
  refine ⟨(mi_up_n (by have := mo_ar_lt hk; omega)).trans h.1, fun j hj => ?_⟩
  by_cases hjk : j = k
  · subst hjk
    rw [mi_up_s, mi_up_s]
  · rw [mi_up_n (show 1000000 + j ≠ 1000000 + k by omega), mi_up_n hjk]
    exact h.2 j hj
section MOR
variable {p : Program} {l : Launch} {e : Env} {R : Room} {s : State} {m : MethodId} {args : Array Value} {below : List Frame} {meth : Method} {c : Code} {H : Heap} {locs : List Loc} {cells slots : Nat} {Q : State → Prop}
variable {cc : ByteArray} {pc nL : Nat} {ls : Array Slot} {rest : List Value} {D : va_G} {A : Nat → Prop} {ad : Nat → Nat} {cf0 : Nat → Option va_E} {f : Nat → Int32} {g : Nat → Nat → Int32} {w0 : Cond}
theorem mo_W.recv (h : mo_W D A ad cf0 f g H) (hE : mi_E D A s) : ∃ cell : Cell, H[ad 1000020]? = some cell ∧ cell.vm.isStatics = false ∧ s.vm.findClass RX5 = some cell.cls := by
  obtain ⟨cf, h1, h2, -⟩ := h
  exact h1.recv hE h2.1 rfl
theorem mo_ald (k : Nat) (S : CallFix p m c cc nL s args (w0 :: mi_G) RX5) (E : mi_E D A s) (hM : mo_W D A ad cf0 f g H) (hk : mo_ar k = true) {i : Nat} (hi : i < mo_len k) (hdg : decode cc pc = .ok (.iaload, 1))
    (kk : W p l e R s m args below meth c H locs cells slots Q (F0 m (pc + 1) ls (.int (g k i) :: rest))) : W p l e R s m args below meth c H locs cells slots Q (F0 m pc ls (.int (nI i) :: .ref (ad (1000000 + k)) :: rest)) := by
  obtain ⟨cf, h1, h2, -⟩ := hM
  have hl : mo_len k < 2 ^ 31 := by unfold mo_len; split <;> decide
  exact mi_iald S E h1 (1000000 + k) rfl (h2.2 k hk) hi hl hdg kk
theorem mo_ast (k : Nat) (S : CallFix p m c cc nL s args (w0 :: mi_G) RX5) (E : mi_E D A s) (hS : va_S A s.heap H locs) (hM : mo_W D A ad cf0 f g H) (hk : mo_ar k = true) {i : Nat} {x : Int32} (hi : i < mo_len k) (hdg : decode cc pc = .ok (.iastore, 1))
    (kk : ∀ (H1 : Heap) (locs1 : List Loc), mo_W D A ad cf0 f (va_up g k (upd (g k) i x)) H1 → va_S A s.heap H1 locs1 → W p l e R s m args below meth c H1 locs1 cells slots Q (F0 m (pc + 1) ls rest)) : W p l e R s m args below meth c H locs cells slots Q (F0 m pc ls (.int x :: .int (nI i) :: .ref (ad (1000000 + k)) :: rest)) := by
  obtain ⟨cf, h1, h2, h3⟩ := hM
  have hl : mo_len k < 2 ^ 31 := by unfold mo_len; split <;> decide
  have hk2 := mo_ar_lt hk
  exact mi_iast S E hS h1 (1000000 + k) rfl (h2.2 k hk) hi hl hdg (fun H1 locs1 g1 g2 _ => kk H1 locs1 ⟨_, g1, mo_setA h2 hk, mo_sm_up h3 (by omega) (by omega)⟩ g2)
theorem mo_g_44 (S : CallFix p m c cc nL s args (w0 :: mi_G) RX5) (E : mi_E D A s) (hM : mo_W D A ad cf0 f g H) (hdg : decode cc pc = .ok (.getfield 44, 3)) (kk : W p l e R s m args below meth c H locs cells slots Q (F0 m (pc + 3) ls (.int (f 0) :: rest))) : W p l e R s m args below meth c H locs cells slots Q (F0 m pc ls (.ref (ad 1000020) :: rest)) := by
  obtain ⟨cf, h1, h2, -⟩ := hM
  exact fg_X5_44 S E h1 1000020 rfl h2.1 rfl hdg kk
theorem mo_p_44 (S : CallFix p m c cc nL s args (w0 :: mi_G) RX5) (E : mi_E D A s) (hS : va_S A s.heap H locs) (hM : mo_W D A ad cf0 f g H) {x : Int32} (hdg : decode cc pc = .ok (.putfield 44, 3)) (kk : ∀ (H1 : Heap) (locs1 : List Loc), mo_W D A ad cf0 (upd f 0 x) g H1 → va_S A s.heap H1 locs1 → W p l e R s m args below meth c H1 locs1 cells slots Q (F0 m (pc + 3) ls rest)) : W p l e R s m args below meth c H locs cells slots Q (F0 m pc ls (.int x :: .ref (ad 1000020) :: rest)) := by
  obtain ⟨cf, h1, h2, h3⟩ := hM
  exact fp_X5_44 S E hS h1 1000020 rfl h2.1 (Nat.le_of_ble_eq_true rfl) hdg (fun H1 locs1 g1 g2 _ => kk H1 locs1 ⟨_, g1, mo_set h2 rfl, mo_sm_up h3 (by decide) (by decide)⟩ g2)
theorem mo_g_7 (S : CallFix p m c cc nL s args (w0 :: mi_G) RX5) (E : mi_E D A s) (hM : mo_W D A ad cf0 f g H) (hdg : decode cc pc = .ok (.getfield 7, 3)) (kk : W p l e R s m args below meth c H locs cells slots Q (F0 m (pc + 3) ls (.int (f 1) :: rest))) : W p l e R s m args below meth c H locs cells slots Q (F0 m pc ls (.ref (ad 1000020) :: rest)) := by
  obtain ⟨cf, h1, h2, -⟩ := hM
  exact fg_X5_7 S E h1 1000020 rfl h2.1 rfl hdg kk
theorem mo_p_7 (S : CallFix p m c cc nL s args (w0 :: mi_G) RX5) (E : mi_E D A s) (hS : va_S A s.heap H locs) (hM : mo_W D A ad cf0 f g H) {x : Int32} (hdg : decode cc pc = .ok (.putfield 7, 3)) (kk : ∀ (H1 : Heap) (locs1 : List Loc), mo_W D A ad cf0 (upd f 1 x) g H1 → va_S A s.heap H1 locs1 → W p l e R s m args below meth c H1 locs1 cells slots Q (F0 m (pc + 3) ls rest)) : W p l e R s m args below meth c H locs cells slots Q (F0 m pc ls (.int x :: .ref (ad 1000020) :: rest)) := by
  obtain ⟨cf, h1, h2, h3⟩ := hM
  exact fp_X5_7 S E hS h1 1000020 rfl h2.1 (Nat.le_of_ble_eq_true rfl) hdg (fun H1 locs1 g1 g2 _ => kk H1 locs1 ⟨_, g1, mo_set h2 rfl, mo_sm_up h3 (by decide) (by decide)⟩ g2)
theorem mo_g_51 (S : CallFix p m c cc nL s args (w0 :: mi_G) RX5) (E : mi_E D A s) (hM : mo_W D A ad cf0 f g H) (hdg : decode cc pc = .ok (.getfield 51, 3)) (kk : W p l e R s m args below meth c H locs cells slots Q (F0 m (pc + 3) ls (.int (f 2) :: rest))) : W p l e R s m args below meth c H locs cells slots Q (F0 m pc ls (.ref (ad 1000020) :: rest)) := by
  obtain ⟨cf, h1, h2, -⟩ := hM
  exact fg_X5_51 S E h1 1000020 rfl h2.1 rfl hdg kk
theorem mo_p_51 (S : CallFix p m c cc nL s args (w0 :: mi_G) RX5) (E : mi_E D A s) (hS : va_S A s.heap H locs) (hM : mo_W D A ad cf0 f g H) {x : Int32} (hdg : decode cc pc = .ok (.putfield 51, 3)) (kk : ∀ (H1 : Heap) (locs1 : List Loc), mo_W D A ad cf0 (upd f 2 x) g H1 → va_S A s.heap H1 locs1 → W p l e R s m args below meth c H1 locs1 cells slots Q (F0 m (pc + 3) ls rest)) : W p l e R s m args below meth c H locs cells slots Q (F0 m pc ls (.int x :: .ref (ad 1000020) :: rest)) := by
  obtain ⟨cf, h1, h2, h3⟩ := hM
  exact fp_X5_51 S E hS h1 1000020 rfl h2.1 (Nat.le_of_ble_eq_true rfl) hdg (fun H1 locs1 g1 g2 _ => kk H1 locs1 ⟨_, g1, mo_set h2 rfl, mo_sm_up h3 (by decide) (by decide)⟩ g2)
theorem mo_g_13 (S : CallFix p m c cc nL s args (w0 :: mi_G) RX5) (E : mi_E D A s) (hM : mo_W D A ad cf0 f g H) (hdg : decode cc pc = .ok (.getfield 13, 3)) (kk : W p l e R s m args below meth c H locs cells slots Q (F0 m (pc + 3) ls (.ref (ad (1000000 + 3)) :: rest))) : W p l e R s m args below meth c H locs cells slots Q (F0 m pc ls (.ref (ad 1000020) :: rest)) := by
  obtain ⟨cf, h1, h2, -⟩ := hM
  exact fg_X5_13 S E h1 1000020 rfl h2.1 rfl hdg kk
theorem mo_g_17 (S : CallFix p m c cc nL s args (w0 :: mi_G) RX5) (E : mi_E D A s) (hM : mo_W D A ad cf0 f g H) (hdg : decode cc pc = .ok (.getfield 17, 3)) (kk : W p l e R s m args below meth c H locs cells slots Q (F0 m (pc + 3) ls (.ref (ad (1000000 + 4)) :: rest))) : W p l e R s m args below meth c H locs cells slots Q (F0 m pc ls (.ref (ad 1000020) :: rest)) := by
  obtain ⟨cf, h1, h2, -⟩ := hM
  exact fg_X5_17 S E h1 1000020 rfl h2.1 rfl hdg kk
theorem mo_g_20 (S : CallFix p m c cc nL s args (w0 :: mi_G) RX5) (E : mi_E D A s) (hM : mo_W D A ad cf0 f g H) (hdg : decode cc pc = .ok (.getfield 20, 3)) (kk : W p l e R s m args below meth c H locs cells slots Q (F0 m (pc + 3) ls (.ref (ad (1000000 + 5)) :: rest))) : W p l e R s m args below meth c H locs cells slots Q (F0 m pc ls (.ref (ad 1000020) :: rest)) := by
  obtain ⟨cf, h1, h2, -⟩ := hM
  exact fg_X5_20 S E h1 1000020 rfl h2.1 rfl hdg kk
theorem mo_g_104 (S : CallFix p m c cc nL s args (w0 :: mi_G) RX5) (E : mi_E D A s) (hM : mo_W D A ad cf0 f g H) (hdg : decode cc pc = .ok (.getfield 104, 3)) (kk : W p l e R s m args below meth c H locs cells slots Q (F0 m (pc + 3) ls (.int (f 6) :: rest))) : W p l e R s m args below meth c H locs cells slots Q (F0 m pc ls (.ref (ad 1000020) :: rest)) := by
  obtain ⟨cf, h1, h2, -⟩ := hM
  exact fg_X5_104 S E h1 1000020 rfl h2.1 rfl hdg kk
theorem mo_p_104 (S : CallFix p m c cc nL s args (w0 :: mi_G) RX5) (E : mi_E D A s) (hS : va_S A s.heap H locs) (hM : mo_W D A ad cf0 f g H) {x : Int32} (hdg : decode cc pc = .ok (.putfield 104, 3)) (kk : ∀ (H1 : Heap) (locs1 : List Loc), mo_W D A ad cf0 (upd f 6 x) g H1 → va_S A s.heap H1 locs1 → W p l e R s m args below meth c H1 locs1 cells slots Q (F0 m (pc + 3) ls rest)) : W p l e R s m args below meth c H locs cells slots Q (F0 m pc ls (.int x :: .ref (ad 1000020) :: rest)) := by
  obtain ⟨cf, h1, h2, h3⟩ := hM
  exact fp_X5_104 S E hS h1 1000020 rfl h2.1 (Nat.le_of_ble_eq_true rfl) hdg (fun H1 locs1 g1 g2 _ => kk H1 locs1 ⟨_, g1, mo_set h2 rfl, mo_sm_up h3 (by decide) (by decide)⟩ g2)
theorem mo_g_23 (S : CallFix p m c cc nL s args (w0 :: mi_G) RX5) (E : mi_E D A s) (hM : mo_W D A ad cf0 f g H) (hdg : decode cc pc = .ok (.getfield 23, 3)) (kk : W p l e R s m args below meth c H locs cells slots Q (F0 m (pc + 3) ls (.ref (ad (1000000 + 7)) :: rest))) : W p l e R s m args below meth c H locs cells slots Q (F0 m pc ls (.ref (ad 1000020) :: rest)) := by
  obtain ⟨cf, h1, h2, -⟩ := hM
  exact fg_X5_23 S E h1 1000020 rfl h2.1 rfl hdg kk
theorem mo_g_26 (S : CallFix p m c cc nL s args (w0 :: mi_G) RX5) (E : mi_E D A s) (hM : mo_W D A ad cf0 f g H) (hdg : decode cc pc = .ok (.getfield 26, 3)) (kk : W p l e R s m args below meth c H locs cells slots Q (F0 m (pc + 3) ls (.ref (ad (1000000 + 8)) :: rest))) : W p l e R s m args below meth c H locs cells slots Q (F0 m pc ls (.ref (ad 1000020) :: rest)) := by
  obtain ⟨cf, h1, h2, -⟩ := hM
  exact fg_X5_26 S E h1 1000020 rfl h2.1 rfl hdg kk
theorem mo_g_29 (S : CallFix p m c cc nL s args (w0 :: mi_G) RX5) (E : mi_E D A s) (hM : mo_W D A ad cf0 f g H) (hdg : decode cc pc = .ok (.getfield 29, 3)) (kk : W p l e R s m args below meth c H locs cells slots Q (F0 m (pc + 3) ls (.ref (ad (1000000 + 9)) :: rest))) : W p l e R s m args below meth c H locs cells slots Q (F0 m pc ls (.ref (ad 1000020) :: rest)) := by
  obtain ⟨cf, h1, h2, -⟩ := hM
  exact fg_X5_29 S E h1 1000020 rfl h2.1 rfl hdg kk
theorem mo_g_107 (S : CallFix p m c cc nL s args (w0 :: mi_G) RX5) (E : mi_E D A s) (hM : mo_W D A ad cf0 f g H) (hdg : decode cc pc = .ok (.getfield 107, 3)) (kk : W p l e R s m args below meth c H locs cells slots Q (F0 m (pc + 3) ls (.int (f 10) :: rest))) : W p l e R s m args below meth c H locs cells slots Q (F0 m pc ls (.ref (ad 1000020) :: rest)) := by
  obtain ⟨cf, h1, h2, -⟩ := hM
  exact fg_X5_107 S E h1 1000020 rfl h2.1 rfl hdg kk
theorem mo_p_107 (S : CallFix p m c cc nL s args (w0 :: mi_G) RX5) (E : mi_E D A s) (hS : va_S A s.heap H locs) (hM : mo_W D A ad cf0 f g H) {x : Int32} (hdg : decode cc pc = .ok (.putfield 107, 3)) (kk : ∀ (H1 : Heap) (locs1 : List Loc), mo_W D A ad cf0 (upd f 10 x) g H1 → va_S A s.heap H1 locs1 → W p l e R s m args below meth c H1 locs1 cells slots Q (F0 m (pc + 3) ls rest)) : W p l e R s m args below meth c H locs cells slots Q (F0 m pc ls (.int x :: .ref (ad 1000020) :: rest)) := by
  obtain ⟨cf, h1, h2, h3⟩ := hM
  exact fp_X5_107 S E hS h1 1000020 rfl h2.1 (Nat.le_of_ble_eq_true rfl) hdg (fun H1 locs1 g1 g2 _ => kk H1 locs1 ⟨_, g1, mo_set h2 rfl, mo_sm_up h3 (by decide) (by decide)⟩ g2)
theorem mo_g_32 (S : CallFix p m c cc nL s args (w0 :: mi_G) RX5) (E : mi_E D A s) (hM : mo_W D A ad cf0 f g H) (hdg : decode cc pc = .ok (.getfield 32, 3)) (kk : W p l e R s m args below meth c H locs cells slots Q (F0 m (pc + 3) ls (.ref (ad (1000000 + 11)) :: rest))) : W p l e R s m args below meth c H locs cells slots Q (F0 m pc ls (.ref (ad 1000020) :: rest)) := by
  obtain ⟨cf, h1, h2, -⟩ := hM
  exact fg_X5_32 S E h1 1000020 rfl h2.1 rfl hdg kk
theorem mo_g_35 (S : CallFix p m c cc nL s args (w0 :: mi_G) RX5) (E : mi_E D A s) (hM : mo_W D A ad cf0 f g H) (hdg : decode cc pc = .ok (.getfield 35, 3)) (kk : W p l e R s m args below meth c H locs cells slots Q (F0 m (pc + 3) ls (.ref (ad (1000000 + 12)) :: rest))) : W p l e R s m args below meth c H locs cells slots Q (F0 m pc ls (.ref (ad 1000020) :: rest)) := by
  obtain ⟨cf, h1, h2, -⟩ := hM
  exact fg_X5_35 S E h1 1000020 rfl h2.1 rfl hdg kk
theorem mo_g_38 (S : CallFix p m c cc nL s args (w0 :: mi_G) RX5) (E : mi_E D A s) (hM : mo_W D A ad cf0 f g H) (hdg : decode cc pc = .ok (.getfield 38, 3)) (kk : W p l e R s m args below meth c H locs cells slots Q (F0 m (pc + 3) ls (.ref (ad (1000000 + 13)) :: rest))) : W p l e R s m args below meth c H locs cells slots Q (F0 m pc ls (.ref (ad 1000020) :: rest)) := by
  obtain ⟨cf, h1, h2, -⟩ := hM
  exact fg_X5_38 S E h1 1000020 rfl h2.1 rfl hdg kk
theorem mo_g_41 (S : CallFix p m c cc nL s args (w0 :: mi_G) RX5) (E : mi_E D A s) (hM : mo_W D A ad cf0 f g H) (hdg : decode cc pc = .ok (.getfield 41, 3)) (kk : W p l e R s m args below meth c H locs cells slots Q (F0 m (pc + 3) ls (.ref (ad (1000000 + 14)) :: rest))) : W p l e R s m args below meth c H locs cells slots Q (F0 m pc ls (.ref (ad 1000020) :: rest)) := by
  obtain ⟨cf, h1, h2, -⟩ := hM
  exact fg_X5_41 S E h1 1000020 rfl h2.1 rfl hdg kk
end MOR
end
section
/-! the class State and the host's two checks: readers -/
set_option maxHeartbeats 4000000 in
set_option maxRecDepth 100000 in
theorem c_X4_isColumn_in (l : Launch) (D : va_G) (A : Nat → Prop) (P : Heap → Prop) {a : Nat} (ha : a < 16) : mi_Rd l yX4_isColumn (Cond.code yX4_isColumn cX4_isColumn 1 (some Jvm.ClassFile.FieldType.boolean)) (mi_rm 0) D A (P) [.int (nI (a))] (fun r => r = nI 1) := by
  refine mi_start (cc := cX4_isColumn) (nL := 1) (ret := (some Jvm.ClassFile.FieldType.boolean)) rfl (by decide) (Nat.le_of_ble_eq_true rfl) ?_
  intro p e s m below meth c ls S E hW hS hr hk hn hl
  have S : CallFix p m c cX4_isColumn 1 s _ ((Cond.code yX4_isColumn cX4_isColumn 1 (some Jvm.ClassFile.FieldType.boolean)) :: mi_G) RX4 := S
  have hl : lv_has ls 1 [(0, .int (nI (a)))] := hl
  refine lv_iload_n S.1 S.2.1 dX4_isColumn_0 rfl (lv_at hl 0 rfl) ?_
  refine mi_if_lt (tgt := 14) S (by omega) dX4_isColumn_1 (by decide) ?_
  refine lv_iload_n S.1 S.2.1 dX4_isColumn_4 rfl (lv_at hl 0 rfl) ?_
  refine lv_bipush (v := nI 16) S.1 S.2.1 dX4_isColumn_5 (by decide) ?_
  refine mi_icmp_ge (tgt := 14) S (by omega) (by omega) dX4_isColumn_7 (by decide) (fun c7_1 => by exfalso; omega) (fun c7_1 => ?_)
  refine lv_iconst (v := nI 1) S.1 S.2.1 dX4_isColumn_10 (by decide) ?_
  refine lv_goto (tgt := 15) S.1 S.2.1 dX4_isColumn_11 (by decide) ?_
  exact mi_retZ S hr hk dX4_isColumn_15 rfl (rfl)
set_option maxHeartbeats 4000000 in
set_option maxRecDepth 100000 in
theorem c_X4_isColumn_no (l : Launch) (D : va_G) (A : Nat → Prop) (P : Heap → Prop) {x : Int32} (hx : ¬ (0 ≤ x.toInt ∧ x.toInt < 16)) : mi_Rd l yX4_isColumn (Cond.code yX4_isColumn cX4_isColumn 1 (some Jvm.ClassFile.FieldType.boolean)) (mi_rm 0) D A (P) [.int (x)] (fun r => r = nI 0) := by
  refine mi_start (cc := cX4_isColumn) (nL := 1) (ret := (some Jvm.ClassFile.FieldType.boolean)) rfl (by decide) (Nat.le_of_ble_eq_true rfl) ?_
  intro p e s m below meth c ls S E hW hS hr hk hn hl
  have S : CallFix p m c cX4_isColumn 1 s _ ((Cond.code yX4_isColumn cX4_isColumn 1 (some Jvm.ClassFile.FieldType.boolean)) :: mi_G) RX4 := S
  have hl : lv_has ls 1 [(0, .int (x))] := hl
  refine lv_iload_n S.1 S.2.1 dX4_isColumn_0 rfl (lv_at hl 0 rfl) ?_
  refine mi_xif_lt (tgt := 14) S (rfl : (x).toInt = _) dX4_isColumn_1 (by decide) (fun c1_0 => ?_) (fun c1_0 => ?_)
  · refine lv_iconst (v := nI 0) S.1 S.2.1 dX4_isColumn_14 (by decide) ?_
    exact mi_retZ S hr hk dX4_isColumn_15 rfl (rfl)
  · refine lv_iload_n S.1 S.2.1 dX4_isColumn_4 rfl (lv_at hl 0 rfl) ?_
    refine lv_bipush (v := nI 16) S.1 S.2.1 dX4_isColumn_5 (by decide) ?_
    refine mi_xcmp_ge (tgt := 14) S (rfl : (x).toInt = _) (nI_toInt (n := 16) (by omega)) dX4_isColumn_7 (by decide) (fun c7_1 => ?_) (fun c7_1 => by exfalso; omega)
    refine lv_iconst (v := nI 0) S.1 S.2.1 dX4_isColumn_14 (by decide) ?_
    exact mi_retZ S hr hk dX4_isColumn_15 rfl (rfl)
set_option maxHeartbeats 4000000 in
set_option maxRecDepth 100000 in
theorem c_X4_isLevel_in (l : Launch) (D : va_G) (A : Nat → Prop) (P : Heap → Prop) {a : Nat} (ha : a < 8) : mi_Rd l yX4_isLevel (Cond.code yX4_isLevel cX4_isLevel 1 (some Jvm.ClassFile.FieldType.boolean)) (mi_rm 0) D A (P) [.int (nI (a))] (fun r => r = nI 1) := by
  refine mi_start (cc := cX4_isLevel) (nL := 1) (ret := (some Jvm.ClassFile.FieldType.boolean)) rfl (by decide) (Nat.le_of_ble_eq_true rfl) ?_
  intro p e s m below meth c ls S E hW hS hr hk hn hl
  have S : CallFix p m c cX4_isLevel 1 s _ ((Cond.code yX4_isLevel cX4_isLevel 1 (some Jvm.ClassFile.FieldType.boolean)) :: mi_G) RX4 := S
  have hl : lv_has ls 1 [(0, .int (nI (a)))] := hl
  refine lv_iload_n S.1 S.2.1 dX4_isLevel_0 rfl (lv_at hl 0 rfl) ?_
  refine mi_if_lt (tgt := 14) S (by omega) dX4_isLevel_1 (by decide) ?_
  refine lv_iload_n S.1 S.2.1 dX4_isLevel_4 rfl (lv_at hl 0 rfl) ?_
  refine lv_bipush (v := nI 8) S.1 S.2.1 dX4_isLevel_5 (by decide) ?_
  refine mi_icmp_ge (tgt := 14) S (by omega) (by omega) dX4_isLevel_7 (by decide) (fun c7_1 => by exfalso; omega) (fun c7_1 => ?_)
  refine lv_iconst (v := nI 1) S.1 S.2.1 dX4_isLevel_10 (by decide) ?_
  refine lv_goto (tgt := 15) S.1 S.2.1 dX4_isLevel_11 (by decide) ?_
  exact mi_retZ S hr hk dX4_isLevel_15 rfl (rfl)
set_option maxHeartbeats 4000000 in
set_option maxRecDepth 100000 in
theorem c_X4_isLevel_no (l : Launch) (D : va_G) (A : Nat → Prop) (P : Heap → Prop) {x : Int32} (hx : ¬ (0 ≤ x.toInt ∧ x.toInt < 8)) : mi_Rd l yX4_isLevel (Cond.code yX4_isLevel cX4_isLevel 1 (some Jvm.ClassFile.FieldType.boolean)) (mi_rm 0) D A (P) [.int (x)] (fun r => r = nI 0) := by
  refine mi_start (cc := cX4_isLevel) (nL := 1) (ret := (some Jvm.ClassFile.FieldType.boolean)) rfl (by decide) (Nat.le_of_ble_eq_true rfl) ?_
  intro p e s m below meth c ls S E hW hS hr hk hn hl
  have S : CallFix p m c cX4_isLevel 1 s _ ((Cond.code yX4_isLevel cX4_isLevel 1 (some Jvm.ClassFile.FieldType.boolean)) :: mi_G) RX4 := S
  have hl : lv_has ls 1 [(0, .int (x))] := hl
  refine lv_iload_n S.1 S.2.1 dX4_isLevel_0 rfl (lv_at hl 0 rfl) ?_
  refine mi_xif_lt (tgt := 14) S (rfl : (x).toInt = _) dX4_isLevel_1 (by decide) (fun c1_0 => ?_) (fun c1_0 => ?_)
  · refine lv_iconst (v := nI 0) S.1 S.2.1 dX4_isLevel_14 (by decide) ?_
    exact mi_retZ S hr hk dX4_isLevel_15 rfl (rfl)
  · refine lv_iload_n S.1 S.2.1 dX4_isLevel_4 rfl (lv_at hl 0 rfl) ?_
    refine lv_bipush (v := nI 8) S.1 S.2.1 dX4_isLevel_5 (by decide) ?_
    refine mi_xcmp_ge (tgt := 14) S (rfl : (x).toInt = _) (nI_toInt (n := 8) (by omega)) dX4_isLevel_7 (by decide) (fun c7_1 => ?_) (fun c7_1 => by exfalso; omega)
    refine lv_iconst (v := nI 0) S.1 S.2.1 dX4_isLevel_14 (by decide) ?_
    exact mi_retZ S hr hk dX4_isLevel_15 rfl (rfl)
set_option maxHeartbeats 4000000 in
set_option maxRecDepth 100000 in
theorem c_X3_kindAt (l : Launch) (D : va_G) (A : Nat → Prop) {ad : Nat → Nat} {cf : Nat → Option va_E} {rS rK : Nat} {num : Int32} {par : Value} {K : Nat → Nat} (hS0 : cf rS = some (.inr (4, [.int num, par, .ref (ad rK)]))) (hK0 : cf rK = some (mi_ai D 128 (fun j => nI (K j)))) {a b : Nat} (ha : a < 16) (hb : b < 8) : mi_Rd l yX3_kindAt (Cond.code yX3_kindAt cX3_kindAt 3 (some Jvm.ClassFile.FieldType.int)) (mi_rm 1) D A (mi_W D A ad cf) [.ref (ad rS), .int (nI (a)), .int (nI (b))] (fun r => r = nI (K (8 * a + b))) := by
  refine mi_start (cc := cX3_kindAt) (nL := 3) (ret := (some Jvm.ClassFile.FieldType.int)) rfl (by decide) (Nat.le_of_ble_eq_true rfl) ?_
  intro p e s m below meth c ls S E hW hS hr hk hn hl
  have S : CallFix p m c cX3_kindAt 3 s _ ((Cond.code yX3_kindAt cX3_kindAt 3 (some Jvm.ClassFile.FieldType.int)) :: mi_G) RX3 := S
  have hl : lv_has ls 3 [(0, .ref (ad rS)), (1, .int (nI (a))), (2, .int (nI (b)))] := hl
  refine lv_iload_n S.1 S.2.1 dX3_kindAt_0 rfl (lv_at hl 1 rfl) ?_
  refine mi_cR (mi_runN (P := mi_W D A ad cf) (As := [.int (nI (a))]) (rest := []) S E hS hW (c_X4_isColumn_in l D A (mi_W D A ad cf) (by omega)) (by decide) mw_215 mw_214 mw_33 ⟨by decide, by decide, by decide +kernel⟩ ⟨rfl, rfl, Nat.le_of_ble_eq_true rfl, Nat.le_of_ble_eq_true rfl⟩ (n := 1) rfl hl.1 rfl (Nat.le_of_ble_eq_true rfl) dX3_kindAt_1 ⟨Nat.le_of_ble_eq_true rfl, Nat.le_of_ble_eq_true rfl⟩) (fun r9 e9 => ?_)
  subst e9
  refine mi_if_eq (tgt := 14) S (by omega) dX3_kindAt_4 (by decide) (fun c4_0 => by exfalso; omega) (fun c4_0 => ?_)
  refine lv_iload_n S.1 S.2.1 dX3_kindAt_7 rfl (lv_at hl 2 rfl) ?_
  refine mi_cR (mi_runN (P := mi_W D A ad cf) (As := [.int (nI (b))]) (rest := []) S E hS hW (c_X4_isLevel_in l D A (mi_W D A ad cf) (by omega)) (by decide) mw_218 mw_217 mw_33 ⟨by decide, by decide, by decide +kernel⟩ ⟨rfl, rfl, Nat.le_of_ble_eq_true rfl, Nat.le_of_ble_eq_true rfl⟩ (n := 1) rfl hl.1 rfl (Nat.le_of_ble_eq_true rfl) dX3_kindAt_8 ⟨Nat.le_of_ble_eq_true rfl, Nat.le_of_ble_eq_true rfl⟩) (fun r9 e9 => ?_)
  subst e9
  refine mi_if_ne (tgt := 16) S (by omega) dX3_kindAt_11 (by decide) (fun c11_1 => ?_) (fun c11_1 => by exfalso; omega)
  refine lv_aload_n S.1 S.2.1 dX3_kindAt_16 rfl (lv_at hl 0 rfl) ?_
  refine fg_X3_19 S E hW rS rfl hS0 rfl dX3_kindAt_17 ?_
  refine lv_iload_n S.1 S.2.1 dX3_kindAt_20 rfl (lv_at hl 1 rfl) ?_
  refine lv_bipush (v := nI 8) S.1 S.2.1 dX3_kindAt_21 (by decide) ?_
  refine mi_imul S dX3_kindAt_23 ?_
  refine lv_iload_n S.1 S.2.1 dX3_kindAt_24 rfl (lv_at hl 2 rfl) ?_
  refine mi_iadd S dX3_kindAt_25 ?_
  refine mi_top (v' := .int (nI (8 * a + b))) (by rw [Nat.mul_comm _ 8]) ?_
  refine mi_iald S E hW rK rfl hK0 (by omega) (by omega) dX3_kindAt_26 ?_
  exact mi_retR S hr hk dX3_kindAt_27 (rfl)
set_option maxHeartbeats 4000000 in
set_option maxRecDepth 100000 in
theorem c_X3_endsRun (l : Launch) (D : va_G) (A : Nat → Prop) {ad : Nat → Nat} {cf : Nat → Option va_E} {rS rK : Nat} {num : Int32} {par : Value} {K : Nat → Nat} (hS0 : cf rS = some (.inr (4, [.int num, par, .ref (ad rK)]))) (hK0 : cf rK = some (mi_ai D 128 (fun j => nI (K j)))) (hKb : ∀ j, j < 128 → K j < 4) {a b : Nat} (ha : a < 16) (hb : b < 8) : mi_Rd l yX3_endsRun (Cond.code yX3_endsRun cX3_endsRun 3 (some Jvm.ClassFile.FieldType.boolean)) (mi_rm 2) D A (mi_W D A ad cf) [.ref (ad rS), .int (nI (a)), .int (nI (b))] (fun r => r = nI (sp_er K a b)) := by
  refine mi_start (cc := cX3_endsRun) (nL := 3) (ret := (some Jvm.ClassFile.FieldType.boolean)) rfl (by decide) (Nat.le_of_ble_eq_true rfl) ?_
  intro p e s m below meth c ls S E hW hS hr hk hn hl
  have S : CallFix p m c cX3_endsRun 3 s _ ((Cond.code yX3_endsRun cX3_endsRun 3 (some Jvm.ClassFile.FieldType.boolean)) :: mi_G) RX3 := S
  have hl : lv_has ls 3 [(0, .ref (ad rS)), (1, .int (nI (a))), (2, .int (nI (b)))] := hl
  refine lv_iload_n S.1 S.2.1 dX3_endsRun_0 rfl (lv_at hl 2 rfl) ?_
  refine lv_bipush (v := nI 7) S.1 S.2.1 dX3_endsRun_1 (by decide) ?_
  refine mi_icmp_eq (tgt := 23) S (by omega) (by omega) dX3_endsRun_3 (by decide) (fun c3_0 => ?_) (fun c3_0 => ?_)
  · refine lv_iconst (v := nI 1) S.1 S.2.1 dX3_endsRun_23 (by decide) ?_
    refine lv_goto (tgt := 28) S.1 S.2.1 dX3_endsRun_24 (by decide) ?_
    exact mi_retZ S hr hk dX3_endsRun_28 rfl (by unfold sp_er; first | rw [if_pos (by omega)] | (rw [if_neg (by omega)]; unfold sp_ne; first | rw [if_pos (by assumption)] | rw [if_neg (by assumption)]))
  · refine lv_aload_n S.1 S.2.1 dX3_endsRun_6 rfl (lv_at hl 0 rfl) ?_
    refine lv_iload_n S.1 S.2.1 dX3_endsRun_7 rfl (lv_at hl 1 rfl) ?_
    refine lv_iload_n S.1 S.2.1 dX3_endsRun_8 rfl (lv_at hl 2 rfl) ?_
    refine mi_cR (mi_runV (P := mi_W D A ad cf) (As := [.int (nI (a)), .int (nI (b))]) (rest := []) S E hS hW (ad rS) (c_X3_kindAt l D A hS0 hK0 (by omega) (by omega)) (hW.recv E hS0 rfl) mw_212 mw_209 mw_210 mw_211 mw_38 ⟨by decide, by decide, by decide +kernel⟩ ⟨rfl, rfl, Nat.le_of_ble_eq_true rfl, Nat.le_of_ble_eq_true rfl⟩ (n := 2) rfl hl.1 rfl (Nat.le_of_ble_eq_true rfl) dX3_endsRun_9 ⟨Nat.le_of_ble_eq_true rfl, Nat.le_of_ble_eq_true rfl⟩) (fun r9 e9 => ?_)
    subst e9
    refine lv_aload_n S.1 S.2.1 dX3_endsRun_12 rfl (lv_at hl 0 rfl) ?_
    refine lv_iload_n S.1 S.2.1 dX3_endsRun_13 rfl (lv_at hl 1 rfl) ?_
    refine lv_iload_n S.1 S.2.1 dX3_endsRun_14 rfl (lv_at hl 2 rfl) ?_
    refine lv_iconst (v := nI 1) S.1 S.2.1 dX3_endsRun_15 (by decide) ?_
    refine mi_iadd S dX3_endsRun_16 ?_
    refine mi_cR (mi_runV (P := mi_W D A ad cf) (As := [.int (nI (a)), .int (nI (b + 1))]) (rest := [.int (nI (K (8 * a + b)))]) S E hS hW (ad rS) (c_X3_kindAt l D A hS0 hK0 (by omega) (by omega)) (hW.recv E hS0 rfl) mw_212 mw_209 mw_210 mw_211 mw_38 ⟨by decide, by decide, by decide +kernel⟩ ⟨rfl, rfl, Nat.le_of_ble_eq_true rfl, Nat.le_of_ble_eq_true rfl⟩ (n := 2) rfl hl.1 rfl (Nat.le_of_ble_eq_true rfl) dX3_endsRun_17 ⟨Nat.le_of_ble_eq_true rfl, Nat.le_of_ble_eq_true rfl⟩) (fun r9 e9 => ?_)
    subst e9
    have hk1 := hKb (8 * a + b) (by omega)
    have hk2 := hKb (8 * a + (b + 1)) (by omega)
    refine mi_icmp_eq (tgt := 27) S (by omega) (by omega) dX3_endsRun_20 (by decide) (fun c20_1 => ?_) (fun c20_1 => ?_)
    · refine lv_iconst (v := nI 0) S.1 S.2.1 dX3_endsRun_27 (by decide) ?_
      exact mi_retZ S hr hk dX3_endsRun_28 rfl (by unfold sp_er; first | rw [if_pos (by omega)] | (rw [if_neg (by omega)]; unfold sp_ne; first | rw [if_pos (by assumption)] | rw [if_neg (by assumption)]))
    · refine lv_iconst (v := nI 1) S.1 S.2.1 dX3_endsRun_23 (by decide) ?_
      refine lv_goto (tgt := 28) S.1 S.2.1 dX3_endsRun_24 (by decide) ?_
      exact mi_retZ S hr hk dX3_endsRun_28 rfl (by unfold sp_er; first | rw [if_pos (by omega)] | (rw [if_neg (by omega)]; unfold sp_ne; first | rw [if_pos (by assumption)] | rw [if_neg (by assumption)]))
set_option maxHeartbeats 4000000 in
set_option maxRecDepth 100000 in
theorem c_X3_countRuns (l : Launch) (D : va_G) (A : Nat → Prop) {ad : Nat → Nat} {cf : Nat → Option va_E} {rS rK : Nat} {num : Int32} {par : Value} {K : Nat → Nat} (hS0 : cf rS = some (.inr (4, [.int num, par, .ref (ad rK)]))) (hK0 : cf rK = some (mi_ai D 128 (fun j => nI (K j)))) (hKb : ∀ j, j < 128 → K j < 4) {a : Nat} (ha : a < 16) : mi_Rd l yX3_countRuns (Cond.code yX3_countRuns cX3_countRuns 4 (some Jvm.ClassFile.FieldType.int)) (mi_rm 3) D A (mi_W D A ad cf) [.ref (ad rS), .int (nI (a))] (fun r => r = nI (sp_runs K a)) := by
  refine mi_start (cc := cX3_countRuns) (nL := 4) (ret := (some Jvm.ClassFile.FieldType.int)) rfl (by decide) (Nat.le_of_ble_eq_true rfl) ?_
  intro p e s m below meth c ls S E hW hS hr hk hn hl
  have S : CallFix p m c cX3_countRuns 4 s _ ((Cond.code yX3_countRuns cX3_countRuns 4 (some Jvm.ClassFile.FieldType.int)) :: mi_G) RX3 := S
  have hl : lv_has ls 4 [(0, .ref (ad rS)), (1, .int (nI (a)))] := hl
  refine lv_iconst (v := nI 0) S.1 S.2.1 dX3_countRuns_0 (by decide) ?_
  refine lv_istore_n (lv' := [(2, .int (nI (0))), (0, .ref (ad rS)), (1, .int (nI (a)))]) S.1 S.2.1 dX3_countRuns_1 rfl hl (by decide) rfl (fun ls hl => ?_)
  refine lv_iconst (v := nI 0) S.1 S.2.1 dX3_countRuns_2 (by decide) ?_
  refine lv_istore_n (lv' := [(3, .int (nI (0))), (2, .int (nI (0))), (0, .ref (ad rS)), (1, .int (nI (a)))]) S.1 S.2.1 dX3_countRuns_3 rfl hl (by decide) rfl (fun ls hl => ?_)
  have lp4 : ∀ (n4 : Nat) (i : Nat) (k : Nat) (ls : Array Slot), 8 - i < n4 → i ≤ 8 → k = fb_sm (sp_er K a) i → lv_has ls 4 [(0, .ref (ad rS)), (1, .int (nI (a))), (2, .int (nI (k))), (3, .int (nI (i)))] → W p l e (mi_rm 3) s m ([.ref (ad rS), .int (nI (a))] : List Value).toArray below meth c s.heap [] 0 0 (MQ below (vp_Si (fun r => r = nI (sp_runs K a))) ([.ref (ad rS), .int (nI (a))] : List Value).toArray s 0 0 (fun _ => False)) (F0 m 4 ls []) := by
    intro n4
    induction n4 with
    | zero => intro i k ls hm hi hk9  hl; exact absurd hm (Nat.not_lt_zero _)
    | succ n4 ih4 =>
      intro i k ls hm hi hk9  hl
      refine lv_iload_n S.1 S.2.1 dX3_countRuns_4 rfl (lv_at hl 3 rfl) ?_
      refine lv_bipush (v := nI 8) S.1 S.2.1 dX3_countRuns_5 (by decide) ?_
      refine mi_icmp_ge (tgt := 28) S (by omega) (by omega) dX3_countRuns_7 (by decide) (fun c7_0 => ?_) (fun c7_0 => ?_)
      · refine lv_iload_n S.1 S.2.1 dX3_countRuns_28 rfl (lv_at hl 2 rfl) ?_
        exact mi_retR S hr hk dX3_countRuns_29 (by rw [hk9, show i = 8 by omega, sp_er_all])
      · refine lv_aload_n S.1 S.2.1 dX3_countRuns_10 rfl (lv_at hl 0 rfl) ?_
        refine lv_iload_n S.1 S.2.1 dX3_countRuns_11 rfl (lv_at hl 1 rfl) ?_
        refine lv_iload_n S.1 S.2.1 dX3_countRuns_12 rfl (lv_at hl 3 rfl) ?_
        refine mi_cR (mi_runV (P := mi_W D A ad cf) (As := [.int (nI (a)), .int (nI (i))]) (rest := []) S E hS hW (ad rS) (c_X3_endsRun l D A hS0 hK0 hKb (by omega) (by omega)) (hW.recv E hS0 rfl) mw_208 mw_205 mw_207 mw_3 mw_38 ⟨by decide, by decide, by decide +kernel⟩ ⟨rfl, rfl, Nat.le_of_ble_eq_true rfl, Nat.le_of_ble_eq_true rfl⟩ (n := 2) rfl hl.1 rfl (Nat.le_of_ble_eq_true rfl) dX3_countRuns_13 ⟨Nat.le_of_ble_eq_true rfl, Nat.le_of_ble_eq_true rfl⟩) (fun r9 e9 => ?_)
        subst e9
        have he1 := sp_er_le K a i
        refine mi_if_eq (tgt := 22) S (by omega) dX3_countRuns_16 (by decide) (fun c16_1 => ?_) (fun c16_1 => ?_)
        · refine lv_iinc (v := nI (i + 1)) (lv' := [(3, .int (nI (i + 1))), (0, .ref (ad rS)), (1, .int (nI (a))), (2, .int (nI (k)))]) S.1 S.2.1 dX3_countRuns_22 hl (k := 3) rfl (mi_inc _) (by decide) rfl (fun ls hl => ?_)
          refine lv_goto (tgt := 4) S.1 S.2.1 dX3_countRuns_25 (by decide) ?_
          exact ih4 (i + 1) k _ (by omega) (by omega) (by rw [fb_sm_succ]; omega)  (lv_sub hl [1, 2, 3, 0] rfl)
        · refine lv_iinc (v := nI (k + 1)) (lv' := [(2, .int (nI (k + 1))), (0, .ref (ad rS)), (1, .int (nI (a))), (3, .int (nI (i)))]) S.1 S.2.1 dX3_countRuns_19 hl (k := 2) rfl (mi_inc _) (by decide) rfl (fun ls hl => ?_)
          refine lv_iinc (v := nI (i + 1)) (lv' := [(3, .int (nI (i + 1))), (2, .int (nI (k + 1))), (0, .ref (ad rS)), (1, .int (nI (a)))]) S.1 S.2.1 dX3_countRuns_22 hl (k := 3) rfl (mi_inc _) (by decide) rfl (fun ls hl => ?_)
          refine lv_goto (tgt := 4) S.1 S.2.1 dX3_countRuns_25 (by decide) ?_
          exact ih4 (i + 1) (k + 1) _ (by omega) (by omega) (by rw [fb_sm_succ]; omega)  (lv_sub hl [2, 3, 1, 0] rfl)
  exact lp4 _ 0 0 _ (Nat.lt_succ_self _) (by omega) (rfl)  (lv_sub hl [2, 3, 1, 0] rfl)
set_option maxHeartbeats 4000000 in
set_option maxRecDepth 100000 in
theorem c_X3_lengthOfRun (l : Launch) (D : va_G) (A : Nat → Prop) {ad : Nat → Nat} {cf : Nat → Option va_E} {rS rK : Nat} {num : Int32} {par : Value} {K : Nat → Nat} (hS0 : cf rS = some (.inr (4, [.int num, par, .ref (ad rK)]))) (hK0 : cf rK = some (mi_ai D 128 (fun j => nI (K j)))) (hKb : ∀ j, j < 128 → K j < 4) {a q : Nat} (ha : a < 16) (hq : q < 8) : mi_Rd l yX3_lengthOfRun (Cond.code yX3_lengthOfRun cX3_lengthOfRun 6 (some Jvm.ClassFile.FieldType.int)) (mi_rm 3) D A (mi_W D A ad cf) [.ref (ad rS), .int (nI (a)), .int (nI (q))] (fun r => r = nI (sp_rl K a q)) := by
  refine mi_start (cc := cX3_lengthOfRun) (nL := 6) (ret := (some Jvm.ClassFile.FieldType.int)) rfl (by decide) (Nat.le_of_ble_eq_true rfl) ?_
  intro p e s m below meth c ls S E hW hS hr hk hn hl
  have S : CallFix p m c cX3_lengthOfRun 6 s _ ((Cond.code yX3_lengthOfRun cX3_lengthOfRun 6 (some Jvm.ClassFile.FieldType.int)) :: mi_G) RX3 := S
  have hl : lv_has ls 6 [(0, .ref (ad rS)), (1, .int (nI (a))), (2, .int (nI (q)))] := hl
  refine lv_iconst (v := nI 0) S.1 S.2.1 dX3_lengthOfRun_0 (by decide) ?_
  refine lv_istore_n (lv' := [(3, .int (nI (0))), (0, .ref (ad rS)), (1, .int (nI (a))), (2, .int (nI (q)))]) S.1 S.2.1 dX3_lengthOfRun_1 rfl hl (by decide) rfl (fun ls hl => ?_)
  refine lv_iconst (v := nI 0) S.1 S.2.1 dX3_lengthOfRun_2 (by decide) ?_
  refine lv_istore (lv' := [(4, .int (nI (0))), (3, .int (nI (0))), (0, .ref (ad rS)), (1, .int (nI (a))), (2, .int (nI (q)))]) S.1 S.2.1 dX3_lengthOfRun_3 hl (by decide) rfl (fun ls hl => ?_)
  refine lv_iconst (v := nI 0) S.1 S.2.1 dX3_lengthOfRun_5 (by decide) ?_
  refine lv_istore (lv' := [(5, .int (nI (0))), (4, .int (nI (0))), (3, .int (nI (0))), (0, .ref (ad rS)), (1, .int (nI (a))), (2, .int (nI (q)))]) S.1 S.2.1 dX3_lengthOfRun_6 hl (by decide) rfl (fun ls hl => ?_)
  have lp8 : ∀ (n8 : Nat) (i : Nat) (t : Nat) (k : Nat) (ls : Array Slot), 8 - i < n8 → i ≤ 8 → t = fb_sm (sp_er K a) i → k = fb_sm (fun j => if sp_ri K a j = q then 1 else 0) i → lv_has ls 6 [(0, .ref (ad rS)), (1, .int (nI (a))), (2, .int (nI (q))), (3, .int (nI (t))), (4, .int (nI (k))), (5, .int (nI (i)))] → W p l e (mi_rm 3) s m ([.ref (ad rS), .int (nI (a)), .int (nI (q))] : List Value).toArray below meth c s.heap [] 0 0 (MQ below (vp_Si (fun r => r = nI (sp_rl K a q))) ([.ref (ad rS), .int (nI (a)), .int (nI (q))] : List Value).toArray s 0 0 (fun _ => False)) (F0 m 8 ls []) := by
    intro n8
    induction n8 with
    | zero => intro i t k ls hm hi ht hk9  hl; exact absurd hm (Nat.not_lt_zero _)
    | succ n8 ih8 =>
      intro i t k ls hm hi ht hk9  hl
      refine lv_iload S.1 S.2.1 dX3_lengthOfRun_8 (lv_at hl 5 rfl) ?_
      refine lv_bipush (v := nI 8) S.1 S.2.1 dX3_lengthOfRun_10 (by decide) ?_
      refine mi_icmp_ge (tgt := 42) S (by omega) (by omega) dX3_lengthOfRun_12 (by decide) (fun c12_0 => ?_) (fun c12_0 => ?_)
      · refine lv_iload S.1 S.2.1 dX3_lengthOfRun_42 (lv_at hl 4 rfl) ?_
        exact mi_retR S hr hk dX3_lengthOfRun_44 (by rw [hk9, show i = 8 by omega]; rfl)
      · refine lv_iload_n S.1 S.2.1 dX3_lengthOfRun_15 rfl (lv_at hl 3 rfl) ?_
        refine lv_iload_n S.1 S.2.1 dX3_lengthOfRun_16 rfl (lv_at hl 2 rfl) ?_
        have hr1 := sp_ri_le K a i
        have hz1 := sp_er_sum K a (l := i) (by omega)
        refine mi_icmp_ne (tgt := 23) S (by omega) (by omega) dX3_lengthOfRun_17 (by decide) (fun c17_1 => ?_) (fun c17_1 => ?_)
        · refine lv_aload_n S.1 S.2.1 dX3_lengthOfRun_23 rfl (lv_at hl 0 rfl) ?_
          refine lv_iload_n S.1 S.2.1 dX3_lengthOfRun_24 rfl (lv_at hl 1 rfl) ?_
          refine lv_iload S.1 S.2.1 dX3_lengthOfRun_25 (lv_at hl 5 rfl) ?_
          refine mi_cR (mi_runV (P := mi_W D A ad cf) (As := [.int (nI (a)), .int (nI (i))]) (rest := []) S E hS hW (ad rS) (c_X3_endsRun l D A hS0 hK0 hKb (by omega) (by omega)) (hW.recv E hS0 rfl) mw_208 mw_205 mw_207 mw_3 mw_38 ⟨by decide, by decide, by decide +kernel⟩ ⟨rfl, rfl, Nat.le_of_ble_eq_true rfl, Nat.le_of_ble_eq_true rfl⟩ (n := 2) rfl hl.1 rfl (Nat.le_of_ble_eq_true rfl) dX3_lengthOfRun_27 ⟨Nat.le_of_ble_eq_true rfl, Nat.le_of_ble_eq_true rfl⟩) (fun r9 e9 => ?_)
          subst e9
          have he1 := sp_er_le K a i
          refine mi_if_eq (tgt := 36) S (by omega) dX3_lengthOfRun_30 (by decide) (fun c30_2 => ?_) (fun c30_2 => ?_)
          · refine lv_iinc (v := nI (i + 1)) (lv' := [(5, .int (nI (i + 1))), (0, .ref (ad rS)), (1, .int (nI (a))), (2, .int (nI (q))), (3, .int (nI (t))), (4, .int (nI (k)))]) S.1 S.2.1 dX3_lengthOfRun_36 hl (k := 5) rfl (mi_inc _) (by decide) rfl (fun ls hl => ?_)
            refine lv_goto (tgt := 8) S.1 S.2.1 dX3_lengthOfRun_39 (by decide) ?_
            exact ih8 (i + 1) t k _ (by omega) (by omega) (by rw [fb_sm_succ]; omega) (by have hz := sp_er_sum K a (l := i) (by omega); rw [fb_sm_succ, ← hz, ← ht]; first | rw [if_pos (by omega)]; omega | rw [if_neg (by omega)]; omega)  (lv_sub hl [1, 2, 3, 4, 5, 0] rfl)
          · refine lv_iinc (v := nI (t + 1)) (lv' := [(3, .int (nI (t + 1))), (0, .ref (ad rS)), (1, .int (nI (a))), (2, .int (nI (q))), (4, .int (nI (k))), (5, .int (nI (i)))]) S.1 S.2.1 dX3_lengthOfRun_33 hl (k := 3) rfl (mi_inc _) (by decide) rfl (fun ls hl => ?_)
            refine lv_iinc (v := nI (i + 1)) (lv' := [(5, .int (nI (i + 1))), (3, .int (nI (t + 1))), (0, .ref (ad rS)), (1, .int (nI (a))), (2, .int (nI (q))), (4, .int (nI (k)))]) S.1 S.2.1 dX3_lengthOfRun_36 hl (k := 5) rfl (mi_inc _) (by decide) rfl (fun ls hl => ?_)
            refine lv_goto (tgt := 8) S.1 S.2.1 dX3_lengthOfRun_39 (by decide) ?_
            exact ih8 (i + 1) (t + 1) k _ (by omega) (by omega) (by rw [fb_sm_succ]; omega) (by have hz := sp_er_sum K a (l := i) (by omega); rw [fb_sm_succ, ← hz, ← ht]; first | rw [if_pos (by omega)]; omega | rw [if_neg (by omega)]; omega)  (lv_sub hl [2, 3, 4, 1, 5, 0] rfl)
        · refine lv_iinc (v := nI (k + 1)) (lv' := [(4, .int (nI (k + 1))), (0, .ref (ad rS)), (1, .int (nI (a))), (2, .int (nI (q))), (3, .int (nI (t))), (5, .int (nI (i)))]) S.1 S.2.1 dX3_lengthOfRun_20 hl (k := 4) rfl (mi_inc _) (by decide) rfl (fun ls hl => ?_)
          refine lv_aload_n S.1 S.2.1 dX3_lengthOfRun_23 rfl (lv_at hl 1 rfl) ?_
          refine lv_iload_n S.1 S.2.1 dX3_lengthOfRun_24 rfl (lv_at hl 2 rfl) ?_
          refine lv_iload S.1 S.2.1 dX3_lengthOfRun_25 (lv_at hl 5 rfl) ?_
          refine mi_cR (mi_runV (P := mi_W D A ad cf) (As := [.int (nI (a)), .int (nI (i))]) (rest := []) S E hS hW (ad rS) (c_X3_endsRun l D A hS0 hK0 hKb (by omega) (by omega)) (hW.recv E hS0 rfl) mw_208 mw_205 mw_207 mw_3 mw_38 ⟨by decide, by decide, by decide +kernel⟩ ⟨rfl, rfl, Nat.le_of_ble_eq_true rfl, Nat.le_of_ble_eq_true rfl⟩ (n := 2) rfl hl.1 rfl (Nat.le_of_ble_eq_true rfl) dX3_lengthOfRun_27 ⟨Nat.le_of_ble_eq_true rfl, Nat.le_of_ble_eq_true rfl⟩) (fun r9 e9 => ?_)
          subst e9
          have he1 := sp_er_le K a i
          refine mi_if_eq (tgt := 36) S (by omega) dX3_lengthOfRun_30 (by decide) (fun c30_3 => ?_) (fun c30_3 => ?_)
          · refine lv_iinc (v := nI (i + 1)) (lv' := [(5, .int (nI (i + 1))), (4, .int (nI (k + 1))), (0, .ref (ad rS)), (1, .int (nI (a))), (2, .int (nI (q))), (3, .int (nI (t)))]) S.1 S.2.1 dX3_lengthOfRun_36 hl (k := 5) rfl (mi_inc _) (by decide) rfl (fun ls hl => ?_)
            refine lv_goto (tgt := 8) S.1 S.2.1 dX3_lengthOfRun_39 (by decide) ?_
            exact ih8 (i + 1) t (k + 1) _ (by omega) (by omega) (by rw [fb_sm_succ]; omega) (by have hz := sp_er_sum K a (l := i) (by omega); rw [fb_sm_succ, ← hz, ← ht]; first | rw [if_pos (by omega)]; omega | rw [if_neg (by omega)]; omega)  (lv_sub hl [2, 3, 4, 5, 1, 0] rfl)
          · refine lv_iinc (v := nI (t + 1)) (lv' := [(3, .int (nI (t + 1))), (4, .int (nI (k + 1))), (0, .ref (ad rS)), (1, .int (nI (a))), (2, .int (nI (q))), (5, .int (nI (i)))]) S.1 S.2.1 dX3_lengthOfRun_33 hl (k := 4) rfl (mi_inc _) (by decide) rfl (fun ls hl => ?_)
            refine lv_iinc (v := nI (i + 1)) (lv' := [(5, .int (nI (i + 1))), (3, .int (nI (t + 1))), (4, .int (nI (k + 1))), (0, .ref (ad rS)), (1, .int (nI (a))), (2, .int (nI (q)))]) S.1 S.2.1 dX3_lengthOfRun_36 hl (k := 5) rfl (mi_inc _) (by decide) rfl (fun ls hl => ?_)
            refine lv_goto (tgt := 8) S.1 S.2.1 dX3_lengthOfRun_39 (by decide) ?_
            exact ih8 (i + 1) (t + 1) (k + 1) _ (by omega) (by omega) (by rw [fb_sm_succ]; omega) (by have hz := sp_er_sum K a (l := i) (by omega); rw [fb_sm_succ, ← hz, ← ht]; first | rw [if_pos (by omega)]; omega | rw [if_neg (by omega)]; omega)  (lv_sub hl [3, 4, 5, 1, 2, 0] rfl)
  exact lp8 _ 0 0 0 _ (Nat.lt_succ_self _) (by omega) (rfl) (rfl)  (lv_sub hl [3, 4, 5, 2, 1, 0] rfl)
set_option maxHeartbeats 4000000 in
set_option maxRecDepth 100000 in
theorem c_X3_heightOf (l : Launch) (D : va_G) (A : Nat → Prop) {ad : Nat → Nat} {cf : Nat → Option va_E} {rS rK : Nat} {num : Int32} {par : Value} {K : Nat → Nat} (hS0 : cf rS = some (.inr (4, [.int num, par, .ref (ad rK)]))) (hK0 : cf rK = some (mi_ai D 128 (fun j => nI (K j)))) (hKb : ∀ j, j < 128 → K j < 4) {a : Nat} (ha : a < 16) : mi_Rd l yX3_heightOf (Cond.code yX3_heightOf cX3_heightOf 3 (some Jvm.ClassFile.FieldType.int)) (mi_rm 2) D A (mi_W D A ad cf) [.ref (ad rS), .int (nI (a))] (fun r => r = nI (sp_h K a 8)) := by
  refine mi_start (cc := cX3_heightOf) (nL := 3) (ret := (some Jvm.ClassFile.FieldType.int)) rfl (by decide) (Nat.le_of_ble_eq_true rfl) ?_
  intro p e s m below meth c ls S E hW hS hr hk hn hl
  have S : CallFix p m c cX3_heightOf 3 s _ ((Cond.code yX3_heightOf cX3_heightOf 3 (some Jvm.ClassFile.FieldType.int)) :: mi_G) RX3 := S
  have hl : lv_has ls 3 [(0, .ref (ad rS)), (1, .int (nI (a)))] := hl
  refine lv_bipush (v := nI 7) S.1 S.2.1 dX3_heightOf_0 (by decide) ?_
  refine lv_istore_n (lv' := [(2, .int (nI (7))), (0, .ref (ad rS)), (1, .int (nI (a)))]) S.1 S.2.1 dX3_heightOf_2 rfl hl (by decide) rfl (fun ls hl => ?_)
  have lp3 : ∀ (n3 : Nat) (i : Nat) (ls : Array Slot), i < n3 → i ≤ 8 → sp_h K a 8 = sp_h K a i → lv_has ls 3 [(0, .ref (ad rS)), (1, .int (nI (a))), (2, .int (mi_dn i))] → W p l e (mi_rm 2) s m ([.ref (ad rS), .int (nI (a))] : List Value).toArray below meth c s.heap [] 0 0 (MQ below (vp_Si (fun r => r = nI (sp_h K a 8))) ([.ref (ad rS), .int (nI (a))] : List Value).toArray s 0 0 (fun _ => False)) (F0 m 3 ls []) := by
    intro n3
    induction n3 with
    | zero => intro i ls hm hi hh  hl; exact absurd hm (Nat.not_lt_zero _)
    | succ n3 ih3 =>
      intro i ls hm hi hh  hl
      refine lv_iload_n S.1 S.2.1 dX3_heightOf_3 rfl (lv_at hl 2 rfl) ?_
      refine mi_xif_lt (tgt := 26) S (mi_dn_toInt (n := i) (by omega)) dX3_heightOf_4 (by decide) (fun c4_0 => ?_) (fun c4_0 => ?_)
      · refine lv_iconst (v := nI 0) S.1 S.2.1 dX3_heightOf_26 (by decide) ?_
        exact mi_retR S hr hk dX3_heightOf_27 (by rw [hh, show i = 0 by omega]; rfl)
      · obtain ⟨i, rfl⟩ : ∃ z, i = z + 1 := ⟨i - 1, by omega⟩
        have hl : lv_has ls 3 [(0, .ref (ad rS)), (1, .int (nI (a))), (2, .int (nI (i)))] := hl
        refine lv_aload_n S.1 S.2.1 dX3_heightOf_7 rfl (lv_at hl 0 rfl) ?_
        refine lv_iload_n S.1 S.2.1 dX3_heightOf_8 rfl (lv_at hl 1 rfl) ?_
        refine lv_iload_n S.1 S.2.1 dX3_heightOf_9 rfl (lv_at hl 2 rfl) ?_
        refine mi_cR (mi_runV (P := mi_W D A ad cf) (As := [.int (nI (a)), .int (nI (i))]) (rest := []) S E hS hW (ad rS) (c_X3_kindAt l D A hS0 hK0 (by omega) (by omega)) (hW.recv E hS0 rfl) mw_212 mw_209 mw_210 mw_211 mw_38 ⟨by decide, by decide, by decide +kernel⟩ ⟨rfl, rfl, Nat.le_of_ble_eq_true rfl, Nat.le_of_ble_eq_true rfl⟩ (n := 2) rfl hl.1 rfl (Nat.le_of_ble_eq_true rfl) dX3_heightOf_10 ⟨Nat.le_of_ble_eq_true rfl, Nat.le_of_ble_eq_true rfl⟩) (fun r9 e9 => ?_)
        subst e9
        have hkb := hKb (8 * a + i) (by omega)
        refine mi_if_eq (tgt := 20) S (by omega) dX3_heightOf_13 (by decide) (fun c13_1 => ?_) (fun c13_1 => ?_)
        · refine lv_iinc (v := mi_dn i) (lv' := [(2, .int (mi_dn i)), (0, .ref (ad rS)), (1, .int (nI (a)))]) S.1 S.2.1 dX3_heightOf_20 hl (k := 2) rfl (mi_dn_dec i) (by decide) rfl (fun ls hl => ?_)
          refine lv_goto (tgt := 3) S.1 S.2.1 dX3_heightOf_23 (by decide) ?_
          exact ih3 i _ (by omega) (by omega) (by rw [hh, sp_h_0 (by assumption)])  (lv_sub hl [1, 2, 0] rfl)
        · refine lv_iload_n S.1 S.2.1 dX3_heightOf_16 rfl (lv_at hl 2 rfl) ?_
          refine lv_iconst (v := nI 1) S.1 S.2.1 dX3_heightOf_17 (by decide) ?_
          refine mi_iadd S dX3_heightOf_18 ?_
          exact mi_retR S hr hk dX3_heightOf_19 (by rw [hh, sp_h_1 (by assumption)])
  exact lp3 _ 8 _ (Nat.lt_succ_self _) (by omega) (rfl)  (lv_sub hl [1, 2, 0] rfl)
end
section
/-! the JDK's members that are called: Math, Objects, ArrayList, Arrays: readers -/
set_option maxHeartbeats 4000000 in
set_option maxRecDepth 100000 in
theorem c_J3_checkIndex (l : Launch) (D : va_G) (A : Nat → Prop) (P : Heap → Prop) {i n : Nat} (hi : i < n) (hn : n < 2 ^ 31) : mi_Rd l yJ3_checkIndex_8e157 (Cond.code yJ3_checkIndex_8e157 cJ3_checkIndex_8e157 3 (some Jvm.ClassFile.FieldType.int)) (mi_rm 0) D A (P) [.int (nI (i)), .int (nI (n)), .null] (fun r => r = nI i) := by
  refine mi_start (cc := cJ3_checkIndex_8e157) (nL := 3) (ret := (some Jvm.ClassFile.FieldType.int)) rfl (by decide) (Nat.le_of_ble_eq_true rfl) ?_
  intro p e s m below meth c ls S E hW hS hr hk hn hl
  have S : CallFix p m c cJ3_checkIndex_8e157 3 s _ ((Cond.code yJ3_checkIndex_8e157 cJ3_checkIndex_8e157 3 (some Jvm.ClassFile.FieldType.int)) :: mi_G) RJ3 := S
  have hl : lv_has ls 3 [(0, .int (nI (i))), (1, .int (nI (n))), (2, .null)] := hl
  refine lv_iload_n S.1 S.2.1 dJ3_checkIndex_8e157_0 rfl (lv_at hl 0 rfl) ?_
  refine mi_if_lt (tgt := 9) S (by omega) dJ3_checkIndex_8e157_1 (by decide) ?_
  refine lv_iload_n S.1 S.2.1 dJ3_checkIndex_8e157_4 rfl (lv_at hl 0 rfl) ?_
  refine lv_iload_n S.1 S.2.1 dJ3_checkIndex_8e157_5 rfl (lv_at hl 1 rfl) ?_
  refine mi_icmp_lt (tgt := 16) S (by omega) (by omega) dJ3_checkIndex_8e157_6 (by decide) (fun c6_1 => ?_) (fun c6_1 => by exfalso; omega)
  refine lv_iload_n S.1 S.2.1 dJ3_checkIndex_8e157_16 rfl (lv_at hl 0 rfl) ?_
  exact mi_retR S hr hk dJ3_checkIndex_8e157_17 (rfl)
set_option maxHeartbeats 4000000 in
set_option maxRecDepth 100000 in
theorem c_J15_checkIndex (l : Launch) (D : va_G) (A : Nat → Prop) (P : Heap → Prop) {i n : Nat} (hi : i < n) (hb : n < 2 ^ 31) : mi_Rd l yJ15_checkIndex_7cf53 (Cond.code yJ15_checkIndex_7cf53 cJ15_checkIndex_7cf53 2 (some Jvm.ClassFile.FieldType.int)) (mi_rm 1) D A (P) [.int (nI (i)), .int (nI (n))] (fun r => r = nI i) := by
  refine mi_start (cc := cJ15_checkIndex_7cf53) (nL := 2) (ret := (some Jvm.ClassFile.FieldType.int)) rfl (by decide) (Nat.le_of_ble_eq_true rfl) ?_
  intro p e s m below meth c ls S E hW hS hr hk hn hl
  have S : CallFix p m c cJ15_checkIndex_7cf53 2 s _ ((Cond.code yJ15_checkIndex_7cf53 cJ15_checkIndex_7cf53 2 (some Jvm.ClassFile.FieldType.int)) :: mi_G) RJ15 := S
  have hl : lv_has ls 2 [(0, .int (nI (i))), (1, .int (nI (n)))] := hl
  refine lv_iload_n S.1 S.2.1 dJ15_checkIndex_7cf53_0 rfl (lv_at hl 0 rfl) ?_
  refine lv_iload_n S.1 S.2.1 dJ15_checkIndex_7cf53_1 rfl (lv_at hl 1 rfl) ?_
  refine lv_null S.1 S.2.1 dJ15_checkIndex_7cf53_2 ?_
  refine mi_cR (mi_runS (P := P) (As := [.int (nI (i)), .int (nI (n)), .null]) (rest := []) S E hS hW (c_J3_checkIndex l D A P hi hb) mw_275 mw_273 mw_274 mw_51 ⟨by decide, by decide, by decide +kernel⟩ ⟨rfl, rfl, Nat.le_of_ble_eq_true rfl, Nat.le_of_ble_eq_true rfl⟩ (n := 3) rfl hl.1 rfl (Nat.le_of_ble_eq_true rfl) dJ15_checkIndex_7cf53_3 ⟨Nat.le_of_ble_eq_true rfl, Nat.le_of_ble_eq_true rfl⟩) (fun r9 e9 => ?_)
  subst e9
  exact mi_retR S hr hk dJ15_checkIndex_7cf53_6 (rfl)
set_option maxHeartbeats 4000000 in
set_option maxRecDepth 100000 in
theorem c_AL_size (l : Launch) (D : va_G) (A : Nat → Prop) {ad : Nat → Nat} {cf : Nat → Option va_E} {r : Nat} {mcn : Int32} {ea : Nat} {n : Nat} (hr0 : cf r = some (.inr (0, [.int mcn, .ref ea, .int (nI n)]))) : mi_Rd l yJx4a65c_size_8abf5 (Cond.code yJx4a65c_size_8abf5 cJx4a65c_size_8abf5 1 (some Jvm.ClassFile.FieldType.int)) (mi_rm 0) D A (mi_W D A ad cf) [.ref (ad r)] (fun r => r = nI n) := by
  refine mi_start (cc := cJx4a65c_size_8abf5) (nL := 1) (ret := (some Jvm.ClassFile.FieldType.int)) rfl (by decide) (Nat.le_of_ble_eq_true rfl) ?_
  intro p e s m below meth c ls S E hW hS hr hk hn hl
  have S : CallFix p m c cJx4a65c_size_8abf5 1 s _ ((Cond.code yJx4a65c_size_8abf5 cJx4a65c_size_8abf5 1 (some Jvm.ClassFile.FieldType.int)) :: mi_G) RJx4a65c := S
  have hl : lv_has ls 1 [(0, .ref (ad r))] := hl
  refine lv_aload_n S.1 S.2.1 dJx4a65c_size_8abf5_0 rfl (lv_at hl 0 rfl) ?_
  refine fg_Jx4a65c_48 S E hW r rfl hr0 rfl dJx4a65c_size_8abf5_1 ?_
  exact mi_retR S hr hk dJx4a65c_size_8abf5_4 (rfl)
set_option maxHeartbeats 4000000 in
set_option maxRecDepth 100000 in
theorem c_AL_elementData (l : Launch) (D : va_G) (A : Nat → Prop) {ad : Nat → Nat} {cf : Nat → Option va_E} {r q : Nat} {mcn : Int32} {n cap : Nat} {f : Nat → Option Nat} (hr0 : cf r = some (.inr (0, [.int mcn, .ref (ad q), .int (nI n)]))) (hq0 : cf q = some (mi_aq D cap f)) (hcap : cap < 2 ^ 31) {i : Nat} (hi : i < cap) : mi_Rq l yJx4a65c_elementData_915e3 (Cond.code yJx4a65c_elementData_915e3 cJx4a65c_elementData_915e3 2 (some (Jvm.ClassFile.FieldType.object "java/lang/Object"))) (mi_rm 0) D A (mi_W D A ad cf) [.ref (ad r), .int (nI (i))] (fun z => z = f i) := by
  refine mi_start (cc := cJx4a65c_elementData_915e3) (nL := 2) (ret := (some (Jvm.ClassFile.FieldType.object "java/lang/Object"))) rfl (by decide) (Nat.le_of_ble_eq_true rfl) ?_
  intro p e s m below meth c ls S E hW hS hr hk hn hl
  have S : CallFix p m c cJx4a65c_elementData_915e3 2 s _ ((Cond.code yJx4a65c_elementData_915e3 cJx4a65c_elementData_915e3 2 (some (Jvm.ClassFile.FieldType.object "java/lang/Object"))) :: mi_G) RJx4a65c := S
  have hl : lv_has ls 2 [(0, .ref (ad r)), (1, .int (nI (i)))] := hl
  refine lv_aload_n S.1 S.2.1 dJx4a65c_elementData_915e3_0 rfl (lv_at hl 0 rfl) ?_
  refine fg_Jx4a65c_9 S E hW r rfl hr0 rfl dJx4a65c_elementData_915e3_1 ?_
  refine lv_iload_n S.1 S.2.1 dJx4a65c_elementData_915e3_4 rfl (lv_at hl 1 rfl) ?_
  refine mi_aald S E hW q rfl hq0 (by omega) (by omega) dJx4a65c_elementData_915e3_5 ?_
  exact mi_retQ (r := f i) S hr (Or.inl ⟨_, rfl⟩) hk dJx4a65c_elementData_915e3_6 (rfl)
set_option maxHeartbeats 4000000 in
set_option maxRecDepth 100000 in
theorem c_AL_get (l : Launch) (D : va_G) (A : Nat → Prop) {ad : Nat → Nat} {cf : Nat → Option va_E} {r q : Nat} {mcn : Int32} {n cap : Nat} {f : Nat → Option Nat} (hr0 : cf r = some (.inr (0, [.int mcn, .ref (ad q), .int (nI n)]))) (hq0 : cf q = some (mi_aq D cap f)) (hcap : cap < 2 ^ 31) {i : Nat} (hi : i < n) (hn : n ≤ cap) : mi_Rq l yJx4a65c_get_915e3 (Cond.code yJx4a65c_get_915e3 cJx4a65c_get_915e3 2 (some (Jvm.ClassFile.FieldType.object "java/lang/Object"))) (mi_rm 2) D A (mi_W D A ad cf) [.ref (ad r), .int (nI (i))] (fun z => z = f i) := by
  refine mi_start (cc := cJx4a65c_get_915e3) (nL := 2) (ret := (some (Jvm.ClassFile.FieldType.object "java/lang/Object"))) rfl (by decide) (Nat.le_of_ble_eq_true rfl) ?_
  intro p e s m below meth c ls S E hW hS hr hk hn hl
  have S : CallFix p m c cJx4a65c_get_915e3 2 s _ ((Cond.code yJx4a65c_get_915e3 cJx4a65c_get_915e3 2 (some (Jvm.ClassFile.FieldType.object "java/lang/Object"))) :: mi_G) RJx4a65c := S
  have hl : lv_has ls 2 [(0, .ref (ad r)), (1, .int (nI (i)))] := hl
  refine lv_iload_n S.1 S.2.1 dJx4a65c_get_915e3_0 rfl (lv_at hl 1 rfl) ?_
  refine lv_aload_n S.1 S.2.1 dJx4a65c_get_915e3_1 rfl (lv_at hl 0 rfl) ?_
  refine fg_Jx4a65c_48 S E hW r rfl hr0 rfl dJx4a65c_get_915e3_2 ?_
  refine mi_cR (mi_runS (P := mi_W D A ad cf) (As := [.int (nI (i)), .int (nI (n))]) (rest := []) S E hS hW (c_J15_checkIndex l D A (mi_W D A ad cf) hi (by omega)) mw_272 mw_270 mw_271 mw_50 ⟨by decide, by decide, by decide +kernel⟩ ⟨rfl, rfl, Nat.le_of_ble_eq_true rfl, Nat.le_of_ble_eq_true rfl⟩ (n := 2) rfl hl.1 rfl (Nat.le_of_ble_eq_true rfl) dJx4a65c_get_915e3_5 ⟨Nat.le_of_ble_eq_true rfl, Nat.le_of_ble_eq_true rfl⟩) (fun r9 e9 => ?_)
  subst e9
  refine lv_pop S.1 S.2.1 dJx4a65c_get_915e3_8 rfl ?_
  refine lv_aload_n S.1 S.2.1 dJx4a65c_get_915e3_9 rfl (lv_at hl 0 rfl) ?_
  refine lv_iload_n S.1 S.2.1 dJx4a65c_get_915e3_10 rfl (lv_at hl 1 rfl) ?_
  refine mi_cQ (mi_runV (P := mi_W D A ad cf) (As := [.int (nI (i))]) (rest := []) S E hS hW (ad r) (c_AL_elementData l D A hr0 hq0 hcap (by omega)) (hW.recv E hr0 rfl) mw_279 mw_276 mw_277 mw_278 mw_36 ⟨by decide, by decide, by decide +kernel⟩ ⟨rfl, rfl, Nat.le_of_ble_eq_true rfl, Nat.le_of_ble_eq_true rfl⟩ (n := 1) rfl hl.1 rfl (Nat.le_of_ble_eq_true rfl) dJx4a65c_get_915e3_11 ⟨Nat.le_of_ble_eq_true rfl, Nat.le_of_ble_eq_true rfl⟩) (fun r9 e9 => ?_)
  subst e9
  exact mi_retQ (r := f i) S hr (Or.inl ⟨_, rfl⟩) hk dJx4a65c_get_915e3_14 (rfl)
theorem mk_max : Cond.code Lib.Math.max.name Lib.Math.max.code 2 (some .int) ∈ mi_G := mi_t1 113 rfl rfl
theorem mk_min : Cond.code Lib.Math.min.name Lib.Math.min.code 2 (some .int) ∈ mi_G := mi_t1 143 rfl rfl
theorem mk_abs : Cond.code Lib.Math.abs.name Lib.Math.abs.code 1 (some .int) ∈ mi_G := mi_t3 143 rfl rfl
set_option maxHeartbeats 4000000 in
set_option maxRecDepth 100000 in
theorem c_J8_newLength (l : Launch) (D : va_G) (A : Nat → Prop) (P : Heap → Prop) {n k : Nat} (hn : n ≤ 1000) (h2 : 2 ≤ n) (hk : k = n / 2) : mi_Rd l yJ8_newLength_cabcc (Cond.code yJ8_newLength_cabcc cJ8_newLength_cabcc 4 (some Jvm.ClassFile.FieldType.int)) (mi_rm 1) D A (P) [.int (nI (n)), .int (nI (1)), .int (nI (k))] (fun r => r = nI (n + n / 2)) := by
  refine mi_start (cc := cJ8_newLength_cabcc) (nL := 4) (ret := (some Jvm.ClassFile.FieldType.int)) rfl (by decide) (Nat.le_of_ble_eq_true rfl) ?_
  intro p e s m below meth c ls S E hW hS hr hk hn hl
  have S : CallFix p m c cJ8_newLength_cabcc 4 s _ ((Cond.code yJ8_newLength_cabcc cJ8_newLength_cabcc 4 (some Jvm.ClassFile.FieldType.int)) :: mi_G) RJ8 := S
  have hl : lv_has ls 4 [(0, .int (nI (n))), (1, .int (nI (1))), (2, .int (nI (k)))] := hl
  refine lv_iload_n S.1 S.2.1 dJ8_newLength_cabcc_0 rfl (lv_at hl 0 rfl) ?_
  refine lv_iload_n S.1 S.2.1 dJ8_newLength_cabcc_1 rfl (lv_at hl 1 rfl) ?_
  refine lv_iload_n S.1 S.2.1 dJ8_newLength_cabcc_2 rfl (lv_at hl 2 rfl) ?_
  refine mi_mmax S (by omega) (by omega) (List.mem_cons_of_mem _ mw_143) (List.mem_cons_of_mem _ mw_144) (List.mem_cons_of_mem _ mw_40) (List.mem_cons_of_mem _ mk_max) hl.1 (Nat.le_of_ble_eq_true rfl) (Nat.le_of_ble_eq_true rfl) (Nat.zero_le _) (Nat.zero_le _) dJ8_newLength_cabcc_3 ?_
  refine mi_iadd S dJ8_newLength_cabcc_6 ?_
  refine mi_top (v' := .int (nI (n + n / 2))) (by rw [show (if 1 < k then k else 1) = n / 2 by split <;> omega]) ?_
  refine lv_istore_n (lv' := [(3, .int (nI (n + n / 2))), (0, .int (nI (n))), (1, .int (nI (1))), (2, .int (nI (k)))]) S.1 S.2.1 dJ8_newLength_cabcc_7 rfl hl (by decide) rfl (fun ls hl => ?_)
  refine lv_iconst (v := nI 0) S.1 S.2.1 dJ8_newLength_cabcc_8 (by decide) ?_
  refine lv_iload_n S.1 S.2.1 dJ8_newLength_cabcc_9 rfl (lv_at hl 0 rfl) ?_
  refine mi_icmp_ge (tgt := 21) S (by omega) (by omega) dJ8_newLength_cabcc_10 (by decide) (fun c10_0 => by exfalso; omega) (fun c10_0 => ?_)
  refine lv_iload_n S.1 S.2.1 dJ8_newLength_cabcc_13 rfl (lv_at hl 0 rfl) ?_
  refine lv_ldc S.1 S.2.1 S.2.2.2.1 (S.2.2.2.2 _ (List.mem_cons_of_mem _ mw_146)) dJ8_newLength_cabcc_14 ?_
  refine mi_top (v' := .int (nI 2147483639)) (by decide +kernel) ?_
  refine mi_icmp_gt (tgt := 21) S (by omega) (by omega) dJ8_newLength_cabcc_16 (by decide) (fun c16_1 => by exfalso; omega) (fun c16_1 => ?_)
  refine lv_iload_n S.1 S.2.1 dJ8_newLength_cabcc_19 rfl (lv_at hl 0 rfl) ?_
  exact mi_retR S hr hk dJ8_newLength_cabcc_20 (rfl)
end
section
/-! the JDK's members that write: ArrayList's constructor and add, Arrays.fill, copyOf -/
theorem mi_fill_0 (f : Nat → Int32) (x : Int32) : (fun j => if j < 0 then x else f j) = f := funext fun j => if_neg (Nat.not_lt_zero j)
theorem mi_up_id {α : Type} {f : Nat → Option α} {k : Nat} {v : α} (h : f k = some v) : va_up f k (some v) = f := by
  funext j
  by_cases hj : j = k
  · subst hj
    rw [mi_up_s, h]
  · rw [mi_up_n hj]
set_option maxHeartbeats 4000000 in
set_option maxRecDepth 100000 in
theorem c_AC_init (l : Launch) (D : va_G) (A : Nat → Prop) {P : Heap → Prop} (a : Nat) : mi_Mv l yJxa1e45_init_da8c8 (Cond.code yJxa1e45_init_da8c8 cJxa1e45_init_da8c8 1 none) (mi_rm 1) D A (P) [.ref (a)] 0 0 (P) := by
  refine mi_start (cc := cJxa1e45_init_da8c8) (nL := 1) (ret := none) rfl (by decide) (Nat.le_of_ble_eq_true rfl) ?_
  intro p e s m below meth c ls S E hW hS hr hk hn hl
  have S : CallFix p m c cJxa1e45_init_da8c8 1 s _ ((Cond.code yJxa1e45_init_da8c8 cJxa1e45_init_da8c8 1 none) :: mi_G) RJxa1e45 := S
  have hl : lv_has ls 1 [(0, .ref (a))] := hl
  refine lv_aload_n S.1 S.2.1 dJxa1e45_init_da8c8_0 rfl (lv_at hl 0 rfl) ?_
  refine W.objInit S.1 S.2.1 S.2.2.2.1 (S.2.2.2.2 _ (List.mem_cons_of_mem _ mw_73)) (S.2.2.2.2 _ (List.mem_cons_of_mem _ mw_60)) (S.2.2.2.2 _ (List.mem_cons_of_mem _ mw_61)) rfl (hl.1.trans S.2.2.1.symm) rfl dJxa1e45_init_da8c8_1 (Nat.le_of_ble_eq_true rfl) (Nat.le_of_ble_eq_true rfl) ?_
  refine W.eq (g2 := F0 m 4 ls []) rfl ?_
  exact mi_retMv S hr hk hS dJxa1e45_init_da8c8_4 (Nat.le_of_ble_eq_true rfl) (Nat.le_of_ble_eq_true rfl) (hW)
set_option maxHeartbeats 4000000 in
set_option maxRecDepth 100000 in
theorem c_Ab_init (l : Launch) (D : va_G) (A : Nat → Prop) {ad : Nat → Nat} {cf : Nat → Option va_E} {r a : Nat} {mcn : Int32} {ea nn : Value} (ha0 : ad r = a) (hr0 : cf r = some (.inr (0, [.int mcn, ea, nn]))) : mi_Mv l yJxc12de_init_da8c8 (Cond.code yJxc12de_init_da8c8 cJxc12de_init_da8c8 1 none) (mi_rm 2) D A (mi_W D A ad cf) [.ref (a)] 0 0 (mi_W D A ad (va_up cf r (some (.inr (0, [.int (nI 0), ea, nn]))))) := by
  refine mi_start (cc := cJxc12de_init_da8c8) (nL := 1) (ret := none) rfl (by decide) (Nat.le_of_ble_eq_true rfl) ?_
  intro p e s m below meth c ls S E hW hS hr hk hn hl
  have S : CallFix p m c cJxc12de_init_da8c8 1 s _ ((Cond.code yJxc12de_init_da8c8 cJxc12de_init_da8c8 1 none) :: mi_G) RJxc12de := S
  have hl : lv_has ls 1 [(0, .ref (a))] := hl
  refine lv_aload_n S.1 S.2.1 dJxc12de_init_da8c8_0 rfl (lv_at hl 0 rfl) ?_
  refine mi_cMv (mi_runI (P := mi_W D A ad cf) (As := []) (rest := []) S E hS hW a (c_AC_init l D A a) mw_72 mw_70 mw_71 mw_34 rfl ⟨by decide, by decide, by decide +kernel⟩ ⟨rfl, rfl, Nat.le_of_ble_eq_true rfl, Nat.le_of_ble_eq_true rfl⟩ (n := 0) rfl hl.1 rfl (Nat.le_of_ble_eq_true rfl) dJxc12de_init_da8c8_1 ⟨Nat.le_of_ble_eq_true rfl, Nat.le_of_ble_eq_true rfl⟩) hS (fun H locs hW hS hz => ?_)
  refine lv_aload_n S.1 S.2.1 dJxc12de_init_da8c8_4 rfl (lv_at hl 0 rfl) ?_
  refine lv_iconst (v := nI 0) S.1 S.2.1 dJxc12de_init_da8c8_5 (by decide) ?_
  refine fp_Jxc12de_7 S E hS hW r ha0 hr0 (Nat.le_of_ble_eq_true rfl) dJxc12de_init_da8c8_6 (fun H locs hW hS hz => ?_)
  obtain ⟨cf1, hcf1⟩ : ∃ z, z = va_up cf r (some (.inr (0, [.int (nI (0)), ea, nn]))) := ⟨_, rfl⟩
  have hW : mi_W D A ad cf1 H := by rw [hcf1]; exact hW
  have he1_r : cf1 r = some (.inr (0, [.int (nI (0)), ea, nn])) := by rw [hcf1]; exact mi_up_s
  exact mi_retMv S hr hk hS dJxc12de_init_da8c8_9 (Nat.le_of_ble_eq_true rfl) (Nat.le_of_ble_eq_true rfl) (by rw [hcf1] at hW; exact hW)
set_option maxHeartbeats 4000000 in
set_option maxRecDepth 100000 in
theorem c_AL_init (l : Launch) (D : va_G) (A : Nat → Prop) {ad : Nat → Nat} {cf : Nat → Option va_E} {r a : Nat} {mcn : Int32} {ea nn : Value} (ha0 : ad r = a) (hr0 : cf r = some (.inr (0, [.int mcn, ea, nn]))) : mi_Mv l yJx4a65c_init_da8c8 (Cond.code yJx4a65c_init_da8c8 cJx4a65c_init_da8c8 1 none) (mi_rm 3) D A (mi_W D A ad cf) [.ref (a)] 0 0 (mi_W D A ad (va_up cf r (some (.inr (0, [.int (nI 0), .ref (mi_de D), nn]))))) := by
  refine mi_start (cc := cJx4a65c_init_da8c8) (nL := 1) (ret := none) rfl (by decide) (Nat.le_of_ble_eq_true rfl) ?_
  intro p e s m below meth c ls S E hW hS hr hk hn hl
  have S : CallFix p m c cJx4a65c_init_da8c8 1 s _ ((Cond.code yJx4a65c_init_da8c8 cJx4a65c_init_da8c8 1 none) :: mi_G) RJx4a65c := S
  have hl : lv_has ls 1 [(0, .ref (a))] := hl
  refine lv_aload_n S.1 S.2.1 dJx4a65c_init_da8c8_0 rfl (lv_at hl 0 rfl) ?_
  refine mi_cMv (mi_runI (P := mi_W D A ad cf) (As := []) (rest := []) S E hS hW a (c_Ab_init l D A ha0 hr0) mw_69 mw_67 mw_68 mw_35 rfl ⟨by decide, by decide, by decide +kernel⟩ ⟨rfl, rfl, Nat.le_of_ble_eq_true rfl, Nat.le_of_ble_eq_true rfl⟩ (n := 0) rfl hl.1 rfl (Nat.le_of_ble_eq_true rfl) dJx4a65c_init_da8c8_1 ⟨Nat.le_of_ble_eq_true rfl, Nat.le_of_ble_eq_true rfl⟩) hS (fun H locs hW hS hz => ?_)
  obtain ⟨cf1, hcf1⟩ : ∃ z, z = va_up cf r (some (.inr (0, [.int (nI (0)), ea, nn]))) := ⟨_, rfl⟩
  have hW : mi_W D A ad cf1 H := by rw [hcf1]; exact hW
  have he1_r : cf1 r = some (.inr (0, [.int (nI (0)), ea, nn])) := by rw [hcf1]; exact mi_up_s
  refine lv_aload_n S.1 S.2.1 dJx4a65c_init_da8c8_4 rfl (lv_at hl 0 rfl) ?_
  refine mi_gets S E hS (List.mem_cons_of_mem _ mw_74) dJx4a65c_init_da8c8_5 ?_
  refine fp_Jx4a65c_9 S E hS hW r ha0 he1_r (Nat.le_of_ble_eq_true rfl) rfl rfl dJx4a65c_init_da8c8_8 (fun H locs hW hS hz => ?_)
  obtain ⟨cf2, hcf2⟩ : ∃ z, z = va_up cf1 r (some (.inr (0, [.int (nI (0)), .ref (mi_de D), nn]))) := ⟨_, rfl⟩
  have hW : mi_W D A ad cf2 H := by rw [hcf2]; exact hW
  have he2_r : cf2 r = some (.inr (0, [.int (nI (0)), .ref (mi_de D), nn])) := by rw [hcf2]; exact mi_up_s
  exact mi_retMv S hr hk hS dJx4a65c_init_da8c8_11 (Nat.le_of_ble_eq_true rfl) (Nat.le_of_ble_eq_true rfl) (by rw [hcf2, hcf1, mi_up_up] at hW; exact hW)
theorem mi_fill_step (f : Nat → Int32) (i : Nat) (x : Int32) : upd (fun j => if j < i then x else f j) i x = fun j => if j < i + 1 then x else f j := by
  funext j
  show (if j = i then x else if j < i then x else f j) = _
  by_cases h : j = i
  · rw [if_pos h, if_pos (by omega)]
  · rw [if_neg h]
    by_cases h2 : j < i
    · rw [if_pos h2, if_pos (by omega)]
    · rw [if_neg h2, if_neg (by omega)]
set_option maxHeartbeats 4000000 in
set_option maxRecDepth 100000 in
theorem c_fill (l : Launch) (D : va_G) (A : Nat → Prop) {ad : Nat → Nat} {cf : Nat → Option va_E} {r n v : Nat} {f : Nat → Int32} (hr0 : cf r = some (mi_ai D n f)) (hb : n < 2 ^ 31) : mi_Mv l yJ7_fill_53178 (Cond.code yJ7_fill_53178 cJ7_fill_53178 4 none) (mi_rm 0) D A (mi_W D A ad cf) [.ref (ad r), .int (nI (v))] 0 0 (mi_W D A ad (va_up cf r (some (mi_ai D n (fun j => if j < n then nI v else f j))))) := by
  refine mi_start (cc := cJ7_fill_53178) (nL := 4) (ret := none) rfl (by decide) (Nat.le_of_ble_eq_true rfl) ?_
  intro p e s m below meth c ls S E hW hS hr hk hn hl
  have S : CallFix p m c cJ7_fill_53178 4 s _ ((Cond.code yJ7_fill_53178 cJ7_fill_53178 4 none) :: mi_G) RJ7 := S
  have hl : lv_has ls 4 [(0, .ref (ad r)), (1, .int (nI (v)))] := hl
  refine lv_iconst (v := nI 0) S.1 S.2.1 dJ7_fill_53178_0 (by decide) ?_
  refine lv_istore_n (lv' := [(2, .int (nI (0))), (0, .ref (ad r)), (1, .int (nI (v)))]) S.1 S.2.1 dJ7_fill_53178_1 rfl hl (by decide) rfl (fun ls hl => ?_)
  refine lv_aload_n S.1 S.2.1 dJ7_fill_53178_2 rfl (lv_at hl 1 rfl) ?_
  refine mi_alen S E hW r 0 rfl hr0 rfl dJ7_fill_53178_3 ?_
  refine lv_istore_n (lv' := [(3, .int (nI (n))), (2, .int (nI (0))), (0, .ref (ad r)), (1, .int (nI (v)))]) S.1 S.2.1 dJ7_fill_53178_4 rfl hl (by decide) rfl (fun ls hl => ?_)
  have lp5 : ∀ (n5 : Nat) (i : Nat) (H : Heap) (locs : List Loc) (ls : Array Slot), n - i < n5 → i ≤ n → mi_W D A ad (va_up cf r (some (mi_ai D n (fun j => if j < i then nI v else f j)))) H → va_S A s.heap H locs → lv_has ls 4 [(0, .ref (ad r)), (1, .int (nI (v))), (2, .int (nI (i))), (3, .int (nI (n)))] → W p l e (mi_rm 0) s m ([.ref (ad r), .int (nI (v))] : List Value).toArray below meth c H locs 0 0 (MQ below (mi_Qv A (mi_W D A ad (va_up cf r (some (mi_ai D n (fun j => if j < n then nI v else f j)))))) ([.ref (ad r), .int (nI (v))] : List Value).toArray s 0 0 A) (F0 m 5 ls []) := by
    intro n5
    induction n5 with
    | zero => intro i H locs ls hm hi hW hS hl; exact absurd hm (Nat.not_lt_zero _)
    | succ n5 ih5 =>
      intro i H locs ls hm hi hW hS hl
      refine lv_iload_n S.1 S.2.1 dJ7_fill_53178_5 rfl (lv_at hl 2 rfl) ?_
      refine lv_iload_n S.1 S.2.1 dJ7_fill_53178_6 rfl (lv_at hl 3 rfl) ?_
      refine mi_icmp_ge (tgt := 20) S (by omega) (by omega) dJ7_fill_53178_7 (by decide) (fun c7_0 => ?_) (fun c7_0 => ?_)
      · exact mi_retMv S hr hk hS dJ7_fill_53178_20 (Nat.le_of_ble_eq_true rfl) (Nat.le_of_ble_eq_true rfl) (by rw [show i = n by omega] at hW; exact hW)
      · refine lv_aload_n S.1 S.2.1 dJ7_fill_53178_10 rfl (lv_at hl 0 rfl) ?_
        refine lv_iload_n S.1 S.2.1 dJ7_fill_53178_11 rfl (lv_at hl 2 rfl) ?_
        refine lv_iload_n S.1 S.2.1 dJ7_fill_53178_12 rfl (lv_at hl 1 rfl) ?_
        refine mi_iast S E hS hW r rfl (n := n) (f := fun j => if j < i then nI v else f j) mi_up_s (by omega) (by omega) dJ7_fill_53178_13 (fun H locs hW hS hz => ?_)
        have hW : mi_W D A ad (va_up cf r (some (mi_ai D n (fun j => if j < i + 1 then nI v else f j)))) H := by rw [mi_up_up, mi_fill_step] at hW; exact hW
        refine lv_iinc (v := nI (i + 1)) (lv' := [(2, .int (nI (i + 1))), (0, .ref (ad r)), (1, .int (nI (v))), (3, .int (nI (n)))]) S.1 S.2.1 dJ7_fill_53178_14 hl (k := 2) rfl (mi_inc _) (by decide) rfl (fun ls hl => ?_)
        refine lv_goto (tgt := 5) S.1 S.2.1 dJ7_fill_53178_17 (by decide) ?_
        exact ih5 (i + 1) _ _ _ (by omega) (by omega) hW hS (lv_sub hl [1, 2, 0, 3] rfl)
  exact lp5 _ 0 _ _ _ (Nat.lt_succ_self _) (by omega) (by rw [mi_fill_0 f (nI v), mi_up_id hr0]; exact hW) hS (lv_sub hl [2, 3, 1, 0] rfl)
end
section
/-! ArrayList grows and takes an element -/
theorem mi_cpy_new (f : Nat → Option Nat) (n : Nat) : va_cpy f (fun _ => none) 0 0 n = (fun i => if i < n then f i else none) := by
  funext k
  unfold va_cpy
  by_cases h : k < n
  · rw [if_pos (by omega), if_pos h, Nat.zero_add, Nat.sub_zero]
  · rw [if_neg (by omega), if_neg h]
set_option maxHeartbeats 4000000 in
set_option maxRecDepth 100000 in
theorem c_copyOf3 (l : Launch) (D : va_G) (A : Nat → Prop)  (hAu : ∀ a b, A a → a ≤ b → A b){ad : Nat → Nat} {cf : Nat → Option va_E} {q a n nk : Nat} {f : Nat → Option Nat} (ha0 : ad q = a) (hq0 : cf q = some (mi_aq D n f)) (hel : mi_els ad cf n f) (hnm : n ≤ nk) (hm9 : nk ≤ 1000) (hq9 : q ≠ 999) (hf9 : cf 999 = none) : mi_Mr l yJ7_copyOf_6403c (Cond.code yJ7_copyOf_6403c cJ7_copyOf_6403c 4 (some (Jvm.ClassFile.FieldType.array (Jvm.ClassFile.FieldType.object "java/lang/Object")))) (mi_rq 1 1 1000) D A (mi_W D A ad cf) [.ref (a), .int (nI (nk)), .ref (mi_mi D)] 1 1000 (fun r H => mi_W D A (va_up ad 999 r) (va_up cf 999 (some (mi_aq D nk (fun i => if i < n then f i else none)))) H) := by
  refine mi_start (cc := cJ7_copyOf_6403c) (nL := 4) (ret := (some (Jvm.ClassFile.FieldType.array (Jvm.ClassFile.FieldType.object "java/lang/Object")))) rfl (by decide) (Nat.le_of_ble_eq_true rfl) ?_
  intro p e s m below meth c ls S E hW hS hr hk hn hl
  have S : CallFix p m c cJ7_copyOf_6403c 4 s _ ((Cond.code yJ7_copyOf_6403c cJ7_copyOf_6403c 4 (some (Jvm.ClassFile.FieldType.array (Jvm.ClassFile.FieldType.object "java/lang/Object")))) :: mi_G) RJ7 := S
  have hl : lv_has ls 4 [(0, .ref (a)), (1, .int (nI (nk))), (2, .ref (mi_mi D))] := hl
  have hA : ∀ q, s.heap.size ≤ q → A q := hW.up hAu hq0
  refine lv_aload_n S.1 S.2.1 dJ7_copyOf_6403c_0 rfl (lv_at hl 2 rfl) ?_
  refine mi_ldcM S E (List.mem_cons_of_mem _ mw_170) dJ7_copyOf_6403c_1 ?_
  refine mi_acmp_ne (tgt := 13) S dJ7_copyOf_6403c_3 (by decide) (fun c3_0 => by exfalso; exact absurd rfl c3_0) (fun c3_0 => ?_)
  refine lv_iload_n S.1 S.2.1 dJ7_copyOf_6403c_6 rfl (lv_at hl 1 rfl) ?_
  obtain ⟨a2, hn2⟩ : ∃ z, z = s.heap.size := ⟨_, rfl⟩
  refine mi_newq S E hS hA hW 999 (List.mem_cons_of_mem _ mw_172) (by omega) (by show _ ≤ (1 : Nat); omega) (by show _ ≤ (1000 : Nat); omega) dJ7_copyOf_6403c_7 (fun H9 hW hS hz => ?_)
  rw [← hn2] at hW hz ⊢
  obtain ⟨H, rfl⟩ : ∃ z, z = H9 := ⟨_, rfl⟩
  obtain ⟨ad2, had2⟩ : ∃ z, z = va_up ad 999 a2 := ⟨_, rfl⟩
  obtain ⟨cf2, hcf2⟩ : ∃ z, z = va_up cf 999 (some (mi_aq D nk (fun _ => none))) := ⟨_, rfl⟩
  have hW : mi_W D A ad2 cf2 H := by rw [had2, hcf2]; exact hW
  have he2_0 : cf2 q = some (mi_aq D n (f)) := by rw [hcf2]; exact (mi_up_n hq9).trans hq0
  have ha2_0 : ad2 q = a := by rw [had2]; exact (mi_up_n hq9).trans ha0
  have he2_r : cf2 999 = some (mi_aq D nk (fun _ => none)) := by rw [hcf2]; exact mi_up_s
  have ha2_r : ad2 999 = a2 := by rw [had2]; exact mi_up_s
  refine lv_goto (tgt := 24) S.1 S.2.1 dJ7_copyOf_6403c_10 (by decide) ?_
  refine lv_astore_n (lv' := [(3, .ref (a2)), (0, .ref (a)), (1, .int (nI (nk))), (2, .ref (mi_mi D))]) S.1 S.2.1 dJ7_copyOf_6403c_24 rfl hl (by decide) rfl (fun ls hl => ?_)
  refine lv_aload_n S.1 S.2.1 dJ7_copyOf_6403c_25 rfl (lv_at hl 1 rfl) ?_
  refine lv_iconst (v := nI 0) S.1 S.2.1 dJ7_copyOf_6403c_26 (by decide) ?_
  refine lv_aload_n S.1 S.2.1 dJ7_copyOf_6403c_27 rfl (lv_at hl 0 rfl) ?_
  refine lv_iconst (v := nI 0) S.1 S.2.1 dJ7_copyOf_6403c_28 (by decide) ?_
  refine lv_aload_n S.1 S.2.1 dJ7_copyOf_6403c_29 rfl (lv_at hl 1 rfl) ?_
  refine mi_alen S E hW q 1 ha2_0 he2_0 rfl dJ7_copyOf_6403c_30 ?_
  refine mi_top (v' := .int (nI (n))) rfl ?_
  refine lv_iload_n S.1 S.2.1 dJ7_copyOf_6403c_31 rfl (lv_at hl 2 rfl) ?_
  refine mi_mmin S (by omega) (by omega) (List.mem_cons_of_mem _ mw_173) (List.mem_cons_of_mem _ mw_174) (List.mem_cons_of_mem _ mw_40) (List.mem_cons_of_mem _ mk_min) hl.1 (Nat.le_of_ble_eq_true rfl) (Nat.le_of_ble_eq_true rfl) (by show _ ≤ (1 : Nat); omega) (by show _ ≤ (1000 : Nat); omega) dJ7_copyOf_6403c_32 ?_
  refine mi_top (v' := .int (nI (n))) (by rw [if_neg (by omega)]) ?_
  have hel2 : mi_els ad2 cf2 n f := fun i hi y hy => by
    obtain ⟨ro, ci, fs, q9, e1, e2, e3, e4⟩ := hel i hi y hy
    have hro : ro ≠ 999 := fun z => by rw [z, hf9] at e2; cases e2
    exact ⟨ro, ci, fs, q9, by rw [had2, mi_up_n hro]; exact e1, by rw [hcf2, mi_up_n hro]; exact e2, e3, e4⟩
  refine mi_copy S E hS hW q 999 ha2_0 ha2_r hq9 he2_0 he2_r (Nat.le_refl _) hnm (by omega) (by omega) hel2 hl.1 (List.mem_cons_of_mem _ mw_176) (List.mem_cons_of_mem _ mw_178) (List.mem_cons_of_mem _ mw_177) (List.mem_cons_of_mem _ mw_42) (Nat.le_of_ble_eq_true rfl) (by decide +kernel) dJ7_copyOf_6403c_35 (fun H locs hW hS hz => ?_)
  obtain ⟨cf3, hcf3⟩ : ∃ z, z = va_up cf2 999 (some (mi_aq D nk (fun i => if i < n then f i else none))) := ⟨_, rfl⟩
  have hW : mi_W D A ad2 cf3 H := by rw [hcf3]; rw [mi_cpy_new] at hW; exact hW
  have he3_0 : cf3 q = some (mi_aq D n (f)) := by rw [hcf3]; exact (mi_up_n hq9).trans he2_0
  have he3_r : cf3 999 = some (mi_aq D nk (fun i => if i < n then f i else none)) := by rw [hcf3]; exact mi_up_s
  refine lv_aload_n S.1 S.2.1 dJ7_copyOf_6403c_38 rfl (lv_at hl 0 rfl) ?_
  exact mi_retMr S hr (Or.inr ⟨_, rfl⟩) hk hS dJ7_copyOf_6403c_39 (by show _ ≤ (1 : Nat); omega) (by show _ ≤ (1000 : Nat); omega) (by rw [had2, hcf3, hcf2, mi_up_up] at hW; exact hW)
set_option maxHeartbeats 4000000 in
set_option maxRecDepth 100000 in
theorem c_copyOf2 (l : Launch) (D : va_G) (A : Nat → Prop)  (hAu : ∀ a b, A a → a ≤ b → A b){ad : Nat → Nat} {cf : Nat → Option va_E} {q a n nk : Nat} {f : Nat → Option Nat} (ha0 : ad q = a) (hq0 : cf q = some (mi_aq D n f)) (hel : mi_els ad cf n f) (hnm : n ≤ nk) (hm9 : nk ≤ 1000) (hq9 : q ≠ 999) (hf9 : cf 999 = none) : mi_Mr l yJ7_copyOf_1904c (Cond.code yJ7_copyOf_1904c cJ7_copyOf_1904c 2 (some (Jvm.ClassFile.FieldType.array (Jvm.ClassFile.FieldType.object "java/lang/Object")))) (mi_rq 2 1 1000) D A (mi_W D A ad cf) [.ref (a), .int (nI (nk))] 1 1000 (fun r H => mi_W D A (va_up ad 999 r) (va_up cf 999 (some (mi_aq D nk (fun i => if i < n then f i else none)))) H) := by
  refine mi_start (cc := cJ7_copyOf_1904c) (nL := 2) (ret := (some (Jvm.ClassFile.FieldType.array (Jvm.ClassFile.FieldType.object "java/lang/Object")))) rfl (by decide) (Nat.le_of_ble_eq_true rfl) ?_
  intro p e s m below meth c ls S E hW hS hr hk hn hl
  have S : CallFix p m c cJ7_copyOf_1904c 2 s _ ((Cond.code yJ7_copyOf_1904c cJ7_copyOf_1904c 2 (some (Jvm.ClassFile.FieldType.array (Jvm.ClassFile.FieldType.object "java/lang/Object")))) :: mi_G) RJ7 := S
  have hl : lv_has ls 2 [(0, .ref (a)), (1, .int (nI (nk)))] := hl
  refine lv_aload_n S.1 S.2.1 dJ7_copyOf_1904c_0 rfl (lv_at hl 0 rfl) ?_
  refine lv_iload_n S.1 S.2.1 dJ7_copyOf_1904c_1 rfl (lv_at hl 1 rfl) ?_
  refine lv_aload_n S.1 S.2.1 dJ7_copyOf_1904c_2 rfl (lv_at hl 0 rfl) ?_
  refine mi_getC S E hW q ha0 hq0 hl.1 (List.mem_cons_of_mem _ mw_153) (List.mem_cons_of_mem _ mw_914) (List.mem_cons_of_mem _ mw_154) (List.mem_cons_of_mem _ mw_166) (Nat.le_of_ble_eq_true rfl) (Nat.le_of_ble_eq_true rfl) dJ7_copyOf_1904c_3 ?_
  refine mi_cMr (mi_runS (P := mi_W D A ad cf) (As := [.ref (a), .int (nI (nk)), .ref (mi_mi D)]) (rest := []) S E hS hW (c_copyOf3 l D A hAu ha0 hq0 hel hnm hm9 hq9 hf9) mw_169 mw_167 mw_168 mw_41 ⟨by decide, by decide, by decide +kernel⟩ ⟨rfl, rfl, Nat.le_of_ble_eq_true rfl, Nat.le_of_ble_eq_true rfl⟩ (n := 3) rfl hl.1 rfl (Nat.le_of_ble_eq_true rfl) dJ7_copyOf_1904c_6 ⟨(by show _ ≤ (1 : Nat); omega), (by show _ ≤ (1000 : Nat); omega)⟩) hS (fun r9 H locs hW hS hz => ?_)
  obtain ⟨a1, rfl⟩ : ∃ z, z = r9 := ⟨_, rfl⟩
  obtain ⟨ad1, had1⟩ : ∃ z, z = va_up ad 999 a1 := ⟨_, rfl⟩
  obtain ⟨cf1, hcf1⟩ : ∃ z, z = va_up cf 999 (some (mi_aq D nk (fun i => if i < n then f i else none))) := ⟨_, rfl⟩
  have hW : mi_W D A ad1 cf1 H := by rw [had1, hcf1]; exact hW
  have he1_0 : cf1 q = some (mi_aq D n (f)) := by rw [hcf1]; exact (mi_up_n hq9).trans hq0
  have ha1_0 : ad1 q = a := by rw [had1]; exact (mi_up_n hq9).trans ha0
  have he1_r : cf1 999 = some (mi_aq D nk (fun i => if i < n then f i else none)) := by rw [hcf1]; exact mi_up_s
  have ha1_r : ad1 999 = a1 := by rw [had1]; exact mi_up_s
  exact mi_retMr S hr (Or.inr ⟨_, rfl⟩) hk hS dJ7_copyOf_1904c_9 (by show _ ≤ (1 : Nat); omega) (by show _ ≤ (1000 : Nat); omega) (by rw [had1, hcf1] at hW; exact hW)
set_option maxHeartbeats 4000000 in
set_option maxRecDepth 100000 in
theorem c_grow1 (l : Launch) (D : va_G) (A : Nat → Prop)  (hAu : ∀ a b, A a → a ≤ b → A b){ad : Nat → Nat} {cf : Nat → Option va_E} {r q a b n : Nat} {mcn : Int32} {f : Nat → Option Nat} (hra : ad r = b) (ha0 : ad q = a) (hr0 : cf r = some (.inr (0, [.int mcn, .ref a, .int (nI n)]))) (hq0 : cf q = some (mi_aq D n f)) (hel : mi_els ad cf n f) (h10 : 10 ≤ n) (h60 : n ≤ 60) (hr9 : r ≠ 999) (hq9 : q ≠ 999) (hrq : r ≠ q) (hf9 : cf 999 = none) : mi_Mr l yJx4a65c_grow_92f84 (Cond.code yJx4a65c_grow_92f84 cJx4a65c_grow_92f84 4 (some (Jvm.ClassFile.FieldType.array (Jvm.ClassFile.FieldType.object "java/lang/Object")))) (mi_rq 3 1 1000) D A (mi_W D A ad cf) [.ref (b), .int (nI (n + 1))] 1 1000 (fun z H => mi_W D A (va_up ad q z) (va_up (va_up cf q (some (mi_aq D (n + n / 2) (fun i => if i < n then f i else none)))) r (some (.inr (0, [.int mcn, .ref z, .int (nI n)])))) H) := by
  refine mi_start (cc := cJx4a65c_grow_92f84) (nL := 4) (ret := (some (Jvm.ClassFile.FieldType.array (Jvm.ClassFile.FieldType.object "java/lang/Object")))) rfl (by decide) (Nat.le_of_ble_eq_true rfl) ?_
  intro p e s m below meth c ls S E hW hS hr hk hn hl
  have S : CallFix p m c cJx4a65c_grow_92f84 4 s _ ((Cond.code yJx4a65c_grow_92f84 cJx4a65c_grow_92f84 4 (some (Jvm.ClassFile.FieldType.array (Jvm.ClassFile.FieldType.object "java/lang/Object")))) :: mi_G) RJx4a65c := S
  have hl : lv_has ls 4 [(0, .ref (b)), (1, .int (nI (n + 1)))] := hl
  refine lv_aload_n S.1 S.2.1 dJx4a65c_grow_92f84_0 rfl (lv_at hl 0 rfl) ?_
  refine fg_Jx4a65c_9 S E hW r hra hr0 rfl dJx4a65c_grow_92f84_1 ?_
  refine mi_alen S E hW q 1 ha0 hq0 rfl dJx4a65c_grow_92f84_4 ?_
  refine mi_top (v' := .int (nI (n))) rfl ?_
  refine lv_istore_n (lv' := [(2, .int (nI (n))), (0, .ref (b)), (1, .int (nI (n + 1)))]) S.1 S.2.1 dJx4a65c_grow_92f84_5 rfl hl (by decide) rfl (fun ls hl => ?_)
  refine lv_iload_n S.1 S.2.1 dJx4a65c_grow_92f84_6 rfl (lv_at hl 0 rfl) ?_
  refine mi_if_gt (tgt := 20) S (by omega) dJx4a65c_grow_92f84_7 (by decide) (fun c7_0 => ?_) (fun c7_0 => by exfalso; omega)
  refine lv_iload_n S.1 S.2.1 dJx4a65c_grow_92f84_20 rfl (lv_at hl 0 rfl) ?_
  refine lv_iload_n S.1 S.2.1 dJx4a65c_grow_92f84_21 rfl (lv_at hl 2 rfl) ?_
  refine lv_iload_n S.1 S.2.1 dJx4a65c_grow_92f84_22 rfl (lv_at hl 0 rfl) ?_
  refine mi_isub S (by omega) dJx4a65c_grow_92f84_23 ?_
  refine mi_top (v' := .int (nI (1))) (by rw [show n + 1 - n = 1 by omega]) ?_
  refine lv_iload_n S.1 S.2.1 dJx4a65c_grow_92f84_24 rfl (lv_at hl 0 rfl) ?_
  refine lv_iconst (v := nI 1) S.1 S.2.1 dJx4a65c_grow_92f84_25 (by decide) ?_
  refine lv_ishr S.1 S.2.1 dJx4a65c_grow_92f84_26 ?_
  refine mi_top (v' := .int (nI (n / 2))) (by rw [pk_shrN (by omega) (nI 1 &&& 31) 1 (by decide)]) ?_
  refine mi_cR (mi_runS (P := mi_W D A ad cf) (As := [.int (nI (n)), .int (nI (1)), .int (nI (n / 2))]) (rest := []) S E hS hW (c_J8_newLength l D A (mi_W D A ad cf) (n := n) (k := n / 2) (by omega) (by omega) rfl) mw_142 mw_140 mw_141 mw_39 ⟨by decide, by decide, by decide +kernel⟩ ⟨rfl, rfl, Nat.le_of_ble_eq_true rfl, Nat.le_of_ble_eq_true rfl⟩ (n := 3) rfl hl.1 rfl (Nat.le_of_ble_eq_true rfl) dJx4a65c_grow_92f84_27 ⟨(by show _ ≤ (1 : Nat); omega), (by show _ ≤ (1000 : Nat); omega)⟩) (fun r9 e9 => ?_)
  subst e9
  refine lv_istore_n (lv' := [(3, .int (nI (n + n / 2))), (2, .int (nI (n))), (0, .ref (b)), (1, .int (nI (n + 1)))]) S.1 S.2.1 dJx4a65c_grow_92f84_30 rfl hl (by decide) rfl (fun ls hl => ?_)
  refine lv_aload_n S.1 S.2.1 dJx4a65c_grow_92f84_31 rfl (lv_at hl 2 rfl) ?_
  refine lv_aload_n S.1 S.2.1 dJx4a65c_grow_92f84_32 rfl (lv_at hl 2 rfl) ?_
  refine fg_Jx4a65c_9 S E hW r hra hr0 rfl dJx4a65c_grow_92f84_33 ?_
  refine lv_iload_n S.1 S.2.1 dJx4a65c_grow_92f84_36 rfl (lv_at hl 0 rfl) ?_
  refine mi_cMr (mi_runS (P := mi_W D A ad cf) (As := [.ref (a), .int (nI (n + n / 2))]) (rest := [.ref (b)]) S E hS hW (c_copyOf2 l D A hAu ha0 hq0 hel (by omega) (by omega) hq9 hf9) mw_152 mw_150 mw_151 mw_41 ⟨by decide, by decide, by decide +kernel⟩ ⟨rfl, rfl, Nat.le_of_ble_eq_true rfl, Nat.le_of_ble_eq_true rfl⟩ (n := 2) rfl hl.1 rfl (Nat.le_of_ble_eq_true rfl) dJx4a65c_grow_92f84_37 ⟨(by show _ ≤ (1 : Nat); omega), (by show _ ≤ (1000 : Nat); omega)⟩) hS (fun r9 H locs hW hS hz => ?_)
  obtain ⟨a2, rfl⟩ : ∃ z, z = r9 := ⟨_, rfl⟩
  obtain ⟨ad2, had2⟩ : ∃ z, z = va_up ad 999 a2 := ⟨_, rfl⟩
  obtain ⟨cf2, hcf2⟩ : ∃ z, z = va_up cf 999 (some (mi_aq D (n + n / 2) (fun i => if i < n then f i else none))) := ⟨_, rfl⟩
  have hW : mi_W D A ad2 cf2 H := by rw [had2, hcf2]; exact hW
  have he2_0 : cf2 q = some (mi_aq D n (f)) := by rw [hcf2]; exact (mi_up_n hq9).trans hq0
  have ha2_0 : ad2 q = a := by rw [had2]; exact (mi_up_n hq9).trans ha0
  have he2_1 : cf2 r = some (.inr (0, [.int (mcn), .ref (a), .int (nI (n))])) := by rw [hcf2]; exact (mi_up_n hr9).trans hr0
  have ha2_1 : ad2 r = b := by rw [had2]; exact (mi_up_n hr9).trans hra
  have he2_r : cf2 999 = some (mi_aq D (n + n / 2) (fun i => if i < n then f i else none)) := by rw [hcf2]; exact mi_up_s
  have ha2_r : ad2 999 = a2 := by rw [had2]; exact mi_up_s
  refine lv_dup_x1 S.1 S.2.1 dJx4a65c_grow_92f84_40 rfl rfl ?_
  refine fp_Jx4a65c_9 S E hS hW r ha2_1 he2_1 (Nat.le_of_ble_eq_true rfl) rfl rfl dJx4a65c_grow_92f84_41 (fun H locs hW hS hz => ?_)
  obtain ⟨cf3, hcf3⟩ : ∃ z, z = va_up cf2 r (some (.inr (0, [.int (mcn), .ref (a2), .int (nI (n))]))) := ⟨_, rfl⟩
  have hW : mi_W D A ad2 cf3 H := by rw [hcf3]; exact hW
  have he3_0 : cf3 q = some (mi_aq D n (f)) := by rw [hcf3]; exact (mi_up_n (Ne.symm hrq)).trans he2_0
  have he3_1 : cf3 999 = some (mi_aq D (n + n / 2) (fun i => if i < n then f i else none)) := by rw [hcf3]; exact (mi_up_n (Ne.symm hr9)).trans he2_r
  have he3_r : cf3 r = some (.inr (0, [.int (mcn), .ref (a2), .int (nI (n))])) := by rw [hcf3]; exact mi_up_s
  exact mi_retMr S hr (Or.inr ⟨_, rfl⟩) hk hS dJx4a65c_grow_92f84_44 (by show _ ≤ (1 : Nat); omega) (by show _ ≤ (1000 : Nat); omega) (by rw [had2, hcf3, hcf2] at hW; exact mi_grown hq9 hr9 hrq hf9 hW)
set_option maxHeartbeats 4000000 in
set_option maxRecDepth 100000 in
theorem c_grow1_0 (l : Launch) (D : va_G) (A : Nat → Prop)  (hAu : ∀ a b, A a → a ≤ b → A b){ad : Nat → Nat} {cf : Nat → Option va_E} {r q b : Nat} {mcn : Int32} (hra : ad r = b) (hr0 : cf r = some (.inr (0, [.int mcn, .ref (mi_de D), .int (nI 0)]))) (hr9 : r ≠ 999) (hrq : r ≠ q) : mi_Mr l yJx4a65c_grow_92f84 (Cond.code yJx4a65c_grow_92f84 cJx4a65c_grow_92f84 4 (some (Jvm.ClassFile.FieldType.array (Jvm.ClassFile.FieldType.object "java/lang/Object")))) (mi_rq 3 1 1000) D A (mi_W D A ad cf) [.ref (b), .int (nI (1))] 1 1000 (fun z H => mi_W D A (va_up ad q z) (va_up (va_up cf q (some (mi_aq D 10 (fun _ => none)))) r (some (.inr (0, [.int mcn, .ref z, .int (nI 0)])))) H) := by
  refine mi_start (cc := cJx4a65c_grow_92f84) (nL := 4) (ret := (some (Jvm.ClassFile.FieldType.array (Jvm.ClassFile.FieldType.object "java/lang/Object")))) rfl (by decide) (Nat.le_of_ble_eq_true rfl) ?_
  intro p e s m below meth c ls S E hW hS hr hk hn hl
  have S : CallFix p m c cJx4a65c_grow_92f84 4 s _ ((Cond.code yJx4a65c_grow_92f84 cJx4a65c_grow_92f84 4 (some (Jvm.ClassFile.FieldType.array (Jvm.ClassFile.FieldType.object "java/lang/Object")))) :: mi_G) RJx4a65c := S
  have hl : lv_has ls 4 [(0, .ref (b)), (1, .int (nI (1)))] := hl
  have hA : ∀ q, s.heap.size ≤ q → A q := hW.up hAu hr0
  refine lv_aload_n S.1 S.2.1 dJx4a65c_grow_92f84_0 rfl (lv_at hl 0 rfl) ?_
  refine fg_Jx4a65c_9 S E hW r hra hr0 rfl dJx4a65c_grow_92f84_1 ?_
  refine mi_delen S E hS dJx4a65c_grow_92f84_4 ?_
  refine lv_istore_n (lv' := [(2, .int (nI (0))), (0, .ref (b)), (1, .int (nI (1)))]) S.1 S.2.1 dJx4a65c_grow_92f84_5 rfl hl (by decide) rfl (fun ls hl => ?_)
  refine lv_iload_n S.1 S.2.1 dJx4a65c_grow_92f84_6 rfl (lv_at hl 0 rfl) ?_
  refine mi_if_gt (tgt := 20) S (by omega) dJx4a65c_grow_92f84_7 (by decide) (fun c7_0 => by exfalso; omega) (fun c7_0 => ?_)
  refine lv_aload_n S.1 S.2.1 dJx4a65c_grow_92f84_10 rfl (lv_at hl 1 rfl) ?_
  refine fg_Jx4a65c_9 S E hW r hra hr0 rfl dJx4a65c_grow_92f84_11 ?_
  refine mi_gets S E hS (List.mem_cons_of_mem _ mw_74) dJx4a65c_grow_92f84_14 ?_
  refine mi_acmp_eq (tgt := 45) S dJx4a65c_grow_92f84_17 (by decide) (fun c17_1 => ?_) (fun c17_1 => by exfalso; exact absurd rfl c17_1)
  refine lv_aload_n S.1 S.2.1 dJx4a65c_grow_92f84_45 rfl (lv_at hl 1 rfl) ?_
  refine lv_bipush (v := nI 10) S.1 S.2.1 dJx4a65c_grow_92f84_46 (by decide) ?_
  refine lv_iload_n S.1 S.2.1 dJx4a65c_grow_92f84_48 rfl (lv_at hl 2 rfl) ?_
  refine mi_mmax S (by omega) (by omega) (List.mem_cons_of_mem _ mw_179) (List.mem_cons_of_mem _ mw_144) (List.mem_cons_of_mem _ mw_40) (List.mem_cons_of_mem _ mk_max) hl.1 (Nat.le_of_ble_eq_true rfl) (Nat.le_of_ble_eq_true rfl) (by show _ ≤ (1 : Nat); omega) (by show _ ≤ (1000 : Nat); omega) dJx4a65c_grow_92f84_49 ?_
  refine mi_top (v' := .int (nI (10))) (by rw [if_neg (by omega)]) ?_
  obtain ⟨a3, hn3⟩ : ∃ z, z = s.heap.size := ⟨_, rfl⟩
  refine mi_newq S E hS hA hW q (List.mem_cons_of_mem _ mw_180) (by omega) (by show _ ≤ (1 : Nat); omega) (by show _ ≤ (1000 : Nat); omega) dJx4a65c_grow_92f84_52 (fun H9 hW hS hz => ?_)
  rw [← hn3] at hW hz ⊢
  obtain ⟨H, rfl⟩ : ∃ z, z = H9 := ⟨_, rfl⟩
  obtain ⟨ad3, had3⟩ : ∃ z, z = va_up ad q a3 := ⟨_, rfl⟩
  obtain ⟨cf3, hcf3⟩ : ∃ z, z = va_up cf q (some (mi_aq D 10 (fun _ => none))) := ⟨_, rfl⟩
  have hW : mi_W D A ad3 cf3 H := by rw [had3, hcf3]; exact hW
  have he3_0 : cf3 r = some (.inr (0, [.int (mcn), .ref (mi_de D), .int (nI (0))])) := by rw [hcf3]; exact (mi_up_n hrq).trans hr0
  have ha3_0 : ad3 r = b := by rw [had3]; exact (mi_up_n hrq).trans hra
  have he3_r : cf3 q = some (mi_aq D 10 (fun _ => none)) := by rw [hcf3]; exact mi_up_s
  have ha3_r : ad3 q = a3 := by rw [had3]; exact mi_up_s
  refine lv_dup_x1 S.1 S.2.1 dJx4a65c_grow_92f84_55 rfl rfl ?_
  refine fp_Jx4a65c_9 S E hS hW r ha3_0 he3_0 (Nat.le_of_ble_eq_true rfl) rfl rfl dJx4a65c_grow_92f84_56 (fun H locs hW hS hz => ?_)
  obtain ⟨cf4, hcf4⟩ : ∃ z, z = va_up cf3 r (some (.inr (0, [.int (mcn), .ref (a3), .int (nI (0))]))) := ⟨_, rfl⟩
  have hW : mi_W D A ad3 cf4 H := by rw [hcf4]; exact hW
  have he4_0 : cf4 q = some (mi_aq D 10 (fun _ => none)) := by rw [hcf4]; exact (mi_up_n (Ne.symm hrq)).trans he3_r
  have he4_r : cf4 r = some (.inr (0, [.int (mcn), .ref (a3), .int (nI (0))])) := by rw [hcf4]; exact mi_up_s
  exact mi_retMr S hr (Or.inr ⟨_, rfl⟩) hk hS dJx4a65c_grow_92f84_59 (by show _ ≤ (1 : Nat); omega) (by show _ ≤ (1000 : Nat); omega) (by rw [had3, hcf4, hcf3] at hW; exact hW)
set_option maxHeartbeats 4000000 in
set_option maxRecDepth 100000 in
theorem c_grow0 (l : Launch) (D : va_G) (A : Nat → Prop)  (hAu : ∀ a b, A a → a ≤ b → A b){ad : Nat → Nat} {cf : Nat → Option va_E} {r q a b n : Nat} {mcn : Int32} {f : Nat → Option Nat} (hra : ad r = b) (ha0 : ad q = a) (hr0 : cf r = some (.inr (0, [.int mcn, .ref a, .int (nI n)]))) (hq0 : cf q = some (mi_aq D n f)) (hel : mi_els ad cf n f) (h10 : 10 ≤ n) (h60 : n ≤ 60) (hr9 : r ≠ 999) (hq9 : q ≠ 999) (hrq : r ≠ q) (hf9 : cf 999 = none) : mi_Mr l yJx4a65c_grow_d5877 (Cond.code yJx4a65c_grow_d5877 cJx4a65c_grow_d5877 1 (some (Jvm.ClassFile.FieldType.array (Jvm.ClassFile.FieldType.object "java/lang/Object")))) (mi_rq 4 1 1000) D A (mi_W D A ad cf) [.ref (b)] 1 1000 (fun z H => mi_W D A (va_up ad q z) (va_up (va_up cf q (some (mi_aq D (n + n / 2) (fun i => if i < n then f i else none)))) r (some (.inr (0, [.int mcn, .ref z, .int (nI n)])))) H) := by
  refine mi_start (cc := cJx4a65c_grow_d5877) (nL := 1) (ret := (some (Jvm.ClassFile.FieldType.array (Jvm.ClassFile.FieldType.object "java/lang/Object")))) rfl (by decide) (Nat.le_of_ble_eq_true rfl) ?_
  intro p e s m below meth c ls S E hW hS hr hk hn hl
  have S : CallFix p m c cJx4a65c_grow_d5877 1 s _ ((Cond.code yJx4a65c_grow_d5877 cJx4a65c_grow_d5877 1 (some (Jvm.ClassFile.FieldType.array (Jvm.ClassFile.FieldType.object "java/lang/Object")))) :: mi_G) RJx4a65c := S
  have hl : lv_has ls 1 [(0, .ref (b))] := hl
  refine lv_aload_n S.1 S.2.1 dJx4a65c_grow_d5877_0 rfl (lv_at hl 0 rfl) ?_
  refine lv_aload_n S.1 S.2.1 dJx4a65c_grow_d5877_1 rfl (lv_at hl 0 rfl) ?_
  refine fg_Jx4a65c_48 S E hW r hra hr0 rfl dJx4a65c_grow_d5877_2 ?_
  refine lv_iconst (v := nI 1) S.1 S.2.1 dJx4a65c_grow_d5877_5 (by decide) ?_
  refine mi_iadd S dJx4a65c_grow_d5877_6 ?_
  refine mi_cMr (mi_runV (P := mi_W D A ad cf) (As := [.int (nI (n + 1))]) (rest := []) S E hS hW b (c_grow1 l D A hAu hra ha0 hr0 hq0 hel h10 h60 hr9 hq9 hrq hf9) (hW.recvA E hra hr0 rfl) mw_139 mw_136 mw_138 mw_2 mw_36 ⟨by decide, by decide, by decide +kernel⟩ ⟨rfl, rfl, Nat.le_of_ble_eq_true rfl, Nat.le_of_ble_eq_true rfl⟩ (n := 1) rfl hl.1 rfl (Nat.le_of_ble_eq_true rfl) dJx4a65c_grow_d5877_7 ⟨(by show _ ≤ (1 : Nat); omega), (by show _ ≤ (1000 : Nat); omega)⟩) hS (fun r9 H locs hW hS hz => ?_)
  obtain ⟨a1, rfl⟩ : ∃ z, z = r9 := ⟨_, rfl⟩
  obtain ⟨ad1, had1⟩ : ∃ z, z = va_up ad q a1 := ⟨_, rfl⟩
  obtain ⟨cf1, hcf1⟩ : ∃ z, z = va_up (va_up cf q (some (mi_aq D (n + n / 2) (fun i => if i < n then f i else none)))) r (some (.inr (0, [.int (mcn), .ref (a1), .int (nI (n))]))) := ⟨_, rfl⟩
  have hW : mi_W D A ad1 cf1 H := by rw [had1, hcf1]; exact hW
  have he1_0 : cf1 q = some (mi_aq D (n + n / 2) (fun i => if i < n then f i else none)) := by rw [hcf1]; rw [mi_up_n (Ne.symm hrq), mi_up_s]
  have ha1_0 : ad1 q = a1 := by rw [had1]; exact mi_up_s
  have he1_1 : cf1 r = some (.inr (0, [.int (mcn), .ref (a1), .int (nI (n))])) := by rw [hcf1]; exact mi_up_s
  have ha1_1 : ad1 r = b := by rw [had1]; exact (mi_up_n hrq).trans hra
  exact mi_retMr S hr (Or.inr ⟨_, rfl⟩) hk hS dJx4a65c_grow_d5877_10 (by show _ ≤ (1 : Nat); omega) (by show _ ≤ (1000 : Nat); omega) (by rw [had1, hcf1] at hW; exact hW)
set_option maxHeartbeats 4000000 in
set_option maxRecDepth 100000 in
theorem c_grow0_0 (l : Launch) (D : va_G) (A : Nat → Prop)  (hAu : ∀ a b, A a → a ≤ b → A b){ad : Nat → Nat} {cf : Nat → Option va_E} {r q b : Nat} {mcn : Int32} (hra : ad r = b) (hr0 : cf r = some (.inr (0, [.int mcn, .ref (mi_de D), .int (nI 0)]))) (hr9 : r ≠ 999) (hrq : r ≠ q) : mi_Mr l yJx4a65c_grow_d5877 (Cond.code yJx4a65c_grow_d5877 cJx4a65c_grow_d5877 1 (some (Jvm.ClassFile.FieldType.array (Jvm.ClassFile.FieldType.object "java/lang/Object")))) (mi_rq 4 1 1000) D A (mi_W D A ad cf) [.ref (b)] 1 1000 (fun z H => mi_W D A (va_up ad q z) (va_up (va_up cf q (some (mi_aq D 10 (fun _ => none)))) r (some (.inr (0, [.int mcn, .ref z, .int (nI 0)])))) H) := by
  refine mi_start (cc := cJx4a65c_grow_d5877) (nL := 1) (ret := (some (Jvm.ClassFile.FieldType.array (Jvm.ClassFile.FieldType.object "java/lang/Object")))) rfl (by decide) (Nat.le_of_ble_eq_true rfl) ?_
  intro p e s m below meth c ls S E hW hS hr hk hn hl
  have S : CallFix p m c cJx4a65c_grow_d5877 1 s _ ((Cond.code yJx4a65c_grow_d5877 cJx4a65c_grow_d5877 1 (some (Jvm.ClassFile.FieldType.array (Jvm.ClassFile.FieldType.object "java/lang/Object")))) :: mi_G) RJx4a65c := S
  have hl : lv_has ls 1 [(0, .ref (b))] := hl
  refine lv_aload_n S.1 S.2.1 dJx4a65c_grow_d5877_0 rfl (lv_at hl 0 rfl) ?_
  refine lv_aload_n S.1 S.2.1 dJx4a65c_grow_d5877_1 rfl (lv_at hl 0 rfl) ?_
  refine fg_Jx4a65c_48 S E hW r hra hr0 rfl dJx4a65c_grow_d5877_2 ?_
  refine lv_iconst (v := nI 1) S.1 S.2.1 dJx4a65c_grow_d5877_5 (by decide) ?_
  refine mi_iadd S dJx4a65c_grow_d5877_6 ?_
  refine mi_top (v' := .int (nI (1))) (rfl) ?_
  refine mi_cMr (mi_runV (P := mi_W D A ad cf) (As := [.int (nI (1))]) (rest := []) S E hS hW b (c_grow1_0 l D A hAu hra hr0 hr9 hrq) (hW.recvA E hra hr0 rfl) mw_139 mw_136 mw_138 mw_2 mw_36 ⟨by decide, by decide, by decide +kernel⟩ ⟨rfl, rfl, Nat.le_of_ble_eq_true rfl, Nat.le_of_ble_eq_true rfl⟩ (n := 1) rfl hl.1 rfl (Nat.le_of_ble_eq_true rfl) dJx4a65c_grow_d5877_7 ⟨(by show _ ≤ (1 : Nat); omega), (by show _ ≤ (1000 : Nat); omega)⟩) hS (fun r9 H locs hW hS hz => ?_)
  obtain ⟨a1, rfl⟩ : ∃ z, z = r9 := ⟨_, rfl⟩
  obtain ⟨ad1, had1⟩ : ∃ z, z = va_up ad q a1 := ⟨_, rfl⟩
  obtain ⟨cf1, hcf1⟩ : ∃ z, z = va_up (va_up cf q (some (mi_aq D 10 (fun _ => none)))) r (some (.inr (0, [.int (mcn), .ref (a1), .int (nI (0))]))) := ⟨_, rfl⟩
  have hW : mi_W D A ad1 cf1 H := by rw [had1, hcf1]; exact hW
  have he1_0 : cf1 q = some (mi_aq D 10 (fun _ => none)) := by rw [hcf1]; rw [mi_up_n (Ne.symm hrq), mi_up_s]
  have ha1_0 : ad1 q = a1 := by rw [had1]; exact mi_up_s
  have he1_1 : cf1 r = some (.inr (0, [.int (mcn), .ref (a1), .int (nI (0))])) := by rw [hcf1]; exact mi_up_s
  have ha1_1 : ad1 r = b := by rw [had1]; exact (mi_up_n hrq).trans hra
  exact mi_retMr S hr (Or.inr ⟨_, rfl⟩) hk hS dJx4a65c_grow_d5877_10 (by show _ ≤ (1 : Nat); omega) (by show _ ≤ (1000 : Nat); omega) (by rw [had1, hcf1] at hW; exact hW)
set_option maxHeartbeats 4000000 in
set_option maxRecDepth 100000 in
theorem c_add3 (l : Launch) (D : va_G) (A : Nat → Prop)  (hAu : ∀ a b, A a → a ≤ b → A b){ad : Nat → Nat} {cf : Nat → Option va_E} {r q a b n cap : Nat} {mcn : Int32} {f : Nat → Option Nat} (hra : ad r = b) (ha0 : ad q = a) (hr0 : cf r = some (.inr (0, [.int mcn, .ref a, .int (nI n)]))) (hq0 : cf q = some (mi_aq D cap f)) (hnc : n < cap) (hcap : cap ≤ 1000) (hr9 : r ≠ 999) (hq9 : q ≠ 999) (hrq : r ≠ q) {ro ao ci : Nat} {fo : List Value} {xo : vw_C} (hao : ad ro = ao) (hro : cf ro = some (.inr (ci, fo))) (hci : vwCl[ci]? = some xo) (hcast : (xo.1, mi_ob) ∈ mi_casts) (hor : ro ≠ r) (hoq : ro ≠ q) (ho9 : ro ≠ 999) : mi_Mv l yJx4a65c_add_72be8 (Cond.code yJx4a65c_add_72be8 cJx4a65c_add_72be8 4 none) (mi_rq 5 1 1000) D A (mi_W D A ad cf) [.ref (b), .ref (ao), .ref (a), .int (nI (n))] 1 1000 (fun H => mi_W D A ad (va_up (va_up cf q (some (mi_aq D cap (va_up f n (some ao))))) r (some (.inr (0, [.int mcn, .ref a, .int (nI (n + 1))])))) H) := by
  refine mi_start (cc := cJx4a65c_add_72be8) (nL := 4) (ret := none) rfl (by decide) (Nat.le_of_ble_eq_true rfl) ?_
  intro p e s m below meth c ls S E hW hS hr hk hn hl
  have S : CallFix p m c cJx4a65c_add_72be8 4 s _ ((Cond.code yJx4a65c_add_72be8 cJx4a65c_add_72be8 4 none) :: mi_G) RJx4a65c := S
  have hl : lv_has ls 4 [(0, .ref (b)), (1, .ref (ao)), (2, .ref (a)), (3, .int (nI (n)))] := hl
  refine lv_iload_n S.1 S.2.1 dJx4a65c_add_72be8_0 rfl (lv_at hl 3 rfl) ?_
  refine lv_aload_n S.1 S.2.1 dJx4a65c_add_72be8_1 rfl (lv_at hl 2 rfl) ?_
  refine mi_alen S E hW q 1 ha0 hq0 rfl dJx4a65c_add_72be8_2 ?_
  refine mi_top (v' := .int (nI (cap))) rfl ?_
  refine mi_icmp_ne (tgt := 11) S (by omega) (by omega) dJx4a65c_add_72be8_3 (by decide) (fun c3_0 => ?_) (fun c3_0 => by exfalso; omega)
  refine lv_aload_n S.1 S.2.1 dJx4a65c_add_72be8_11 rfl (lv_at hl 2 rfl) ?_
  refine lv_iload_n S.1 S.2.1 dJx4a65c_add_72be8_12 rfl (lv_at hl 3 rfl) ?_
  refine lv_aload_n S.1 S.2.1 dJx4a65c_add_72be8_13 rfl (lv_at hl 1 rfl) ?_
  refine mi_aast S E hS hW q ro ha0 hao hq0 hro hci hcast (by omega) (by omega) dJx4a65c_add_72be8_14 (fun H locs hW hS hz => ?_)
  obtain ⟨cf2, hcf2⟩ : ∃ z, z = va_up cf q (some (mi_aq D cap (va_up (f) n (some ao)))) := ⟨_, rfl⟩
  have hW : mi_W D A ad cf2 H := by rw [hcf2]; rw [← hao]; exact hW
  have he2_0 : cf2 r = some (.inr (0, [.int (mcn), .ref (a), .int (nI (n))])) := by rw [hcf2]; exact (mi_up_n hrq).trans hr0
  have he2_1 : cf2 ro = some (.inr (ci, fo)) := by rw [hcf2]; exact (mi_up_n hoq).trans hro
  have he2_r : cf2 q = some (mi_aq D cap (va_up (f) n (some ao))) := by rw [hcf2]; exact mi_up_s
  refine lv_aload_n S.1 S.2.1 dJx4a65c_add_72be8_15 rfl (lv_at hl 0 rfl) ?_
  refine lv_iload_n S.1 S.2.1 dJx4a65c_add_72be8_16 rfl (lv_at hl 3 rfl) ?_
  refine lv_iconst (v := nI 1) S.1 S.2.1 dJx4a65c_add_72be8_17 (by decide) ?_
  refine mi_iadd S dJx4a65c_add_72be8_18 ?_
  refine fp_Jx4a65c_48 S E hS hW r hra he2_0 (Nat.le_of_ble_eq_true rfl) dJx4a65c_add_72be8_19 (fun H locs hW hS hz => ?_)
  obtain ⟨cf3, hcf3⟩ : ∃ z, z = va_up cf2 r (some (.inr (0, [.int (mcn), .ref (a), .int (nI (n + 1))]))) := ⟨_, rfl⟩
  have hW : mi_W D A ad cf3 H := by rw [hcf3]; exact hW
  have he3_0 : cf3 ro = some (.inr (ci, fo)) := by rw [hcf3]; exact (mi_up_n hor).trans he2_1
  have he3_1 : cf3 q = some (mi_aq D cap (va_up (f) n (some ao))) := by rw [hcf3]; exact (mi_up_n (Ne.symm hrq)).trans he2_r
  have he3_r : cf3 r = some (.inr (0, [.int (mcn), .ref (a), .int (nI (n + 1))])) := by rw [hcf3]; exact mi_up_s
  exact mi_retMv S hr hk hS dJx4a65c_add_72be8_22 (by show _ ≤ (1 : Nat); omega) (by show _ ≤ (1000 : Nat); omega) (by rw [hcf3, hcf2] at hW; exact hW)
theorem mi_sw3 {α : Type} {cf : Nat → α} {q r : Nat} {e1 e2 e3 e4 : α} (h : r ≠ q) : va_up (va_up (va_up (va_up cf q e1) r e2) q e3) r e4 = va_up (va_up cf q e3) r e4 := by
  funext k
  by_cases hr : k = r
  · subst hr
    rw [mi_up_s, mi_up_s]
  · rw [mi_up_n hr, mi_up_n hr]
    by_cases hq : k = q
    · subst hq
      rw [mi_up_s, mi_up_s]
    · rw [mi_up_n hq, mi_up_n hq, mi_up_n hr, mi_up_n hq]
set_option maxHeartbeats 4000000 in
set_option maxRecDepth 100000 in
theorem c_add3_f (l : Launch) (D : va_G) (A : Nat → Prop)  (hAu : ∀ a b, A a → a ≤ b → A b){ad : Nat → Nat} {cf : Nat → Option va_E} {r q a b n : Nat} {mcn : Int32} {f : Nat → Option Nat} (hra : ad r = b) (ha0 : ad q = a) (hr0 : cf r = some (.inr (0, [.int mcn, .ref a, .int (nI n)]))) (hq0 : cf q = some (mi_aq D n f)) (hel : mi_els ad cf n f) (h10 : 10 ≤ n) (h60 : n ≤ 60) (hr9 : r ≠ 999) (hq9 : q ≠ 999) (hrq : r ≠ q) (hf9 : cf 999 = none) {ro ao ci : Nat} {fo : List Value} {xo : vw_C} (hao : ad ro = ao) (hro : cf ro = some (.inr (ci, fo))) (hci : vwCl[ci]? = some xo) (hcast : (xo.1, mi_ob) ∈ mi_casts) (hor : ro ≠ r) (hoq : ro ≠ q) (ho9 : ro ≠ 999) : mi_Mv l yJx4a65c_add_72be8 (Cond.code yJx4a65c_add_72be8 cJx4a65c_add_72be8 4 none) (mi_rq 5 1 1000) D A (mi_W D A ad cf) [.ref (b), .ref (ao), .ref (a), .int (nI (n))] 1 1000 (fun H => ∃ z, mi_W D A (va_up ad q z) (va_up (va_up cf q (some (mi_aq D (n + n / 2) (va_up (fun i => if i < n then f i else none) n (some ao))))) r (some (.inr (0, [.int mcn, .ref z, .int (nI (n + 1))])))) H) := by
  refine mi_start (cc := cJx4a65c_add_72be8) (nL := 4) (ret := none) rfl (by decide) (Nat.le_of_ble_eq_true rfl) ?_
  intro p e s m below meth c ls S E hW hS hr hk hn hl
  have S : CallFix p m c cJx4a65c_add_72be8 4 s _ ((Cond.code yJx4a65c_add_72be8 cJx4a65c_add_72be8 4 none) :: mi_G) RJx4a65c := S
  have hl : lv_has ls 4 [(0, .ref (b)), (1, .ref (ao)), (2, .ref (a)), (3, .int (nI (n)))] := hl
  refine lv_iload_n S.1 S.2.1 dJx4a65c_add_72be8_0 rfl (lv_at hl 3 rfl) ?_
  refine lv_aload_n S.1 S.2.1 dJx4a65c_add_72be8_1 rfl (lv_at hl 2 rfl) ?_
  refine mi_alen S E hW q 1 ha0 hq0 rfl dJx4a65c_add_72be8_2 ?_
  refine mi_top (v' := .int (nI (n))) rfl ?_
  refine mi_icmp_ne (tgt := 11) S (by omega) (by omega) dJx4a65c_add_72be8_3 (by decide) (fun c3_0 => by exfalso; exact absurd rfl c3_0) (fun c3_0 => ?_)
  refine lv_aload_n S.1 S.2.1 dJx4a65c_add_72be8_6 rfl (lv_at hl 0 rfl) ?_
  refine mi_cMr (mi_runV (P := mi_W D A ad cf) (As := []) (rest := []) S E hS hW b (c_grow0 l D A hAu hra ha0 hr0 hq0 hel h10 h60 hr9 hq9 hrq hf9) (hW.recvA E hra hr0 rfl) mw_135 mw_132 mw_134 mw_1 mw_36 ⟨by decide, by decide, by decide +kernel⟩ ⟨rfl, rfl, Nat.le_of_ble_eq_true rfl, Nat.le_of_ble_eq_true rfl⟩ (n := 0) rfl hl.1 rfl (Nat.le_of_ble_eq_true rfl) dJx4a65c_add_72be8_7 ⟨(by show _ ≤ (1 : Nat); omega), (by show _ ≤ (1000 : Nat); omega)⟩) hS (fun r9 H locs hW hS hz => ?_)
  obtain ⟨a2, rfl⟩ : ∃ z, z = r9 := ⟨_, rfl⟩
  obtain ⟨ad2, had2⟩ : ∃ z, z = va_up ad q a2 := ⟨_, rfl⟩
  obtain ⟨cf2, hcf2⟩ : ∃ z, z = va_up (va_up cf q (some (mi_aq D (n + n / 2) (fun i => if i < n then f i else none)))) r (some (.inr (0, [.int (mcn), .ref (a2), .int (nI (n))]))) := ⟨_, rfl⟩
  have hW : mi_W D A ad2 cf2 H := by rw [had2, hcf2]; exact hW
  have he2_0 : cf2 q = some (mi_aq D (n + n / 2) (fun i => if i < n then f i else none)) := by rw [hcf2]; rw [mi_up_n (Ne.symm hrq), mi_up_s]
  have ha2_0 : ad2 q = a2 := by rw [had2]; exact mi_up_s
  have he2_1 : cf2 r = some (.inr (0, [.int (mcn), .ref (a2), .int (nI (n))])) := by rw [hcf2]; exact mi_up_s
  have ha2_1 : ad2 r = b := by rw [had2]; exact (mi_up_n hrq).trans hra
  have he2_2 : cf2 ro = some (.inr (ci, fo)) := by rw [hcf2]; exact (mi_up_n hor).trans ((mi_up_n hoq).trans hro)
  have ha2_2 : ad2 ro = ao := by rw [had2]; exact (mi_up_n hoq).trans hao
  refine lv_astore_n (lv' := [(2, .ref (a2)), (0, .ref (b)), (1, .ref (ao)), (3, .int (nI (n)))]) S.1 S.2.1 dJx4a65c_add_72be8_10 rfl hl (by decide) rfl (fun ls hl => ?_)
  refine lv_aload_n S.1 S.2.1 dJx4a65c_add_72be8_11 rfl (lv_at hl 0 rfl) ?_
  refine lv_iload_n S.1 S.2.1 dJx4a65c_add_72be8_12 rfl (lv_at hl 3 rfl) ?_
  refine lv_aload_n S.1 S.2.1 dJx4a65c_add_72be8_13 rfl (lv_at hl 2 rfl) ?_
  refine mi_aast S E hS hW q ro ha2_0 ha2_2 he2_0 he2_2 hci hcast (by omega) (by omega) dJx4a65c_add_72be8_14 (fun H locs hW hS hz => ?_)
  obtain ⟨cf3, hcf3⟩ : ∃ z, z = va_up cf2 q (some (mi_aq D (n + n / 2) (va_up (fun i => if i < n then f i else none) n (some ao)))) := ⟨_, rfl⟩
  have hW : mi_W D A ad2 cf3 H := by rw [hcf3]; rw [← ha2_2]; exact hW
  have he3_0 : cf3 r = some (.inr (0, [.int (mcn), .ref (a2), .int (nI (n))])) := by rw [hcf3]; exact (mi_up_n hrq).trans he2_1
  have he3_1 : cf3 ro = some (.inr (ci, fo)) := by rw [hcf3]; exact (mi_up_n hoq).trans he2_2
  have he3_r : cf3 q = some (mi_aq D (n + n / 2) (va_up (fun i => if i < n then f i else none) n (some ao))) := by rw [hcf3]; exact mi_up_s
  refine lv_aload_n S.1 S.2.1 dJx4a65c_add_72be8_15 rfl (lv_at hl 1 rfl) ?_
  refine lv_iload_n S.1 S.2.1 dJx4a65c_add_72be8_16 rfl (lv_at hl 3 rfl) ?_
  refine lv_iconst (v := nI 1) S.1 S.2.1 dJx4a65c_add_72be8_17 (by decide) ?_
  refine mi_iadd S dJx4a65c_add_72be8_18 ?_
  refine fp_Jx4a65c_48 S E hS hW r ha2_1 he3_0 (Nat.le_of_ble_eq_true rfl) dJx4a65c_add_72be8_19 (fun H locs hW hS hz => ?_)
  obtain ⟨cf4, hcf4⟩ : ∃ z, z = va_up cf3 r (some (.inr (0, [.int (mcn), .ref (a2), .int (nI (n + 1))]))) := ⟨_, rfl⟩
  have hW : mi_W D A ad2 cf4 H := by rw [hcf4]; exact hW
  have he4_0 : cf4 ro = some (.inr (ci, fo)) := by rw [hcf4]; exact (mi_up_n hor).trans he3_1
  have he4_1 : cf4 q = some (mi_aq D (n + n / 2) (va_up (fun i => if i < n then f i else none) n (some ao))) := by rw [hcf4]; exact (mi_up_n (Ne.symm hrq)).trans he3_r
  have he4_r : cf4 r = some (.inr (0, [.int (mcn), .ref (a2), .int (nI (n + 1))])) := by rw [hcf4]; exact mi_up_s
  exact mi_retMv S hr hk hS dJx4a65c_add_72be8_22 (by show _ ≤ (1 : Nat); omega) (by show _ ≤ (1000 : Nat); omega) (⟨a2, by rw [had2, hcf4, hcf3, hcf2] at hW; rw [mi_sw3 hrq] at hW; exact hW⟩)
set_option maxHeartbeats 4000000 in
set_option maxRecDepth 100000 in
theorem c_add3_0 (l : Launch) (D : va_G) (A : Nat → Prop)  (hAu : ∀ a b, A a → a ≤ b → A b){ad : Nat → Nat} {cf : Nat → Option va_E} {r q b : Nat} {mcn : Int32} (hra : ad r = b) (hr0 : cf r = some (.inr (0, [.int mcn, .ref (mi_de D), .int (nI 0)]))) (hr9 : r ≠ 999) (hrq : r ≠ q) {ro ao ci : Nat} {fo : List Value} {xo : vw_C} (hao : ad ro = ao) (hro : cf ro = some (.inr (ci, fo))) (hci : vwCl[ci]? = some xo) (hcast : (xo.1, mi_ob) ∈ mi_casts) (hor : ro ≠ r) (hoq : ro ≠ q) (ho9 : ro ≠ 999) : mi_Mv l yJx4a65c_add_72be8 (Cond.code yJx4a65c_add_72be8 cJx4a65c_add_72be8 4 none) (mi_rq 5 1 1000) D A (mi_W D A ad cf) [.ref (b), .ref (ao), .ref (mi_de D), .int (nI (0))] 1 1000 (fun H => ∃ z, mi_W D A (va_up ad q z) (va_up (va_up cf q (some (mi_aq D 10 (va_up (fun _ => none) 0 (some ao))))) r (some (.inr (0, [.int mcn, .ref z, .int (nI (0 + 1))])))) H) := by
  refine mi_start (cc := cJx4a65c_add_72be8) (nL := 4) (ret := none) rfl (by decide) (Nat.le_of_ble_eq_true rfl) ?_
  intro p e s m below meth c ls S E hW hS hr hk hn hl
  have S : CallFix p m c cJx4a65c_add_72be8 4 s _ ((Cond.code yJx4a65c_add_72be8 cJx4a65c_add_72be8 4 none) :: mi_G) RJx4a65c := S
  have hl : lv_has ls 4 [(0, .ref (b)), (1, .ref (ao)), (2, .ref (mi_de D)), (3, .int (nI (0)))] := hl
  refine lv_iload_n S.1 S.2.1 dJx4a65c_add_72be8_0 rfl (lv_at hl 3 rfl) ?_
  refine lv_aload_n S.1 S.2.1 dJx4a65c_add_72be8_1 rfl (lv_at hl 2 rfl) ?_
  refine mi_delen S E hS dJx4a65c_add_72be8_2 ?_
  refine mi_icmp_ne (tgt := 11) S (by omega) (by omega) dJx4a65c_add_72be8_3 (by decide) (fun c3_0 => by exfalso; exact absurd rfl c3_0) (fun c3_0 => ?_)
  refine lv_aload_n S.1 S.2.1 dJx4a65c_add_72be8_6 rfl (lv_at hl 0 rfl) ?_
  refine mi_cMr (mi_runV (P := mi_W D A ad cf) (As := []) (rest := []) S E hS hW b (c_grow0_0 l D A hAu hra hr0 hr9 hrq) (hW.recvA E hra hr0 rfl) mw_135 mw_132 mw_134 mw_1 mw_36 ⟨by decide, by decide, by decide +kernel⟩ ⟨rfl, rfl, Nat.le_of_ble_eq_true rfl, Nat.le_of_ble_eq_true rfl⟩ (n := 0) rfl hl.1 rfl (Nat.le_of_ble_eq_true rfl) dJx4a65c_add_72be8_7 ⟨(by show _ ≤ (1 : Nat); omega), (by show _ ≤ (1000 : Nat); omega)⟩) hS (fun r9 H locs hW hS hz => ?_)
  obtain ⟨a2, rfl⟩ : ∃ z, z = r9 := ⟨_, rfl⟩
  obtain ⟨ad2, had2⟩ : ∃ z, z = va_up ad q a2 := ⟨_, rfl⟩
  obtain ⟨cf2, hcf2⟩ : ∃ z, z = va_up (va_up cf q (some (mi_aq D 10 (fun _ => none)))) r (some (.inr (0, [.int (mcn), .ref (a2), .int (nI (0))]))) := ⟨_, rfl⟩
  have hW : mi_W D A ad2 cf2 H := by rw [had2, hcf2]; exact hW
  have he2_0 : cf2 q = some (mi_aq D 10 (fun _ => none)) := by rw [hcf2]; rw [mi_up_n (Ne.symm hrq), mi_up_s]
  have ha2_0 : ad2 q = a2 := by rw [had2]; exact mi_up_s
  have he2_1 : cf2 r = some (.inr (0, [.int (mcn), .ref (a2), .int (nI (0))])) := by rw [hcf2]; exact mi_up_s
  have ha2_1 : ad2 r = b := by rw [had2]; exact (mi_up_n hrq).trans hra
  have he2_2 : cf2 ro = some (.inr (ci, fo)) := by rw [hcf2]; exact (mi_up_n hor).trans ((mi_up_n hoq).trans hro)
  have ha2_2 : ad2 ro = ao := by rw [had2]; exact (mi_up_n hoq).trans hao
  refine lv_astore_n (lv' := [(2, .ref (a2)), (0, .ref (b)), (1, .ref (ao)), (3, .int (nI (0)))]) S.1 S.2.1 dJx4a65c_add_72be8_10 rfl hl (by decide) rfl (fun ls hl => ?_)
  refine lv_aload_n S.1 S.2.1 dJx4a65c_add_72be8_11 rfl (lv_at hl 0 rfl) ?_
  refine lv_iload_n S.1 S.2.1 dJx4a65c_add_72be8_12 rfl (lv_at hl 3 rfl) ?_
  refine lv_aload_n S.1 S.2.1 dJx4a65c_add_72be8_13 rfl (lv_at hl 2 rfl) ?_
  refine mi_aast S E hS hW q ro ha2_0 ha2_2 he2_0 he2_2 hci hcast (by omega) (by omega) dJx4a65c_add_72be8_14 (fun H locs hW hS hz => ?_)
  obtain ⟨cf3, hcf3⟩ : ∃ z, z = va_up cf2 q (some (mi_aq D 10 (va_up (fun _ => none) 0 (some ao)))) := ⟨_, rfl⟩
  have hW : mi_W D A ad2 cf3 H := by rw [hcf3]; rw [← ha2_2]; exact hW
  have he3_0 : cf3 r = some (.inr (0, [.int (mcn), .ref (a2), .int (nI (0))])) := by rw [hcf3]; exact (mi_up_n hrq).trans he2_1
  have he3_1 : cf3 ro = some (.inr (ci, fo)) := by rw [hcf3]; exact (mi_up_n hoq).trans he2_2
  have he3_r : cf3 q = some (mi_aq D 10 (va_up (fun _ => none) 0 (some ao))) := by rw [hcf3]; exact mi_up_s
  refine lv_aload_n S.1 S.2.1 dJx4a65c_add_72be8_15 rfl (lv_at hl 1 rfl) ?_
  refine lv_iload_n S.1 S.2.1 dJx4a65c_add_72be8_16 rfl (lv_at hl 3 rfl) ?_
  refine lv_iconst (v := nI 1) S.1 S.2.1 dJx4a65c_add_72be8_17 (by decide) ?_
  refine mi_iadd S dJx4a65c_add_72be8_18 ?_
  refine fp_Jx4a65c_48 S E hS hW r ha2_1 he3_0 (Nat.le_of_ble_eq_true rfl) dJx4a65c_add_72be8_19 (fun H locs hW hS hz => ?_)
  obtain ⟨cf4, hcf4⟩ : ∃ z, z = va_up cf3 r (some (.inr (0, [.int (mcn), .ref (a2), .int (nI (0 + 1))]))) := ⟨_, rfl⟩
  have hW : mi_W D A ad2 cf4 H := by rw [hcf4]; exact hW
  have he4_0 : cf4 ro = some (.inr (ci, fo)) := by rw [hcf4]; exact (mi_up_n hor).trans he3_1
  have he4_1 : cf4 q = some (mi_aq D 10 (va_up (fun _ => none) 0 (some ao))) := by rw [hcf4]; exact (mi_up_n (Ne.symm hrq)).trans he3_r
  have he4_r : cf4 r = some (.inr (0, [.int (mcn), .ref (a2), .int (nI (0 + 1))])) := by rw [hcf4]; exact mi_up_s
  exact mi_retMv S hr hk hS dJx4a65c_add_72be8_22 (by show _ ≤ (1 : Nat); omega) (by show _ ≤ (1000 : Nat); omega) (⟨a2, by rw [had2, hcf4, hcf3, hcf2] at hW; rw [mi_sw3 hrq] at hW; exact hW⟩)
theorem mi_sw2 {α : Type} {cf : Nat → α} {q r : Nat} {e1 e2 e3 : α} (h : r ≠ q) : va_up (va_up (va_up cf r e1) q e2) r e3 = va_up (va_up cf q e2) r e3 := by
  funext k
  by_cases hr : k = r
  · subst hr
    rw [mi_up_s, mi_up_s]
  · rw [mi_up_n hr, mi_up_n hr]
    by_cases hq : k = q
    · subst hq
      rw [mi_up_s, mi_up_s]
    · rw [mi_up_n hq, mi_up_n hq, mi_up_n hr]
theorem mi_els_up {ad : Nat → Nat} {cf cf1 : Nat → Option va_E} {n r : Nat} {f : Nat → Option Nat} {e : va_E} (h : mi_els ad cf n f) (h1 : cf1 = va_up cf r (some e)) (hr : ∀ i, i < n → f i ≠ some (ad r)) : mi_els ad cf1 n f := by
  intro i hi y hy
  obtain ⟨ro, ci, fs, q9, e1, e2, e3, e4⟩ := h i hi y hy
  have hro : ro ≠ r := fun z => hr i hi (by rw [hy, e1, z])
  exact ⟨ro, ci, fs, q9, e1, by rw [h1, mi_up_n hro]; exact e2, e3, e4⟩
set_option maxHeartbeats 4000000 in
set_option maxRecDepth 100000 in
theorem c_add (l : Launch) (D : va_G) (A : Nat → Prop)  (hAu : ∀ a b, A a → a ≤ b → A b){ad : Nat → Nat} {cf : Nat → Option va_E} {r q a b n cap : Nat} {mcn : Int32} {f : Nat → Option Nat} (hra : ad r = b) (ha0 : ad q = a) (hr0 : cf r = some (.inr (0, [.int mcn, .ref a, .int (nI n)]))) (hq0 : cf q = some (mi_aq D cap f)) (hnc : n < cap) (hcap : cap ≤ 1000) (hr9 : r ≠ 999) (hq9 : q ≠ 999) (hrq : r ≠ q) {ro ao ci : Nat} {fo : List Value} {xo : vw_C} (hao : ad ro = ao) (hro : cf ro = some (.inr (ci, fo))) (hci : vwCl[ci]? = some xo) (hcast : (xo.1, mi_ob) ∈ mi_casts) (hor : ro ≠ r) (hoq : ro ≠ q) (ho9 : ro ≠ 999) : mi_Mi l yJx4a65c_add_9ea2d (Cond.code yJx4a65c_add_9ea2d cJx4a65c_add_9ea2d 2 (some Jvm.ClassFile.FieldType.boolean)) (mi_rq 6 1 1000) D A (mi_W D A ad cf) [.ref (b), .ref (ao)] 1 1000 (fun x H => x = 1 ∧ mi_W D A ad (va_up (va_up cf q (some (mi_aq D cap (va_up f n (some ao))))) r (some (.inr (0, [.int (mcn + nI 1), .ref a, .int (nI (n + 1))])))) H) := by
  refine mi_start (cc := cJx4a65c_add_9ea2d) (nL := 2) (ret := (some Jvm.ClassFile.FieldType.boolean)) rfl (by decide) (Nat.le_of_ble_eq_true rfl) ?_
  intro p e s m below meth c ls S E hW hS hr hk hn hl
  have S : CallFix p m c cJx4a65c_add_9ea2d 2 s _ ((Cond.code yJx4a65c_add_9ea2d cJx4a65c_add_9ea2d 2 (some Jvm.ClassFile.FieldType.boolean)) :: mi_G) RJx4a65c := S
  have hl : lv_has ls 2 [(0, .ref (b)), (1, .ref (ao))] := hl
  refine lv_aload_n S.1 S.2.1 dJx4a65c_add_9ea2d_0 rfl (lv_at hl 0 rfl) ?_
  refine lv_dup S.1 S.2.1 dJx4a65c_add_9ea2d_1 rfl ?_
  refine fg_Jx4a65c_63 S E hW r hra hr0 rfl dJx4a65c_add_9ea2d_2 ?_
  refine lv_iconst (v := nI 1) S.1 S.2.1 dJx4a65c_add_9ea2d_5 (by decide) ?_
  refine lv_iadd S.1 S.2.1 dJx4a65c_add_9ea2d_6 ?_
  refine fp_Jx4a65c_63 S E hS hW r hra hr0 (Nat.le_of_ble_eq_true rfl) dJx4a65c_add_9ea2d_7 (fun H locs hW hS hz => ?_)
  obtain ⟨cf1, hcf1⟩ : ∃ z, z = va_up cf r (some (.inr (0, [.int (mcn + (nI (1))), .ref (a), .int (nI (n))]))) := ⟨_, rfl⟩
  have hW : mi_W D A ad cf1 H := by rw [hcf1]; exact hW
  have he1_0 : cf1 q = some (mi_aq D cap (f)) := by rw [hcf1]; exact (mi_up_n (Ne.symm hrq)).trans hq0
  have he1_1 : cf1 ro = some (.inr (ci, fo)) := by rw [hcf1]; exact (mi_up_n hor).trans hro
  have he1_r : cf1 r = some (.inr (0, [.int (mcn + (nI (1))), .ref (a), .int (nI (n))])) := by rw [hcf1]; exact mi_up_s
  refine lv_aload_n S.1 S.2.1 dJx4a65c_add_9ea2d_10 rfl (lv_at hl 0 rfl) ?_
  refine lv_aload_n S.1 S.2.1 dJx4a65c_add_9ea2d_11 rfl (lv_at hl 1 rfl) ?_
  refine lv_aload_n S.1 S.2.1 dJx4a65c_add_9ea2d_12 rfl (lv_at hl 0 rfl) ?_
  refine fg_Jx4a65c_9 S E hW r hra he1_r rfl dJx4a65c_add_9ea2d_13 ?_
  refine lv_aload_n S.1 S.2.1 dJx4a65c_add_9ea2d_16 rfl (lv_at hl 0 rfl) ?_
  refine fg_Jx4a65c_48 S E hW r hra he1_r rfl dJx4a65c_add_9ea2d_17 ?_
  refine mi_cMv (mi_runV (P := mi_W D A ad cf1) (As := [.ref (ao), .ref (a), .int (nI (n))]) (rest := []) S E hS hW b (c_add3 l D A hAu hra ha0 he1_r he1_0 hnc hcap hr9 hq9 hrq hao he1_1 hci hcast hor hoq ho9) (hW.recvA E hra he1_r rfl) mw_131 mw_128 mw_130 mw_0 mw_36 ⟨by decide, by decide, by decide +kernel⟩ ⟨rfl, rfl, Nat.le_of_ble_eq_true rfl, Nat.le_of_ble_eq_true rfl⟩ (n := 3) rfl hl.1 rfl (Nat.le_of_ble_eq_true rfl) dJx4a65c_add_9ea2d_20 ⟨(by show _ ≤ (1 : Nat); omega), (by show _ ≤ (1000 : Nat); omega)⟩) hS (fun H locs hW hS hz => ?_)
  refine lv_iconst (v := nI 1) S.1 S.2.1 dJx4a65c_add_9ea2d_23 (by decide) ?_
  refine mi_retMz S hr hk hS dJx4a65c_add_9ea2d_24 rfl (by show _ ≤ (1 : Nat); omega) (by show _ ≤ (1000 : Nat); omega) ?_
  rw [hcf1, mi_sw2 hrq] at hW
  exact ⟨rfl, hW⟩
set_option maxHeartbeats 4000000 in
set_option maxRecDepth 100000 in
theorem c_add_f (l : Launch) (D : va_G) (A : Nat → Prop)  (hAu : ∀ a b, A a → a ≤ b → A b){ad : Nat → Nat} {cf : Nat → Option va_E} {r q a b n : Nat} {mcn : Int32} {f : Nat → Option Nat} (hra : ad r = b) (ha0 : ad q = a) (hr0 : cf r = some (.inr (0, [.int mcn, .ref a, .int (nI n)]))) (hq0 : cf q = some (mi_aq D n f)) (hel : mi_els ad cf n f) (h10 : 10 ≤ n) (h60 : n ≤ 60) (hr9 : r ≠ 999) (hq9 : q ≠ 999) (hrq : r ≠ q) (hf9 : cf 999 = none) {ro ao ci : Nat} {fo : List Value} {xo : vw_C} (hao : ad ro = ao) (hro : cf ro = some (.inr (ci, fo))) (hci : vwCl[ci]? = some xo) (hcast : (xo.1, mi_ob) ∈ mi_casts) (hor : ro ≠ r) (hoq : ro ≠ q) (ho9 : ro ≠ 999) (hrE : ∀ i, i < n → f i ≠ some (ad r)) : mi_Mi l yJx4a65c_add_9ea2d (Cond.code yJx4a65c_add_9ea2d cJx4a65c_add_9ea2d 2 (some Jvm.ClassFile.FieldType.boolean)) (mi_rq 6 1 1000) D A (mi_W D A ad cf) [.ref (b), .ref (ao)] 1 1000 (fun x H => x = 1 ∧ ∃ z, mi_W D A (va_up ad q z) (va_up (va_up cf q (some (mi_aq D (n + n / 2) (va_up (fun i => if i < n then f i else none) n (some ao))))) r (some (.inr (0, [.int (mcn + nI 1), .ref z, .int (nI (n + 1))])))) H) := by
  refine mi_start (cc := cJx4a65c_add_9ea2d) (nL := 2) (ret := (some Jvm.ClassFile.FieldType.boolean)) rfl (by decide) (Nat.le_of_ble_eq_true rfl) ?_
  intro p e s m below meth c ls S E hW hS hr hk hn hl
  have S : CallFix p m c cJx4a65c_add_9ea2d 2 s _ ((Cond.code yJx4a65c_add_9ea2d cJx4a65c_add_9ea2d 2 (some Jvm.ClassFile.FieldType.boolean)) :: mi_G) RJx4a65c := S
  have hl : lv_has ls 2 [(0, .ref (b)), (1, .ref (ao))] := hl
  refine lv_aload_n S.1 S.2.1 dJx4a65c_add_9ea2d_0 rfl (lv_at hl 0 rfl) ?_
  refine lv_dup S.1 S.2.1 dJx4a65c_add_9ea2d_1 rfl ?_
  refine fg_Jx4a65c_63 S E hW r hra hr0 rfl dJx4a65c_add_9ea2d_2 ?_
  refine lv_iconst (v := nI 1) S.1 S.2.1 dJx4a65c_add_9ea2d_5 (by decide) ?_
  refine lv_iadd S.1 S.2.1 dJx4a65c_add_9ea2d_6 ?_
  refine fp_Jx4a65c_63 S E hS hW r hra hr0 (Nat.le_of_ble_eq_true rfl) dJx4a65c_add_9ea2d_7 (fun H locs hW hS hz => ?_)
  obtain ⟨cf1, hcf1⟩ : ∃ z, z = va_up cf r (some (.inr (0, [.int (mcn + (nI (1))), .ref (a), .int (nI (n))]))) := ⟨_, rfl⟩
  have hW : mi_W D A ad cf1 H := by rw [hcf1]; exact hW
  have he1_0 : cf1 q = some (mi_aq D n (f)) := by rw [hcf1]; exact (mi_up_n (Ne.symm hrq)).trans hq0
  have he1_1 : cf1 ro = some (.inr (ci, fo)) := by rw [hcf1]; exact (mi_up_n hor).trans hro
  have he1_r : cf1 r = some (.inr (0, [.int (mcn + (nI (1))), .ref (a), .int (nI (n))])) := by rw [hcf1]; exact mi_up_s
  refine lv_aload_n S.1 S.2.1 dJx4a65c_add_9ea2d_10 rfl (lv_at hl 0 rfl) ?_
  refine lv_aload_n S.1 S.2.1 dJx4a65c_add_9ea2d_11 rfl (lv_at hl 1 rfl) ?_
  refine lv_aload_n S.1 S.2.1 dJx4a65c_add_9ea2d_12 rfl (lv_at hl 0 rfl) ?_
  refine fg_Jx4a65c_9 S E hW r hra he1_r rfl dJx4a65c_add_9ea2d_13 ?_
  refine lv_aload_n S.1 S.2.1 dJx4a65c_add_9ea2d_16 rfl (lv_at hl 0 rfl) ?_
  refine fg_Jx4a65c_48 S E hW r hra he1_r rfl dJx4a65c_add_9ea2d_17 ?_
  refine mi_cMv (mi_runV (P := mi_W D A ad cf1) (As := [.ref (ao), .ref (a), .int (nI (n))]) (rest := []) S E hS hW b (c_add3_f l D A hAu hra ha0 he1_r he1_0 (mi_els_up hel hcf1 hrE) h10 h60 hr9 hq9 hrq ((congrFun hcf1 999).trans ((mi_up_n (Ne.symm hr9)).trans hf9)) hao he1_1 hci hcast hor hoq ho9) (hW.recvA E hra he1_r rfl) mw_131 mw_128 mw_130 mw_0 mw_36 ⟨by decide, by decide, by decide +kernel⟩ ⟨rfl, rfl, Nat.le_of_ble_eq_true rfl, Nat.le_of_ble_eq_true rfl⟩ (n := 3) rfl hl.1 rfl (Nat.le_of_ble_eq_true rfl) dJx4a65c_add_9ea2d_20 ⟨(by show _ ≤ (1 : Nat); omega), (by show _ ≤ (1000 : Nat); omega)⟩) hS (fun H locs hW hS hz => ?_)
  refine lv_iconst (v := nI 1) S.1 S.2.1 dJx4a65c_add_9ea2d_23 (by decide) ?_
  refine mi_retMz S hr hk hS dJx4a65c_add_9ea2d_24 rfl (by show _ ≤ (1 : Nat); omega) (by show _ ≤ (1000 : Nat); omega) ?_
  obtain ⟨z, hW⟩ := hW
  rw [hcf1, mi_sw2 hrq] at hW
  exact ⟨rfl, z, hW⟩
set_option maxHeartbeats 4000000 in
set_option maxRecDepth 100000 in
theorem c_add_0 (l : Launch) (D : va_G) (A : Nat → Prop)  (hAu : ∀ a b, A a → a ≤ b → A b){ad : Nat → Nat} {cf : Nat → Option va_E} {r q b : Nat} {mcn : Int32} (hra : ad r = b) (hr0 : cf r = some (.inr (0, [.int mcn, .ref (mi_de D), .int (nI 0)]))) (hr9 : r ≠ 999) (hrq : r ≠ q) {ro ao ci : Nat} {fo : List Value} {xo : vw_C} (hao : ad ro = ao) (hro : cf ro = some (.inr (ci, fo))) (hci : vwCl[ci]? = some xo) (hcast : (xo.1, mi_ob) ∈ mi_casts) (hor : ro ≠ r) (hoq : ro ≠ q) (ho9 : ro ≠ 999) : mi_Mi l yJx4a65c_add_9ea2d (Cond.code yJx4a65c_add_9ea2d cJx4a65c_add_9ea2d 2 (some Jvm.ClassFile.FieldType.boolean)) (mi_rq 6 1 1000) D A (mi_W D A ad cf) [.ref (b), .ref (ao)] 1 1000 (fun x H => x = 1 ∧ ∃ z, mi_W D A (va_up ad q z) (va_up (va_up cf q (some (mi_aq D 10 (va_up (fun _ => none) 0 (some ao))))) r (some (.inr (0, [.int (mcn + nI 1), .ref z, .int (nI (0 + 1))])))) H) := by
  refine mi_start (cc := cJx4a65c_add_9ea2d) (nL := 2) (ret := (some Jvm.ClassFile.FieldType.boolean)) rfl (by decide) (Nat.le_of_ble_eq_true rfl) ?_
  intro p e s m below meth c ls S E hW hS hr hk hn hl
  have S : CallFix p m c cJx4a65c_add_9ea2d 2 s _ ((Cond.code yJx4a65c_add_9ea2d cJx4a65c_add_9ea2d 2 (some Jvm.ClassFile.FieldType.boolean)) :: mi_G) RJx4a65c := S
  have hl : lv_has ls 2 [(0, .ref (b)), (1, .ref (ao))] := hl
  refine lv_aload_n S.1 S.2.1 dJx4a65c_add_9ea2d_0 rfl (lv_at hl 0 rfl) ?_
  refine lv_dup S.1 S.2.1 dJx4a65c_add_9ea2d_1 rfl ?_
  refine fg_Jx4a65c_63 S E hW r hra hr0 rfl dJx4a65c_add_9ea2d_2 ?_
  refine lv_iconst (v := nI 1) S.1 S.2.1 dJx4a65c_add_9ea2d_5 (by decide) ?_
  refine lv_iadd S.1 S.2.1 dJx4a65c_add_9ea2d_6 ?_
  refine fp_Jx4a65c_63 S E hS hW r hra hr0 (Nat.le_of_ble_eq_true rfl) dJx4a65c_add_9ea2d_7 (fun H locs hW hS hz => ?_)
  obtain ⟨cf1, hcf1⟩ : ∃ z, z = va_up cf r (some (.inr (0, [.int (mcn + (nI (1))), .ref (mi_de D), .int (nI (0))]))) := ⟨_, rfl⟩
  have hW : mi_W D A ad cf1 H := by rw [hcf1]; exact hW
  have he1_0 : cf1 ro = some (.inr (ci, fo)) := by rw [hcf1]; exact (mi_up_n hor).trans hro
  have he1_r : cf1 r = some (.inr (0, [.int (mcn + (nI (1))), .ref (mi_de D), .int (nI (0))])) := by rw [hcf1]; exact mi_up_s
  refine lv_aload_n S.1 S.2.1 dJx4a65c_add_9ea2d_10 rfl (lv_at hl 0 rfl) ?_
  refine lv_aload_n S.1 S.2.1 dJx4a65c_add_9ea2d_11 rfl (lv_at hl 1 rfl) ?_
  refine lv_aload_n S.1 S.2.1 dJx4a65c_add_9ea2d_12 rfl (lv_at hl 0 rfl) ?_
  refine fg_Jx4a65c_9 S E hW r hra he1_r rfl dJx4a65c_add_9ea2d_13 ?_
  refine lv_aload_n S.1 S.2.1 dJx4a65c_add_9ea2d_16 rfl (lv_at hl 0 rfl) ?_
  refine fg_Jx4a65c_48 S E hW r hra he1_r rfl dJx4a65c_add_9ea2d_17 ?_
  refine mi_cMv (mi_runV (P := mi_W D A ad cf1) (As := [.ref (ao), .ref (mi_de D), .int (nI (0))]) (rest := []) S E hS hW b (c_add3_0 l D A hAu hra he1_r hr9 hrq hao he1_0 hci hcast hor hoq ho9) (hW.recvA E hra he1_r rfl) mw_131 mw_128 mw_130 mw_0 mw_36 ⟨by decide, by decide, by decide +kernel⟩ ⟨rfl, rfl, Nat.le_of_ble_eq_true rfl, Nat.le_of_ble_eq_true rfl⟩ (n := 3) rfl hl.1 rfl (Nat.le_of_ble_eq_true rfl) dJx4a65c_add_9ea2d_20 ⟨(by show _ ≤ (1 : Nat); omega), (by show _ ≤ (1000 : Nat); omega)⟩) hS (fun H locs hW hS hz => ?_)
  refine lv_iconst (v := nI 1) S.1 S.2.1 dJx4a65c_add_9ea2d_23 (by decide) ?_
  refine mi_retMz S hr hk hS dJx4a65c_add_9ea2d_24 rfl (by show _ ≤ (1 : Nat); omega) (by show _ ≤ (1000 : Nat); omega) ?_
  obtain ⟨z, hW⟩ := hW
  rw [hcf1, mi_sw2 hrq] at hW
  exact ⟨rfl, z, hW⟩
end
section
/-! the mathematical state S: numbers S 0 (0 how many states, 1 which is now, 2 how many dies, 3 how many coins), S 1 parents, S 2 kinds, S 3 first heights, S 4 strikes, S 5 heights now, S 6 a coin's die, S 7 its number, S 8 its heights -/
abbrev sT : Type := Nat → Nat → Nat → Nat
abbrev sN (S : sT) : Nat := S 0 0 0
abbrev sW (S : sT) : Nat := S 0 1 0
abbrev sD (S : sT) : Nat := S 0 2 0
abbrev sC (S : sT) : Nat := S 0 3 0
abbrev sP (S : sT) (i : Nat) : Nat := S 1 i 0
abbrev sK (S : sT) (i : Nat) : Nat → Nat := S 2 i
abbrev sF (S : sT) (d : Nat) : Nat → Nat := S 3 d
abbrev sX (S : sT) (d : Nat) : Nat := S 4 d 0
abbrev sH (S : sT) (d : Nat) : Nat → Nat := S 5 d
abbrev sCd (S : sT) (i : Nat) : Nat := S 6 i 0
abbrev sCn (S : sT) (i : Nat) : Nat := S 7 i 0
abbrev sCh (S : sT) (i : Nat) : Nat → Nat := S 8 i
def st_up (S : sT) (k i : Nat) (v : Nat → Nat) : sT := fun k' i' => if k' = k ∧ i' = i then v else S k' i'
theorem st_s {S : sT} {k i : Nat} {v : Nat → Nat} : st_up S k i v k i = v := if_pos ⟨rfl, rfl⟩
theorem st_n {S : sT} {k i k' i' : Nat} {v : Nat → Nat} (h : k' ≠ k ∨ i' ≠ i) : st_up S k i v k' i' = S k' i' := if_neg (by omega)
theorem st_up_up (S : sT) (k i : Nat) (v w : Nat → Nat) : st_up (st_up S k i v) k i w = st_up S k i w := by
  funext k' i'
  by_cases h : k' = k ∧ i' = i
  · obtain ⟨rfl, rfl⟩ := h
    rw [st_s, st_s]
  · rw [st_n (by omega), st_n (by omega), st_n (by omega)]
/-- a new state with the kinds K -/
def st_new (S : sT) (K : Nat → Nat) : sT := st_up (st_up (st_up (st_up S 0 0 (fun _ => sN S + 1)) 0 1 (fun _ => sN S)) 1 (sN S) (fun _ => sW S)) 2 (sN S) K
def st_put (S : sT) (p k : Nat) : sT := st_up S 2 (sW S) (mi_un (sK S (sW S)) p k)
def st_now (S : sT) (w : Nat) : sT := st_up S 0 1 (fun _ => w)
theorem st_put_new (S : sT) (K : Nat → Nat) (p k : Nat) : st_put (st_new S K) p k = st_new S (mi_un K p k) := by
  have hw : sW (st_new S K) = sN S := rfl
  have hk : sK (st_new S K) (sN S) = K := st_s
  unfold st_put
  rw [hw, hk]
  unfold st_new
  rw [st_up_up]
/-- wear: the lowest of the highest becomes one lower -/
def wr_mx (h : Nat → Nat) : Nat → Nat
  | 0 => 0
  | n + 1 => if h (wr_mx h n) < h n then n else wr_mx h n
def wr (h : Nat → Nat) : Nat → Nat := fun c => if c = wr_mx h 16 then h c - 1 else h c
def wn (h : Nat → Nat) : Nat → Nat → Nat
  | 0 => h
  | k + 1 => wr (wn h k)
theorem wr_mx_lt (h : Nat → Nat) : ∀ n, 0 < n → wr_mx h n < n
  | 0, h0 => absurd h0 (Nat.lt_irrefl 0)
  | 1, _ => by
    show (if h 0 < h 0 then 0 else 0) < 1
    split <;> omega
  | n + 2, _ => by
    have := wr_mx_lt h (n + 1) (by omega)
    show (if h (wr_mx h (n + 1)) < h (n + 1) then n + 1 else wr_mx h (n + 1)) < n + 2
    split <;> omega
theorem wr_le (h : Nat → Nat) (c : Nat) : wr h c ≤ h c := by
  unfold wr
  split <;> omega
theorem wr_cong {h h' : Nat → Nat} (e : ∀ c, c < 16 → h c = h' c) : ∀ n, n ≤ 16 → wr_mx h n = wr_mx h' n
  | 0, _ => rfl
  | n + 1, hn => by
    have ih := wr_cong e n (by omega)
    show (if h (wr_mx h n) < h n then n else wr_mx h n) = (if h' (wr_mx h' n) < h' n then n else wr_mx h' n)
    rw [ih, e n (by omega)]
    rcases Nat.eq_zero_or_pos n with z | z
    · subst z
      rw [e _ (show wr_mx h' 0 < 16 by show (0 : Nat) < 16; omega)]
    · have := wr_mx_lt h' n z
      rw [e _ (show wr_mx h' n < 16 by omega)]
theorem wr_congA {h h' : Nat → Nat} (e : ∀ c, c < 16 → h c = h' c) (c : Nat) (hc : c < 16) : wr h c = wr h' c := by
  unfold wr
  rw [wr_cong e 16 (Nat.le_refl 16), e c hc]
theorem wn_le (h : Nat → Nat) (c : Nat) : ∀ k, wn h k c ≤ h c
  | 0 => Nat.le_refl _
  | k + 1 => Nat.le_trans (wr_le (wn h k) c) (wn_le h c k)
theorem wn_congA {h h' : Nat → Nat} (e : ∀ c, c < 16 → h c = h' c) : ∀ k c, c < 16 → wn h k c = wn h' k c
  | 0, c, hc => e c hc
  | k + 1, c, hc => wr_congA (wn_congA e k) c hc
/-- a packed column and the kinds in it -/
def mo_pk (x : Int32) (K : Nat → Nat) (c : Nat) : Prop := (∀ l, l < 8 → mo_kd x l = nI (K (8 * c + l))) ∧ ∀ b, 16 ≤ b → bt x b = false
/-- what is always so of S -/
def st_ok (S : sT) : Prop :=
  (1 ≤ sN S ∧ sN S ≤ 61 ∧ sW S < sN S ∧ sD S ≤ 8 ∧ sC S ≤ 60) ∧ (∀ i, 1 ≤ i → i < sN S → sP S i < i) ∧ (∀ i p, i < sN S → p < 128 → sK S i p < 4) ∧
  (∀ d c, d < sD S → c < 16 → sF S d c ≤ 8 ∧ sH S d c = wn (sF S d) (sX S d / 2) c) ∧ (∀ d, d < sD S → sX S d ≤ sC S) ∧ (∀ i c, i < sC S → c < 16 → sCh S i c ≤ 8) ∧ ∀ i, i < sC S → sCd S i < sD S ∧ 1 ≤ sCn S i ∧ sCn S i ≤ sX S (sCd S i)
/-- the reference's numbers and rows hold S -/
def st_mo (S : sT) (f : Nat → Int32) (g : Nat → Nat → Int32) : Prop :=
  (f 1 = nI (sN S) ∧ f 2 = nI (sW S) ∧ f 6 = nI (sD S) ∧ f 10 = nI (sC S)) ∧ g 3 0 = -1 ∧ (∀ i, 1 ≤ i → i < sN S → g 3 i = nI (sP S i)) ∧ (∀ i c, i < sN S → c < 16 → mo_pk (g 4 (16 * i + c)) (sK S i) c) ∧
  (∀ d c, d < sD S → c < 16 → g 7 (16 * d + c) = nI (sF S d c) ∧ g 8 (16 * d + c) = nI (sH S d c)) ∧ (∀ d, d < sD S → g 9 d = nI (sX S d)) ∧
  (∀ i, i < sC S → g 12 i = nI (sCd S i) ∧ g 13 i = nI (sCn S i)) ∧ ∀ i c, i < sC S → c < 16 → g 11 (16 * i + c) = nI (sCh S i c)
theorem st_mo_0 {S : sT} {f : Nat → Int32} {g : Nat → Nat → Int32} (h : st_mo S f g) (x : Int32) : st_mo S (upd f 0 x) g := h
/-- bits of a packed column -/
theorem bt_3 : ∀ i, i < 32 → bt (nI 3) i = decide (i < 2) := by decide +kernel
theorem bt_k : ∀ k, k < 4 → ∀ i, i < 32 → bt (nI k) i = (decide (i < 2) && Nat.testBit k i) := by decide +kernel
theorem mo_kd_bt {x : Int32} {l i : Nat} (hl : l < 8) (hi : i < 2) : bt (mo_kd x l) i = bt x (2 * l + i) := by
  unfold mo_kd
  rw [b_and, b_sshr (2 * l) (by omega) x (by omega), if_pos (by omega), bt_3 i (by omega), decide_eq_true hi, Bool.and_true]
theorem mo_kd_hi {x : Int32} {l i : Nat} (hi : 2 ≤ i) : bt (mo_kd x l) i = false := by
  unfold mo_kd
  rw [b_and]
  by_cases h : i < 32
  · rw [bt_3 i h, decide_eq_false (by omega), Bool.and_false]
  · rw [b_big (by omega), Bool.false_and]
theorem mo_kd_ext {x y : Int32} {l : Nat} (h0 : bt (mo_kd x l) 0 = bt (mo_kd y l) 0) (h1 : bt (mo_kd x l) 1 = bt (mo_kd y l) 1) : mo_kd x l = mo_kd y l := by
  refine b_ext (fun i _ => ?_)
  rcases Nat.lt_or_ge i 2 with h | h
  · rcases (show i = 0 ∨ i = 1 by omega) with rfl | rfl
    · exact h0
    · exact h1
  · rw [mo_kd_hi h, mo_kd_hi h]
/-- the kind k on level l of a packed column -/
def mo_pt (x : Int32) (l k : Nat) : Int32 := (x &&& ((nI 3 <<< (nI (2 * l) &&& 31)) ^^^ (-1))) ||| (nI k <<< (nI (2 * l) &&& 31))
theorem mo_pt_bt {x : Int32} {l k i : Nat} (hl : l < 8) (hk : k < 4) (hi : i < 32) : bt (mo_pt x l k) i = if 2 * l ≤ i ∧ i < 2 * l + 2 then Nat.testBit k (i - 2 * l) else bt x i := by
  unfold mo_pt
  rw [b_or, b_and, b_xor, b_m1 i hi, b_shl (2 * l) (by omega) _ hi, b_shl (2 * l) (by omega) _ hi, bt_3 _ (by omega), bt_k k hk _ (by omega)]
  by_cases h1 : 2 * l ≤ i
  · by_cases h2 : i < 2 * l + 2
    · rw [if_pos ⟨h1, h2⟩, decide_eq_true h1, decide_eq_true (show i - 2 * l < 2 by omega)]
      simp
    · rw [if_neg (by omega), decide_eq_true h1, decide_eq_false (show ¬ i - 2 * l < 2 by omega)]
      simp
  · rw [if_neg (by omega), decide_eq_false h1]
    simp
theorem bt_small {k : Nat} (hk : k < 4) : ∀ i, i < 2 → bt (nI k) i = Nat.testBit k i := fun i hi => by
  rw [bt_k k hk i (by omega), decide_eq_true hi, Bool.true_and]
theorem mo_kd_pt {x : Int32} {l l' k : Nat} (hl : l < 8) (hl' : l' < 8) (hk : k < 4) : mo_kd (mo_pt x l k) l' = if l' = l then nI k else mo_kd x l' := by
  by_cases h : l' = l
  · subst h
    rw [if_pos rfl]
    refine b_ext (fun i hi => ?_)
    rcases Nat.lt_or_ge i 2 with h2 | h2
    · rw [mo_kd_bt hl h2, mo_pt_bt hl hk (by omega), if_pos (by omega), bt_small hk i h2, show 2 * l' + i - 2 * l' = i by omega]
    · rw [mo_kd_hi h2, bt_k k hk i hi, decide_eq_false (by omega), Bool.false_and]
  · rw [if_neg h]
    refine mo_kd_ext ?_ ?_
    · rw [mo_kd_bt hl' (by omega), mo_kd_bt hl' (by omega), mo_pt_bt hl hk (by omega), if_neg (by omega)]
    · rw [mo_kd_bt hl' (by omega), mo_kd_bt hl' (by omega), mo_pt_bt hl hk (by omega), if_neg (by omega)]
theorem mo_pk_put {x : Int32} {K : Nat → Nat} {c l k : Nat} (h : mo_pk x K c) (hl : l < 8) (hk : k < 4) : mo_pk (mo_pt x l k) (mi_un K (8 * c + l) k) c := by
  refine ⟨fun l' hl' => ?_, fun b hb => ?_⟩
  · rw [mo_kd_pt hl hl' hk]
    by_cases e : l' = l
    · subst e
      rw [if_pos rfl, mi_un_s]
    · rw [if_neg e, mi_un_n (by omega)]
      exact h.1 l' hl'
  · by_cases h32 : b < 32
    · rw [mo_pt_bt hl hk h32, if_neg (by omega)]
      exact h.2 b hb
    · exact b_big (by omega)
theorem mo_pk_other {x : Int32} {K : Nat → Nat} {c c' l k : Nat} (h : mo_pk x K c') (hl : l < 8) (hc : c' ≠ c) : mo_pk x (mi_un K (8 * c + l) k) c' :=
  ⟨fun l' hl' => by rw [mi_un_n (by omega)]; exact h.1 l' hl', h.2⟩
theorem nI_inj4 {a b : Nat} (ha : a < 4) (hb : b < 4) (h : nI a = nI b) : a = b := (nI_eq (by omega) (by omega)).mp h
/-- two packed columns are equal just when their kinds are -/
theorem mo_pk_eq {x y : Int32} {K K' : Nat → Nat} {c : Nat} (h : mo_pk x K c) (h' : mo_pk y K' c) (hb : ∀ l, l < 8 → K (8 * c + l) < 4) (hb' : ∀ l, l < 8 → K' (8 * c + l) < 4) : x = y ↔ ∀ l, l < 8 → K (8 * c + l) = K' (8 * c + l) := by
  refine ⟨fun e l hl => ?_, fun e => b_ext (fun i hi => ?_)⟩
  · have h1 := h.1 l hl
    rw [e, h'.1 l hl] at h1
    exact (nI_inj4 (hb' l hl) (hb l hl) h1).symm
  · rcases Nat.lt_or_ge i 16 with h2 | h2
    · have h1 : mo_kd x (i / 2) = mo_kd y (i / 2) := by rw [h.1 _ (by omega), h'.1 _ (by omega), e _ (by omega)]
      have h3 := mo_kd_bt (x := x) (l := i / 2) (i := i % 2) (by omega) (by omega)
      have h4 := mo_kd_bt (x := y) (l := i / 2) (i := i % 2) (by omega) (by omega)
      rw [show 2 * (i / 2) + i % 2 = i by omega] at h3 h4
      rw [← h3, ← h4, h1]
    · rw [h.2 i h2, h'.2 i h2]
/-- the first i columns of the state w copied to the state n -/
def mo_gr (r : Nat → Int32) (n w i : Nat) : Nat → Int32 := fun j => if 16 * n ≤ j ∧ j < 16 * n + i then r (16 * w + (j - 16 * n)) else r j
theorem mo_gr_0 (r : Nat → Int32) (n w : Nat) : mo_gr r n w 0 = r := funext fun j => if_neg (by omega)
theorem mo_gr_out {r : Nat → Int32} {n w i j : Nat} (h : j < 16 * n) : mo_gr r n w i j = r j := if_neg (by omega)
theorem mo_gr_in {r : Nat → Int32} {n w c : Nat} (h : c < 16) : mo_gr r n w 16 (16 * n + c) = r (16 * w + c) := by
  unfold mo_gr
  rw [if_pos (by omega), show 16 * n + c - 16 * n = c by omega]
theorem mo_gr_step {r : Nat → Int32} {n w i : Nat} (h : w < n) (hi : i < 16) : upd (mo_gr r n w i) (16 * n + i) (mo_gr r n w i (16 * w + i)) = mo_gr r n w (i + 1) := by
  funext j
  rw [mo_gr_out (j := 16 * w + i) (by omega)]
  show (if j = 16 * n + i then r (16 * w + i) else mo_gr r n w i j) = _
  unfold mo_gr
  by_cases h1 : j = 16 * n + i
  · subst h1
    rw [if_pos rfl, if_pos (by omega), show 16 * n + i - 16 * n = i by omega]
  · rw [if_neg h1]
    by_cases h2 : 16 * n ≤ j ∧ j < 16 * n + i
    · rw [if_pos h2, if_pos (by omega)]
    · rw [if_neg h2, if_neg (by omega)]
theorem st_mo_grow {S : sT} {f : Nat → Int32} {g : Nat → Nat → Int32} (h : st_mo S f g) (hO : st_ok S) : st_mo (st_new S (sK S (sW S))) (upd (upd f 2 (nI (sN S))) 1 (nI (sN S + 1))) (va_up (va_up g 4 (mo_gr (g 4) (sN S) (sW S) 16)) 3 (upd (g 3) (sN S) (nI (sW S)))) := by
  obtain ⟨⟨h1, h2, h3, h4⟩, hp0, hp, hk, hd, hx, hc, hch⟩ := h
  obtain ⟨⟨o1, o2, o3, o4, o5⟩, -⟩ := hO
  refine ⟨⟨rfl, rfl, h3, h4⟩, ?_, fun i hi1 hi2 => ?_, fun i c hi hc => ?_, hd, hx, hc, hch⟩
  · show upd (g 3) (sN S) (nI (sW S)) 0 = -1
    exact (if_neg (by omega)).trans hp0
  · show upd (g 3) (sN S) (nI (sW S)) i = nI (sP (st_new S (sK S (sW S))) i)
    have hi3 : i < sN S + 1 := hi2
    by_cases e : i = sN S
    · subst e
      rw [show upd (g 3) (sN S) (nI (sW S)) (sN S) = nI (sW S) from if_pos rfl]
      congr 1
      show sW S = st_up _ 2 _ _ 1 (sN S) 0
      rw [st_n (by omega), st_s]
    · rw [show upd (g 3) (sN S) (nI (sW S)) i = g 3 i from if_neg e, hp i hi1 (by omega)]
      congr 1
      show S 1 i 0 = st_up _ 2 _ _ 1 i 0
      rw [st_n (by omega), st_n (by omega), st_n (by omega), st_n (by omega)]
  · have hi3 : i < sN S + 1 := hi
    show mo_pk (mo_gr (g 4) (sN S) (sW S) 16 (16 * i + c)) (sK (st_new S (sK S (sW S))) i) c
    by_cases e : i = sN S
    · subst e
      rw [mo_gr_in hc, show sK (st_new S (sK S (sW S))) (sN S) = sK S (sW S) from st_s]
      exact hk _ c o3 hc
    · rw [mo_gr_out (by omega), show sK (st_new S (sK S (sW S))) i = sK S i from (by show st_up _ 2 _ _ 2 i = S 2 i; rw [st_n (by omega), st_n (by omega), st_n (by omega), st_n (by omega)])]
      exact hk i c (by omega) hc
theorem st_mo_put {S : sT} {f : Nat → Int32} {g : Nat → Nat → Int32} (h : st_mo S f g) {a b k : Nat} (ha : a < 16) (hb : b < 8) (hk4 : k < 4) (hw : sW S < sN S) : st_mo (st_put S (8 * a + b) k) f (va_up g 4 (upd (g 4) (16 * sW S + a) (mo_pt (g 4 (16 * sW S + a)) b k))) := by
  obtain ⟨h1, hp0, hp, hk, hd, hx, hc, hch⟩ := h
  refine ⟨h1, hp0, hp, fun i c hi hc => ?_, hd, hx, hc, hch⟩
  have hi2 : i < sN S := hi
  show mo_pk (upd (g 4) (16 * sW S + a) (mo_pt (g 4 (16 * sW S + a)) b k) (16 * i + c)) (sK (st_put S (8 * a + b) k) i) c
  by_cases e : i = sW S
  · subst e
    rw [show sK (st_put S (8 * a + b) k) (sW S) = mi_un (sK S (sW S)) (8 * a + b) k from st_s]
    by_cases ec : c = a
    · subst ec
      rw [show upd (g 4) (16 * sW S + c) _ (16 * sW S + c) = mo_pt (g 4 (16 * sW S + c)) b k from if_pos rfl]
      exact mo_pk_put (hk _ c hw hc) hb hk4
    · rw [show upd (g 4) (16 * sW S + a) _ (16 * sW S + c) = g 4 (16 * sW S + c) from if_neg (by omega)]
      exact mo_pk_other (hk _ c hw hc) hb ec
  · rw [show upd (g 4) (16 * sW S + a) _ (16 * i + c) = g 4 (16 * i + c) from if_neg (by omega), show sK (st_put S (8 * a + b) k) i = sK S i from st_n (Or.inr e)]
    exact hk i c hi2 hc
theorem st_mo_K {S : sT} {f : Nat → Int32} {g : Nat → Nat → Int32} (h : st_mo S f g) {i : Nat} (hi : i < sN S) : ∀ a b, a < 16 → b < 8 → mo_kd (g 4 (16 * i + a)) b = nI (sK S i (8 * a + b)) := fun a b ha hb => (h.2.2.2.1 i a hi ha).1 b hb
/-- the rows of kinds that raise and layer make, step by step -/
def sp_ra (K : Nat → Nat) (a b k i : Nat) : Nat → Nat := fun p => if 8 * a ≤ p ∧ p < 8 * a + i then (if p < 8 * a + b then k else 0) else K p
def sp_la (K : Nat → Nat) (b k i : Nat) : Nat → Nat := fun p => if p % 8 = b ∧ p / 8 < i then k else K p
theorem sp_ra_0 (K : Nat → Nat) (a b k : Nat) : sp_ra K a b k 0 = K := funext fun p => if_neg (by omega)
theorem sp_la_0 (K : Nat → Nat) (b k : Nat) : sp_la K b k 0 = K := funext fun p => if_neg (by omega)
theorem sp_ra_1 {K : Nat → Nat} {a b k i : Nat} (h : i < b) : mi_un (sp_ra K a b k i) (8 * a + i) k = sp_ra K a b k (i + 1) := by
  funext p
  unfold mi_un sp_ra
  by_cases e : p = 8 * a + i
  · rw [if_pos e, if_pos (by omega), if_pos (by omega)]
  · rw [if_neg e]
    by_cases h2 : 8 * a ≤ p ∧ p < 8 * a + i
    · rw [if_pos h2, if_pos (show 8 * a ≤ p ∧ p < 8 * a + (i + 1) by omega)]
    · rw [if_neg h2, if_neg (show ¬ (8 * a ≤ p ∧ p < 8 * a + (i + 1)) by omega)]
theorem sp_ra_2 {K : Nat → Nat} {a b k i : Nat} (h : b ≤ i) : mi_un (sp_ra K a b k i) (8 * a + i) 0 = sp_ra K a b k (i + 1) := by
  funext p
  unfold mi_un sp_ra
  by_cases e : p = 8 * a + i
  · rw [if_pos e, if_pos (by omega), if_neg (by omega)]
  · rw [if_neg e]
    by_cases h2 : 8 * a ≤ p ∧ p < 8 * a + i
    · rw [if_pos h2, if_pos (show 8 * a ≤ p ∧ p < 8 * a + (i + 1) by omega)]
    · rw [if_neg h2, if_neg (show ¬ (8 * a ≤ p ∧ p < 8 * a + (i + 1)) by omega)]
theorem sp_la_1 {K : Nat → Nat} {b k i : Nat} (h : b < 8) : mi_un (sp_la K b k i) (8 * i + b) k = sp_la K b k (i + 1) := by
  funext p
  unfold mi_un sp_la
  by_cases e : p = 8 * i + b
  · rw [if_pos e, if_pos (by omega)]
  · rw [if_neg e]
    by_cases h2 : p % 8 = b ∧ p / 8 < i
    · rw [if_pos h2, if_pos (by omega)]
    · rw [if_neg h2, if_neg (by omega)]
end
section
/-! the reference's readers -/
set_option maxHeartbeats 4000000 in
set_option maxRecDepth 100000 in
theorem c_in_y (l : Launch) (D : va_G) (A : Nat → Prop) (P : Heap → Prop) {x y z : Int32} (h : y.toInt ≤ x.toInt ∧ x.toInt ≤ z.toInt) : mi_Rd l yX5_in (Cond.code yX5_in cX5_in 3 (some Jvm.ClassFile.FieldType.boolean)) (mi_rm 0) D A (P) [.int (x), .int (y), .int (z)] (fun r => r = nI 1) := by
  refine mi_start (cc := cX5_in) (nL := 3) (ret := (some Jvm.ClassFile.FieldType.boolean)) rfl (by decide) (Nat.le_of_ble_eq_true rfl) ?_
  intro p e s m below meth c ls S E hW hS hr hk hn hl
  have S : CallFix p m c cX5_in 3 s _ ((Cond.code yX5_in cX5_in 3 (some Jvm.ClassFile.FieldType.boolean)) :: mi_G) RX5 := S
  have hl : lv_has ls 3 [(0, .int (x)), (1, .int (y)), (2, .int (z))] := hl
  refine lv_iload_n S.1 S.2.1 dX5_in_0 rfl (lv_at hl 0 rfl) ?_
  refine lv_iload_n S.1 S.2.1 dX5_in_1 rfl (lv_at hl 1 rfl) ?_
  refine mi_xcmp_lt (tgt := 14) S (rfl) (rfl) dX5_in_2 (by decide) (fun c2_0 => by exfalso; omega) (fun c2_0 => ?_)
  refine lv_iload_n S.1 S.2.1 dX5_in_5 rfl (lv_at hl 0 rfl) ?_
  refine lv_iload_n S.1 S.2.1 dX5_in_6 rfl (lv_at hl 2 rfl) ?_
  refine mi_xcmp_gt (tgt := 14) S (rfl) (rfl) dX5_in_7 (by decide) (fun c7_1 => by exfalso; omega) (fun c7_1 => ?_)
  refine lv_iconst (v := nI 1) S.1 S.2.1 dX5_in_10 (by decide) ?_
  refine lv_goto (tgt := 15) S.1 S.2.1 dX5_in_11 (by decide) ?_
  exact mi_retZ S hr hk dX5_in_15 rfl (rfl)
set_option maxHeartbeats 4000000 in
set_option maxRecDepth 100000 in
theorem c_in_n (l : Launch) (D : va_G) (A : Nat → Prop) (P : Heap → Prop) {x y z : Int32} (h : ¬ (y.toInt ≤ x.toInt ∧ x.toInt ≤ z.toInt)) : mi_Rd l yX5_in (Cond.code yX5_in cX5_in 3 (some Jvm.ClassFile.FieldType.boolean)) (mi_rm 0) D A (P) [.int (x), .int (y), .int (z)] (fun r => r = nI 0) := by
  refine mi_start (cc := cX5_in) (nL := 3) (ret := (some Jvm.ClassFile.FieldType.boolean)) rfl (by decide) (Nat.le_of_ble_eq_true rfl) ?_
  intro p e s m below meth c ls S E hW hS hr hk hn hl
  have S : CallFix p m c cX5_in 3 s _ ((Cond.code yX5_in cX5_in 3 (some Jvm.ClassFile.FieldType.boolean)) :: mi_G) RX5 := S
  have hl : lv_has ls 3 [(0, .int (x)), (1, .int (y)), (2, .int (z))] := hl
  refine lv_iload_n S.1 S.2.1 dX5_in_0 rfl (lv_at hl 0 rfl) ?_
  refine lv_iload_n S.1 S.2.1 dX5_in_1 rfl (lv_at hl 1 rfl) ?_
  refine mi_xcmp_lt (tgt := 14) S (rfl) (rfl) dX5_in_2 (by decide) (fun c2_0 => ?_) (fun c2_0 => ?_)
  · refine lv_iconst (v := nI 0) S.1 S.2.1 dX5_in_14 (by decide) ?_
    exact mi_retZ S hr hk dX5_in_15 rfl (rfl)
  · refine lv_iload_n S.1 S.2.1 dX5_in_5 rfl (lv_at hl 0 rfl) ?_
    refine lv_iload_n S.1 S.2.1 dX5_in_6 rfl (lv_at hl 2 rfl) ?_
    refine mi_xcmp_gt (tgt := 14) S (rfl) (rfl) dX5_in_7 (by decide) (fun c7_1 => ?_) (fun c7_1 => by exfalso; omega)
    refine lv_iconst (v := nI 0) S.1 S.2.1 dX5_in_14 (by decide) ?_
    exact mi_retZ S hr hk dX5_in_15 rfl (rfl)
set_option maxHeartbeats 4000000 in
set_option maxRecDepth 100000 in
theorem c_misColumn_y (l : Launch) (D : va_G) (A : Nat → Prop) (P : Heap → Prop) {a : Nat} (ha : a ≤ 15) : mi_Rd l yX5_isColumn (Cond.code yX5_isColumn cX5_isColumn 1 (some Jvm.ClassFile.FieldType.boolean)) (mi_rm 1) D A (P) [.int (nI (a))] (fun r => r = nI 1) := by
  refine mi_start (cc := cX5_isColumn) (nL := 1) (ret := (some Jvm.ClassFile.FieldType.boolean)) rfl (by decide) (Nat.le_of_ble_eq_true rfl) ?_
  intro p e s m below meth c ls S E hM hS hr hk hn hl
  have S : CallFix p m c cX5_isColumn 1 s _ ((Cond.code yX5_isColumn cX5_isColumn 1 (some Jvm.ClassFile.FieldType.boolean)) :: mi_G) RX5 := S
  have hl : lv_has ls 1 [(0, .int (nI (a)))] := hl
  refine lv_iload_n S.1 S.2.1 dX5_isColumn_0 rfl (lv_at hl 0 rfl) ?_
  refine lv_iconst (v := nI 0) S.1 S.2.1 dX5_isColumn_1 (by decide) ?_
  refine lv_bipush (v := nI 15) S.1 S.2.1 dX5_isColumn_2 (by decide) ?_
  refine mi_cR (mi_runS (P := P) (As := [.int (nI (a)), .int (nI (0)), .int (nI (15))]) (rest := []) S E hS hM (c_in_y l D A (P) (by have := nI_toInt (n := a) (by omega); have := nI_toInt (n := 0) (by omega); have := nI_toInt (n := 15) (by omega); omega)) mw_736 mw_734 mw_735 mw_43 ⟨by decide, by decide, by decide +kernel⟩ ⟨rfl, rfl, Nat.le_of_ble_eq_true rfl, Nat.le_of_ble_eq_true rfl⟩ (n := 3) rfl hl.1 rfl (Nat.le_of_ble_eq_true rfl) dX5_isColumn_4 ⟨Nat.le_of_ble_eq_true rfl, Nat.le_of_ble_eq_true rfl⟩) (fun r9 e9 => ?_)
  subst e9
  exact mi_retZ S hr hk dX5_isColumn_7 rfl (rfl)
set_option maxHeartbeats 4000000 in
set_option maxRecDepth 100000 in
theorem c_misColumn_n (l : Launch) (D : va_G) (A : Nat → Prop) (P : Heap → Prop) {x : Int32} (h : ¬ (0 ≤ x.toInt ∧ x.toInt ≤ 15)) : mi_Rd l yX5_isColumn (Cond.code yX5_isColumn cX5_isColumn 1 (some Jvm.ClassFile.FieldType.boolean)) (mi_rm 1) D A (P) [.int (x)] (fun r => r = nI 0) := by
  refine mi_start (cc := cX5_isColumn) (nL := 1) (ret := (some Jvm.ClassFile.FieldType.boolean)) rfl (by decide) (Nat.le_of_ble_eq_true rfl) ?_
  intro p e s m below meth c ls S E hM hS hr hk hn hl
  have S : CallFix p m c cX5_isColumn 1 s _ ((Cond.code yX5_isColumn cX5_isColumn 1 (some Jvm.ClassFile.FieldType.boolean)) :: mi_G) RX5 := S
  have hl : lv_has ls 1 [(0, .int (x))] := hl
  refine lv_iload_n S.1 S.2.1 dX5_isColumn_0 rfl (lv_at hl 0 rfl) ?_
  refine lv_iconst (v := nI 0) S.1 S.2.1 dX5_isColumn_1 (by decide) ?_
  refine lv_bipush (v := nI 15) S.1 S.2.1 dX5_isColumn_2 (by decide) ?_
  refine mi_cR (mi_runS (P := P) (As := [.int (x), .int (nI (0)), .int (nI (15))]) (rest := []) S E hS hM (c_in_n l D A (P) (by skip; have := nI_toInt (n := 0) (by omega); have := nI_toInt (n := 15) (by omega); omega)) mw_736 mw_734 mw_735 mw_43 ⟨by decide, by decide, by decide +kernel⟩ ⟨rfl, rfl, Nat.le_of_ble_eq_true rfl, Nat.le_of_ble_eq_true rfl⟩ (n := 3) rfl hl.1 rfl (Nat.le_of_ble_eq_true rfl) dX5_isColumn_4 ⟨Nat.le_of_ble_eq_true rfl, Nat.le_of_ble_eq_true rfl⟩) (fun r9 e9 => ?_)
  subst e9
  exact mi_retZ S hr hk dX5_isColumn_7 rfl (rfl)
set_option maxHeartbeats 4000000 in
set_option maxRecDepth 100000 in
theorem c_misLevel_y (l : Launch) (D : va_G) (A : Nat → Prop) (P : Heap → Prop) {a : Nat} (ha : a ≤ 7) : mi_Rd l yX5_isLevel (Cond.code yX5_isLevel cX5_isLevel 1 (some Jvm.ClassFile.FieldType.boolean)) (mi_rm 1) D A (P) [.int (nI (a))] (fun r => r = nI 1) := by
  refine mi_start (cc := cX5_isLevel) (nL := 1) (ret := (some Jvm.ClassFile.FieldType.boolean)) rfl (by decide) (Nat.le_of_ble_eq_true rfl) ?_
  intro p e s m below meth c ls S E hM hS hr hk hn hl
  have S : CallFix p m c cX5_isLevel 1 s _ ((Cond.code yX5_isLevel cX5_isLevel 1 (some Jvm.ClassFile.FieldType.boolean)) :: mi_G) RX5 := S
  have hl : lv_has ls 1 [(0, .int (nI (a)))] := hl
  refine lv_iload_n S.1 S.2.1 dX5_isLevel_0 rfl (lv_at hl 0 rfl) ?_
  refine lv_iconst (v := nI 0) S.1 S.2.1 dX5_isLevel_1 (by decide) ?_
  refine lv_bipush (v := nI 7) S.1 S.2.1 dX5_isLevel_2 (by decide) ?_
  refine mi_cR (mi_runS (P := P) (As := [.int (nI (a)), .int (nI (0)), .int (nI (7))]) (rest := []) S E hS hM (c_in_y l D A (P) (by have := nI_toInt (n := a) (by omega); have := nI_toInt (n := 0) (by omega); have := nI_toInt (n := 7) (by omega); omega)) mw_736 mw_734 mw_735 mw_43 ⟨by decide, by decide, by decide +kernel⟩ ⟨rfl, rfl, Nat.le_of_ble_eq_true rfl, Nat.le_of_ble_eq_true rfl⟩ (n := 3) rfl hl.1 rfl (Nat.le_of_ble_eq_true rfl) dX5_isLevel_4 ⟨Nat.le_of_ble_eq_true rfl, Nat.le_of_ble_eq_true rfl⟩) (fun r9 e9 => ?_)
  subst e9
  exact mi_retZ S hr hk dX5_isLevel_7 rfl (rfl)
set_option maxHeartbeats 4000000 in
set_option maxRecDepth 100000 in
theorem c_misLevel_n (l : Launch) (D : va_G) (A : Nat → Prop) (P : Heap → Prop) {x : Int32} (h : ¬ (0 ≤ x.toInt ∧ x.toInt ≤ 7)) : mi_Rd l yX5_isLevel (Cond.code yX5_isLevel cX5_isLevel 1 (some Jvm.ClassFile.FieldType.boolean)) (mi_rm 1) D A (P) [.int (x)] (fun r => r = nI 0) := by
  refine mi_start (cc := cX5_isLevel) (nL := 1) (ret := (some Jvm.ClassFile.FieldType.boolean)) rfl (by decide) (Nat.le_of_ble_eq_true rfl) ?_
  intro p e s m below meth c ls S E hM hS hr hk hn hl
  have S : CallFix p m c cX5_isLevel 1 s _ ((Cond.code yX5_isLevel cX5_isLevel 1 (some Jvm.ClassFile.FieldType.boolean)) :: mi_G) RX5 := S
  have hl : lv_has ls 1 [(0, .int (x))] := hl
  refine lv_iload_n S.1 S.2.1 dX5_isLevel_0 rfl (lv_at hl 0 rfl) ?_
  refine lv_iconst (v := nI 0) S.1 S.2.1 dX5_isLevel_1 (by decide) ?_
  refine lv_bipush (v := nI 7) S.1 S.2.1 dX5_isLevel_2 (by decide) ?_
  refine mi_cR (mi_runS (P := P) (As := [.int (x), .int (nI (0)), .int (nI (7))]) (rest := []) S E hS hM (c_in_n l D A (P) (by skip; have := nI_toInt (n := 0) (by omega); have := nI_toInt (n := 7) (by omega); omega)) mw_736 mw_734 mw_735 mw_43 ⟨by decide, by decide, by decide +kernel⟩ ⟨rfl, rfl, Nat.le_of_ble_eq_true rfl, Nat.le_of_ble_eq_true rfl⟩ (n := 3) rfl hl.1 rfl (Nat.le_of_ble_eq_true rfl) dX5_isLevel_4 ⟨Nat.le_of_ble_eq_true rfl, Nat.le_of_ble_eq_true rfl⟩) (fun r9 e9 => ?_)
  subst e9
  exact mi_retZ S hr hk dX5_isLevel_7 rfl (rfl)
set_option maxHeartbeats 4000000 in
set_option maxRecDepth 100000 in
theorem c_isState_y (l : Launch) (D : va_G) (A : Nat → Prop) {ad : Nat → Nat} {cf0 : Nat → Option va_E} {f : Nat → Int32} {g : Nat → Nat → Int32} {n a : Nat} (hfn : f 1 = nI n) (hn : n < 1000) (ha : a < n) : mi_Rd l yX5_isState (Cond.code yX5_isState cX5_isState 2 (some Jvm.ClassFile.FieldType.boolean)) (mi_rm 1) D A (mo_W D A ad cf0 f g) [.ref (ad 1000020), .int (nI (a))] (fun r => r = nI 1) := by
  refine mi_start (cc := cX5_isState) (nL := 2) (ret := (some Jvm.ClassFile.FieldType.boolean)) rfl (by decide) (Nat.le_of_ble_eq_true rfl) ?_
  intro p e s m below meth c ls S E hM hS hr hk hn hl
  have S : CallFix p m c cX5_isState 2 s _ ((Cond.code yX5_isState cX5_isState 2 (some Jvm.ClassFile.FieldType.boolean)) :: mi_G) RX5 := S
  have hl : lv_has ls 2 [(0, .ref (ad 1000020)), (1, .int (nI (a)))] := hl
  refine lv_iload_n S.1 S.2.1 dX5_isState_0 rfl (lv_at hl 1 rfl) ?_
  refine lv_iconst (v := nI 0) S.1 S.2.1 dX5_isState_1 (by decide) ?_
  refine lv_aload_n S.1 S.2.1 dX5_isState_2 rfl (lv_at hl 0 rfl) ?_
  refine mo_g_7 S E hM dX5_isState_3 ?_
  refine mi_top (v' := .int (nI (n))) (congrArg Value.int hfn) ?_
  refine lv_iconst (v := nI 1) S.1 S.2.1 dX5_isState_6 (by decide) ?_
  refine lv_isub S.1 S.2.1 dX5_isState_7 ?_
  refine mi_cR (mi_runS (P := mo_W D A ad cf0 f g) (As := [.int (nI (a)), .int (nI (0)), .int ((nI (n)) - (nI (1)))]) (rest := []) S E hS hM (c_in_y l D A (mo_W D A ad cf0 f g) (by have := nI_toInt (n := a) (by omega); have := nI_toInt (n := 0) (by omega); have := pk_sub_toInt (a := n) (b := 1) (by omega) (by omega); omega)) mw_736 mw_734 mw_735 mw_43 ⟨by decide, by decide, by decide +kernel⟩ ⟨rfl, rfl, Nat.le_of_ble_eq_true rfl, Nat.le_of_ble_eq_true rfl⟩ (n := 3) rfl hl.1 rfl (Nat.le_of_ble_eq_true rfl) dX5_isState_8 ⟨Nat.le_of_ble_eq_true rfl, Nat.le_of_ble_eq_true rfl⟩) (fun r9 e9 => ?_)
  subst e9
  exact mi_retZ S hr hk dX5_isState_11 rfl (rfl)
set_option maxHeartbeats 4000000 in
set_option maxRecDepth 100000 in
theorem c_isState_n (l : Launch) (D : va_G) (A : Nat → Prop) {ad : Nat → Nat} {cf0 : Nat → Option va_E} {f : Nat → Int32} {g : Nat → Nat → Int32} {n : Nat} {x : Int32} (hfn : f 1 = nI n) (hn9 : n < 1000) (h : ¬ (0 ≤ x.toInt ∧ x.toInt < n)) : mi_Rd l yX5_isState (Cond.code yX5_isState cX5_isState 2 (some Jvm.ClassFile.FieldType.boolean)) (mi_rm 1) D A (mo_W D A ad cf0 f g) [.ref (ad 1000020), .int (x)] (fun r => r = nI 0) := by
  refine mi_start (cc := cX5_isState) (nL := 2) (ret := (some Jvm.ClassFile.FieldType.boolean)) rfl (by decide) (Nat.le_of_ble_eq_true rfl) ?_
  intro p e s m below meth c ls S E hM hS hr hk hn hl
  have S : CallFix p m c cX5_isState 2 s _ ((Cond.code yX5_isState cX5_isState 2 (some Jvm.ClassFile.FieldType.boolean)) :: mi_G) RX5 := S
  have hl : lv_has ls 2 [(0, .ref (ad 1000020)), (1, .int (x))] := hl
  refine lv_iload_n S.1 S.2.1 dX5_isState_0 rfl (lv_at hl 1 rfl) ?_
  refine lv_iconst (v := nI 0) S.1 S.2.1 dX5_isState_1 (by decide) ?_
  refine lv_aload_n S.1 S.2.1 dX5_isState_2 rfl (lv_at hl 0 rfl) ?_
  refine mo_g_7 S E hM dX5_isState_3 ?_
  refine mi_top (v' := .int (nI (n))) (congrArg Value.int hfn) ?_
  refine lv_iconst (v := nI 1) S.1 S.2.1 dX5_isState_6 (by decide) ?_
  refine lv_isub S.1 S.2.1 dX5_isState_7 ?_
  refine mi_cR (mi_runS (P := mo_W D A ad cf0 f g) (As := [.int (x), .int (nI (0)), .int ((nI (n)) - (nI (1)))]) (rest := []) S E hS hM (c_in_n l D A (mo_W D A ad cf0 f g) (by skip; have := nI_toInt (n := 0) (by omega); have := pk_sub_toInt (a := n) (b := 1) (by omega) (by omega); omega)) mw_736 mw_734 mw_735 mw_43 ⟨by decide, by decide, by decide +kernel⟩ ⟨rfl, rfl, Nat.le_of_ble_eq_true rfl, Nat.le_of_ble_eq_true rfl⟩ (n := 3) rfl hl.1 rfl (Nat.le_of_ble_eq_true rfl) dX5_isState_8 ⟨Nat.le_of_ble_eq_true rfl, Nat.le_of_ble_eq_true rfl⟩) (fun r9 e9 => ?_)
  subst e9
  exact mi_retZ S hr hk dX5_isState_11 rfl (rfl)
set_option maxHeartbeats 4000000 in
set_option maxRecDepth 100000 in
theorem c_isDie_y (l : Launch) (D : va_G) (A : Nat → Prop) {ad : Nat → Nat} {cf0 : Nat → Option va_E} {f : Nat → Int32} {g : Nat → Nat → Int32} {n a : Nat} (hfn : f 6 = nI n) (hn : n < 1000) (ha : a < n) : mi_Rd l yX5_isDie (Cond.code yX5_isDie cX5_isDie 2 (some Jvm.ClassFile.FieldType.boolean)) (mi_rm 1) D A (mo_W D A ad cf0 f g) [.ref (ad 1000020), .int (nI (a))] (fun r => r = nI 1) := by
  refine mi_start (cc := cX5_isDie) (nL := 2) (ret := (some Jvm.ClassFile.FieldType.boolean)) rfl (by decide) (Nat.le_of_ble_eq_true rfl) ?_
  intro p e s m below meth c ls S E hM hS hr hk hn hl
  have S : CallFix p m c cX5_isDie 2 s _ ((Cond.code yX5_isDie cX5_isDie 2 (some Jvm.ClassFile.FieldType.boolean)) :: mi_G) RX5 := S
  have hl : lv_has ls 2 [(0, .ref (ad 1000020)), (1, .int (nI (a)))] := hl
  refine lv_iload_n S.1 S.2.1 dX5_isDie_0 rfl (lv_at hl 1 rfl) ?_
  refine lv_iconst (v := nI 0) S.1 S.2.1 dX5_isDie_1 (by decide) ?_
  refine lv_aload_n S.1 S.2.1 dX5_isDie_2 rfl (lv_at hl 0 rfl) ?_
  refine mo_g_104 S E hM dX5_isDie_3 ?_
  refine mi_top (v' := .int (nI (n))) (congrArg Value.int hfn) ?_
  refine lv_iconst (v := nI 1) S.1 S.2.1 dX5_isDie_6 (by decide) ?_
  refine lv_isub S.1 S.2.1 dX5_isDie_7 ?_
  refine mi_cR (mi_runS (P := mo_W D A ad cf0 f g) (As := [.int (nI (a)), .int (nI (0)), .int ((nI (n)) - (nI (1)))]) (rest := []) S E hS hM (c_in_y l D A (mo_W D A ad cf0 f g) (by have := nI_toInt (n := a) (by omega); have := nI_toInt (n := 0) (by omega); have := pk_sub_toInt (a := n) (b := 1) (by omega) (by omega); omega)) mw_736 mw_734 mw_735 mw_43 ⟨by decide, by decide, by decide +kernel⟩ ⟨rfl, rfl, Nat.le_of_ble_eq_true rfl, Nat.le_of_ble_eq_true rfl⟩ (n := 3) rfl hl.1 rfl (Nat.le_of_ble_eq_true rfl) dX5_isDie_8 ⟨Nat.le_of_ble_eq_true rfl, Nat.le_of_ble_eq_true rfl⟩) (fun r9 e9 => ?_)
  subst e9
  exact mi_retZ S hr hk dX5_isDie_11 rfl (rfl)
set_option maxHeartbeats 4000000 in
set_option maxRecDepth 100000 in
theorem c_isDie_n (l : Launch) (D : va_G) (A : Nat → Prop) {ad : Nat → Nat} {cf0 : Nat → Option va_E} {f : Nat → Int32} {g : Nat → Nat → Int32} {n : Nat} {x : Int32} (hfn : f 6 = nI n) (hn9 : n < 1000) (h : ¬ (0 ≤ x.toInt ∧ x.toInt < n)) : mi_Rd l yX5_isDie (Cond.code yX5_isDie cX5_isDie 2 (some Jvm.ClassFile.FieldType.boolean)) (mi_rm 1) D A (mo_W D A ad cf0 f g) [.ref (ad 1000020), .int (x)] (fun r => r = nI 0) := by
  refine mi_start (cc := cX5_isDie) (nL := 2) (ret := (some Jvm.ClassFile.FieldType.boolean)) rfl (by decide) (Nat.le_of_ble_eq_true rfl) ?_
  intro p e s m below meth c ls S E hM hS hr hk hn hl
  have S : CallFix p m c cX5_isDie 2 s _ ((Cond.code yX5_isDie cX5_isDie 2 (some Jvm.ClassFile.FieldType.boolean)) :: mi_G) RX5 := S
  have hl : lv_has ls 2 [(0, .ref (ad 1000020)), (1, .int (x))] := hl
  refine lv_iload_n S.1 S.2.1 dX5_isDie_0 rfl (lv_at hl 1 rfl) ?_
  refine lv_iconst (v := nI 0) S.1 S.2.1 dX5_isDie_1 (by decide) ?_
  refine lv_aload_n S.1 S.2.1 dX5_isDie_2 rfl (lv_at hl 0 rfl) ?_
  refine mo_g_104 S E hM dX5_isDie_3 ?_
  refine mi_top (v' := .int (nI (n))) (congrArg Value.int hfn) ?_
  refine lv_iconst (v := nI 1) S.1 S.2.1 dX5_isDie_6 (by decide) ?_
  refine lv_isub S.1 S.2.1 dX5_isDie_7 ?_
  refine mi_cR (mi_runS (P := mo_W D A ad cf0 f g) (As := [.int (x), .int (nI (0)), .int ((nI (n)) - (nI (1)))]) (rest := []) S E hS hM (c_in_n l D A (mo_W D A ad cf0 f g) (by skip; have := nI_toInt (n := 0) (by omega); have := pk_sub_toInt (a := n) (b := 1) (by omega) (by omega); omega)) mw_736 mw_734 mw_735 mw_43 ⟨by decide, by decide, by decide +kernel⟩ ⟨rfl, rfl, Nat.le_of_ble_eq_true rfl, Nat.le_of_ble_eq_true rfl⟩ (n := 3) rfl hl.1 rfl (Nat.le_of_ble_eq_true rfl) dX5_isDie_8 ⟨Nat.le_of_ble_eq_true rfl, Nat.le_of_ble_eq_true rfl⟩) (fun r9 e9 => ?_)
  subst e9
  exact mi_retZ S hr hk dX5_isDie_11 rfl (rfl)
set_option maxHeartbeats 4000000 in
set_option maxRecDepth 100000 in
theorem c_isCoin_y (l : Launch) (D : va_G) (A : Nat → Prop) {ad : Nat → Nat} {cf0 : Nat → Option va_E} {f : Nat → Int32} {g : Nat → Nat → Int32} {n a : Nat} (hfn : f 10 = nI n) (hn : n < 1000) (ha : a < n) : mi_Rd l yX5_isCoin (Cond.code yX5_isCoin cX5_isCoin 2 (some Jvm.ClassFile.FieldType.boolean)) (mi_rm 1) D A (mo_W D A ad cf0 f g) [.ref (ad 1000020), .int (nI (a))] (fun r => r = nI 1) := by
  refine mi_start (cc := cX5_isCoin) (nL := 2) (ret := (some Jvm.ClassFile.FieldType.boolean)) rfl (by decide) (Nat.le_of_ble_eq_true rfl) ?_
  intro p e s m below meth c ls S E hM hS hr hk hn hl
  have S : CallFix p m c cX5_isCoin 2 s _ ((Cond.code yX5_isCoin cX5_isCoin 2 (some Jvm.ClassFile.FieldType.boolean)) :: mi_G) RX5 := S
  have hl : lv_has ls 2 [(0, .ref (ad 1000020)), (1, .int (nI (a)))] := hl
  refine lv_iload_n S.1 S.2.1 dX5_isCoin_0 rfl (lv_at hl 1 rfl) ?_
  refine lv_iconst (v := nI 0) S.1 S.2.1 dX5_isCoin_1 (by decide) ?_
  refine lv_aload_n S.1 S.2.1 dX5_isCoin_2 rfl (lv_at hl 0 rfl) ?_
  refine mo_g_107 S E hM dX5_isCoin_3 ?_
  refine mi_top (v' := .int (nI (n))) (congrArg Value.int hfn) ?_
  refine lv_iconst (v := nI 1) S.1 S.2.1 dX5_isCoin_6 (by decide) ?_
  refine lv_isub S.1 S.2.1 dX5_isCoin_7 ?_
  refine mi_cR (mi_runS (P := mo_W D A ad cf0 f g) (As := [.int (nI (a)), .int (nI (0)), .int ((nI (n)) - (nI (1)))]) (rest := []) S E hS hM (c_in_y l D A (mo_W D A ad cf0 f g) (by have := nI_toInt (n := a) (by omega); have := nI_toInt (n := 0) (by omega); have := pk_sub_toInt (a := n) (b := 1) (by omega) (by omega); omega)) mw_736 mw_734 mw_735 mw_43 ⟨by decide, by decide, by decide +kernel⟩ ⟨rfl, rfl, Nat.le_of_ble_eq_true rfl, Nat.le_of_ble_eq_true rfl⟩ (n := 3) rfl hl.1 rfl (Nat.le_of_ble_eq_true rfl) dX5_isCoin_8 ⟨Nat.le_of_ble_eq_true rfl, Nat.le_of_ble_eq_true rfl⟩) (fun r9 e9 => ?_)
  subst e9
  exact mi_retZ S hr hk dX5_isCoin_11 rfl (rfl)
set_option maxHeartbeats 4000000 in
set_option maxRecDepth 100000 in
theorem c_isCoin_n (l : Launch) (D : va_G) (A : Nat → Prop) {ad : Nat → Nat} {cf0 : Nat → Option va_E} {f : Nat → Int32} {g : Nat → Nat → Int32} {n : Nat} {x : Int32} (hfn : f 10 = nI n) (hn9 : n < 1000) (h : ¬ (0 ≤ x.toInt ∧ x.toInt < n)) : mi_Rd l yX5_isCoin (Cond.code yX5_isCoin cX5_isCoin 2 (some Jvm.ClassFile.FieldType.boolean)) (mi_rm 1) D A (mo_W D A ad cf0 f g) [.ref (ad 1000020), .int (x)] (fun r => r = nI 0) := by
  refine mi_start (cc := cX5_isCoin) (nL := 2) (ret := (some Jvm.ClassFile.FieldType.boolean)) rfl (by decide) (Nat.le_of_ble_eq_true rfl) ?_
  intro p e s m below meth c ls S E hM hS hr hk hn hl
  have S : CallFix p m c cX5_isCoin 2 s _ ((Cond.code yX5_isCoin cX5_isCoin 2 (some Jvm.ClassFile.FieldType.boolean)) :: mi_G) RX5 := S
  have hl : lv_has ls 2 [(0, .ref (ad 1000020)), (1, .int (x))] := hl
  refine lv_iload_n S.1 S.2.1 dX5_isCoin_0 rfl (lv_at hl 1 rfl) ?_
  refine lv_iconst (v := nI 0) S.1 S.2.1 dX5_isCoin_1 (by decide) ?_
  refine lv_aload_n S.1 S.2.1 dX5_isCoin_2 rfl (lv_at hl 0 rfl) ?_
  refine mo_g_107 S E hM dX5_isCoin_3 ?_
  refine mi_top (v' := .int (nI (n))) (congrArg Value.int hfn) ?_
  refine lv_iconst (v := nI 1) S.1 S.2.1 dX5_isCoin_6 (by decide) ?_
  refine lv_isub S.1 S.2.1 dX5_isCoin_7 ?_
  refine mi_cR (mi_runS (P := mo_W D A ad cf0 f g) (As := [.int (x), .int (nI (0)), .int ((nI (n)) - (nI (1)))]) (rest := []) S E hS hM (c_in_n l D A (mo_W D A ad cf0 f g) (by skip; have := nI_toInt (n := 0) (by omega); have := pk_sub_toInt (a := n) (b := 1) (by omega) (by omega); omega)) mw_736 mw_734 mw_735 mw_43 ⟨by decide, by decide, by decide +kernel⟩ ⟨rfl, rfl, Nat.le_of_ble_eq_true rfl, Nat.le_of_ble_eq_true rfl⟩ (n := 3) rfl hl.1 rfl (Nat.le_of_ble_eq_true rfl) dX5_isCoin_8 ⟨Nat.le_of_ble_eq_true rfl, Nat.le_of_ble_eq_true rfl⟩) (fun r9 e9 => ?_)
  subst e9
  exact mi_retZ S hr hk dX5_isCoin_11 rfl (rfl)
set_option maxHeartbeats 4000000 in
set_option maxRecDepth 100000 in
theorem c_mkindAt (l : Launch) (D : va_G) (A : Nat → Prop) {ad : Nat → Nat} {cf0 : Nat → Option va_E} {f : Nat → Int32} {g : Nat → Nat → Int32} {w a b v : Nat} (hw : w < 61) (ha : a < 16) (hb : b < 8) (hk9 : mo_kd (g 4 (16 * w + a)) b = nI v) : mi_Rd l yX5_kindAt (Cond.code yX5_kindAt cX5_kindAt 4 (some Jvm.ClassFile.FieldType.int)) (mi_rm 0) D A (mo_W D A ad cf0 f g) [.ref (ad 1000020), .int (nI (w)), .int (nI (a)), .int (nI (b))] (fun r => r = nI v) := by
  refine mi_start (cc := cX5_kindAt) (nL := 4) (ret := (some Jvm.ClassFile.FieldType.int)) rfl (by decide) (Nat.le_of_ble_eq_true rfl) ?_
  intro p e s m below meth c ls S E hM hS hr hk hn hl
  have S : CallFix p m c cX5_kindAt 4 s _ ((Cond.code yX5_kindAt cX5_kindAt 4 (some Jvm.ClassFile.FieldType.int)) :: mi_G) RX5 := S
  have hl : lv_has ls 4 [(0, .ref (ad 1000020)), (1, .int (nI (w))), (2, .int (nI (a))), (3, .int (nI (b)))] := hl
  refine lv_aload_n S.1 S.2.1 dX5_kindAt_0 rfl (lv_at hl 0 rfl) ?_
  refine mo_g_17 S E hM dX5_kindAt_1 ?_
  refine lv_bipush (v := nI 16) S.1 S.2.1 dX5_kindAt_4 (by decide) ?_
  refine lv_iload_n S.1 S.2.1 dX5_kindAt_6 rfl (lv_at hl 1 rfl) ?_
  refine mi_imul S dX5_kindAt_7 ?_
  refine lv_iload_n S.1 S.2.1 dX5_kindAt_8 rfl (lv_at hl 2 rfl) ?_
  refine mi_iadd S dX5_kindAt_9 ?_
  refine mo_ald 4 S E hM rfl (by show _ < 976; omega) dX5_kindAt_10 ?_
  refine lv_iconst (v := nI 2) S.1 S.2.1 dX5_kindAt_11 (by decide) ?_
  refine lv_iload_n S.1 S.2.1 dX5_kindAt_12 rfl (lv_at hl 3 rfl) ?_
  refine mi_imul S dX5_kindAt_13 ?_
  refine lv_ishr S.1 S.2.1 dX5_kindAt_14 ?_
  refine lv_iconst (v := nI 3) S.1 S.2.1 dX5_kindAt_15 (by decide) ?_
  refine lv_iand S.1 S.2.1 dX5_kindAt_16 ?_
  refine mi_top (v' := .int (nI (v))) (congrArg Value.int hk9) ?_
  exact mi_retR S hr hk dX5_kindAt_17 (rfl)
set_option maxHeartbeats 4000000 in
set_option maxRecDepth 100000 in
theorem c_mkindNow (l : Launch) (D : va_G) (A : Nat → Prop) {ad : Nat → Nat} {cf0 : Nat → Option va_E} {f : Nat → Int32} {g : Nat → Nat → Int32} {w a b v : Nat} (hw : w < 61) (hf2 : f 2 = nI w) (ha : a < 16) (hb : b < 8) (hk9 : mo_kd (g 4 (16 * w + a)) b = nI v) : mi_Rd l yX5_kindNow (Cond.code yX5_kindNow cX5_kindNow 3 (some Jvm.ClassFile.FieldType.int)) (mi_rm 1) D A (mo_W D A ad cf0 f g) [.ref (ad 1000020), .int (nI (a)), .int (nI (b))] (fun r => r = nI v) := by
  refine mi_start (cc := cX5_kindNow) (nL := 3) (ret := (some Jvm.ClassFile.FieldType.int)) rfl (by decide) (Nat.le_of_ble_eq_true rfl) ?_
  intro p e s m below meth c ls S E hM hS hr hk hn hl
  have S : CallFix p m c cX5_kindNow 3 s _ ((Cond.code yX5_kindNow cX5_kindNow 3 (some Jvm.ClassFile.FieldType.int)) :: mi_G) RX5 := S
  have hl : lv_has ls 3 [(0, .ref (ad 1000020)), (1, .int (nI (a))), (2, .int (nI (b)))] := hl
  refine lv_aload_n S.1 S.2.1 dX5_kindNow_0 rfl (lv_at hl 0 rfl) ?_
  refine lv_aload_n S.1 S.2.1 dX5_kindNow_1 rfl (lv_at hl 0 rfl) ?_
  refine mo_g_51 S E hM dX5_kindNow_2 ?_
  refine mi_top (v' := .int (nI (w))) (congrArg Value.int hf2) ?_
  refine lv_iload_n S.1 S.2.1 dX5_kindNow_5 rfl (lv_at hl 1 rfl) ?_
  refine lv_iload_n S.1 S.2.1 dX5_kindNow_6 rfl (lv_at hl 2 rfl) ?_
  refine mi_cR (mi_runV (P := mo_W D A ad cf0 f g) (As := [.int (nI (w)), .int (nI (a)), .int (nI (b))]) (rest := []) S E hS hM (ad 1000020) (c_mkindAt l D A hw ha hb hk9) (hM.recv E) mw_767 mw_764 mw_766 mw_20 mw_43 ⟨by decide, by decide, by decide +kernel⟩ ⟨rfl, rfl, Nat.le_of_ble_eq_true rfl, Nat.le_of_ble_eq_true rfl⟩ (n := 3) rfl hl.1 rfl (Nat.le_of_ble_eq_true rfl) dX5_kindNow_7 ⟨Nat.le_of_ble_eq_true rfl, Nat.le_of_ble_eq_true rfl⟩) (fun r9 e9 => ?_)
  subst e9
  exact mi_retR S hr hk dX5_kindNow_10 (rfl)
set_option maxHeartbeats 4000000 in
set_option maxRecDepth 100000 in
theorem c_runsOf (l : Launch) (D : va_G) (A : Nat → Prop) {ad : Nat → Nat} {cf0 : Nat → Option va_E} {f : Nat → Int32} {g : Nat → Nat → Int32}{w : Nat} {K : Nat → Nat} (hw : w < 61) (hf2 : f 2 = nI w) (hK : ∀ a b, a < 16 → b < 8 → mo_kd (g 4 (16 * w + a)) b = nI (K (8 * a + b))) (hKb : ∀ j, j < 128 → K j < 4) {a : Nat} (ha : a < 16) : mi_Rd l yX5_runsOf (Cond.code yX5_runsOf cX5_runsOf 4 (some Jvm.ClassFile.FieldType.int)) (mi_rm 2) D A (mo_W D A ad cf0 f g) [.ref (ad 1000020), .int (nI (a))] (fun r => r = nI (sp_runs K a)) := by
  refine mi_start (cc := cX5_runsOf) (nL := 4) (ret := (some Jvm.ClassFile.FieldType.int)) rfl (by decide) (Nat.le_of_ble_eq_true rfl) ?_
  intro p e s m below meth c ls S E hM hS hr hk hn hl
  have S : CallFix p m c cX5_runsOf 4 s _ ((Cond.code yX5_runsOf cX5_runsOf 4 (some Jvm.ClassFile.FieldType.int)) :: mi_G) RX5 := S
  have hl : lv_has ls 4 [(0, .ref (ad 1000020)), (1, .int (nI (a)))] := hl
  refine lv_iconst (v := nI 1) S.1 S.2.1 dX5_runsOf_0 (by decide) ?_
  refine lv_istore_n (lv' := [(2, .int (nI (1))), (0, .ref (ad 1000020)), (1, .int (nI (a)))]) S.1 S.2.1 dX5_runsOf_1 rfl hl (by decide) rfl (fun ls hl => ?_)
  refine lv_iconst (v := nI 1) S.1 S.2.1 dX5_runsOf_2 (by decide) ?_
  refine lv_istore_n (lv' := [(3, .int (nI (1))), (2, .int (nI (1))), (0, .ref (ad 1000020)), (1, .int (nI (a)))]) S.1 S.2.1 dX5_runsOf_3 rfl hl (by decide) rfl (fun ls hl => ?_)
  have lp4 : ∀ (n4 : Nat) (i : Nat) (k : Nat) (ls : Array Slot), 8 - i < n4 → 1 ≤ i ∧ i ≤ 8 → k = 1 + sp_ri K a (i - 1) → lv_has ls 4 [(0, .ref (ad 1000020)), (1, .int (nI (a))), (2, .int (nI (k))), (3, .int (nI (i)))] → W p l e (mi_rm 2) s m ([.ref (ad 1000020), .int (nI (a))] : List Value).toArray below meth c s.heap [] 0 0 (MQ below (vp_Si (fun r => r = nI (sp_runs K a))) ([.ref (ad 1000020), .int (nI (a))] : List Value).toArray s 0 0 (fun _ => False)) (F0 m 4 ls []) := by
    intro n4
    induction n4 with
    | zero => intro i k ls hm hi hk9  hl; exact absurd hm (Nat.not_lt_zero _)
    | succ n4 ih4 =>
      intro i k ls hm hi hk9  hl
      refine lv_iload_n S.1 S.2.1 dX5_runsOf_4 rfl (lv_at hl 3 rfl) ?_
      refine lv_bipush (v := nI 8) S.1 S.2.1 dX5_runsOf_5 (by decide) ?_
      refine mi_icmp_ge (tgt := 41) S (by omega) (by omega) dX5_runsOf_7 (by decide) (fun c7_0 => ?_) (fun c7_0 => ?_)
      · refine lv_iload_n S.1 S.2.1 dX5_runsOf_41 rfl (lv_at hl 2 rfl) ?_
        exact mi_retR S hr hk dX5_runsOf_42 (by rw [hk9, show i = 8 by omega]; rfl)
      · refine lv_iload_n S.1 S.2.1 dX5_runsOf_10 rfl (lv_at hl 2 rfl) ?_
        refine lv_aload_n S.1 S.2.1 dX5_runsOf_11 rfl (lv_at hl 0 rfl) ?_
        refine lv_iload_n S.1 S.2.1 dX5_runsOf_12 rfl (lv_at hl 1 rfl) ?_
        refine lv_iload_n S.1 S.2.1 dX5_runsOf_13 rfl (lv_at hl 3 rfl) ?_
        refine mi_cR (mi_runV (P := mo_W D A ad cf0 f g) (As := [.int (nI (a)), .int (nI (i))]) (rest := [.int (nI (k))]) S E hS hM (ad 1000020) (c_mkindNow l D A hw hf2 (by omega) (by omega) (hK a i (by omega) (by omega))) (hM.recv E) mw_763 mw_760 mw_762 mw_19 mw_43 ⟨by decide, by decide, by decide +kernel⟩ ⟨rfl, rfl, Nat.le_of_ble_eq_true rfl, Nat.le_of_ble_eq_true rfl⟩ (n := 2) rfl hl.1 rfl (Nat.le_of_ble_eq_true rfl) dX5_runsOf_14 ⟨Nat.le_of_ble_eq_true rfl, Nat.le_of_ble_eq_true rfl⟩) (fun r9 e9 => ?_)
        subst e9
        refine lv_aload_n S.1 S.2.1 dX5_runsOf_17 rfl (lv_at hl 0 rfl) ?_
        refine lv_iload_n S.1 S.2.1 dX5_runsOf_18 rfl (lv_at hl 1 rfl) ?_
        refine lv_iload_n S.1 S.2.1 dX5_runsOf_19 rfl (lv_at hl 3 rfl) ?_
        refine lv_iconst (v := nI 1) S.1 S.2.1 dX5_runsOf_20 (by decide) ?_
        refine mi_isub S (by omega) dX5_runsOf_21 ?_
        refine mi_cR (mi_runV (P := mo_W D A ad cf0 f g) (As := [.int (nI (a)), .int (nI (i - 1))]) (rest := [.int (nI (K (8 * a + i))), .int (nI (k))]) S E hS hM (ad 1000020) (c_mkindNow l D A hw hf2 (by omega) (by omega) (hK a (i - 1) (by omega) (by omega))) (hM.recv E) mw_763 mw_760 mw_762 mw_19 mw_43 ⟨by decide, by decide, by decide +kernel⟩ ⟨rfl, rfl, Nat.le_of_ble_eq_true rfl, Nat.le_of_ble_eq_true rfl⟩ (n := 2) rfl hl.1 rfl (Nat.le_of_ble_eq_true rfl) dX5_runsOf_22 ⟨Nat.le_of_ble_eq_true rfl, Nat.le_of_ble_eq_true rfl⟩) (fun r9 e9 => ?_)
        subst e9
        have hb1 := hKb (8 * a + i) (by omega)
        have hb2 := hKb (8 * a + (i - 1)) (by omega)
        refine mi_icmp_ne (tgt := 32) S (by omega) (by omega) dX5_runsOf_25 (by decide) (fun c25_1 => ?_) (fun c25_1 => ?_)
        · refine lv_iconst (v := nI 1) S.1 S.2.1 dX5_runsOf_32 (by decide) ?_
          refine mi_iadd S dX5_runsOf_33 ?_
          refine lv_istore_n (lv' := [(2, .int (nI (k + 1))), (0, .ref (ad 1000020)), (1, .int (nI (a))), (3, .int (nI (i)))]) S.1 S.2.1 dX5_runsOf_34 rfl hl (by decide) rfl (fun ls hl => ?_)
          refine lv_iinc (v := nI (i + 1)) (lv' := [(3, .int (nI (i + 1))), (2, .int (nI (k + 1))), (0, .ref (ad 1000020)), (1, .int (nI (a)))]) S.1 S.2.1 dX5_runsOf_35 hl (k := 3) rfl (mi_inc _) (by decide) rfl (fun ls hl => ?_)
          refine lv_goto (tgt := 4) S.1 S.2.1 dX5_runsOf_38 (by decide) ?_
          exact ih4 (i + 1) (k + 1) _ (by omega) (by omega) (by rw [show i + 1 - 1 = (i - 1) + 1 by omega, sp_ri_succ]; unfold sp_ne; rw [show 8 * a + (i - 1) + 1 = 8 * a + i by omega]; first | (rw [if_pos (by omega)]; omega) | (rw [if_neg (by omega)]; omega))  (lv_sub hl [2, 3, 1, 0] rfl)
        · refine lv_iconst (v := nI 0) S.1 S.2.1 dX5_runsOf_28 (by decide) ?_
          refine lv_goto (tgt := 33) S.1 S.2.1 dX5_runsOf_29 (by decide) ?_
          refine mi_iadd S dX5_runsOf_33 ?_
          refine lv_istore_n (lv' := [(2, .int (nI (k + 0))), (0, .ref (ad 1000020)), (1, .int (nI (a))), (3, .int (nI (i)))]) S.1 S.2.1 dX5_runsOf_34 rfl hl (by decide) rfl (fun ls hl => ?_)
          refine lv_iinc (v := nI (i + 1)) (lv' := [(3, .int (nI (i + 1))), (2, .int (nI (k + 0))), (0, .ref (ad 1000020)), (1, .int (nI (a)))]) S.1 S.2.1 dX5_runsOf_35 hl (k := 3) rfl (mi_inc _) (by decide) rfl (fun ls hl => ?_)
          refine lv_goto (tgt := 4) S.1 S.2.1 dX5_runsOf_38 (by decide) ?_
          exact ih4 (i + 1) (k + 0) _ (by omega) (by omega) (by rw [show i + 1 - 1 = (i - 1) + 1 by omega, sp_ri_succ]; unfold sp_ne; rw [show 8 * a + (i - 1) + 1 = 8 * a + i by omega]; first | (rw [if_pos (by omega)]; omega) | (rw [if_neg (by omega)]; omega))  (lv_sub hl [2, 3, 1, 0] rfl)
  exact lp4 _ 1 1 _ (Nat.lt_succ_self _) (by omega) (by rfl)  (lv_sub hl [2, 3, 1, 0] rfl)
set_option maxHeartbeats 4000000 in
set_option maxRecDepth 100000 in
theorem c_heightNow (l : Launch) (D : va_G) (A : Nat → Prop) {ad : Nat → Nat} {cf0 : Nat → Option va_E} {f : Nat → Int32} {g : Nat → Nat → Int32}{w : Nat} {K : Nat → Nat} (hw : w < 61) (hf2 : f 2 = nI w) (hK : ∀ a b, a < 16 → b < 8 → mo_kd (g 4 (16 * w + a)) b = nI (K (8 * a + b))) (hKb : ∀ j, j < 128 → K j < 4) {a : Nat} (ha : a < 16) : mi_Rd l yX5_heightNow (Cond.code yX5_heightNow cX5_heightNow 4 (some Jvm.ClassFile.FieldType.int)) (mi_rm 2) D A (mo_W D A ad cf0 f g) [.ref (ad 1000020), .int (nI (a))] (fun r => r = nI (sp_h K a 8)) := by
  refine mi_start (cc := cX5_heightNow) (nL := 4) (ret := (some Jvm.ClassFile.FieldType.int)) rfl (by decide) (Nat.le_of_ble_eq_true rfl) ?_
  intro p e s m below meth c ls S E hM hS hr hk hn hl
  have S : CallFix p m c cX5_heightNow 4 s _ ((Cond.code yX5_heightNow cX5_heightNow 4 (some Jvm.ClassFile.FieldType.int)) :: mi_G) RX5 := S
  have hl : lv_has ls 4 [(0, .ref (ad 1000020)), (1, .int (nI (a)))] := hl
  refine lv_iconst (v := nI 0) S.1 S.2.1 dX5_heightNow_0 (by decide) ?_
  refine lv_istore_n (lv' := [(2, .int (nI (0))), (0, .ref (ad 1000020)), (1, .int (nI (a)))]) S.1 S.2.1 dX5_heightNow_1 rfl hl (by decide) rfl (fun ls hl => ?_)
  refine lv_iconst (v := nI 0) S.1 S.2.1 dX5_heightNow_2 (by decide) ?_
  refine lv_istore_n (lv' := [(3, .int (nI (0))), (2, .int (nI (0))), (0, .ref (ad 1000020)), (1, .int (nI (a)))]) S.1 S.2.1 dX5_heightNow_3 rfl hl (by decide) rfl (fun ls hl => ?_)
  have lp4 : ∀ (n4 : Nat) (i : Nat) (k : Nat) (ls : Array Slot), 8 - i < n4 → i ≤ 8 → k = sp_h K a i → lv_has ls 4 [(0, .ref (ad 1000020)), (1, .int (nI (a))), (2, .int (nI (k))), (3, .int (nI (i)))] → W p l e (mi_rm 2) s m ([.ref (ad 1000020), .int (nI (a))] : List Value).toArray below meth c s.heap [] 0 0 (MQ below (vp_Si (fun r => r = nI (sp_h K a 8))) ([.ref (ad 1000020), .int (nI (a))] : List Value).toArray s 0 0 (fun _ => False)) (F0 m 4 ls []) := by
    intro n4
    induction n4 with
    | zero => intro i k ls hm hi hk9  hl; exact absurd hm (Nat.not_lt_zero _)
    | succ n4 ih4 =>
      intro i k ls hm hi hk9  hl
      refine lv_iload_n S.1 S.2.1 dX5_heightNow_4 rfl (lv_at hl 3 rfl) ?_
      refine lv_bipush (v := nI 8) S.1 S.2.1 dX5_heightNow_5 (by decide) ?_
      refine mi_icmp_ge (tgt := 33) S (by omega) (by omega) dX5_heightNow_7 (by decide) (fun c7_0 => ?_) (fun c7_0 => ?_)
      · refine lv_iload_n S.1 S.2.1 dX5_heightNow_33 rfl (lv_at hl 2 rfl) ?_
        exact mi_retR S hr hk dX5_heightNow_34 (by rw [hk9, show i = 8 by omega])
      · refine lv_aload_n S.1 S.2.1 dX5_heightNow_10 rfl (lv_at hl 0 rfl) ?_
        refine lv_iload_n S.1 S.2.1 dX5_heightNow_11 rfl (lv_at hl 1 rfl) ?_
        refine lv_iload_n S.1 S.2.1 dX5_heightNow_12 rfl (lv_at hl 3 rfl) ?_
        refine mi_cR (mi_runV (P := mo_W D A ad cf0 f g) (As := [.int (nI (a)), .int (nI (i))]) (rest := []) S E hS hM (ad 1000020) (c_mkindNow l D A hw hf2 (by omega) (by omega) (hK a i (by omega) (by omega))) (hM.recv E) mw_763 mw_760 mw_762 mw_19 mw_43 ⟨by decide, by decide, by decide +kernel⟩ ⟨rfl, rfl, Nat.le_of_ble_eq_true rfl, Nat.le_of_ble_eq_true rfl⟩ (n := 2) rfl hl.1 rfl (Nat.le_of_ble_eq_true rfl) dX5_heightNow_13 ⟨Nat.le_of_ble_eq_true rfl, Nat.le_of_ble_eq_true rfl⟩) (fun r9 e9 => ?_)
        subst e9
        have hb1 := hKb (8 * a + i) (by omega)
        have hh1 := sp_h_le K a i
        refine mi_if_le (tgt := 25) S (by omega) dX5_heightNow_16 (by decide) (fun c16_1 => ?_) (fun c16_1 => ?_)
        · refine lv_iload_n S.1 S.2.1 dX5_heightNow_25 rfl (lv_at hl 2 rfl) ?_
          refine lv_istore_n (lv' := [(2, .int (nI (k))), (0, .ref (ad 1000020)), (1, .int (nI (a))), (3, .int (nI (i)))]) S.1 S.2.1 dX5_heightNow_26 rfl hl (by decide) rfl (fun ls hl => ?_)
          refine lv_iinc (v := nI (i + 1)) (lv' := [(3, .int (nI (i + 1))), (2, .int (nI (k))), (0, .ref (ad 1000020)), (1, .int (nI (a)))]) S.1 S.2.1 dX5_heightNow_27 hl (k := 3) rfl (mi_inc _) (by decide) rfl (fun ls hl => ?_)
          refine lv_goto (tgt := 4) S.1 S.2.1 dX5_heightNow_30 (by decide) ?_
          exact ih4 (i + 1) k _ (by omega) (by omega) (by first | (rw [sp_h_0 (by omega)]; omega) | (rw [sp_h_1 (by omega)]))  (lv_sub hl [2, 3, 1, 0] rfl)
        · refine lv_iload_n S.1 S.2.1 dX5_heightNow_19 rfl (lv_at hl 3 rfl) ?_
          refine lv_iconst (v := nI 1) S.1 S.2.1 dX5_heightNow_20 (by decide) ?_
          refine mi_iadd S dX5_heightNow_21 ?_
          refine lv_goto (tgt := 26) S.1 S.2.1 dX5_heightNow_22 (by decide) ?_
          refine lv_istore_n (lv' := [(2, .int (nI (i + 1))), (0, .ref (ad 1000020)), (1, .int (nI (a))), (3, .int (nI (i)))]) S.1 S.2.1 dX5_heightNow_26 rfl hl (by decide) rfl (fun ls hl => ?_)
          refine lv_iinc (v := nI (i + 1)) (lv' := [(3, .int (nI (i + 1))), (2, .int (nI (i + 1))), (0, .ref (ad 1000020)), (1, .int (nI (a)))]) S.1 S.2.1 dX5_heightNow_27 hl (k := 3) rfl (mi_inc _) (by decide) rfl (fun ls hl => ?_)
          refine lv_goto (tgt := 4) S.1 S.2.1 dX5_heightNow_30 (by decide) ?_
          exact ih4 (i + 1) (i + 1) _ (by omega) (by omega) (by first | (rw [sp_h_0 (by omega)]; omega) | (rw [sp_h_1 (by omega)]))  (lv_sub hl [2, 3, 1, 0] rfl)
  exact lp4 _ 0 0 _ (Nat.lt_succ_self _) (by omega) (by rfl)  (lv_sub hl [2, 3, 1, 0] rfl)
set_option maxHeartbeats 4000000 in
set_option maxRecDepth 100000 in
theorem c_manyBlocks (l : Launch) (D : va_G) (A : Nat → Prop) {ad : Nat → Nat} {cf0 : Nat → Option va_E} {f : Nat → Int32} {g : Nat → Nat → Int32}{w : Nat} {K : Nat → Nat} (hw : w < 61) (hf2 : f 2 = nI w) (hK : ∀ a b, a < 16 → b < 8 → mo_kd (g 4 (16 * w + a)) b = nI (K (8 * a + b))) (hKb : ∀ j, j < 128 → K j < 4) : mi_Rd l yX5_manyBlocks (Cond.code yX5_manyBlocks cX5_manyBlocks 4 (some Jvm.ClassFile.FieldType.int)) (mi_rm 2) D A (mo_W D A ad cf0 f g) [.ref (ad 1000020)] (fun r => r = nI (sp_blocks K)) := by
  refine mi_start (cc := cX5_manyBlocks) (nL := 4) (ret := (some Jvm.ClassFile.FieldType.int)) rfl (by decide) (Nat.le_of_ble_eq_true rfl) ?_
  intro p e s m below meth c ls S E hM hS hr hk hn hl
  have S : CallFix p m c cX5_manyBlocks 4 s _ ((Cond.code yX5_manyBlocks cX5_manyBlocks 4 (some Jvm.ClassFile.FieldType.int)) :: mi_G) RX5 := S
  have hl : lv_has ls 4 [(0, .ref (ad 1000020))] := hl
  refine lv_iconst (v := nI 0) S.1 S.2.1 dX5_manyBlocks_0 (by decide) ?_
  refine lv_istore_n (lv' := [(1, .int (nI (0))), (0, .ref (ad 1000020))]) S.1 S.2.1 dX5_manyBlocks_1 rfl hl (by decide) rfl (fun ls hl => ?_)
  refine lv_iconst (v := nI 0) S.1 S.2.1 dX5_manyBlocks_2 (by decide) ?_
  refine lv_istore_n (lv' := [(2, .int (nI (0))), (1, .int (nI (0))), (0, .ref (ad 1000020))]) S.1 S.2.1 dX5_manyBlocks_3 rfl hl (by decide) rfl (fun ls hl => ?_)
  have lp4 : ∀ (n4 : Nat) (i : Nat) (k : Nat) (ls : Array Slot), 16 - i < n4 → i ≤ 16 → k = fb_sm (sp_bl K) (8 * i) → k ≤ 8 * i → lv_has ls 4 [(0, .ref (ad 1000020)), (1, .int (nI (k))), (2, .int (nI (i)))] → W p l e (mi_rm 2) s m ([.ref (ad 1000020)] : List Value).toArray below meth c s.heap [] 0 0 (MQ below (vp_Si (fun r => r = nI (sp_blocks K))) ([.ref (ad 1000020)] : List Value).toArray s 0 0 (fun _ => False)) (F0 m 4 ls []) := by
    intro n4
    induction n4 with
    | zero => intro i k ls hm hi hk9 hkb  hl; exact absurd hm (Nat.not_lt_zero _)
    | succ n4 ih4 =>
      intro i k ls hm hi hk9 hkb  hl
      refine lv_iload_n S.1 S.2.1 dX5_manyBlocks_4 rfl (lv_at hl 2 rfl) ?_
      refine lv_bipush (v := nI 16) S.1 S.2.1 dX5_manyBlocks_5 (by decide) ?_
      refine mi_icmp_ge (tgt := 47) S (by omega) (by omega) dX5_manyBlocks_7 (by decide) (fun c7_0 => ?_) (fun c7_0 => ?_)
      · refine lv_iload_n S.1 S.2.1 dX5_manyBlocks_47 rfl (lv_at hl 1 rfl) ?_
        exact mi_retR S hr hk dX5_manyBlocks_48 (by rw [hk9, show i = 16 by omega]; rfl)
      · refine lv_iconst (v := nI 0) S.1 S.2.1 dX5_manyBlocks_10 (by decide) ?_
        refine lv_istore_n (lv' := [(3, .int (nI (0))), (0, .ref (ad 1000020)), (1, .int (nI (k))), (2, .int (nI (i)))]) S.1 S.2.1 dX5_manyBlocks_11 rfl hl (by decide) rfl (fun ls hl => ?_)
        have lp12 : ∀ (n12 : Nat) (j : Nat) (t : Nat) (ls : Array Slot), 8 - j < n12 → j ≤ 8 → t = fb_sm (sp_bl K) (8 * i + j) → t ≤ 8 * i + j → lv_has ls 4 [(0, .ref (ad 1000020)), (1, .int (nI (t))), (2, .int (nI (i))), (3, .int (nI (j)))] → W p l e (mi_rm 2) s m ([.ref (ad 1000020)] : List Value).toArray below meth c s.heap [] 0 0 (MQ below (vp_Si (fun r => r = nI (sp_blocks K))) ([.ref (ad 1000020)] : List Value).toArray s 0 0 (fun _ => False)) (F0 m 12 ls []) := by
          intro n12
          induction n12 with
          | zero => intro j t ls hm hj hk8 htb  hl; exact absurd hm (Nat.not_lt_zero _)
          | succ n12 ih12 =>
            intro j t ls hm hj hk8 htb  hl
            refine lv_iload_n S.1 S.2.1 dX5_manyBlocks_12 rfl (lv_at hl 3 rfl) ?_
            refine lv_bipush (v := nI 8) S.1 S.2.1 dX5_manyBlocks_13 (by decide) ?_
            refine mi_icmp_ge (tgt := 41) S (by omega) (by omega) dX5_manyBlocks_15 (by decide) (fun c15_1 => ?_) (fun c15_1 => ?_)
            · refine lv_iinc (v := nI (i + 1)) (lv' := [(2, .int (nI (i + 1))), (0, .ref (ad 1000020)), (1, .int (nI (t))), (3, .int (nI (j)))]) S.1 S.2.1 dX5_manyBlocks_41 hl (k := 2) rfl (mi_inc _) (by decide) rfl (fun ls hl => ?_)
              refine lv_goto (tgt := 4) S.1 S.2.1 dX5_manyBlocks_44 (by decide) ?_
              exact ih4 (i + 1) t _ (by omega) (by omega) (by rw [hk8, show 8 * (i + 1) = 8 * i + j by omega]) (by omega)  (lv_sub hl [1, 2, 0] rfl)
            · refine lv_iload_n S.1 S.2.1 dX5_manyBlocks_18 rfl (lv_at hl 1 rfl) ?_
              refine lv_aload_n S.1 S.2.1 dX5_manyBlocks_19 rfl (lv_at hl 0 rfl) ?_
              refine lv_iload_n S.1 S.2.1 dX5_manyBlocks_20 rfl (lv_at hl 2 rfl) ?_
              refine lv_iload_n S.1 S.2.1 dX5_manyBlocks_21 rfl (lv_at hl 3 rfl) ?_
              refine mi_cR (mi_runV (P := mo_W D A ad cf0 f g) (As := [.int (nI (i)), .int (nI (j))]) (rest := [.int (nI (t))]) S E hS hM (ad 1000020) (c_mkindNow l D A hw hf2 (by omega) (by omega) (hK i j (by omega) (by omega))) (hM.recv E) mw_763 mw_760 mw_762 mw_19 mw_43 ⟨by decide, by decide, by decide +kernel⟩ ⟨rfl, rfl, Nat.le_of_ble_eq_true rfl, Nat.le_of_ble_eq_true rfl⟩ (n := 2) rfl hl.1 rfl (Nat.le_of_ble_eq_true rfl) dX5_manyBlocks_22 ⟨Nat.le_of_ble_eq_true rfl, Nat.le_of_ble_eq_true rfl⟩) (fun r9 e9 => ?_)
              subst e9
              have hb1 := hKb (8 * i + j) (by omega)
              refine mi_if_le (tgt := 32) S (by omega) dX5_manyBlocks_25 (by decide) (fun c25_2 => ?_) (fun c25_2 => ?_)
              · refine lv_iconst (v := nI 0) S.1 S.2.1 dX5_manyBlocks_32 (by decide) ?_
                refine mi_iadd S dX5_manyBlocks_33 ?_
                refine lv_istore_n (lv' := [(1, .int (nI (t + 0))), (0, .ref (ad 1000020)), (2, .int (nI (i))), (3, .int (nI (j)))]) S.1 S.2.1 dX5_manyBlocks_34 rfl hl (by decide) rfl (fun ls hl => ?_)
                refine lv_iinc (v := nI (j + 1)) (lv' := [(3, .int (nI (j + 1))), (1, .int (nI (t + 0))), (0, .ref (ad 1000020)), (2, .int (nI (i)))]) S.1 S.2.1 dX5_manyBlocks_35 hl (k := 3) rfl (mi_inc _) (by decide) rfl (fun ls hl => ?_)
                refine lv_goto (tgt := 12) S.1 S.2.1 dX5_manyBlocks_38 (by decide) ?_
                exact ih12 (j + 1) (t + 0) _ (by omega) (by omega) (by rw [show 8 * i + (j + 1) = (8 * i + j) + 1 by omega, fb_sm_succ]; first | (rw [sp_bl_0 (by omega)]; omega) | (rw [sp_bl_1 (by omega)]; omega)) (by omega)  (lv_sub hl [2, 1, 3, 0] rfl)
              · refine lv_iconst (v := nI 1) S.1 S.2.1 dX5_manyBlocks_28 (by decide) ?_
                refine lv_goto (tgt := 33) S.1 S.2.1 dX5_manyBlocks_29 (by decide) ?_
                refine mi_iadd S dX5_manyBlocks_33 ?_
                refine lv_istore_n (lv' := [(1, .int (nI (t + 1))), (0, .ref (ad 1000020)), (2, .int (nI (i))), (3, .int (nI (j)))]) S.1 S.2.1 dX5_manyBlocks_34 rfl hl (by decide) rfl (fun ls hl => ?_)
                refine lv_iinc (v := nI (j + 1)) (lv' := [(3, .int (nI (j + 1))), (1, .int (nI (t + 1))), (0, .ref (ad 1000020)), (2, .int (nI (i)))]) S.1 S.2.1 dX5_manyBlocks_35 hl (k := 3) rfl (mi_inc _) (by decide) rfl (fun ls hl => ?_)
                refine lv_goto (tgt := 12) S.1 S.2.1 dX5_manyBlocks_38 (by decide) ?_
                exact ih12 (j + 1) (t + 1) _ (by omega) (by omega) (by rw [show 8 * i + (j + 1) = (8 * i + j) + 1 by omega, fb_sm_succ]; first | (rw [sp_bl_0 (by omega)]; omega) | (rw [sp_bl_1 (by omega)]; omega)) (by omega)  (lv_sub hl [2, 1, 3, 0] rfl)
        exact lp12 _ 0 k _ (Nat.lt_succ_self _) (by omega) (by rw [hk9]; rfl) (by omega)  (lv_sub hl [1, 2, 3, 0] rfl)
  exact lp4 _ 0 0 _ (Nat.lt_succ_self _) (by omega) (by rfl) (by omega)  (lv_sub hl [2, 1, 0] rfl)
set_option maxHeartbeats 4000000 in
set_option maxRecDepth 100000 in
theorem c_far (l : Launch) (D : va_G) (A : Nat → Prop) (P : Heap → Prop) {a b : Nat} (ha : a < 2 ^ 30) (hb : b < 2 ^ 30) : mi_Rd l yX5_far (Cond.code yX5_far cX5_far 2 (some Jvm.ClassFile.FieldType.int)) (mi_rm 0) D A (P) [.int (nI (a)), .int (nI (b))] (fun r => r = nI (if a < b then b - a else a - b)) := by
  refine mi_start (cc := cX5_far) (nL := 2) (ret := (some Jvm.ClassFile.FieldType.int)) rfl (by decide) (Nat.le_of_ble_eq_true rfl) ?_
  intro p e s m below meth c ls S E hM hS hr hk hn hl
  have S : CallFix p m c cX5_far 2 s _ ((Cond.code yX5_far cX5_far 2 (some Jvm.ClassFile.FieldType.int)) :: mi_G) RX5 := S
  have hl : lv_has ls 2 [(0, .int (nI (a))), (1, .int (nI (b)))] := hl
  refine lv_iload_n S.1 S.2.1 dX5_far_0 rfl (lv_at hl 0 rfl) ?_
  refine lv_iload_n S.1 S.2.1 dX5_far_1 rfl (lv_at hl 1 rfl) ?_
  refine mi_icmp_le (tgt := 11) S (by omega) (by omega) dX5_far_2 (by decide) (fun c2_0 => ?_) (fun c2_0 => ?_)
  · refine lv_iload_n S.1 S.2.1 dX5_far_11 rfl (lv_at hl 1 rfl) ?_
    refine lv_iload_n S.1 S.2.1 dX5_far_12 rfl (lv_at hl 0 rfl) ?_
    refine mi_isub S (by omega) dX5_far_13 ?_
    exact mi_retR S hr hk dX5_far_14 (by congr 1; split <;> omega)
  · refine lv_iload_n S.1 S.2.1 dX5_far_5 rfl (lv_at hl 0 rfl) ?_
    refine lv_iload_n S.1 S.2.1 dX5_far_6 rfl (lv_at hl 1 rfl) ?_
    refine mi_isub S (by omega) dX5_far_7 ?_
    refine lv_goto (tgt := 14) S.1 S.2.1 dX5_far_8 (by decide) ?_
    exact mi_retR S hr hk dX5_far_14 (by congr 1; split <;> omega)
end
section
/-! the reference's changes of blocks -/
theorem mi_up_fn {α : Type} (f : Nat → α) (k : Nat) : va_up f k (f k) = f := by
  funext j
  by_cases h : j = k
  · subst h
    rw [mi_up_s]
  · rw [mi_up_n h]
set_option maxHeartbeats 4000000 in
set_option maxRecDepth 100000 in
theorem c_grows (l : Launch) (D : va_G) (A : Nat → Prop) {ad : Nat → Nat} {cf0 : Nat → Option va_E} {f : Nat → Int32} {g : Nat → Nat → Int32} {S0 : sT} (hR : st_mo S0 f g) (hO : st_ok S0) (h61 : sN S0 < 61) : mi_Mv l yX5_grows (Cond.code yX5_grows cX5_grows 2 none) (mi_rm 0) D A (mo_W D A ad cf0 f g) [.ref (ad 1000020)] 0 0 (fun H => ∃ f1 g1, mo_W D A ad cf0 f1 g1 H ∧ st_mo (st_new S0 (sK S0 (sW S0))) f1 g1 ∧ f1 0 = f 0) := by
  refine mi_start (cc := cX5_grows) (nL := 2) (ret := none) rfl (by decide) (Nat.le_of_ble_eq_true rfl) ?_
  intro p e s m below meth c ls S E hM hS hr hk hn hl
  have S : CallFix p m c cX5_grows 2 s _ ((Cond.code yX5_grows cX5_grows 2 none) :: mi_G) RX5 := S
  have hl : lv_has ls 2 [(0, .ref (ad 1000020))] := hl
  obtain ⟨⟨o1, o2, o3, o4, o5⟩, oP, oK, oD, oX, oC, oI⟩ := id hO
  refine lv_iconst (v := nI 0) S.1 S.2.1 dX5_grows_0 (by decide) ?_
  refine lv_istore_n (lv' := [(1, .int (nI (0))), (0, .ref (ad 1000020))]) S.1 S.2.1 dX5_grows_1 rfl hl (by decide) rfl (fun ls hl => ?_)
  have lp2 : ∀ (n2 : Nat) (i : Nat) (H : Heap) (locs : List Loc) (ls : Array Slot), 16 - i < n2 → i ≤ 16 → mo_W D A ad cf0 f (va_up g 4 (mo_gr (g 4) (sN S0) (sW S0) i)) H → va_S A s.heap H locs → lv_has ls 2 [(0, .ref (ad 1000020)), (1, .int (nI (i)))] → W p l e (mi_rm 0) s m ([.ref (ad 1000020)] : List Value).toArray below meth c H locs 0 0 (MQ below (mi_Qv A (fun H => ∃ f1 g1, mo_W D A ad cf0 f1 g1 H ∧ st_mo (st_new S0 (sK S0 (sW S0))) f1 g1 ∧ f1 0 = f 0)) ([.ref (ad 1000020)] : List Value).toArray s 0 0 A) (F0 m 2 ls []) := by
    intro n2
    induction n2 with
    | zero => intro i H locs ls hm hi hM hS hl; exact absurd hm (Nat.not_lt_zero _)
    | succ n2 ih2 =>
      intro i H locs ls hm hi hM hS hl
      refine lv_iload_n S.1 S.2.1 dX5_grows_2 rfl (lv_at hl 1 rfl) ?_
      refine lv_bipush (v := nI 16) S.1 S.2.1 dX5_grows_3 (by decide) ?_
      refine mi_icmp_ge (tgt := 42) S (by omega) (by omega) dX5_grows_5 (by decide) (fun c5_0 => ?_) (fun c5_0 => ?_)
      · refine lv_aload_n S.1 S.2.1 dX5_grows_42 rfl (lv_at hl 0 rfl) ?_
        refine mo_g_13 S E hM dX5_grows_43 ?_
        refine lv_aload_n S.1 S.2.1 dX5_grows_46 rfl (lv_at hl 0 rfl) ?_
        refine mo_g_7 S E hM dX5_grows_47 ?_
        refine mi_top (v' := .int (nI (sN S0))) (congrArg Value.int hR.1.1) ?_
        refine lv_aload_n S.1 S.2.1 dX5_grows_50 rfl (lv_at hl 0 rfl) ?_
        refine mo_g_51 S E hM dX5_grows_51 ?_
        refine mi_top (v' := .int (nI (sW S0))) (congrArg Value.int hR.1.2.1) ?_
        refine mo_ast 3 S E hS hM rfl (by show _ < 61; omega) dX5_grows_54 (fun H locs hM hS => ?_)
        refine lv_aload_n S.1 S.2.1 dX5_grows_55 rfl (lv_at hl 0 rfl) ?_
        refine lv_aload_n S.1 S.2.1 dX5_grows_56 rfl (lv_at hl 0 rfl) ?_
        refine mo_g_7 S E hM dX5_grows_57 ?_
        refine mi_top (v' := .int (nI (sN S0))) (congrArg Value.int hR.1.1) ?_
        refine mo_p_51 S E hS hM dX5_grows_60 (fun H locs hM hS => ?_)
        refine lv_aload_n S.1 S.2.1 dX5_grows_63 rfl (lv_at hl 0 rfl) ?_
        refine lv_dup S.1 S.2.1 dX5_grows_64 rfl ?_
        refine mo_g_7 S E hM dX5_grows_65 ?_
        refine mi_top (v' := .int (nI (sN S0))) (congrArg Value.int hR.1.1) ?_
        refine lv_iconst (v := nI 1) S.1 S.2.1 dX5_grows_68 (by decide) ?_
        refine mi_iadd S dX5_grows_69 ?_
        refine mo_p_7 S E hS hM dX5_grows_70 (fun H locs hM hS => ?_)
        skip
        exact mi_retMv S hr hk hS dX5_grows_73 (Nat.le_refl _) (Nat.le_refl _) ⟨_, _, hM, (show st_mo (st_new S0 (sK S0 (sW S0))) _ _ from by rw [mi_up_n (show (3 : Nat) ≠ 4 by decide), show i = 16 from by omega]; exact st_mo_grow hR hO), rfl⟩
      · refine lv_aload_n S.1 S.2.1 dX5_grows_8 rfl (lv_at hl 0 rfl) ?_
        refine mo_g_17 S E hM dX5_grows_9 ?_
        refine lv_bipush (v := nI 16) S.1 S.2.1 dX5_grows_12 (by decide) ?_
        refine lv_aload_n S.1 S.2.1 dX5_grows_14 rfl (lv_at hl 0 rfl) ?_
        refine mo_g_7 S E hM dX5_grows_15 ?_
        refine mi_top (v' := .int (nI (sN S0))) (congrArg Value.int hR.1.1) ?_
        refine mi_imul S dX5_grows_18 ?_
        refine lv_iload_n S.1 S.2.1 dX5_grows_19 rfl (lv_at hl 1 rfl) ?_
        refine mi_iadd S dX5_grows_20 ?_
        refine lv_aload_n S.1 S.2.1 dX5_grows_21 rfl (lv_at hl 0 rfl) ?_
        refine mo_g_17 S E hM dX5_grows_22 ?_
        refine lv_bipush (v := nI 16) S.1 S.2.1 dX5_grows_25 (by decide) ?_
        refine lv_aload_n S.1 S.2.1 dX5_grows_27 rfl (lv_at hl 0 rfl) ?_
        refine mo_g_51 S E hM dX5_grows_28 ?_
        refine mi_top (v' := .int (nI (sW S0))) (congrArg Value.int hR.1.2.1) ?_
        refine mi_imul S dX5_grows_31 ?_
        refine lv_iload_n S.1 S.2.1 dX5_grows_32 rfl (lv_at hl 1 rfl) ?_
        refine mi_iadd S dX5_grows_33 ?_
        refine mo_ald 4 S E hM rfl (by show _ < 976; omega) dX5_grows_34 ?_
        refine mi_top (v' := .int (mo_gr (g 4) (sN S0) (sW S0) i (16 * sW S0 + i))) (congrArg Value.int (congrFun mi_up_s _)) ?_
        refine mo_ast 4 S E hS hM rfl (by show _ < 976; omega) dX5_grows_35 (fun H locs hM hS => ?_)
        refine lv_iinc (v := nI (i + 1)) (lv' := [(1, .int (nI (i + 1))), (0, .ref (ad 1000020))]) S.1 S.2.1 dX5_grows_36 hl (k := 1) rfl (mi_inc _) (by decide) rfl (fun ls hl => ?_)
        refine lv_goto (tgt := 2) S.1 S.2.1 dX5_grows_39 (by decide) ?_
        exact ih2 (i + 1) _ _ _ (by omega) (by omega) (by rw [mi_up_s, mi_up_up, mo_gr_step o3 (by omega)] at hM; exact hM) hS (lv_sub hl [1, 0] rfl)
  exact lp2 _ 0 _ _ _ (Nat.lt_succ_self _) (by omega) (by rw [mo_gr_0, mi_up_fn]; exact hM) hS (lv_sub hl [1, 0] rfl)
set_option maxHeartbeats 4000000 in
set_option maxRecDepth 100000 in
theorem c_puts (l : Launch) (D : va_G) (A : Nat → Prop) {ad : Nat → Nat} {cf0 : Nat → Option va_E} {f : Nat → Int32} {g : Nat → Nat → Int32} {S0 : sT} (hR : st_mo S0 f g) (hO : sW S0 < sN S0 ∧ sN S0 ≤ 61) {a b k : Nat} (ha : a < 16) (hb : b < 8) (hk4 : k < 4) : mi_Mv l yX5_puts (Cond.code yX5_puts cX5_puts 5 none) (mi_rm 0) D A (mo_W D A ad cf0 f g) [.ref (ad 1000020), .int (nI (a)), .int (nI (b)), .int (nI (k))] 0 0 (fun H => ∃ f1 g1, mo_W D A ad cf0 f1 g1 H ∧ st_mo (st_put S0 (8 * a + b) k) f1 g1 ∧ f1 0 = f 0) := by
  refine mi_start (cc := cX5_puts) (nL := 5) (ret := none) rfl (by decide) (Nat.le_of_ble_eq_true rfl) ?_
  intro p e s m below meth c ls S E hM hS hr hk hn hl
  have S : CallFix p m c cX5_puts 5 s _ ((Cond.code yX5_puts cX5_puts 5 none) :: mi_G) RX5 := S
  have hl : lv_has ls 5 [(0, .ref (ad 1000020)), (1, .int (nI (a))), (2, .int (nI (b))), (3, .int (nI (k)))] := hl
  refine lv_bipush (v := nI 16) S.1 S.2.1 dX5_puts_0 (by decide) ?_
  refine lv_aload_n S.1 S.2.1 dX5_puts_2 rfl (lv_at hl 0 rfl) ?_
  refine mo_g_51 S E hM dX5_puts_3 ?_
  refine mi_top (v' := .int (nI (sW S0))) (congrArg Value.int hR.1.2.1) ?_
  refine mi_imul S dX5_puts_6 ?_
  refine lv_iload_n S.1 S.2.1 dX5_puts_7 rfl (lv_at hl 1 rfl) ?_
  refine mi_iadd S dX5_puts_8 ?_
  refine lv_istore (lv' := [(4, .int (nI ((16 * (sW S0)) + a))), (0, .ref (ad 1000020)), (1, .int (nI (a))), (2, .int (nI (b))), (3, .int (nI (k)))]) S.1 S.2.1 dX5_puts_9 hl (by decide) rfl (fun ls hl => ?_)
  refine lv_aload_n S.1 S.2.1 dX5_puts_11 rfl (lv_at hl 1 rfl) ?_
  refine mo_g_17 S E hM dX5_puts_12 ?_
  refine lv_iload S.1 S.2.1 dX5_puts_15 (lv_at hl 0 rfl) ?_
  refine lv_aload_n S.1 S.2.1 dX5_puts_17 rfl (lv_at hl 1 rfl) ?_
  refine mo_g_17 S E hM dX5_puts_18 ?_
  refine lv_iload S.1 S.2.1 dX5_puts_21 (lv_at hl 0 rfl) ?_
  refine mo_ald 4 S E hM rfl (by show _ < 976; omega) dX5_puts_23 ?_
  refine lv_iconst (v := nI 3) S.1 S.2.1 dX5_puts_24 (by decide) ?_
  refine lv_iconst (v := nI 2) S.1 S.2.1 dX5_puts_25 (by decide) ?_
  refine lv_iload_n S.1 S.2.1 dX5_puts_26 rfl (lv_at hl 3 rfl) ?_
  refine mi_imul S dX5_puts_27 ?_
  refine lv_ishl S.1 S.2.1 dX5_puts_28 ?_
  refine lv_iconst (v := (-1)) S.1 S.2.1 dX5_puts_29 (by decide) ?_
  refine lv_ixor S.1 S.2.1 dX5_puts_30 ?_
  refine lv_iand S.1 S.2.1 dX5_puts_31 ?_
  refine lv_iload_n S.1 S.2.1 dX5_puts_32 rfl (lv_at hl 4 rfl) ?_
  refine lv_iconst (v := nI 2) S.1 S.2.1 dX5_puts_33 (by decide) ?_
  refine lv_iload_n S.1 S.2.1 dX5_puts_34 rfl (lv_at hl 3 rfl) ?_
  refine mi_imul S dX5_puts_35 ?_
  refine lv_ishl S.1 S.2.1 dX5_puts_36 ?_
  refine lv_ior S.1 S.2.1 dX5_puts_37 ?_
  refine mo_ast 4 S E hS hM rfl (by show _ < 976; omega) dX5_puts_38 (fun H locs hM hS => ?_)
  exact mi_retMv S hr hk hS dX5_puts_39 (Nat.le_refl _) (Nat.le_refl _) (⟨f, _, hM, st_mo_put hR ha hb hk4 hO.1, rfl⟩)
set_option maxHeartbeats 4000000 in
set_option maxRecDepth 100000 in
theorem c_mset (l : Launch) (D : va_G) (A : Nat → Prop) {ad : Nat → Nat} {cf0 : Nat → Option va_E} {f : Nat → Int32} {g : Nat → Nat → Int32} {S0 : sT} (hR : st_mo S0 f g) (hO : st_ok S0) {a b k : Nat} (ha : a < 16) (hb : b < 8) (hk4 : k < 4) (h61 : sN S0 < 61) : mi_Mi l yX5_set (Cond.code yX5_set cX5_set 4 (some Jvm.ClassFile.FieldType.int)) (mi_rm 2) D A (mo_W D A ad cf0 f g) [.ref (ad 1000020), .int (nI (a)), .int (nI (b)), .int (nI (k))] 0 0 (fun r H => r = nI (sN S0) ∧ ∃ f1 g1, mo_W D A ad cf0 f1 g1 H ∧ st_mo (st_new S0 (mi_un (sK S0 (sW S0)) (8 * a + b) k)) f1 g1 ∧ f1 0 = nI 0) := by
  refine mi_start (cc := cX5_set) (nL := 4) (ret := (some Jvm.ClassFile.FieldType.int)) rfl (by decide) (Nat.le_of_ble_eq_true rfl) ?_
  intro p e s m below meth c ls S E hM hS hr hk hn hl
  have S : CallFix p m c cX5_set 4 s _ ((Cond.code yX5_set cX5_set 4 (some Jvm.ClassFile.FieldType.int)) :: mi_G) RX5 := S
  have hl : lv_has ls 4 [(0, .ref (ad 1000020)), (1, .int (nI (a))), (2, .int (nI (b))), (3, .int (nI (k)))] := hl
  obtain ⟨⟨o1, o2, o3, o4, o5⟩, oP, oK, oD, oX, oC, oI⟩ := id hO
  refine lv_aload_n S.1 S.2.1 dX5_set_0 rfl (lv_at hl 0 rfl) ?_
  refine lv_iload_n S.1 S.2.1 dX5_set_1 rfl (lv_at hl 1 rfl) ?_
  refine mi_cR (mi_runS (P := mo_W D A ad cf0 f g) (As := [.int (nI (a))]) (rest := [.ref (ad 1000020)]) S E hS hM (c_misColumn_y l D A (mo_W D A ad cf0 f g) (by omega)) mw_733 mw_731 mw_732 mw_43 ⟨by decide, by decide, by decide +kernel⟩ ⟨rfl, rfl, Nat.le_of_ble_eq_true rfl, Nat.le_of_ble_eq_true rfl⟩ (n := 1) rfl hl.1 rfl (Nat.le_of_ble_eq_true rfl) dX5_set_2 ⟨Nat.le_of_ble_eq_true rfl, Nat.le_of_ble_eq_true rfl⟩) (fun r9 e9 => ?_)
  subst e9
  refine mi_if_eq (tgt := 15) S (by omega) dX5_set_5 (by decide) (fun c5_0 => by exfalso; omega) (fun c5_0 => ?_)
  refine lv_iload_n S.1 S.2.1 dX5_set_8 rfl (lv_at hl 2 rfl) ?_
  refine mi_cR (mi_runS (P := mo_W D A ad cf0 f g) (As := [.int (nI (b))]) (rest := [.ref (ad 1000020)]) S E hS hM (c_misLevel_y l D A (mo_W D A ad cf0 f g) (by omega)) mw_739 mw_737 mw_738 mw_43 ⟨by decide, by decide, by decide +kernel⟩ ⟨rfl, rfl, Nat.le_of_ble_eq_true rfl, Nat.le_of_ble_eq_true rfl⟩ (n := 1) rfl hl.1 rfl (Nat.le_of_ble_eq_true rfl) dX5_set_9 ⟨Nat.le_of_ble_eq_true rfl, Nat.le_of_ble_eq_true rfl⟩) (fun r9 e9 => ?_)
  subst e9
  refine mi_if_ne (tgt := 19) S (by omega) dX5_set_12 (by decide) (fun c12_1 => ?_) (fun c12_1 => by exfalso; omega)
  refine lv_iload_n S.1 S.2.1 dX5_set_19 rfl (lv_at hl 3 rfl) ?_
  refine lv_iconst (v := nI 0) S.1 S.2.1 dX5_set_20 (by decide) ?_
  refine lv_iconst (v := nI 3) S.1 S.2.1 dX5_set_21 (by decide) ?_
  refine mi_cR (mi_runS (P := mo_W D A ad cf0 f g) (As := [.int (nI (k)), .int (nI (0)), .int (nI (3))]) (rest := [.ref (ad 1000020)]) S E hS hM (c_in_y l D A (mo_W D A ad cf0 f g) (by have := nI_toInt (n := k) (by omega); have := nI_toInt (n := 0) (by omega); have := nI_toInt (n := 3) (by omega); omega)) mw_736 mw_734 mw_735 mw_43 ⟨by decide, by decide, by decide +kernel⟩ ⟨rfl, rfl, Nat.le_of_ble_eq_true rfl, Nat.le_of_ble_eq_true rfl⟩ (n := 3) rfl hl.1 rfl (Nat.le_of_ble_eq_true rfl) dX5_set_22 ⟨Nat.le_of_ble_eq_true rfl, Nat.le_of_ble_eq_true rfl⟩) (fun r9 e9 => ?_)
  subst e9
  refine mi_if_ne (tgt := 32) S (by omega) dX5_set_25 (by decide) (fun c25_2 => ?_) (fun c25_2 => by exfalso; omega)
  refine lv_aload_n S.1 S.2.1 dX5_set_32 rfl (lv_at hl 0 rfl) ?_
  refine mo_g_7 S E hM dX5_set_33 ?_
  refine mi_top (v' := .int (nI (sN S0))) (congrArg Value.int hR.1.1) ?_
  refine lv_bipush (v := nI 61) S.1 S.2.1 dX5_set_36 (by decide) ?_
  refine mi_icmp_ne (tgt := 45) S (by omega) (by omega) dX5_set_38 (by decide) (fun c38_3 => ?_) (fun c38_3 => by exfalso; omega)
  refine lv_iconst (v := nI 0) S.1 S.2.1 dX5_set_45 (by decide) ?_
  refine mo_p_44 S E hS hM dX5_set_46 (fun H locs hM hS => ?_)
  refine lv_aload_n S.1 S.2.1 dX5_set_49 rfl (lv_at hl 0 rfl) ?_
  refine mo_g_44 S E hM dX5_set_50 ?_
  refine mi_top (v' := .int (nI (0))) (rfl) ?_
  refine mi_if_le (tgt := 58) S (by omega) dX5_set_53 (by decide) (fun c53_5 => ?_) (fun c53_5 => by exfalso; omega)
  refine lv_aload_n S.1 S.2.1 dX5_set_58 rfl (lv_at hl 0 rfl) ?_
  refine mi_cMv (mi_runV (P := mo_W D A ad cf0 (upd f 0 (nI (0))) g) (As := []) (rest := []) S E hS hM (ad 1000020) (c_grows l D A (st_mo_0 hR _) hO h61) (hM.recv E) mw_743 mw_740 mw_742 mw_17 mw_43 ⟨by decide, by decide, by decide +kernel⟩ ⟨rfl, rfl, Nat.le_of_ble_eq_true rfl, Nat.le_of_ble_eq_true rfl⟩ (n := 0) rfl hl.1 rfl (Nat.le_of_ble_eq_true rfl) dX5_set_59 ⟨Nat.le_of_ble_eq_true rfl, Nat.le_of_ble_eq_true rfl⟩) hS (fun H locs hp9 hS hz => ?_)
  obtain ⟨f7, g7, hM, hR7, hz7⟩ := hp9
  refine lv_aload_n S.1 S.2.1 dX5_set_62 rfl (lv_at hl 0 rfl) ?_
  refine lv_iload_n S.1 S.2.1 dX5_set_63 rfl (lv_at hl 1 rfl) ?_
  refine lv_iload_n S.1 S.2.1 dX5_set_64 rfl (lv_at hl 2 rfl) ?_
  refine lv_iload_n S.1 S.2.1 dX5_set_65 rfl (lv_at hl 3 rfl) ?_
  refine mi_cMv (mi_runV (P := mo_W D A ad cf0 f7 g7) (As := [.int (nI (a)), .int (nI (b)), .int (nI (k))]) (rest := []) S E hS hM (ad 1000020) (c_puts l D A (S0 := st_new S0 (sK S0 (sW S0))) hR7 ⟨(show sN S0 < sN S0 + 1 by omega), (show sN S0 + 1 ≤ 61 by omega)⟩ (by omega) (by omega) (by omega)) (hM.recv E) mw_747 mw_744 mw_746 mw_18 mw_43 ⟨by decide, by decide, by decide +kernel⟩ ⟨rfl, rfl, Nat.le_of_ble_eq_true rfl, Nat.le_of_ble_eq_true rfl⟩ (n := 3) rfl hl.1 rfl (Nat.le_of_ble_eq_true rfl) dX5_set_66 ⟨Nat.le_of_ble_eq_true rfl, Nat.le_of_ble_eq_true rfl⟩) hS (fun H locs hp9 hS hz => ?_)
  obtain ⟨f8, g8, hM, hR8, hz8⟩ := hp9
  rw [st_put_new] at hR8
  refine lv_aload_n S.1 S.2.1 dX5_set_69 rfl (lv_at hl 0 rfl) ?_
  refine mo_g_51 S E hM dX5_set_70 ?_
  refine mi_top (v' := .int (nI (sN S0))) (congrArg Value.int hR8.1.2.1) ?_
  exact mi_retMi S hr hk hS dX5_set_73 (Nat.le_refl _) (Nat.le_refl _) ⟨rfl, f8, g8, hM, hR8, hz8.trans ( hz7.trans (rfl))⟩
set_option maxHeartbeats 4000000 in
set_option maxRecDepth 100000 in
theorem c_mset_1 (l : Launch) (D : va_G) (A : Nat → Prop) {ad : Nat → Nat} {cf0 : Nat → Option va_E} {f : Nat → Int32} {g : Nat → Nat → Int32} {S0 : sT} (hR : st_mo S0 f g) (hO : st_ok S0) {x y z : Int32} (h9 : ¬ (0 ≤ x.toInt ∧ x.toInt ≤ 15)) : mi_Mi l yX5_set (Cond.code yX5_set cX5_set 4 (some Jvm.ClassFile.FieldType.int)) (mi_rm 2) D A (mo_W D A ad cf0 f g) [.ref (ad 1000020), .int (x), .int (y), .int (z)] 0 0 (fun r H => mo_W D A ad cf0 (upd f 0 (nI 1)) g H) := by
  refine mi_start (cc := cX5_set) (nL := 4) (ret := (some Jvm.ClassFile.FieldType.int)) rfl (by decide) (Nat.le_of_ble_eq_true rfl) ?_
  intro p e s m below meth c ls S E hM hS hr hk hn hl
  have S : CallFix p m c cX5_set 4 s _ ((Cond.code yX5_set cX5_set 4 (some Jvm.ClassFile.FieldType.int)) :: mi_G) RX5 := S
  have hl : lv_has ls 4 [(0, .ref (ad 1000020)), (1, .int (x)), (2, .int (y)), (3, .int (z))] := hl
  obtain ⟨⟨o1, o2, o3, o4, o5⟩, oP, oK, oD, oX, oC, oI⟩ := id hO
  refine lv_aload_n S.1 S.2.1 dX5_set_0 rfl (lv_at hl 0 rfl) ?_
  refine lv_iload_n S.1 S.2.1 dX5_set_1 rfl (lv_at hl 1 rfl) ?_
  refine mi_cR (mi_runS (P := mo_W D A ad cf0 f g) (As := [.int (x)]) (rest := [.ref (ad 1000020)]) S E hS hM (c_misColumn_n l D A (mo_W D A ad cf0 f g) (h9)) mw_733 mw_731 mw_732 mw_43 ⟨by decide, by decide, by decide +kernel⟩ ⟨rfl, rfl, Nat.le_of_ble_eq_true rfl, Nat.le_of_ble_eq_true rfl⟩ (n := 1) rfl hl.1 rfl (Nat.le_of_ble_eq_true rfl) dX5_set_2 ⟨Nat.le_of_ble_eq_true rfl, Nat.le_of_ble_eq_true rfl⟩) (fun r9 e9 => ?_)
  subst e9
  refine mi_if_eq (tgt := 15) S (by omega) dX5_set_5 (by decide) (fun c5_0 => ?_) (fun c5_0 => by exfalso; omega)
  refine lv_iconst (v := nI 1) S.1 S.2.1 dX5_set_15 (by decide) ?_
  refine lv_goto (tgt := 46) S.1 S.2.1 dX5_set_16 (by decide) ?_
  refine mo_p_44 S E hS hM dX5_set_46 (fun H locs hM hS => ?_)
  refine lv_aload_n S.1 S.2.1 dX5_set_49 rfl (lv_at hl 0 rfl) ?_
  refine mo_g_44 S E hM dX5_set_50 ?_
  refine mi_top (v' := .int (nI (1))) (rfl) ?_
  refine mi_if_le (tgt := 58) S (by omega) dX5_set_53 (by decide) (fun c53_2 => by exfalso; omega) (fun c53_2 => ?_)
  refine lv_iconst (v := nI 0) S.1 S.2.1 dX5_set_56 (by decide) ?_
  exact mi_retMi S hr hk hS dX5_set_57 (Nat.le_refl _) (Nat.le_refl _) (hM)
set_option maxHeartbeats 4000000 in
set_option maxRecDepth 100000 in
theorem c_mset_2 (l : Launch) (D : va_G) (A : Nat → Prop) {ad : Nat → Nat} {cf0 : Nat → Option va_E} {f : Nat → Int32} {g : Nat → Nat → Int32} {S0 : sT} (hR : st_mo S0 f g) (hO : st_ok S0) {a : Nat} (ha : a < 16) {y z : Int32} (h9 : ¬ (0 ≤ y.toInt ∧ y.toInt ≤ 7)) : mi_Mi l yX5_set (Cond.code yX5_set cX5_set 4 (some Jvm.ClassFile.FieldType.int)) (mi_rm 2) D A (mo_W D A ad cf0 f g) [.ref (ad 1000020), .int (nI (a)), .int (y), .int (z)] 0 0 (fun r H => mo_W D A ad cf0 (upd f 0 (nI 1)) g H) := by
  refine mi_start (cc := cX5_set) (nL := 4) (ret := (some Jvm.ClassFile.FieldType.int)) rfl (by decide) (Nat.le_of_ble_eq_true rfl) ?_
  intro p e s m below meth c ls S E hM hS hr hk hn hl
  have S : CallFix p m c cX5_set 4 s _ ((Cond.code yX5_set cX5_set 4 (some Jvm.ClassFile.FieldType.int)) :: mi_G) RX5 := S
  have hl : lv_has ls 4 [(0, .ref (ad 1000020)), (1, .int (nI (a))), (2, .int (y)), (3, .int (z))] := hl
  obtain ⟨⟨o1, o2, o3, o4, o5⟩, oP, oK, oD, oX, oC, oI⟩ := id hO
  refine lv_aload_n S.1 S.2.1 dX5_set_0 rfl (lv_at hl 0 rfl) ?_
  refine lv_iload_n S.1 S.2.1 dX5_set_1 rfl (lv_at hl 1 rfl) ?_
  refine mi_cR (mi_runS (P := mo_W D A ad cf0 f g) (As := [.int (nI (a))]) (rest := [.ref (ad 1000020)]) S E hS hM (c_misColumn_y l D A (mo_W D A ad cf0 f g) (by omega)) mw_733 mw_731 mw_732 mw_43 ⟨by decide, by decide, by decide +kernel⟩ ⟨rfl, rfl, Nat.le_of_ble_eq_true rfl, Nat.le_of_ble_eq_true rfl⟩ (n := 1) rfl hl.1 rfl (Nat.le_of_ble_eq_true rfl) dX5_set_2 ⟨Nat.le_of_ble_eq_true rfl, Nat.le_of_ble_eq_true rfl⟩) (fun r9 e9 => ?_)
  subst e9
  refine mi_if_eq (tgt := 15) S (by omega) dX5_set_5 (by decide) (fun c5_0 => by exfalso; omega) (fun c5_0 => ?_)
  refine lv_iload_n S.1 S.2.1 dX5_set_8 rfl (lv_at hl 2 rfl) ?_
  refine mi_cR (mi_runS (P := mo_W D A ad cf0 f g) (As := [.int (y)]) (rest := [.ref (ad 1000020)]) S E hS hM (c_misLevel_n l D A (mo_W D A ad cf0 f g) (h9)) mw_739 mw_737 mw_738 mw_43 ⟨by decide, by decide, by decide +kernel⟩ ⟨rfl, rfl, Nat.le_of_ble_eq_true rfl, Nat.le_of_ble_eq_true rfl⟩ (n := 1) rfl hl.1 rfl (Nat.le_of_ble_eq_true rfl) dX5_set_9 ⟨Nat.le_of_ble_eq_true rfl, Nat.le_of_ble_eq_true rfl⟩) (fun r9 e9 => ?_)
  subst e9
  refine mi_if_ne (tgt := 19) S (by omega) dX5_set_12 (by decide) (fun c12_1 => by exfalso; omega) (fun c12_1 => ?_)
  refine lv_iconst (v := nI 1) S.1 S.2.1 dX5_set_15 (by decide) ?_
  refine lv_goto (tgt := 46) S.1 S.2.1 dX5_set_16 (by decide) ?_
  refine mo_p_44 S E hS hM dX5_set_46 (fun H locs hM hS => ?_)
  refine lv_aload_n S.1 S.2.1 dX5_set_49 rfl (lv_at hl 0 rfl) ?_
  refine mo_g_44 S E hM dX5_set_50 ?_
  refine mi_top (v' := .int (nI (1))) (rfl) ?_
  refine mi_if_le (tgt := 58) S (by omega) dX5_set_53 (by decide) (fun c53_3 => by exfalso; omega) (fun c53_3 => ?_)
  refine lv_iconst (v := nI 0) S.1 S.2.1 dX5_set_56 (by decide) ?_
  exact mi_retMi S hr hk hS dX5_set_57 (Nat.le_refl _) (Nat.le_refl _) (hM)
set_option maxHeartbeats 4000000 in
set_option maxRecDepth 100000 in
theorem c_mset_3 (l : Launch) (D : va_G) (A : Nat → Prop) {ad : Nat → Nat} {cf0 : Nat → Option va_E} {f : Nat → Int32} {g : Nat → Nat → Int32} {S0 : sT} (hR : st_mo S0 f g) (hO : st_ok S0) {a b : Nat} (ha : a < 16) (hb : b < 8) {z : Int32} (h9 : ¬ (0 ≤ z.toInt ∧ z.toInt ≤ 3)) : mi_Mi l yX5_set (Cond.code yX5_set cX5_set 4 (some Jvm.ClassFile.FieldType.int)) (mi_rm 2) D A (mo_W D A ad cf0 f g) [.ref (ad 1000020), .int (nI (a)), .int (nI (b)), .int (z)] 0 0 (fun r H => mo_W D A ad cf0 (upd f 0 (nI 2)) g H) := by
  refine mi_start (cc := cX5_set) (nL := 4) (ret := (some Jvm.ClassFile.FieldType.int)) rfl (by decide) (Nat.le_of_ble_eq_true rfl) ?_
  intro p e s m below meth c ls S E hM hS hr hk hn hl
  have S : CallFix p m c cX5_set 4 s _ ((Cond.code yX5_set cX5_set 4 (some Jvm.ClassFile.FieldType.int)) :: mi_G) RX5 := S
  have hl : lv_has ls 4 [(0, .ref (ad 1000020)), (1, .int (nI (a))), (2, .int (nI (b))), (3, .int (z))] := hl
  obtain ⟨⟨o1, o2, o3, o4, o5⟩, oP, oK, oD, oX, oC, oI⟩ := id hO
  refine lv_aload_n S.1 S.2.1 dX5_set_0 rfl (lv_at hl 0 rfl) ?_
  refine lv_iload_n S.1 S.2.1 dX5_set_1 rfl (lv_at hl 1 rfl) ?_
  refine mi_cR (mi_runS (P := mo_W D A ad cf0 f g) (As := [.int (nI (a))]) (rest := [.ref (ad 1000020)]) S E hS hM (c_misColumn_y l D A (mo_W D A ad cf0 f g) (by omega)) mw_733 mw_731 mw_732 mw_43 ⟨by decide, by decide, by decide +kernel⟩ ⟨rfl, rfl, Nat.le_of_ble_eq_true rfl, Nat.le_of_ble_eq_true rfl⟩ (n := 1) rfl hl.1 rfl (Nat.le_of_ble_eq_true rfl) dX5_set_2 ⟨Nat.le_of_ble_eq_true rfl, Nat.le_of_ble_eq_true rfl⟩) (fun r9 e9 => ?_)
  subst e9
  refine mi_if_eq (tgt := 15) S (by omega) dX5_set_5 (by decide) (fun c5_0 => by exfalso; omega) (fun c5_0 => ?_)
  refine lv_iload_n S.1 S.2.1 dX5_set_8 rfl (lv_at hl 2 rfl) ?_
  refine mi_cR (mi_runS (P := mo_W D A ad cf0 f g) (As := [.int (nI (b))]) (rest := [.ref (ad 1000020)]) S E hS hM (c_misLevel_y l D A (mo_W D A ad cf0 f g) (by omega)) mw_739 mw_737 mw_738 mw_43 ⟨by decide, by decide, by decide +kernel⟩ ⟨rfl, rfl, Nat.le_of_ble_eq_true rfl, Nat.le_of_ble_eq_true rfl⟩ (n := 1) rfl hl.1 rfl (Nat.le_of_ble_eq_true rfl) dX5_set_9 ⟨Nat.le_of_ble_eq_true rfl, Nat.le_of_ble_eq_true rfl⟩) (fun r9 e9 => ?_)
  subst e9
  refine mi_if_ne (tgt := 19) S (by omega) dX5_set_12 (by decide) (fun c12_1 => ?_) (fun c12_1 => by exfalso; omega)
  refine lv_iload_n S.1 S.2.1 dX5_set_19 rfl (lv_at hl 3 rfl) ?_
  refine lv_iconst (v := nI 0) S.1 S.2.1 dX5_set_20 (by decide) ?_
  refine lv_iconst (v := nI 3) S.1 S.2.1 dX5_set_21 (by decide) ?_
  refine mi_cR (mi_runS (P := mo_W D A ad cf0 f g) (As := [.int (z), .int (nI (0)), .int (nI (3))]) (rest := [.ref (ad 1000020)]) S E hS hM (c_in_n l D A (mo_W D A ad cf0 f g) (by skip; have := nI_toInt (n := 0) (by omega); have := nI_toInt (n := 3) (by omega); omega)) mw_736 mw_734 mw_735 mw_43 ⟨by decide, by decide, by decide +kernel⟩ ⟨rfl, rfl, Nat.le_of_ble_eq_true rfl, Nat.le_of_ble_eq_true rfl⟩ (n := 3) rfl hl.1 rfl (Nat.le_of_ble_eq_true rfl) dX5_set_22 ⟨Nat.le_of_ble_eq_true rfl, Nat.le_of_ble_eq_true rfl⟩) (fun r9 e9 => ?_)
  subst e9
  refine mi_if_ne (tgt := 32) S (by omega) dX5_set_25 (by decide) (fun c25_2 => by exfalso; omega) (fun c25_2 => ?_)
  refine lv_iconst (v := nI 2) S.1 S.2.1 dX5_set_28 (by decide) ?_
  refine lv_goto (tgt := 46) S.1 S.2.1 dX5_set_29 (by decide) ?_
  refine mo_p_44 S E hS hM dX5_set_46 (fun H locs hM hS => ?_)
  refine lv_aload_n S.1 S.2.1 dX5_set_49 rfl (lv_at hl 0 rfl) ?_
  refine mo_g_44 S E hM dX5_set_50 ?_
  refine mi_top (v' := .int (nI (2))) (rfl) ?_
  refine mi_if_le (tgt := 58) S (by omega) dX5_set_53 (by decide) (fun c53_4 => by exfalso; omega) (fun c53_4 => ?_)
  refine lv_iconst (v := nI 0) S.1 S.2.1 dX5_set_56 (by decide) ?_
  exact mi_retMi S hr hk hS dX5_set_57 (Nat.le_refl _) (Nat.le_refl _) (hM)
set_option maxHeartbeats 4000000 in
set_option maxRecDepth 100000 in
theorem c_mset_4 (l : Launch) (D : va_G) (A : Nat → Prop) {ad : Nat → Nat} {cf0 : Nat → Option va_E} {f : Nat → Int32} {g : Nat → Nat → Int32} {S0 : sT} (hR : st_mo S0 f g) (hO : st_ok S0) {a b k : Nat} (ha : a < 16) (hb : b < 8) (hk4 : k < 4) (h61 : sN S0 = 61) : mi_Mi l yX5_set (Cond.code yX5_set cX5_set 4 (some Jvm.ClassFile.FieldType.int)) (mi_rm 2) D A (mo_W D A ad cf0 f g) [.ref (ad 1000020), .int (nI (a)), .int (nI (b)), .int (nI (k))] 0 0 (fun r H => mo_W D A ad cf0 (upd f 0 (nI 3)) g H) := by
  refine mi_start (cc := cX5_set) (nL := 4) (ret := (some Jvm.ClassFile.FieldType.int)) rfl (by decide) (Nat.le_of_ble_eq_true rfl) ?_
  intro p e s m below meth c ls S E hM hS hr hk hn hl
  have S : CallFix p m c cX5_set 4 s _ ((Cond.code yX5_set cX5_set 4 (some Jvm.ClassFile.FieldType.int)) :: mi_G) RX5 := S
  have hl : lv_has ls 4 [(0, .ref (ad 1000020)), (1, .int (nI (a))), (2, .int (nI (b))), (3, .int (nI (k)))] := hl
  obtain ⟨⟨o1, o2, o3, o4, o5⟩, oP, oK, oD, oX, oC, oI⟩ := id hO
  refine lv_aload_n S.1 S.2.1 dX5_set_0 rfl (lv_at hl 0 rfl) ?_
  refine lv_iload_n S.1 S.2.1 dX5_set_1 rfl (lv_at hl 1 rfl) ?_
  refine mi_cR (mi_runS (P := mo_W D A ad cf0 f g) (As := [.int (nI (a))]) (rest := [.ref (ad 1000020)]) S E hS hM (c_misColumn_y l D A (mo_W D A ad cf0 f g) (by omega)) mw_733 mw_731 mw_732 mw_43 ⟨by decide, by decide, by decide +kernel⟩ ⟨rfl, rfl, Nat.le_of_ble_eq_true rfl, Nat.le_of_ble_eq_true rfl⟩ (n := 1) rfl hl.1 rfl (Nat.le_of_ble_eq_true rfl) dX5_set_2 ⟨Nat.le_of_ble_eq_true rfl, Nat.le_of_ble_eq_true rfl⟩) (fun r9 e9 => ?_)
  subst e9
  refine mi_if_eq (tgt := 15) S (by omega) dX5_set_5 (by decide) (fun c5_0 => by exfalso; omega) (fun c5_0 => ?_)
  refine lv_iload_n S.1 S.2.1 dX5_set_8 rfl (lv_at hl 2 rfl) ?_
  refine mi_cR (mi_runS (P := mo_W D A ad cf0 f g) (As := [.int (nI (b))]) (rest := [.ref (ad 1000020)]) S E hS hM (c_misLevel_y l D A (mo_W D A ad cf0 f g) (by omega)) mw_739 mw_737 mw_738 mw_43 ⟨by decide, by decide, by decide +kernel⟩ ⟨rfl, rfl, Nat.le_of_ble_eq_true rfl, Nat.le_of_ble_eq_true rfl⟩ (n := 1) rfl hl.1 rfl (Nat.le_of_ble_eq_true rfl) dX5_set_9 ⟨Nat.le_of_ble_eq_true rfl, Nat.le_of_ble_eq_true rfl⟩) (fun r9 e9 => ?_)
  subst e9
  refine mi_if_ne (tgt := 19) S (by omega) dX5_set_12 (by decide) (fun c12_1 => ?_) (fun c12_1 => by exfalso; omega)
  refine lv_iload_n S.1 S.2.1 dX5_set_19 rfl (lv_at hl 3 rfl) ?_
  refine lv_iconst (v := nI 0) S.1 S.2.1 dX5_set_20 (by decide) ?_
  refine lv_iconst (v := nI 3) S.1 S.2.1 dX5_set_21 (by decide) ?_
  refine mi_cR (mi_runS (P := mo_W D A ad cf0 f g) (As := [.int (nI (k)), .int (nI (0)), .int (nI (3))]) (rest := [.ref (ad 1000020)]) S E hS hM (c_in_y l D A (mo_W D A ad cf0 f g) (by have := nI_toInt (n := k) (by omega); have := nI_toInt (n := 0) (by omega); have := nI_toInt (n := 3) (by omega); omega)) mw_736 mw_734 mw_735 mw_43 ⟨by decide, by decide, by decide +kernel⟩ ⟨rfl, rfl, Nat.le_of_ble_eq_true rfl, Nat.le_of_ble_eq_true rfl⟩ (n := 3) rfl hl.1 rfl (Nat.le_of_ble_eq_true rfl) dX5_set_22 ⟨Nat.le_of_ble_eq_true rfl, Nat.le_of_ble_eq_true rfl⟩) (fun r9 e9 => ?_)
  subst e9
  refine mi_if_ne (tgt := 32) S (by omega) dX5_set_25 (by decide) (fun c25_2 => ?_) (fun c25_2 => by exfalso; omega)
  refine lv_aload_n S.1 S.2.1 dX5_set_32 rfl (lv_at hl 0 rfl) ?_
  refine mo_g_7 S E hM dX5_set_33 ?_
  refine mi_top (v' := .int (nI (sN S0))) (congrArg Value.int hR.1.1) ?_
  refine lv_bipush (v := nI 61) S.1 S.2.1 dX5_set_36 (by decide) ?_
  refine mi_icmp_ne (tgt := 45) S (by omega) (by omega) dX5_set_38 (by decide) (fun c38_3 => by exfalso; omega) (fun c38_3 => ?_)
  refine lv_iconst (v := nI 3) S.1 S.2.1 dX5_set_41 (by decide) ?_
  refine lv_goto (tgt := 46) S.1 S.2.1 dX5_set_42 (by decide) ?_
  refine mo_p_44 S E hS hM dX5_set_46 (fun H locs hM hS => ?_)
  refine lv_aload_n S.1 S.2.1 dX5_set_49 rfl (lv_at hl 0 rfl) ?_
  refine mo_g_44 S E hM dX5_set_50 ?_
  refine mi_top (v' := .int (nI (3))) (rfl) ?_
  refine mi_if_le (tgt := 58) S (by omega) dX5_set_53 (by decide) (fun c53_5 => by exfalso; omega) (fun c53_5 => ?_)
  refine lv_iconst (v := nI 0) S.1 S.2.1 dX5_set_56 (by decide) ?_
  exact mi_retMi S hr hk hS dX5_set_57 (Nat.le_refl _) (Nat.le_refl _) (hM)
set_option maxHeartbeats 4000000 in
set_option maxRecDepth 100000 in
theorem c_mraise (l : Launch) (D : va_G) (A : Nat → Prop) {ad : Nat → Nat} {cf0 : Nat → Option va_E} {f : Nat → Int32} {g : Nat → Nat → Int32} {S0 : sT} (hR : st_mo S0 f g) (hO : st_ok S0) {a b k : Nat} (ha : a < 16) (hb : b ≤ 8) (hk1 : 1 ≤ k) (hk4 : k < 4) (h61 : sN S0 < 61) : mi_Mi l yX5_raise (Cond.code yX5_raise cX5_raise 5 (some Jvm.ClassFile.FieldType.int)) (mi_rm 2) D A (mo_W D A ad cf0 f g) [.ref (ad 1000020), .int (nI (a)), .int (nI (b)), .int (nI (k))] 0 0 (fun r H => r = nI (sN S0) ∧ ∃ f1 g1, mo_W D A ad cf0 f1 g1 H ∧ st_mo (st_new S0 (sp_ra (sK S0 (sW S0)) a b k 8)) f1 g1 ∧ f1 0 = nI 0) := by
  refine mi_start (cc := cX5_raise) (nL := 5) (ret := (some Jvm.ClassFile.FieldType.int)) rfl (by decide) (Nat.le_of_ble_eq_true rfl) ?_
  intro p e s m below meth c ls S E hM hS hr hk hn hl
  have S : CallFix p m c cX5_raise 5 s _ ((Cond.code yX5_raise cX5_raise 5 (some Jvm.ClassFile.FieldType.int)) :: mi_G) RX5 := S
  have hl : lv_has ls 5 [(0, .ref (ad 1000020)), (1, .int (nI (a))), (2, .int (nI (b))), (3, .int (nI (k)))] := hl
  obtain ⟨⟨o1, o2, o3, o4, o5⟩, oP, oK, oD, oX, oC, oI⟩ := id hO
  refine lv_aload_n S.1 S.2.1 dX5_raise_0 rfl (lv_at hl 0 rfl) ?_
  refine lv_iload_n S.1 S.2.1 dX5_raise_1 rfl (lv_at hl 1 rfl) ?_
  refine mi_cR (mi_runS (P := mo_W D A ad cf0 f g) (As := [.int (nI (a))]) (rest := [.ref (ad 1000020)]) S E hS hM (c_misColumn_y l D A (mo_W D A ad cf0 f g) (by omega)) mw_733 mw_731 mw_732 mw_43 ⟨by decide, by decide, by decide +kernel⟩ ⟨rfl, rfl, Nat.le_of_ble_eq_true rfl, Nat.le_of_ble_eq_true rfl⟩ (n := 1) rfl hl.1 rfl (Nat.le_of_ble_eq_true rfl) dX5_raise_2 ⟨Nat.le_of_ble_eq_true rfl, Nat.le_of_ble_eq_true rfl⟩) (fun r9 e9 => ?_)
  subst e9
  refine mi_if_ne (tgt := 12) S (by omega) dX5_raise_5 (by decide) (fun c5_0 => ?_) (fun c5_0 => by exfalso; omega)
  refine lv_iload_n S.1 S.2.1 dX5_raise_12 rfl (lv_at hl 2 rfl) ?_
  refine lv_iconst (v := nI 0) S.1 S.2.1 dX5_raise_13 (by decide) ?_
  refine lv_bipush (v := nI 8) S.1 S.2.1 dX5_raise_14 (by decide) ?_
  refine mi_cR (mi_runS (P := mo_W D A ad cf0 f g) (As := [.int (nI (b)), .int (nI (0)), .int (nI (8))]) (rest := [.ref (ad 1000020)]) S E hS hM (c_in_y l D A (mo_W D A ad cf0 f g) (by have := nI_toInt (n := b) (by omega); have := nI_toInt (n := 0) (by omega); have := nI_toInt (n := 8) (by omega); omega)) mw_736 mw_734 mw_735 mw_43 ⟨by decide, by decide, by decide +kernel⟩ ⟨rfl, rfl, Nat.le_of_ble_eq_true rfl, Nat.le_of_ble_eq_true rfl⟩ (n := 3) rfl hl.1 rfl (Nat.le_of_ble_eq_true rfl) dX5_raise_16 ⟨Nat.le_of_ble_eq_true rfl, Nat.le_of_ble_eq_true rfl⟩) (fun r9 e9 => ?_)
  subst e9
  refine mi_if_eq (tgt := 31) S (by omega) dX5_raise_19 (by decide) (fun c19_1 => by exfalso; omega) (fun c19_1 => ?_)
  refine lv_iload_n S.1 S.2.1 dX5_raise_22 rfl (lv_at hl 3 rfl) ?_
  refine lv_iconst (v := nI 1) S.1 S.2.1 dX5_raise_23 (by decide) ?_
  refine lv_iconst (v := nI 3) S.1 S.2.1 dX5_raise_24 (by decide) ?_
  refine mi_cR (mi_runS (P := mo_W D A ad cf0 f g) (As := [.int (nI (k)), .int (nI (1)), .int (nI (3))]) (rest := [.ref (ad 1000020)]) S E hS hM (c_in_y l D A (mo_W D A ad cf0 f g) (by have := nI_toInt (n := k) (by omega); have := nI_toInt (n := 1) (by omega); have := nI_toInt (n := 3) (by omega); omega)) mw_736 mw_734 mw_735 mw_43 ⟨by decide, by decide, by decide +kernel⟩ ⟨rfl, rfl, Nat.le_of_ble_eq_true rfl, Nat.le_of_ble_eq_true rfl⟩ (n := 3) rfl hl.1 rfl (Nat.le_of_ble_eq_true rfl) dX5_raise_25 ⟨Nat.le_of_ble_eq_true rfl, Nat.le_of_ble_eq_true rfl⟩) (fun r9 e9 => ?_)
  subst e9
  refine mi_if_ne (tgt := 35) S (by omega) dX5_raise_28 (by decide) (fun c28_2 => ?_) (fun c28_2 => by exfalso; omega)
  refine lv_aload_n S.1 S.2.1 dX5_raise_35 rfl (lv_at hl 0 rfl) ?_
  refine mo_g_7 S E hM dX5_raise_36 ?_
  refine mi_top (v' := .int (nI (sN S0))) (congrArg Value.int hR.1.1) ?_
  refine lv_bipush (v := nI 61) S.1 S.2.1 dX5_raise_39 (by decide) ?_
  refine mi_icmp_ne (tgt := 48) S (by omega) (by omega) dX5_raise_41 (by decide) (fun c41_3 => ?_) (fun c41_3 => by exfalso; omega)
  refine lv_iconst (v := nI 0) S.1 S.2.1 dX5_raise_48 (by decide) ?_
  refine mo_p_44 S E hS hM dX5_raise_49 (fun H locs hM hS => ?_)
  refine lv_aload_n S.1 S.2.1 dX5_raise_52 rfl (lv_at hl 0 rfl) ?_
  refine mo_g_44 S E hM dX5_raise_53 ?_
  refine mi_top (v' := .int (nI (0))) (rfl) ?_
  refine mi_if_le (tgt := 61) S (by omega) dX5_raise_56 (by decide) (fun c56_5 => ?_) (fun c56_5 => by exfalso; omega)
  refine lv_aload_n S.1 S.2.1 dX5_raise_61 rfl (lv_at hl 0 rfl) ?_
  refine mi_cMv (mi_runV (P := mo_W D A ad cf0 (upd f 0 (nI (0))) g) (As := []) (rest := []) S E hS hM (ad 1000020) (c_grows l D A (st_mo_0 hR _) hO h61) (hM.recv E) mw_743 mw_740 mw_742 mw_17 mw_43 ⟨by decide, by decide, by decide +kernel⟩ ⟨rfl, rfl, Nat.le_of_ble_eq_true rfl, Nat.le_of_ble_eq_true rfl⟩ (n := 0) rfl hl.1 rfl (Nat.le_of_ble_eq_true rfl) dX5_raise_62 ⟨Nat.le_of_ble_eq_true rfl, Nat.le_of_ble_eq_true rfl⟩) hS (fun H locs hp9 hS hz => ?_)
  obtain ⟨f7, g7, hM, hR7, hz7⟩ := hp9
  refine lv_iconst (v := nI 0) S.1 S.2.1 dX5_raise_65 (by decide) ?_
  refine lv_istore (lv' := [(4, .int (nI (0))), (0, .ref (ad 1000020)), (1, .int (nI (a))), (2, .int (nI (b))), (3, .int (nI (k)))]) S.1 S.2.1 dX5_raise_66 hl (by decide) rfl (fun ls hl => ?_)
  have lp68 : ∀ (n68 : Nat) (f1 : Nat → Int32) (g1 : Nat → Nat → Int32) (i : Nat) (H : Heap) (locs : List Loc) (ls : Array Slot), 8 - i < n68 → i ≤ 8 → st_mo (st_new S0 (sp_ra (sK S0 (sW S0)) a b k i)) f1 g1 → f1 0 = nI 0 → mo_W D A ad cf0 f1 g1 H → va_S A s.heap H locs → lv_has ls 5 [(0, .ref (ad 1000020)), (1, .int (nI (a))), (2, .int (nI (b))), (3, .int (nI (k))), (4, .int (nI (i)))] → W p l e (mi_rm 2) s m ([.ref (ad 1000020), .int (nI (a)), .int (nI (b)), .int (nI (k))] : List Value).toArray below meth c H locs 0 0 (MQ below (mi_Qi A (fun r H => r = nI (sN S0) ∧ ∃ f1 g1, mo_W D A ad cf0 f1 g1 H ∧ st_mo (st_new S0 (sp_ra (sK S0 (sW S0)) a b k 8)) f1 g1 ∧ f1 0 = nI 0)) ([.ref (ad 1000020), .int (nI (a)), .int (nI (b)), .int (nI (k))] : List Value).toArray s 0 0 A) (F0 m 68 ls []) := by
    intro n68
    induction n68 with
    | zero => intro f1 g1 i H locs ls hm hi hR1 hz1 hM hS hl; exact absurd hm (Nat.not_lt_zero _)
    | succ n68 ih68 =>
      intro f1 g1 i H locs ls hm hi hR1 hz1 hM hS hl
      refine lv_iload S.1 S.2.1 dX5_raise_68 (lv_at hl 4 rfl) ?_
      refine lv_bipush (v := nI 8) S.1 S.2.1 dX5_raise_70 (by decide) ?_
      refine mi_icmp_ge (tgt := 99) S (by omega) (by omega) dX5_raise_72 (by decide) (fun c72_7 => ?_) (fun c72_7 => ?_)
      · refine lv_aload_n S.1 S.2.1 dX5_raise_99 rfl (lv_at hl 0 rfl) ?_
        refine mo_g_51 S E hM dX5_raise_100 ?_
        refine mi_top (v' := .int (nI (sN S0))) (congrArg Value.int hR1.1.2.1) ?_
        exact mi_retMi S hr hk hS dX5_raise_103 (Nat.le_refl _) (Nat.le_refl _) ⟨rfl, f1, g1, hM, (by rw [show i = 8 by omega] at hR1; exact hR1), hz1⟩
      · refine lv_aload_n S.1 S.2.1 dX5_raise_75 rfl (lv_at hl 0 rfl) ?_
        refine lv_iload_n S.1 S.2.1 dX5_raise_76 rfl (lv_at hl 1 rfl) ?_
        refine lv_iload S.1 S.2.1 dX5_raise_77 (lv_at hl 4 rfl) ?_
        refine lv_iload S.1 S.2.1 dX5_raise_79 (lv_at hl 4 rfl) ?_
        refine lv_iload_n S.1 S.2.1 dX5_raise_81 rfl (lv_at hl 2 rfl) ?_
        refine mi_icmp_ge (tgt := 89) S (by omega) (by omega) dX5_raise_82 (by decide) (fun c82_8 => ?_) (fun c82_8 => ?_)
        · refine lv_iconst (v := nI 0) S.1 S.2.1 dX5_raise_89 (by decide) ?_
          refine mi_cMv (mi_runV (P := mo_W D A ad cf0 f1 g1) (As := [.int (nI (a)), .int (nI (i)), .int (nI (0))]) (rest := []) S E hS hM (ad 1000020) (c_puts l D A (S0 := st_new S0 (sp_ra (sK S0 (sW S0)) a b k i)) hR1 ⟨(show sN S0 < sN S0 + 1 by omega), (show sN S0 + 1 ≤ 61 by omega)⟩ (by omega) (by omega) (by omega)) (hM.recv E) mw_747 mw_744 mw_746 mw_18 mw_43 ⟨by decide, by decide, by decide +kernel⟩ ⟨rfl, rfl, Nat.le_of_ble_eq_true rfl, Nat.le_of_ble_eq_true rfl⟩ (n := 3) rfl hl.1 rfl (Nat.le_of_ble_eq_true rfl) dX5_raise_90 ⟨Nat.le_of_ble_eq_true rfl, Nat.le_of_ble_eq_true rfl⟩) hS (fun H locs hp9 hS hz => ?_)
          obtain ⟨f10, g10, hM, hR10, hz10⟩ := hp9
          rw [st_put_new] at hR10
          refine lv_iinc (v := nI (i + 1)) (lv' := [(4, .int (nI (i + 1))), (0, .ref (ad 1000020)), (1, .int (nI (a))), (2, .int (nI (b))), (3, .int (nI (k)))]) S.1 S.2.1 dX5_raise_93 hl (k := 4) rfl (mi_inc _) (by decide) rfl (fun ls hl => ?_)
          refine lv_goto (tgt := 68) S.1 S.2.1 dX5_raise_96 (by decide) ?_
          exact ih68 f10 g10 (i + 1) _ _ _ (by omega) (by omega) (by have h9 := hR10; rw [sp_ra_2 (by omega)] at h9; exact h9) (hz10.trans (hz1)) hM hS (lv_sub hl [1, 2, 3, 4, 0] rfl)
        · refine lv_iload_n S.1 S.2.1 dX5_raise_85 rfl (lv_at hl 3 rfl) ?_
          refine lv_goto (tgt := 90) S.1 S.2.1 dX5_raise_86 (by decide) ?_
          refine mi_cMv (mi_runV (P := mo_W D A ad cf0 f1 g1) (As := [.int (nI (a)), .int (nI (i)), .int (nI (k))]) (rest := []) S E hS hM (ad 1000020) (c_puts l D A (S0 := st_new S0 (sp_ra (sK S0 (sW S0)) a b k i)) hR1 ⟨(show sN S0 < sN S0 + 1 by omega), (show sN S0 + 1 ≤ 61 by omega)⟩ (by omega) (by omega) (by omega)) (hM.recv E) mw_747 mw_744 mw_746 mw_18 mw_43 ⟨by decide, by decide, by decide +kernel⟩ ⟨rfl, rfl, Nat.le_of_ble_eq_true rfl, Nat.le_of_ble_eq_true rfl⟩ (n := 3) rfl hl.1 rfl (Nat.le_of_ble_eq_true rfl) dX5_raise_90 ⟨Nat.le_of_ble_eq_true rfl, Nat.le_of_ble_eq_true rfl⟩) hS (fun H locs hp9 hS hz => ?_)
          obtain ⟨f11, g11, hM, hR11, hz11⟩ := hp9
          rw [st_put_new] at hR11
          refine lv_iinc (v := nI (i + 1)) (lv' := [(4, .int (nI (i + 1))), (0, .ref (ad 1000020)), (1, .int (nI (a))), (2, .int (nI (b))), (3, .int (nI (k)))]) S.1 S.2.1 dX5_raise_93 hl (k := 4) rfl (mi_inc _) (by decide) rfl (fun ls hl => ?_)
          refine lv_goto (tgt := 68) S.1 S.2.1 dX5_raise_96 (by decide) ?_
          exact ih68 f11 g11 (i + 1) _ _ _ (by omega) (by omega) (by have h9 := hR11; rw [sp_ra_1 (by omega)] at h9; exact h9) (hz11.trans (hz1)) hM hS (lv_sub hl [1, 2, 3, 4, 0] rfl)
  exact lp68 _ f7 g7 0 _ _ _ (Nat.lt_succ_self _) (by omega) (by rw [sp_ra_0]; exact hR7) (hz7.trans rfl) hM hS (lv_sub hl [1, 2, 3, 4, 0] rfl)
set_option maxHeartbeats 4000000 in
set_option maxRecDepth 100000 in
theorem c_mraise_1 (l : Launch) (D : va_G) (A : Nat → Prop) {ad : Nat → Nat} {cf0 : Nat → Option va_E} {f : Nat → Int32} {g : Nat → Nat → Int32} {S0 : sT} (hR : st_mo S0 f g) (hO : st_ok S0) {x y z : Int32} (h9 : ¬ (0 ≤ x.toInt ∧ x.toInt ≤ 15)) : mi_Mi l yX5_raise (Cond.code yX5_raise cX5_raise 5 (some Jvm.ClassFile.FieldType.int)) (mi_rm 2) D A (mo_W D A ad cf0 f g) [.ref (ad 1000020), .int (x), .int (y), .int (z)] 0 0 (fun r H => mo_W D A ad cf0 (upd f 0 (nI 1)) g H) := by
  refine mi_start (cc := cX5_raise) (nL := 5) (ret := (some Jvm.ClassFile.FieldType.int)) rfl (by decide) (Nat.le_of_ble_eq_true rfl) ?_
  intro p e s m below meth c ls S E hM hS hr hk hn hl
  have S : CallFix p m c cX5_raise 5 s _ ((Cond.code yX5_raise cX5_raise 5 (some Jvm.ClassFile.FieldType.int)) :: mi_G) RX5 := S
  have hl : lv_has ls 5 [(0, .ref (ad 1000020)), (1, .int (x)), (2, .int (y)), (3, .int (z))] := hl
  obtain ⟨⟨o1, o2, o3, o4, o5⟩, oP, oK, oD, oX, oC, oI⟩ := id hO
  refine lv_aload_n S.1 S.2.1 dX5_raise_0 rfl (lv_at hl 0 rfl) ?_
  refine lv_iload_n S.1 S.2.1 dX5_raise_1 rfl (lv_at hl 1 rfl) ?_
  refine mi_cR (mi_runS (P := mo_W D A ad cf0 f g) (As := [.int (x)]) (rest := [.ref (ad 1000020)]) S E hS hM (c_misColumn_n l D A (mo_W D A ad cf0 f g) (h9)) mw_733 mw_731 mw_732 mw_43 ⟨by decide, by decide, by decide +kernel⟩ ⟨rfl, rfl, Nat.le_of_ble_eq_true rfl, Nat.le_of_ble_eq_true rfl⟩ (n := 1) rfl hl.1 rfl (Nat.le_of_ble_eq_true rfl) dX5_raise_2 ⟨Nat.le_of_ble_eq_true rfl, Nat.le_of_ble_eq_true rfl⟩) (fun r9 e9 => ?_)
  subst e9
  refine mi_if_ne (tgt := 12) S (by omega) dX5_raise_5 (by decide) (fun c5_0 => by exfalso; omega) (fun c5_0 => ?_)
  refine lv_iconst (v := nI 1) S.1 S.2.1 dX5_raise_8 (by decide) ?_
  refine lv_goto (tgt := 49) S.1 S.2.1 dX5_raise_9 (by decide) ?_
  refine mo_p_44 S E hS hM dX5_raise_49 (fun H locs hM hS => ?_)
  refine lv_aload_n S.1 S.2.1 dX5_raise_52 rfl (lv_at hl 0 rfl) ?_
  refine mo_g_44 S E hM dX5_raise_53 ?_
  refine mi_top (v' := .int (nI (1))) (rfl) ?_
  refine mi_if_le (tgt := 61) S (by omega) dX5_raise_56 (by decide) (fun c56_2 => by exfalso; omega) (fun c56_2 => ?_)
  refine lv_iconst (v := nI 0) S.1 S.2.1 dX5_raise_59 (by decide) ?_
  exact mi_retMi S hr hk hS dX5_raise_60 (Nat.le_refl _) (Nat.le_refl _) (hM)
set_option maxHeartbeats 4000000 in
set_option maxRecDepth 100000 in
theorem c_mraise_2 (l : Launch) (D : va_G) (A : Nat → Prop) {ad : Nat → Nat} {cf0 : Nat → Option va_E} {f : Nat → Int32} {g : Nat → Nat → Int32} {S0 : sT} (hR : st_mo S0 f g) (hO : st_ok S0) {a : Nat} (ha : a < 16) {y z : Int32} (h9 : ¬ (0 ≤ y.toInt ∧ y.toInt ≤ 8)) : mi_Mi l yX5_raise (Cond.code yX5_raise cX5_raise 5 (some Jvm.ClassFile.FieldType.int)) (mi_rm 2) D A (mo_W D A ad cf0 f g) [.ref (ad 1000020), .int (nI (a)), .int (y), .int (z)] 0 0 (fun r H => mo_W D A ad cf0 (upd f 0 (nI 2)) g H) := by
  refine mi_start (cc := cX5_raise) (nL := 5) (ret := (some Jvm.ClassFile.FieldType.int)) rfl (by decide) (Nat.le_of_ble_eq_true rfl) ?_
  intro p e s m below meth c ls S E hM hS hr hk hn hl
  have S : CallFix p m c cX5_raise 5 s _ ((Cond.code yX5_raise cX5_raise 5 (some Jvm.ClassFile.FieldType.int)) :: mi_G) RX5 := S
  have hl : lv_has ls 5 [(0, .ref (ad 1000020)), (1, .int (nI (a))), (2, .int (y)), (3, .int (z))] := hl
  obtain ⟨⟨o1, o2, o3, o4, o5⟩, oP, oK, oD, oX, oC, oI⟩ := id hO
  refine lv_aload_n S.1 S.2.1 dX5_raise_0 rfl (lv_at hl 0 rfl) ?_
  refine lv_iload_n S.1 S.2.1 dX5_raise_1 rfl (lv_at hl 1 rfl) ?_
  refine mi_cR (mi_runS (P := mo_W D A ad cf0 f g) (As := [.int (nI (a))]) (rest := [.ref (ad 1000020)]) S E hS hM (c_misColumn_y l D A (mo_W D A ad cf0 f g) (by omega)) mw_733 mw_731 mw_732 mw_43 ⟨by decide, by decide, by decide +kernel⟩ ⟨rfl, rfl, Nat.le_of_ble_eq_true rfl, Nat.le_of_ble_eq_true rfl⟩ (n := 1) rfl hl.1 rfl (Nat.le_of_ble_eq_true rfl) dX5_raise_2 ⟨Nat.le_of_ble_eq_true rfl, Nat.le_of_ble_eq_true rfl⟩) (fun r9 e9 => ?_)
  subst e9
  refine mi_if_ne (tgt := 12) S (by omega) dX5_raise_5 (by decide) (fun c5_0 => ?_) (fun c5_0 => by exfalso; omega)
  refine lv_iload_n S.1 S.2.1 dX5_raise_12 rfl (lv_at hl 2 rfl) ?_
  refine lv_iconst (v := nI 0) S.1 S.2.1 dX5_raise_13 (by decide) ?_
  refine lv_bipush (v := nI 8) S.1 S.2.1 dX5_raise_14 (by decide) ?_
  refine mi_cR (mi_runS (P := mo_W D A ad cf0 f g) (As := [.int (y), .int (nI (0)), .int (nI (8))]) (rest := [.ref (ad 1000020)]) S E hS hM (c_in_n l D A (mo_W D A ad cf0 f g) (by skip; have := nI_toInt (n := 0) (by omega); have := nI_toInt (n := 8) (by omega); omega)) mw_736 mw_734 mw_735 mw_43 ⟨by decide, by decide, by decide +kernel⟩ ⟨rfl, rfl, Nat.le_of_ble_eq_true rfl, Nat.le_of_ble_eq_true rfl⟩ (n := 3) rfl hl.1 rfl (Nat.le_of_ble_eq_true rfl) dX5_raise_16 ⟨Nat.le_of_ble_eq_true rfl, Nat.le_of_ble_eq_true rfl⟩) (fun r9 e9 => ?_)
  subst e9
  refine mi_if_eq (tgt := 31) S (by omega) dX5_raise_19 (by decide) (fun c19_1 => ?_) (fun c19_1 => by exfalso; omega)
  refine lv_iconst (v := nI 2) S.1 S.2.1 dX5_raise_31 (by decide) ?_
  refine lv_goto (tgt := 49) S.1 S.2.1 dX5_raise_32 (by decide) ?_
  refine mo_p_44 S E hS hM dX5_raise_49 (fun H locs hM hS => ?_)
  refine lv_aload_n S.1 S.2.1 dX5_raise_52 rfl (lv_at hl 0 rfl) ?_
  refine mo_g_44 S E hM dX5_raise_53 ?_
  refine mi_top (v' := .int (nI (2))) (rfl) ?_
  refine mi_if_le (tgt := 61) S (by omega) dX5_raise_56 (by decide) (fun c56_3 => by exfalso; omega) (fun c56_3 => ?_)
  refine lv_iconst (v := nI 0) S.1 S.2.1 dX5_raise_59 (by decide) ?_
  exact mi_retMi S hr hk hS dX5_raise_60 (Nat.le_refl _) (Nat.le_refl _) (hM)
set_option maxHeartbeats 4000000 in
set_option maxRecDepth 100000 in
theorem c_mraise_3 (l : Launch) (D : va_G) (A : Nat → Prop) {ad : Nat → Nat} {cf0 : Nat → Option va_E} {f : Nat → Int32} {g : Nat → Nat → Int32} {S0 : sT} (hR : st_mo S0 f g) (hO : st_ok S0) {a b : Nat} (ha : a < 16) (hb : b ≤ 8) {z : Int32} (h9 : ¬ (1 ≤ z.toInt ∧ z.toInt ≤ 3)) : mi_Mi l yX5_raise (Cond.code yX5_raise cX5_raise 5 (some Jvm.ClassFile.FieldType.int)) (mi_rm 2) D A (mo_W D A ad cf0 f g) [.ref (ad 1000020), .int (nI (a)), .int (nI (b)), .int (z)] 0 0 (fun r H => mo_W D A ad cf0 (upd f 0 (nI 2)) g H) := by
  refine mi_start (cc := cX5_raise) (nL := 5) (ret := (some Jvm.ClassFile.FieldType.int)) rfl (by decide) (Nat.le_of_ble_eq_true rfl) ?_
  intro p e s m below meth c ls S E hM hS hr hk hn hl
  have S : CallFix p m c cX5_raise 5 s _ ((Cond.code yX5_raise cX5_raise 5 (some Jvm.ClassFile.FieldType.int)) :: mi_G) RX5 := S
  have hl : lv_has ls 5 [(0, .ref (ad 1000020)), (1, .int (nI (a))), (2, .int (nI (b))), (3, .int (z))] := hl
  obtain ⟨⟨o1, o2, o3, o4, o5⟩, oP, oK, oD, oX, oC, oI⟩ := id hO
  refine lv_aload_n S.1 S.2.1 dX5_raise_0 rfl (lv_at hl 0 rfl) ?_
  refine lv_iload_n S.1 S.2.1 dX5_raise_1 rfl (lv_at hl 1 rfl) ?_
  refine mi_cR (mi_runS (P := mo_W D A ad cf0 f g) (As := [.int (nI (a))]) (rest := [.ref (ad 1000020)]) S E hS hM (c_misColumn_y l D A (mo_W D A ad cf0 f g) (by omega)) mw_733 mw_731 mw_732 mw_43 ⟨by decide, by decide, by decide +kernel⟩ ⟨rfl, rfl, Nat.le_of_ble_eq_true rfl, Nat.le_of_ble_eq_true rfl⟩ (n := 1) rfl hl.1 rfl (Nat.le_of_ble_eq_true rfl) dX5_raise_2 ⟨Nat.le_of_ble_eq_true rfl, Nat.le_of_ble_eq_true rfl⟩) (fun r9 e9 => ?_)
  subst e9
  refine mi_if_ne (tgt := 12) S (by omega) dX5_raise_5 (by decide) (fun c5_0 => ?_) (fun c5_0 => by exfalso; omega)
  refine lv_iload_n S.1 S.2.1 dX5_raise_12 rfl (lv_at hl 2 rfl) ?_
  refine lv_iconst (v := nI 0) S.1 S.2.1 dX5_raise_13 (by decide) ?_
  refine lv_bipush (v := nI 8) S.1 S.2.1 dX5_raise_14 (by decide) ?_
  refine mi_cR (mi_runS (P := mo_W D A ad cf0 f g) (As := [.int (nI (b)), .int (nI (0)), .int (nI (8))]) (rest := [.ref (ad 1000020)]) S E hS hM (c_in_y l D A (mo_W D A ad cf0 f g) (by have := nI_toInt (n := b) (by omega); have := nI_toInt (n := 0) (by omega); have := nI_toInt (n := 8) (by omega); omega)) mw_736 mw_734 mw_735 mw_43 ⟨by decide, by decide, by decide +kernel⟩ ⟨rfl, rfl, Nat.le_of_ble_eq_true rfl, Nat.le_of_ble_eq_true rfl⟩ (n := 3) rfl hl.1 rfl (Nat.le_of_ble_eq_true rfl) dX5_raise_16 ⟨Nat.le_of_ble_eq_true rfl, Nat.le_of_ble_eq_true rfl⟩) (fun r9 e9 => ?_)
  subst e9
  refine mi_if_eq (tgt := 31) S (by omega) dX5_raise_19 (by decide) (fun c19_1 => by exfalso; omega) (fun c19_1 => ?_)
  refine lv_iload_n S.1 S.2.1 dX5_raise_22 rfl (lv_at hl 3 rfl) ?_
  refine lv_iconst (v := nI 1) S.1 S.2.1 dX5_raise_23 (by decide) ?_
  refine lv_iconst (v := nI 3) S.1 S.2.1 dX5_raise_24 (by decide) ?_
  refine mi_cR (mi_runS (P := mo_W D A ad cf0 f g) (As := [.int (z), .int (nI (1)), .int (nI (3))]) (rest := [.ref (ad 1000020)]) S E hS hM (c_in_n l D A (mo_W D A ad cf0 f g) (by skip; have := nI_toInt (n := 1) (by omega); have := nI_toInt (n := 3) (by omega); omega)) mw_736 mw_734 mw_735 mw_43 ⟨by decide, by decide, by decide +kernel⟩ ⟨rfl, rfl, Nat.le_of_ble_eq_true rfl, Nat.le_of_ble_eq_true rfl⟩ (n := 3) rfl hl.1 rfl (Nat.le_of_ble_eq_true rfl) dX5_raise_25 ⟨Nat.le_of_ble_eq_true rfl, Nat.le_of_ble_eq_true rfl⟩) (fun r9 e9 => ?_)
  subst e9
  refine mi_if_ne (tgt := 35) S (by omega) dX5_raise_28 (by decide) (fun c28_2 => by exfalso; omega) (fun c28_2 => ?_)
  refine lv_iconst (v := nI 2) S.1 S.2.1 dX5_raise_31 (by decide) ?_
  refine lv_goto (tgt := 49) S.1 S.2.1 dX5_raise_32 (by decide) ?_
  refine mo_p_44 S E hS hM dX5_raise_49 (fun H locs hM hS => ?_)
  refine lv_aload_n S.1 S.2.1 dX5_raise_52 rfl (lv_at hl 0 rfl) ?_
  refine mo_g_44 S E hM dX5_raise_53 ?_
  refine mi_top (v' := .int (nI (2))) (rfl) ?_
  refine mi_if_le (tgt := 61) S (by omega) dX5_raise_56 (by decide) (fun c56_4 => by exfalso; omega) (fun c56_4 => ?_)
  refine lv_iconst (v := nI 0) S.1 S.2.1 dX5_raise_59 (by decide) ?_
  exact mi_retMi S hr hk hS dX5_raise_60 (Nat.le_refl _) (Nat.le_refl _) (hM)
set_option maxHeartbeats 4000000 in
set_option maxRecDepth 100000 in
theorem c_mraise_4 (l : Launch) (D : va_G) (A : Nat → Prop) {ad : Nat → Nat} {cf0 : Nat → Option va_E} {f : Nat → Int32} {g : Nat → Nat → Int32} {S0 : sT} (hR : st_mo S0 f g) (hO : st_ok S0) {a b k : Nat} (ha : a < 16) (hb : b ≤ 8) (hk1 : 1 ≤ k) (hk4 : k < 4) (h61 : sN S0 = 61) : mi_Mi l yX5_raise (Cond.code yX5_raise cX5_raise 5 (some Jvm.ClassFile.FieldType.int)) (mi_rm 2) D A (mo_W D A ad cf0 f g) [.ref (ad 1000020), .int (nI (a)), .int (nI (b)), .int (nI (k))] 0 0 (fun r H => mo_W D A ad cf0 (upd f 0 (nI 3)) g H) := by
  refine mi_start (cc := cX5_raise) (nL := 5) (ret := (some Jvm.ClassFile.FieldType.int)) rfl (by decide) (Nat.le_of_ble_eq_true rfl) ?_
  intro p e s m below meth c ls S E hM hS hr hk hn hl
  have S : CallFix p m c cX5_raise 5 s _ ((Cond.code yX5_raise cX5_raise 5 (some Jvm.ClassFile.FieldType.int)) :: mi_G) RX5 := S
  have hl : lv_has ls 5 [(0, .ref (ad 1000020)), (1, .int (nI (a))), (2, .int (nI (b))), (3, .int (nI (k)))] := hl
  obtain ⟨⟨o1, o2, o3, o4, o5⟩, oP, oK, oD, oX, oC, oI⟩ := id hO
  refine lv_aload_n S.1 S.2.1 dX5_raise_0 rfl (lv_at hl 0 rfl) ?_
  refine lv_iload_n S.1 S.2.1 dX5_raise_1 rfl (lv_at hl 1 rfl) ?_
  refine mi_cR (mi_runS (P := mo_W D A ad cf0 f g) (As := [.int (nI (a))]) (rest := [.ref (ad 1000020)]) S E hS hM (c_misColumn_y l D A (mo_W D A ad cf0 f g) (by omega)) mw_733 mw_731 mw_732 mw_43 ⟨by decide, by decide, by decide +kernel⟩ ⟨rfl, rfl, Nat.le_of_ble_eq_true rfl, Nat.le_of_ble_eq_true rfl⟩ (n := 1) rfl hl.1 rfl (Nat.le_of_ble_eq_true rfl) dX5_raise_2 ⟨Nat.le_of_ble_eq_true rfl, Nat.le_of_ble_eq_true rfl⟩) (fun r9 e9 => ?_)
  subst e9
  refine mi_if_ne (tgt := 12) S (by omega) dX5_raise_5 (by decide) (fun c5_0 => ?_) (fun c5_0 => by exfalso; omega)
  refine lv_iload_n S.1 S.2.1 dX5_raise_12 rfl (lv_at hl 2 rfl) ?_
  refine lv_iconst (v := nI 0) S.1 S.2.1 dX5_raise_13 (by decide) ?_
  refine lv_bipush (v := nI 8) S.1 S.2.1 dX5_raise_14 (by decide) ?_
  refine mi_cR (mi_runS (P := mo_W D A ad cf0 f g) (As := [.int (nI (b)), .int (nI (0)), .int (nI (8))]) (rest := [.ref (ad 1000020)]) S E hS hM (c_in_y l D A (mo_W D A ad cf0 f g) (by have := nI_toInt (n := b) (by omega); have := nI_toInt (n := 0) (by omega); have := nI_toInt (n := 8) (by omega); omega)) mw_736 mw_734 mw_735 mw_43 ⟨by decide, by decide, by decide +kernel⟩ ⟨rfl, rfl, Nat.le_of_ble_eq_true rfl, Nat.le_of_ble_eq_true rfl⟩ (n := 3) rfl hl.1 rfl (Nat.le_of_ble_eq_true rfl) dX5_raise_16 ⟨Nat.le_of_ble_eq_true rfl, Nat.le_of_ble_eq_true rfl⟩) (fun r9 e9 => ?_)
  subst e9
  refine mi_if_eq (tgt := 31) S (by omega) dX5_raise_19 (by decide) (fun c19_1 => by exfalso; omega) (fun c19_1 => ?_)
  refine lv_iload_n S.1 S.2.1 dX5_raise_22 rfl (lv_at hl 3 rfl) ?_
  refine lv_iconst (v := nI 1) S.1 S.2.1 dX5_raise_23 (by decide) ?_
  refine lv_iconst (v := nI 3) S.1 S.2.1 dX5_raise_24 (by decide) ?_
  refine mi_cR (mi_runS (P := mo_W D A ad cf0 f g) (As := [.int (nI (k)), .int (nI (1)), .int (nI (3))]) (rest := [.ref (ad 1000020)]) S E hS hM (c_in_y l D A (mo_W D A ad cf0 f g) (by have := nI_toInt (n := k) (by omega); have := nI_toInt (n := 1) (by omega); have := nI_toInt (n := 3) (by omega); omega)) mw_736 mw_734 mw_735 mw_43 ⟨by decide, by decide, by decide +kernel⟩ ⟨rfl, rfl, Nat.le_of_ble_eq_true rfl, Nat.le_of_ble_eq_true rfl⟩ (n := 3) rfl hl.1 rfl (Nat.le_of_ble_eq_true rfl) dX5_raise_25 ⟨Nat.le_of_ble_eq_true rfl, Nat.le_of_ble_eq_true rfl⟩) (fun r9 e9 => ?_)
  subst e9
  refine mi_if_ne (tgt := 35) S (by omega) dX5_raise_28 (by decide) (fun c28_2 => ?_) (fun c28_2 => by exfalso; omega)
  refine lv_aload_n S.1 S.2.1 dX5_raise_35 rfl (lv_at hl 0 rfl) ?_
  refine mo_g_7 S E hM dX5_raise_36 ?_
  refine mi_top (v' := .int (nI (sN S0))) (congrArg Value.int hR.1.1) ?_
  refine lv_bipush (v := nI 61) S.1 S.2.1 dX5_raise_39 (by decide) ?_
  refine mi_icmp_ne (tgt := 48) S (by omega) (by omega) dX5_raise_41 (by decide) (fun c41_3 => by exfalso; omega) (fun c41_3 => ?_)
  refine lv_iconst (v := nI 3) S.1 S.2.1 dX5_raise_44 (by decide) ?_
  refine lv_goto (tgt := 49) S.1 S.2.1 dX5_raise_45 (by decide) ?_
  refine mo_p_44 S E hS hM dX5_raise_49 (fun H locs hM hS => ?_)
  refine lv_aload_n S.1 S.2.1 dX5_raise_52 rfl (lv_at hl 0 rfl) ?_
  refine mo_g_44 S E hM dX5_raise_53 ?_
  refine mi_top (v' := .int (nI (3))) (rfl) ?_
  refine mi_if_le (tgt := 61) S (by omega) dX5_raise_56 (by decide) (fun c56_5 => by exfalso; omega) (fun c56_5 => ?_)
  refine lv_iconst (v := nI 0) S.1 S.2.1 dX5_raise_59 (by decide) ?_
  exact mi_retMi S hr hk hS dX5_raise_60 (Nat.le_refl _) (Nat.le_refl _) (hM)
set_option maxHeartbeats 4000000 in
set_option maxRecDepth 100000 in
theorem c_mlayer (l : Launch) (D : va_G) (A : Nat → Prop) {ad : Nat → Nat} {cf0 : Nat → Option va_E} {f : Nat → Int32} {g : Nat → Nat → Int32} {S0 : sT} (hR : st_mo S0 f g) (hO : st_ok S0) {b k : Nat} (hb : b < 8) (hk4 : k < 4) (h61 : sN S0 < 61) : mi_Mi l yX5_layer (Cond.code yX5_layer cX5_layer 4 (some Jvm.ClassFile.FieldType.int)) (mi_rm 2) D A (mo_W D A ad cf0 f g) [.ref (ad 1000020), .int (nI (b)), .int (nI (k))] 0 0 (fun r H => r = nI (sN S0) ∧ ∃ f1 g1, mo_W D A ad cf0 f1 g1 H ∧ st_mo (st_new S0 (sp_la (sK S0 (sW S0)) b k 16)) f1 g1 ∧ f1 0 = nI 0) := by
  refine mi_start (cc := cX5_layer) (nL := 4) (ret := (some Jvm.ClassFile.FieldType.int)) rfl (by decide) (Nat.le_of_ble_eq_true rfl) ?_
  intro p e s m below meth c ls S E hM hS hr hk hn hl
  have S : CallFix p m c cX5_layer 4 s _ ((Cond.code yX5_layer cX5_layer 4 (some Jvm.ClassFile.FieldType.int)) :: mi_G) RX5 := S
  have hl : lv_has ls 4 [(0, .ref (ad 1000020)), (1, .int (nI (b))), (2, .int (nI (k)))] := hl
  obtain ⟨⟨o1, o2, o3, o4, o5⟩, oP, oK, oD, oX, oC, oI⟩ := id hO
  refine lv_aload_n S.1 S.2.1 dX5_layer_0 rfl (lv_at hl 0 rfl) ?_
  refine lv_iload_n S.1 S.2.1 dX5_layer_1 rfl (lv_at hl 1 rfl) ?_
  refine mi_cR (mi_runS (P := mo_W D A ad cf0 f g) (As := [.int (nI (b))]) (rest := [.ref (ad 1000020)]) S E hS hM (c_misLevel_y l D A (mo_W D A ad cf0 f g) (by omega)) mw_739 mw_737 mw_738 mw_43 ⟨by decide, by decide, by decide +kernel⟩ ⟨rfl, rfl, Nat.le_of_ble_eq_true rfl, Nat.le_of_ble_eq_true rfl⟩ (n := 1) rfl hl.1 rfl (Nat.le_of_ble_eq_true rfl) dX5_layer_2 ⟨Nat.le_of_ble_eq_true rfl, Nat.le_of_ble_eq_true rfl⟩) (fun r9 e9 => ?_)
  subst e9
  refine mi_if_ne (tgt := 12) S (by omega) dX5_layer_5 (by decide) (fun c5_0 => ?_) (fun c5_0 => by exfalso; omega)
  refine lv_iload_n S.1 S.2.1 dX5_layer_12 rfl (lv_at hl 2 rfl) ?_
  refine lv_iconst (v := nI 0) S.1 S.2.1 dX5_layer_13 (by decide) ?_
  refine lv_iconst (v := nI 3) S.1 S.2.1 dX5_layer_14 (by decide) ?_
  refine mi_cR (mi_runS (P := mo_W D A ad cf0 f g) (As := [.int (nI (k)), .int (nI (0)), .int (nI (3))]) (rest := [.ref (ad 1000020)]) S E hS hM (c_in_y l D A (mo_W D A ad cf0 f g) (by have := nI_toInt (n := k) (by omega); have := nI_toInt (n := 0) (by omega); have := nI_toInt (n := 3) (by omega); omega)) mw_736 mw_734 mw_735 mw_43 ⟨by decide, by decide, by decide +kernel⟩ ⟨rfl, rfl, Nat.le_of_ble_eq_true rfl, Nat.le_of_ble_eq_true rfl⟩ (n := 3) rfl hl.1 rfl (Nat.le_of_ble_eq_true rfl) dX5_layer_15 ⟨Nat.le_of_ble_eq_true rfl, Nat.le_of_ble_eq_true rfl⟩) (fun r9 e9 => ?_)
  subst e9
  refine mi_if_ne (tgt := 25) S (by omega) dX5_layer_18 (by decide) (fun c18_1 => ?_) (fun c18_1 => by exfalso; omega)
  refine lv_aload_n S.1 S.2.1 dX5_layer_25 rfl (lv_at hl 0 rfl) ?_
  refine mo_g_7 S E hM dX5_layer_26 ?_
  refine mi_top (v' := .int (nI (sN S0))) (congrArg Value.int hR.1.1) ?_
  refine lv_bipush (v := nI 61) S.1 S.2.1 dX5_layer_29 (by decide) ?_
  refine mi_icmp_ne (tgt := 38) S (by omega) (by omega) dX5_layer_31 (by decide) (fun c31_2 => ?_) (fun c31_2 => by exfalso; omega)
  refine lv_iconst (v := nI 0) S.1 S.2.1 dX5_layer_38 (by decide) ?_
  refine mo_p_44 S E hS hM dX5_layer_39 (fun H locs hM hS => ?_)
  refine lv_aload_n S.1 S.2.1 dX5_layer_42 rfl (lv_at hl 0 rfl) ?_
  refine mo_g_44 S E hM dX5_layer_43 ?_
  refine mi_top (v' := .int (nI (0))) (rfl) ?_
  refine mi_if_le (tgt := 51) S (by omega) dX5_layer_46 (by decide) (fun c46_4 => ?_) (fun c46_4 => by exfalso; omega)
  refine lv_aload_n S.1 S.2.1 dX5_layer_51 rfl (lv_at hl 0 rfl) ?_
  refine mi_cMv (mi_runV (P := mo_W D A ad cf0 (upd f 0 (nI (0))) g) (As := []) (rest := []) S E hS hM (ad 1000020) (c_grows l D A (st_mo_0 hR _) hO h61) (hM.recv E) mw_743 mw_740 mw_742 mw_17 mw_43 ⟨by decide, by decide, by decide +kernel⟩ ⟨rfl, rfl, Nat.le_of_ble_eq_true rfl, Nat.le_of_ble_eq_true rfl⟩ (n := 0) rfl hl.1 rfl (Nat.le_of_ble_eq_true rfl) dX5_layer_52 ⟨Nat.le_of_ble_eq_true rfl, Nat.le_of_ble_eq_true rfl⟩) hS (fun H locs hp9 hS hz => ?_)
  obtain ⟨f6, g6, hM, hR6, hz6⟩ := hp9
  refine lv_iconst (v := nI 0) S.1 S.2.1 dX5_layer_55 (by decide) ?_
  refine lv_istore_n (lv' := [(3, .int (nI (0))), (0, .ref (ad 1000020)), (1, .int (nI (b))), (2, .int (nI (k)))]) S.1 S.2.1 dX5_layer_56 rfl hl (by decide) rfl (fun ls hl => ?_)
  have lp57 : ∀ (n57 : Nat) (f1 : Nat → Int32) (g1 : Nat → Nat → Int32) (i : Nat) (H : Heap) (locs : List Loc) (ls : Array Slot), 16 - i < n57 → i ≤ 16 → st_mo (st_new S0 (sp_la (sK S0 (sW S0)) b k i)) f1 g1 → f1 0 = nI 0 → mo_W D A ad cf0 f1 g1 H → va_S A s.heap H locs → lv_has ls 4 [(0, .ref (ad 1000020)), (1, .int (nI (b))), (2, .int (nI (k))), (3, .int (nI (i)))] → W p l e (mi_rm 2) s m ([.ref (ad 1000020), .int (nI (b)), .int (nI (k))] : List Value).toArray below meth c H locs 0 0 (MQ below (mi_Qi A (fun r H => r = nI (sN S0) ∧ ∃ f1 g1, mo_W D A ad cf0 f1 g1 H ∧ st_mo (st_new S0 (sp_la (sK S0 (sW S0)) b k 16)) f1 g1 ∧ f1 0 = nI 0)) ([.ref (ad 1000020), .int (nI (b)), .int (nI (k))] : List Value).toArray s 0 0 A) (F0 m 57 ls []) := by
    intro n57
    induction n57 with
    | zero => intro f1 g1 i H locs ls hm hi hR1 hz1 hM hS hl; exact absurd hm (Nat.not_lt_zero _)
    | succ n57 ih57 =>
      intro f1 g1 i H locs ls hm hi hR1 hz1 hM hS hl
      refine lv_iload_n S.1 S.2.1 dX5_layer_57 rfl (lv_at hl 3 rfl) ?_
      refine lv_bipush (v := nI 16) S.1 S.2.1 dX5_layer_58 (by decide) ?_
      refine mi_icmp_ge (tgt := 76) S (by omega) (by omega) dX5_layer_60 (by decide) (fun c60_6 => ?_) (fun c60_6 => ?_)
      · refine lv_aload_n S.1 S.2.1 dX5_layer_76 rfl (lv_at hl 0 rfl) ?_
        refine mo_g_51 S E hM dX5_layer_77 ?_
        refine mi_top (v' := .int (nI (sN S0))) (congrArg Value.int hR1.1.2.1) ?_
        exact mi_retMi S hr hk hS dX5_layer_80 (Nat.le_refl _) (Nat.le_refl _) ⟨rfl, f1, g1, hM, (by rw [show i = 16 by omega] at hR1; exact hR1), hz1⟩
      · refine lv_aload_n S.1 S.2.1 dX5_layer_63 rfl (lv_at hl 0 rfl) ?_
        refine lv_iload_n S.1 S.2.1 dX5_layer_64 rfl (lv_at hl 3 rfl) ?_
        refine lv_iload_n S.1 S.2.1 dX5_layer_65 rfl (lv_at hl 1 rfl) ?_
        refine lv_iload_n S.1 S.2.1 dX5_layer_66 rfl (lv_at hl 2 rfl) ?_
        refine mi_cMv (mi_runV (P := mo_W D A ad cf0 f1 g1) (As := [.int (nI (i)), .int (nI (b)), .int (nI (k))]) (rest := []) S E hS hM (ad 1000020) (c_puts l D A (S0 := st_new S0 (sp_la (sK S0 (sW S0)) b k i)) hR1 ⟨(show sN S0 < sN S0 + 1 by omega), (show sN S0 + 1 ≤ 61 by omega)⟩ (by omega) (by omega) (by omega)) (hM.recv E) mw_747 mw_744 mw_746 mw_18 mw_43 ⟨by decide, by decide, by decide +kernel⟩ ⟨rfl, rfl, Nat.le_of_ble_eq_true rfl, Nat.le_of_ble_eq_true rfl⟩ (n := 3) rfl hl.1 rfl (Nat.le_of_ble_eq_true rfl) dX5_layer_67 ⟨Nat.le_of_ble_eq_true rfl, Nat.le_of_ble_eq_true rfl⟩) hS (fun H locs hp9 hS hz => ?_)
        obtain ⟨f8, g8, hM, hR8, hz8⟩ := hp9
        rw [st_put_new] at hR8
        refine lv_iinc (v := nI (i + 1)) (lv' := [(3, .int (nI (i + 1))), (0, .ref (ad 1000020)), (1, .int (nI (b))), (2, .int (nI (k)))]) S.1 S.2.1 dX5_layer_70 hl (k := 3) rfl (mi_inc _) (by decide) rfl (fun ls hl => ?_)
        refine lv_goto (tgt := 57) S.1 S.2.1 dX5_layer_73 (by decide) ?_
        exact ih57 f8 g8 (i + 1) _ _ _ (by omega) (by omega) (by have h9 := hR8; rw [sp_la_1 (by omega)] at h9; exact h9) (hz8.trans (hz1)) hM hS (lv_sub hl [1, 2, 3, 0] rfl)
  exact lp57 _ f6 g6 0 _ _ _ (Nat.lt_succ_self _) (by omega) (by rw [sp_la_0]; exact hR6) (hz6.trans rfl) hM hS (lv_sub hl [1, 2, 3, 0] rfl)
set_option maxHeartbeats 4000000 in
set_option maxRecDepth 100000 in
theorem c_mlayer_1 (l : Launch) (D : va_G) (A : Nat → Prop) {ad : Nat → Nat} {cf0 : Nat → Option va_E} {f : Nat → Int32} {g : Nat → Nat → Int32} {S0 : sT} (hR : st_mo S0 f g) (hO : st_ok S0) {x y : Int32} (h9 : ¬ (0 ≤ x.toInt ∧ x.toInt ≤ 7)) : mi_Mi l yX5_layer (Cond.code yX5_layer cX5_layer 4 (some Jvm.ClassFile.FieldType.int)) (mi_rm 2) D A (mo_W D A ad cf0 f g) [.ref (ad 1000020), .int (x), .int (y)] 0 0 (fun r H => mo_W D A ad cf0 (upd f 0 (nI 1)) g H) := by
  refine mi_start (cc := cX5_layer) (nL := 4) (ret := (some Jvm.ClassFile.FieldType.int)) rfl (by decide) (Nat.le_of_ble_eq_true rfl) ?_
  intro p e s m below meth c ls S E hM hS hr hk hn hl
  have S : CallFix p m c cX5_layer 4 s _ ((Cond.code yX5_layer cX5_layer 4 (some Jvm.ClassFile.FieldType.int)) :: mi_G) RX5 := S
  have hl : lv_has ls 4 [(0, .ref (ad 1000020)), (1, .int (x)), (2, .int (y))] := hl
  obtain ⟨⟨o1, o2, o3, o4, o5⟩, oP, oK, oD, oX, oC, oI⟩ := id hO
  refine lv_aload_n S.1 S.2.1 dX5_layer_0 rfl (lv_at hl 0 rfl) ?_
  refine lv_iload_n S.1 S.2.1 dX5_layer_1 rfl (lv_at hl 1 rfl) ?_
  refine mi_cR (mi_runS (P := mo_W D A ad cf0 f g) (As := [.int (x)]) (rest := [.ref (ad 1000020)]) S E hS hM (c_misLevel_n l D A (mo_W D A ad cf0 f g) (h9)) mw_739 mw_737 mw_738 mw_43 ⟨by decide, by decide, by decide +kernel⟩ ⟨rfl, rfl, Nat.le_of_ble_eq_true rfl, Nat.le_of_ble_eq_true rfl⟩ (n := 1) rfl hl.1 rfl (Nat.le_of_ble_eq_true rfl) dX5_layer_2 ⟨Nat.le_of_ble_eq_true rfl, Nat.le_of_ble_eq_true rfl⟩) (fun r9 e9 => ?_)
  subst e9
  refine mi_if_ne (tgt := 12) S (by omega) dX5_layer_5 (by decide) (fun c5_0 => by exfalso; omega) (fun c5_0 => ?_)
  refine lv_iconst (v := nI 1) S.1 S.2.1 dX5_layer_8 (by decide) ?_
  refine lv_goto (tgt := 39) S.1 S.2.1 dX5_layer_9 (by decide) ?_
  refine mo_p_44 S E hS hM dX5_layer_39 (fun H locs hM hS => ?_)
  refine lv_aload_n S.1 S.2.1 dX5_layer_42 rfl (lv_at hl 0 rfl) ?_
  refine mo_g_44 S E hM dX5_layer_43 ?_
  refine mi_top (v' := .int (nI (1))) (rfl) ?_
  refine mi_if_le (tgt := 51) S (by omega) dX5_layer_46 (by decide) (fun c46_2 => by exfalso; omega) (fun c46_2 => ?_)
  refine lv_iconst (v := nI 0) S.1 S.2.1 dX5_layer_49 (by decide) ?_
  exact mi_retMi S hr hk hS dX5_layer_50 (Nat.le_refl _) (Nat.le_refl _) (hM)
set_option maxHeartbeats 4000000 in
set_option maxRecDepth 100000 in
theorem c_mlayer_2 (l : Launch) (D : va_G) (A : Nat → Prop) {ad : Nat → Nat} {cf0 : Nat → Option va_E} {f : Nat → Int32} {g : Nat → Nat → Int32} {S0 : sT} (hR : st_mo S0 f g) (hO : st_ok S0) {b : Nat} (hb : b < 8) {z : Int32} (h9 : ¬ (0 ≤ z.toInt ∧ z.toInt ≤ 3)) : mi_Mi l yX5_layer (Cond.code yX5_layer cX5_layer 4 (some Jvm.ClassFile.FieldType.int)) (mi_rm 2) D A (mo_W D A ad cf0 f g) [.ref (ad 1000020), .int (nI (b)), .int (z)] 0 0 (fun r H => mo_W D A ad cf0 (upd f 0 (nI 2)) g H) := by
  refine mi_start (cc := cX5_layer) (nL := 4) (ret := (some Jvm.ClassFile.FieldType.int)) rfl (by decide) (Nat.le_of_ble_eq_true rfl) ?_
  intro p e s m below meth c ls S E hM hS hr hk hn hl
  have S : CallFix p m c cX5_layer 4 s _ ((Cond.code yX5_layer cX5_layer 4 (some Jvm.ClassFile.FieldType.int)) :: mi_G) RX5 := S
  have hl : lv_has ls 4 [(0, .ref (ad 1000020)), (1, .int (nI (b))), (2, .int (z))] := hl
  obtain ⟨⟨o1, o2, o3, o4, o5⟩, oP, oK, oD, oX, oC, oI⟩ := id hO
  refine lv_aload_n S.1 S.2.1 dX5_layer_0 rfl (lv_at hl 0 rfl) ?_
  refine lv_iload_n S.1 S.2.1 dX5_layer_1 rfl (lv_at hl 1 rfl) ?_
  refine mi_cR (mi_runS (P := mo_W D A ad cf0 f g) (As := [.int (nI (b))]) (rest := [.ref (ad 1000020)]) S E hS hM (c_misLevel_y l D A (mo_W D A ad cf0 f g) (by omega)) mw_739 mw_737 mw_738 mw_43 ⟨by decide, by decide, by decide +kernel⟩ ⟨rfl, rfl, Nat.le_of_ble_eq_true rfl, Nat.le_of_ble_eq_true rfl⟩ (n := 1) rfl hl.1 rfl (Nat.le_of_ble_eq_true rfl) dX5_layer_2 ⟨Nat.le_of_ble_eq_true rfl, Nat.le_of_ble_eq_true rfl⟩) (fun r9 e9 => ?_)
  subst e9
  refine mi_if_ne (tgt := 12) S (by omega) dX5_layer_5 (by decide) (fun c5_0 => ?_) (fun c5_0 => by exfalso; omega)
  refine lv_iload_n S.1 S.2.1 dX5_layer_12 rfl (lv_at hl 2 rfl) ?_
  refine lv_iconst (v := nI 0) S.1 S.2.1 dX5_layer_13 (by decide) ?_
  refine lv_iconst (v := nI 3) S.1 S.2.1 dX5_layer_14 (by decide) ?_
  refine mi_cR (mi_runS (P := mo_W D A ad cf0 f g) (As := [.int (z), .int (nI (0)), .int (nI (3))]) (rest := [.ref (ad 1000020)]) S E hS hM (c_in_n l D A (mo_W D A ad cf0 f g) (by skip; have := nI_toInt (n := 0) (by omega); have := nI_toInt (n := 3) (by omega); omega)) mw_736 mw_734 mw_735 mw_43 ⟨by decide, by decide, by decide +kernel⟩ ⟨rfl, rfl, Nat.le_of_ble_eq_true rfl, Nat.le_of_ble_eq_true rfl⟩ (n := 3) rfl hl.1 rfl (Nat.le_of_ble_eq_true rfl) dX5_layer_15 ⟨Nat.le_of_ble_eq_true rfl, Nat.le_of_ble_eq_true rfl⟩) (fun r9 e9 => ?_)
  subst e9
  refine mi_if_ne (tgt := 25) S (by omega) dX5_layer_18 (by decide) (fun c18_1 => by exfalso; omega) (fun c18_1 => ?_)
  refine lv_iconst (v := nI 2) S.1 S.2.1 dX5_layer_21 (by decide) ?_
  refine lv_goto (tgt := 39) S.1 S.2.1 dX5_layer_22 (by decide) ?_
  refine mo_p_44 S E hS hM dX5_layer_39 (fun H locs hM hS => ?_)
  refine lv_aload_n S.1 S.2.1 dX5_layer_42 rfl (lv_at hl 0 rfl) ?_
  refine mo_g_44 S E hM dX5_layer_43 ?_
  refine mi_top (v' := .int (nI (2))) (rfl) ?_
  refine mi_if_le (tgt := 51) S (by omega) dX5_layer_46 (by decide) (fun c46_3 => by exfalso; omega) (fun c46_3 => ?_)
  refine lv_iconst (v := nI 0) S.1 S.2.1 dX5_layer_49 (by decide) ?_
  exact mi_retMi S hr hk hS dX5_layer_50 (Nat.le_refl _) (Nat.le_refl _) (hM)
set_option maxHeartbeats 4000000 in
set_option maxRecDepth 100000 in
theorem c_mlayer_3 (l : Launch) (D : va_G) (A : Nat → Prop) {ad : Nat → Nat} {cf0 : Nat → Option va_E} {f : Nat → Int32} {g : Nat → Nat → Int32} {S0 : sT} (hR : st_mo S0 f g) (hO : st_ok S0) {b k : Nat} (hb : b < 8) (hk4 : k < 4) (h61 : sN S0 = 61) : mi_Mi l yX5_layer (Cond.code yX5_layer cX5_layer 4 (some Jvm.ClassFile.FieldType.int)) (mi_rm 2) D A (mo_W D A ad cf0 f g) [.ref (ad 1000020), .int (nI (b)), .int (nI (k))] 0 0 (fun r H => mo_W D A ad cf0 (upd f 0 (nI 3)) g H) := by
  refine mi_start (cc := cX5_layer) (nL := 4) (ret := (some Jvm.ClassFile.FieldType.int)) rfl (by decide) (Nat.le_of_ble_eq_true rfl) ?_
  intro p e s m below meth c ls S E hM hS hr hk hn hl
  have S : CallFix p m c cX5_layer 4 s _ ((Cond.code yX5_layer cX5_layer 4 (some Jvm.ClassFile.FieldType.int)) :: mi_G) RX5 := S
  have hl : lv_has ls 4 [(0, .ref (ad 1000020)), (1, .int (nI (b))), (2, .int (nI (k)))] := hl
  obtain ⟨⟨o1, o2, o3, o4, o5⟩, oP, oK, oD, oX, oC, oI⟩ := id hO
  refine lv_aload_n S.1 S.2.1 dX5_layer_0 rfl (lv_at hl 0 rfl) ?_
  refine lv_iload_n S.1 S.2.1 dX5_layer_1 rfl (lv_at hl 1 rfl) ?_
  refine mi_cR (mi_runS (P := mo_W D A ad cf0 f g) (As := [.int (nI (b))]) (rest := [.ref (ad 1000020)]) S E hS hM (c_misLevel_y l D A (mo_W D A ad cf0 f g) (by omega)) mw_739 mw_737 mw_738 mw_43 ⟨by decide, by decide, by decide +kernel⟩ ⟨rfl, rfl, Nat.le_of_ble_eq_true rfl, Nat.le_of_ble_eq_true rfl⟩ (n := 1) rfl hl.1 rfl (Nat.le_of_ble_eq_true rfl) dX5_layer_2 ⟨Nat.le_of_ble_eq_true rfl, Nat.le_of_ble_eq_true rfl⟩) (fun r9 e9 => ?_)
  subst e9
  refine mi_if_ne (tgt := 12) S (by omega) dX5_layer_5 (by decide) (fun c5_0 => ?_) (fun c5_0 => by exfalso; omega)
  refine lv_iload_n S.1 S.2.1 dX5_layer_12 rfl (lv_at hl 2 rfl) ?_
  refine lv_iconst (v := nI 0) S.1 S.2.1 dX5_layer_13 (by decide) ?_
  refine lv_iconst (v := nI 3) S.1 S.2.1 dX5_layer_14 (by decide) ?_
  refine mi_cR (mi_runS (P := mo_W D A ad cf0 f g) (As := [.int (nI (k)), .int (nI (0)), .int (nI (3))]) (rest := [.ref (ad 1000020)]) S E hS hM (c_in_y l D A (mo_W D A ad cf0 f g) (by have := nI_toInt (n := k) (by omega); have := nI_toInt (n := 0) (by omega); have := nI_toInt (n := 3) (by omega); omega)) mw_736 mw_734 mw_735 mw_43 ⟨by decide, by decide, by decide +kernel⟩ ⟨rfl, rfl, Nat.le_of_ble_eq_true rfl, Nat.le_of_ble_eq_true rfl⟩ (n := 3) rfl hl.1 rfl (Nat.le_of_ble_eq_true rfl) dX5_layer_15 ⟨Nat.le_of_ble_eq_true rfl, Nat.le_of_ble_eq_true rfl⟩) (fun r9 e9 => ?_)
  subst e9
  refine mi_if_ne (tgt := 25) S (by omega) dX5_layer_18 (by decide) (fun c18_1 => ?_) (fun c18_1 => by exfalso; omega)
  refine lv_aload_n S.1 S.2.1 dX5_layer_25 rfl (lv_at hl 0 rfl) ?_
  refine mo_g_7 S E hM dX5_layer_26 ?_
  refine mi_top (v' := .int (nI (sN S0))) (congrArg Value.int hR.1.1) ?_
  refine lv_bipush (v := nI 61) S.1 S.2.1 dX5_layer_29 (by decide) ?_
  refine mi_icmp_ne (tgt := 38) S (by omega) (by omega) dX5_layer_31 (by decide) (fun c31_2 => by exfalso; omega) (fun c31_2 => ?_)
  refine lv_iconst (v := nI 3) S.1 S.2.1 dX5_layer_34 (by decide) ?_
  refine lv_goto (tgt := 39) S.1 S.2.1 dX5_layer_35 (by decide) ?_
  refine mo_p_44 S E hS hM dX5_layer_39 (fun H locs hM hS => ?_)
  refine lv_aload_n S.1 S.2.1 dX5_layer_42 rfl (lv_at hl 0 rfl) ?_
  refine mo_g_44 S E hM dX5_layer_43 ?_
  refine mi_top (v' := .int (nI (3))) (rfl) ?_
  refine mi_if_le (tgt := 51) S (by omega) dX5_layer_46 (by decide) (fun c46_4 => by exfalso; omega) (fun c46_4 => ?_)
  refine lv_iconst (v := nI 0) S.1 S.2.1 dX5_layer_49 (by decide) ?_
  exact mi_retMi S hr hk hS dX5_layer_50 (Nat.le_refl _) (Nat.le_refl _) (hM)
end
section
theorem i_vc : Claimed_1_1 ∧ Claimed_1_2 := sorry
-- x
end
