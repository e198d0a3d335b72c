section
-- ===== PART A: goes FIRST, ahead of the names: the tables' words, and 'selects' of the private methods out of them =====
/-- a private method of a class that the tables say can be made, by its rows of tables_1 -/
def lw_okq (q : MethodName × Nat) : Prop := (q.1.cls ≠ "java/lang/invoke/MethodHandle" ∧ q.1.cls ≠ "java/lang/invoke/VarHandle") ∧ Cond.instantiable q.1.cls q.2 ∈ tables_1 ∧ Cond.privateMethod q.1 ∈ tables_1 ∧ Cond.instanceMethod q.1 ∈ tables_1
theorem lw_p0 : lw_okq (⟨"java/lang/Throwable", "fillInStackTrace", "(I)Ljava/lang/Throwable;"⟩, 6) := ⟨⟨by decide +kernel, by decide +kernel⟩, List.mem_of_getElem? (i := 95) (by decide +kernel), List.mem_of_getElem? (i := 93) (by decide +kernel), List.mem_of_getElem? (i := 94) (by decide +kernel)⟩
theorem lw_p1 : lw_okq (⟨"LiveCollections", "needRoomForNode", "(II)V"⟩, 4) := ⟨⟨by decide +kernel, by decide +kernel⟩, List.mem_of_getElem? (i := 16) (by decide +kernel), List.mem_of_getElem? (i := 120) (by decide +kernel), List.mem_of_getElem? (i := 121) (by decide +kernel)⟩
theorem lw_p2 : lw_okq (⟨"LiveCollections", "keep", "(ILLiveCollections$Node;)I"⟩, 4) := ⟨⟨by decide +kernel, by decide +kernel⟩, List.mem_of_getElem? (i := 16) (by decide +kernel), List.mem_of_getElem? (i := 216) (by decide +kernel), List.mem_of_getElem? (i := 217) (by decide +kernel)⟩
theorem lw_p3 : lw_okq (⟨"LiveCollections", "nodeIn", "(I)LLiveCollections$Node;"⟩, 4) := ⟨⟨by decide +kernel, by decide +kernel⟩, List.mem_of_getElem? (i := 16) (by decide +kernel), List.mem_of_getElem? (i := 227) (by decide +kernel), List.mem_of_getElem? (i := 228) (by decide +kernel)⟩
theorem lw_p4 : lw_okq (⟨"LiveCollections", "rowIn", "(I)LLiveCollections$Node;"⟩, 4) := ⟨⟨by decide +kernel, by decide +kernel⟩, List.mem_of_getElem? (i := 16) (by decide +kernel), List.mem_of_getElem? (i := 299) (by decide +kernel), List.mem_of_getElem? (i := 300) (by decide +kernel)⟩
theorem lw_p5 : lw_okq (⟨"LiveCollectionsModel", "out", "(II)Z"⟩, 19) := ⟨⟨by decide +kernel, by decide +kernel⟩, List.mem_of_getElem? (i := 526) (by decide +kernel), List.mem_of_getElem? (i := 599) (by decide +kernel), List.mem_of_getElem? (i := 600) (by decide +kernel)⟩
theorem lw_p6 : lw_okq (⟨"LiveCollectionsModel", "fail", "(I)I"⟩, 19) := ⟨⟨by decide +kernel, by decide +kernel⟩, List.mem_of_getElem? (i := 526) (by decide +kernel), List.mem_of_getElem? (i := 603) (by decide +kernel), List.mem_of_getElem? (i := 604) (by decide +kernel)⟩
theorem lw_p7 : lw_okq (⟨"LiveCollectionsModel", "create", "(IIIII)I"⟩, 19) := ⟨⟨by decide +kernel, by decide +kernel⟩, List.mem_of_getElem? (i := 526) (by decide +kernel), List.mem_of_getElem? (i := 607) (by decide +kernel), List.mem_of_getElem? (i := 608) (by decide +kernel)⟩
theorem lw_p8 : lw_okq (⟨"LiveCollectionsModel", "nodeOf", "(I)I"⟩, 19) := ⟨⟨by decide +kernel, by decide +kernel⟩, List.mem_of_getElem? (i := 526) (by decide +kernel), List.mem_of_getElem? (i := 615) (by decide +kernel), List.mem_of_getElem? (i := 616) (by decide +kernel)⟩
theorem lw_p9 : lw_okq (⟨"LiveCollectionsModel", "show", "(I)Z"⟩, 19) := ⟨⟨by decide +kernel, by decide +kernel⟩, List.mem_of_getElem? (i := 526) (by decide +kernel), List.mem_of_getElem? (i := 619) (by decide +kernel), List.mem_of_getElem? (i := 620) (by decide +kernel)⟩
theorem lw_p10 : lw_okq (⟨"LiveCollectionsModel", "mark", "(I)Z"⟩, 19) := ⟨⟨by decide +kernel, by decide +kernel⟩, List.mem_of_getElem? (i := 526) (by decide +kernel), List.mem_of_getElem? (i := 623) (by decide +kernel), List.mem_of_getElem? (i := 624) (by decide +kernel)⟩
theorem lw_p11 : lw_okq (⟨"LiveCollectionsModel", "changesOf", "(I)I"⟩, 19) := ⟨⟨by decide +kernel, by decide +kernel⟩, List.mem_of_getElem? (i := 526) (by decide +kernel), List.mem_of_getElem? (i := 627) (by decide +kernel), List.mem_of_getElem? (i := 628) (by decide +kernel)⟩
theorem lw_p12 : lw_okq (⟨"LiveCollectionsModel", "listOf", "(I)I"⟩, 19) := ⟨⟨by decide +kernel, by decide +kernel⟩, List.mem_of_getElem? (i := 526) (by decide +kernel), List.mem_of_getElem? (i := 631) (by decide +kernel), List.mem_of_getElem? (i := 632) (by decide +kernel)⟩
theorem lw_p13 : lw_okq (⟨"LiveCollectionsModel", "leaf", "(I)I"⟩, 19) := ⟨⟨by decide +kernel, by decide +kernel⟩, List.mem_of_getElem? (i := 526) (by decide +kernel), List.mem_of_getElem? (i := 635) (by decide +kernel), List.mem_of_getElem? (i := 636) (by decide +kernel)⟩
theorem lw_p14 : lw_okq (⟨"LiveCollectionsModel", "based", "(I)Z"⟩, 19) := ⟨⟨by decide +kernel, by decide +kernel⟩, List.mem_of_getElem? (i := 526) (by decide +kernel), List.mem_of_getElem? (i := 639) (by decide +kernel), List.mem_of_getElem? (i := 640) (by decide +kernel)⟩
theorem lw_p15 : lw_okq (⟨"LiveCollectionsModel", "work", "(I)V"⟩, 19) := ⟨⟨by decide +kernel, by decide +kernel⟩, List.mem_of_getElem? (i := 526) (by decide +kernel), List.mem_of_getElem? (i := 643) (by decide +kernel), List.mem_of_getElem? (i := 644) (by decide +kernel)⟩
def lw_privs_1 : List (MethodName × Nat) := [(⟨"java/lang/Throwable", "fillInStackTrace", "(I)Ljava/lang/Throwable;"⟩, 6), (⟨"LiveCollections", "needRoomForNode", "(II)V"⟩, 4), (⟨"LiveCollections", "keep", "(ILLiveCollections$Node;)I"⟩, 4), (⟨"LiveCollections", "nodeIn", "(I)LLiveCollections$Node;"⟩, 4), (⟨"LiveCollections", "rowIn", "(I)LLiveCollections$Node;"⟩, 4), (⟨"LiveCollectionsModel", "out", "(II)Z"⟩, 19), (⟨"LiveCollectionsModel", "fail", "(I)I"⟩, 19), (⟨"LiveCollectionsModel", "create", "(IIIII)I"⟩, 19), (⟨"LiveCollectionsModel", "nodeOf", "(I)I"⟩, 19), (⟨"LiveCollectionsModel", "show", "(I)Z"⟩, 19), (⟨"LiveCollectionsModel", "mark", "(I)Z"⟩, 19), (⟨"LiveCollectionsModel", "changesOf", "(I)I"⟩, 19), (⟨"LiveCollectionsModel", "listOf", "(I)I"⟩, 19), (⟨"LiveCollectionsModel", "leaf", "(I)I"⟩, 19), (⟨"LiveCollectionsModel", "based", "(I)Z"⟩, 19), (⟨"LiveCollectionsModel", "work", "(I)V"⟩, 19)]
theorem lw_r1 : ∀ q ∈ lw_privs_1, lw_okq q := List.forall_mem_cons.mpr ⟨lw_p0, List.forall_mem_cons.mpr ⟨lw_p1, List.forall_mem_cons.mpr ⟨lw_p2, List.forall_mem_cons.mpr ⟨lw_p3, List.forall_mem_cons.mpr ⟨lw_p4, List.forall_mem_cons.mpr ⟨lw_p5, List.forall_mem_cons.mpr ⟨lw_p6, List.forall_mem_cons.mpr ⟨lw_p7, List.forall_mem_cons.mpr ⟨lw_p8, List.forall_mem_cons.mpr ⟨lw_p9, List.forall_mem_cons.mpr ⟨lw_p10, List.forall_mem_cons.mpr ⟨lw_p11, List.forall_mem_cons.mpr ⟨lw_p12, List.forall_mem_cons.mpr ⟨lw_p13, List.forall_mem_cons.mpr ⟨lw_p14, List.forall_mem_cons.mpr ⟨lw_p15, fun _ h => absurd h List.not_mem_nil⟩⟩⟩⟩⟩⟩⟩⟩⟩⟩⟩⟩⟩⟩⟩⟩
theorem lw_p16 : lw_okq (⟨"LiveCollectionsModel", "list", "(II)V"⟩, 19) := ⟨⟨by decide +kernel, by decide +kernel⟩, List.mem_of_getElem? (i := 526) (by decide +kernel), List.mem_of_getElem? (i := 647) (by decide +kernel), List.mem_of_getElem? (i := 648) (by decide +kernel)⟩
theorem lw_p17 : lw_okq (⟨"LiveCollectionsModel", "push", "(II)V"⟩, 19) := ⟨⟨by decide +kernel, by decide +kernel⟩, List.mem_of_getElem? (i := 526) (by decide +kernel), List.mem_of_getElem? (i := 651) (by decide +kernel), List.mem_of_getElem? (i := 652) (by decide +kernel)⟩
theorem lw_p18 : lw_okq (⟨"LiveCollectionsModel", "combined", "(I)V"⟩, 19) := ⟨⟨by decide +kernel, by decide +kernel⟩, List.mem_of_getElem? (i := 526) (by decide +kernel), List.mem_of_getElem? (i := 655) (by decide +kernel), List.mem_of_getElem? (i := 656) (by decide +kernel)⟩
theorem lw_p19 : lw_okq (⟨"LiveCollectionsModel", "has", "(II)Z"⟩, 19) := ⟨⟨by decide +kernel, by decide +kernel⟩, List.mem_of_getElem? (i := 526) (by decide +kernel), List.mem_of_getElem? (i := 659) (by decide +kernel), List.mem_of_getElem? (i := 660) (by decide +kernel)⟩
theorem lw_p20 : lw_okq (⟨"LiveCollectionsModel", "firstOf", "(II)I"⟩, 19) := ⟨⟨by decide +kernel, by decide +kernel⟩, List.mem_of_getElem? (i := 526) (by decide +kernel), List.mem_of_getElem? (i := 663) (by decide +kernel), List.mem_of_getElem? (i := 664) (by decide +kernel)⟩
theorem lw_p21 : lw_okq (⟨"LiveCollectionsModel", "keep", "(III)V"⟩, 19) := ⟨⟨by decide +kernel, by decide +kernel⟩, List.mem_of_getElem? (i := 526) (by decide +kernel), List.mem_of_getElem? (i := 667) (by decide +kernel), List.mem_of_getElem? (i := 668) (by decide +kernel)⟩
theorem lw_p22 : lw_okq (⟨"LiveCollectionsModel", "below", "(II)I"⟩, 19) := ⟨⟨by decide +kernel, by decide +kernel⟩, List.mem_of_getElem? (i := 526) (by decide +kernel), List.mem_of_getElem? (i := 671) (by decide +kernel), List.mem_of_getElem? (i := 672) (by decide +kernel)⟩
theorem lw_p23 : lw_okq (⟨"LiveCollectionsModel", "over", "(IIII)I"⟩, 19) := ⟨⟨by decide +kernel, by decide +kernel⟩, List.mem_of_getElem? (i := 526) (by decide +kernel), List.mem_of_getElem? (i := 679) (by decide +kernel), List.mem_of_getElem? (i := 680) (by decide +kernel)⟩
theorem lw_p24 : lw_okq (⟨"LiveCollectionsModel", "row", "(I)Z"⟩, 19) := ⟨⟨by decide +kernel, by decide +kernel⟩, List.mem_of_getElem? (i := 526) (by decide +kernel), List.mem_of_getElem? (i := 683) (by decide +kernel), List.mem_of_getElem? (i := 684) (by decide +kernel)⟩
theorem lw_p25 : lw_okq (⟨"LiveCollectionsModel", "supported", "(II)Z"⟩, 19) := ⟨⟨by decide +kernel, by decide +kernel⟩, List.mem_of_getElem? (i := 526) (by decide +kernel), List.mem_of_getElem? (i := 723) (by decide +kernel), List.mem_of_getElem? (i := 724) (by decide +kernel)⟩
theorem lw_p26 : lw_okq (⟨"LiveCollectionsModel", "putIn", "(III)I"⟩, 19) := ⟨⟨by decide +kernel, by decide +kernel⟩, List.mem_of_getElem? (i := 526) (by decide +kernel), List.mem_of_getElem? (i := 727) (by decide +kernel), List.mem_of_getElem? (i := 728) (by decide +kernel)⟩
theorem lw_p27 : lw_okq (⟨"LiveCollectionsModel", "full", "(I)Z"⟩, 19) := ⟨⟨by decide +kernel, by decide +kernel⟩, List.mem_of_getElem? (i := 526) (by decide +kernel), List.mem_of_getElem? (i := 731) (by decide +kernel), List.mem_of_getElem? (i := 732) (by decide +kernel)⟩
theorem lw_p28 : lw_okq (⟨"LiveCollectionsModel", "down", "(IIZ)I"⟩, 19) := ⟨⟨by decide +kernel, by decide +kernel⟩, List.mem_of_getElem? (i := 526) (by decide +kernel), List.mem_of_getElem? (i := 735) (by decide +kernel), List.mem_of_getElem? (i := 736) (by decide +kernel)⟩
theorem lw_p29 : lw_okq (⟨"LiveCollectionsModel", "insertInto", "(III)V"⟩, 19) := ⟨⟨by decide +kernel, by decide +kernel⟩, List.mem_of_getElem? (i := 526) (by decide +kernel), List.mem_of_getElem? (i := 739) (by decide +kernel), List.mem_of_getElem? (i := 740) (by decide +kernel)⟩
theorem lw_p30 : lw_okq (⟨"LiveCollectionsModel", "changed", "(I)V"⟩, 19) := ⟨⟨by decide +kernel, by decide +kernel⟩, List.mem_of_getElem? (i := 526) (by decide +kernel), List.mem_of_getElem? (i := 743) (by decide +kernel), List.mem_of_getElem? (i := 744) (by decide +kernel)⟩
theorem lw_p31 : lw_okq (⟨"LiveCollectionsModel", "note", "(II)V"⟩, 19) := ⟨⟨by decide +kernel, by decide +kernel⟩, List.mem_of_getElem? (i := 526) (by decide +kernel), List.mem_of_getElem? (i := 747) (by decide +kernel), List.mem_of_getElem? (i := 748) (by decide +kernel)⟩
def lw_privs_2 : List (MethodName × Nat) := [(⟨"LiveCollectionsModel", "list", "(II)V"⟩, 19), (⟨"LiveCollectionsModel", "push", "(II)V"⟩, 19), (⟨"LiveCollectionsModel", "combined", "(I)V"⟩, 19), (⟨"LiveCollectionsModel", "has", "(II)Z"⟩, 19), (⟨"LiveCollectionsModel", "firstOf", "(II)I"⟩, 19), (⟨"LiveCollectionsModel", "keep", "(III)V"⟩, 19), (⟨"LiveCollectionsModel", "below", "(II)I"⟩, 19), (⟨"LiveCollectionsModel", "over", "(IIII)I"⟩, 19), (⟨"LiveCollectionsModel", "row", "(I)Z"⟩, 19), (⟨"LiveCollectionsModel", "supported", "(II)Z"⟩, 19), (⟨"LiveCollectionsModel", "putIn", "(III)I"⟩, 19), (⟨"LiveCollectionsModel", "full", "(I)Z"⟩, 19), (⟨"LiveCollectionsModel", "down", "(IIZ)I"⟩, 19), (⟨"LiveCollectionsModel", "insertInto", "(III)V"⟩, 19), (⟨"LiveCollectionsModel", "changed", "(I)V"⟩, 19), (⟨"LiveCollectionsModel", "note", "(II)V"⟩, 19)]
theorem lw_r2 : ∀ q ∈ lw_privs_2, lw_okq q := List.forall_mem_cons.mpr ⟨lw_p16, List.forall_mem_cons.mpr ⟨lw_p17, List.forall_mem_cons.mpr ⟨lw_p18, List.forall_mem_cons.mpr ⟨lw_p19, List.forall_mem_cons.mpr ⟨lw_p20, List.forall_mem_cons.mpr ⟨lw_p21, List.forall_mem_cons.mpr ⟨lw_p22, List.forall_mem_cons.mpr ⟨lw_p23, List.forall_mem_cons.mpr ⟨lw_p24, List.forall_mem_cons.mpr ⟨lw_p25, List.forall_mem_cons.mpr ⟨lw_p26, List.forall_mem_cons.mpr ⟨lw_p27, List.forall_mem_cons.mpr ⟨lw_p28, List.forall_mem_cons.mpr ⟨lw_p29, List.forall_mem_cons.mpr ⟨lw_p30, List.forall_mem_cons.mpr ⟨lw_p31, fun _ h => absurd h List.not_mem_nil⟩⟩⟩⟩⟩⟩⟩⟩⟩⟩⟩⟩⟩⟩⟩⟩
theorem lw_p32 : lw_okq (⟨"LiveCollectionsModel", "takeAt", "(II)V"⟩, 19) := ⟨⟨by decide +kernel, by decide +kernel⟩, List.mem_of_getElem? (i := 526) (by decide +kernel), List.mem_of_getElem? (i := 763) (by decide +kernel), List.mem_of_getElem? (i := 764) (by decide +kernel)⟩
theorem lw_p33 : lw_okq (⟨"LiveCollectionsModel", "takeFrom", "(II)V"⟩, 19) := ⟨⟨by decide +kernel, by decide +kernel⟩, List.mem_of_getElem? (i := 526) (by decide +kernel), List.mem_of_getElem? (i := 767) (by decide +kernel), List.mem_of_getElem? (i := 768) (by decide +kernel)⟩
def lw_privs_3 : List (MethodName × Nat) := [(⟨"LiveCollectionsModel", "takeAt", "(II)V"⟩, 19), (⟨"LiveCollectionsModel", "takeFrom", "(II)V"⟩, 19)]
theorem lw_r3 : ∀ q ∈ lw_privs_3, lw_okq q := List.forall_mem_cons.mpr ⟨lw_p32, List.forall_mem_cons.mpr ⟨lw_p33, fun _ h => absurd h List.not_mem_nil⟩⟩
def lw_privs : List (MethodName × Nat) := lw_privs_1 ++ (lw_privs_2 ++ (lw_privs_3))
def lw_tbl : List Cond := k2_sels lw_privs ++ tables_1
theorem lw_privs_ok : ∀ q ∈ lw_privs, lw_okq q := by
  show ∀ q ∈ lw_privs_1 ++ (lw_privs_2 ++ (lw_privs_3)), lw_okq q
  exact List.forall_mem_append.mpr ⟨lw_r1, List.forall_mem_append.mpr ⟨lw_r2, lw_r3⟩⟩
-- ===== end of PART A; then your names; then what follows =====
end
section
/-! ===== BEGIN words of one list among another's, by their places ===== -/
theorem goodIn_r {big : List Cond} (ws : List Cond) (ps : List Nat) (hp : ws = ps.filterMap (fun i => big[i]?)) (h : ws.all goodWord = true) : GoodIn big ws := by
  intro w hw
  have h1 := List.all_eq_true.mp h w hw
  rw [hp] at hw
  obtain ⟨i, -, hi⟩ := List.mem_filterMap.mp hw
  have hm : w ∈ big := by first | exact List.mem_of_getElem? hi | exact List.getElem?_mem hi
  exact ⟨hm, good_of_word h1⟩
theorem goodIn_app {big a b : List Cond} (ha : GoodIn big a) (hb : GoodIn big b) : GoodIn big (a ++ b) := fun w h => (List.mem_append.mp h).elim (ha w) (hb w)
theorem goodIn_ca {big a b : List Cond} {c : Cond} (ha : GoodIn big (c :: a)) (hb : GoodIn big b) : GoodIn big (c :: (a ++ b)) := fun w h => (List.mem_cons.mp h).elim (fun e => ha w (List.mem_cons.mpr (Or.inl e))) (fun h => (List.mem_append.mp h).elim (fun h => ha w (List.mem_cons.mpr (Or.inr h))) (hb w))
theorem goodIn_sub {big ws : List Cond} (hm : ∀ w ∈ ws, w ∈ big) (h : ws.all goodWord = true) : GoodIn big ws := fun w hw => ⟨hm w hw, good_of_word (List.all_eq_true.mp h w hw)⟩
/-! ===== END ===== -/

/-! ===== BEGIN exceptions that leave a method, and their catching by the caller (launches without stack traces) ===== -/
section VXA
/-! The laws vx_back, vx_callV, vx_callS, vx_callSW, vx_throw0, vx_throwS follow proofs of the library, with one case more: JvmDerived/Free/Laws.lean (Back.of_free), Shelf42/LK1.lean (callV, callS), Shelf/KitTraced.lean (throwNew0V, throwNewS). -/
/-- where a method has thrown q: the class by its name, the cell, what was written, the world -/
def vx_T (XC : String → State → State → Prop) (st : State) (q : Addr) (t : State) (mc ms : Nat) (free : Addr → Prop) : Prop :=
  ∃ (E : String) (ce : Cell) (L : List Loc), XC E st t ∧ t.heap[q]? = some ce ∧ ce.vm = .none ∧ st.vm.findClass E = some ce.cls ∧ st.WarmedH t.vm ∧ st.sameButNew ({ t with vm := st.vm } : State) L mc ms ∧ ∀ z ∈ L, free z.base
def vx_Q (Qc : Array Value → State → Outcome → State → Prop) (XC : String → State → State → Prop) (mc ms : Nat) (free : Addr → Prop) : Array Value → State → Outcome → State → Prop := fun a st o t =>
  (Qc a st o t ∧ ∃ L, FrameEnd st o t L mc ms ∧ ∀ q ∈ L, free q.base) ∨ ∃ q, o = .threw q ∧ vx_T XC st q t mc ms free
/-- a callee that returns or throws -/
def vx_Met (l : Launch) (y : MethodName) (ws : List Cond) (rm : Room) (Pc : Array Value → State → Prop) (Qc : Array Value → State → Outcome → State → Prop) (XC : String → State → State → Prop) (mc ms : Nat) (free : Addr → Prop) : Prop :=
  MetFree l y (headSpec ws rm) Pc (fun _ _ _ _ _ => True) (vx_Q Qc XC mc ms free)
def vx_Post (XC : String → State → State → Prop) (mc ms : Nat) (free : Addr → Prop) : Pt → Array Value → Addr → Pt → Prop := fun A a q B =>
  ∃ (g : JFrame) (mk : MethodId) (t : State) (L : List Loc) (E : String) (ce : Cell), B.U.heap = t.heap ∧ B.U.vm = t.vm ∧ XC E (A.U.calling g mk a) t ∧ t.heap[q]? = some ce ∧ ce.vm = .none ∧ A.U.vm.findClass E = some ce.cls ∧ B.locs = A.locs ++ L ∧ (∀ z ∈ L, free z.base) ∧ B.cells = A.cells + mc ∧ B.slots = A.slots + ms
def vx_Back (l : Launch) (R : Room) (p : Program) (e : Env) (below : List Frame) (s : State) (sargs : Array Value) (y : MethodName) (len W9 : Nat)
    (Pre : Pt → Array Value → Prop) (Post : Pt → Array Value → Option Value → Pt → Prop) (PostX : Pt → Array Value → Addr → Pt → Prop) : Prop :=
  ∀ (m : MethodId) (meth : Method) (c : Code) (A : Pt) (g : JFrame) (ig : Instr) (mk : MethodId) (a : Array Value),
    Stand p l e R s m sargs below meth c A.U A.locs A.cells A.slots → g.method = m → g.locals.size = c.maxLocals → decode c.code g.pc = .ok (ig, len) →
    2 * g.monitorRoom + (g.stack.map fun v => v.category).sum ≤ W9 → A.U.methodNamed? y = some mk → Pre A a →
    (∃ (v : Option Value) (B : Pt), Stand p l e R s m sargs below meth c B.U B.locs B.cells B.slots ∧ Post A a v B ∧
      Steps p.tables e below (doInvoke e (A.U.setTop g) [] mk a).1 (B.U.setTop { g with pc := g.pc + len, stack := v.toList ++ g.stack })) ∨
    (∃ (q : Addr) (B : Pt), Stand p l e R s m sargs below meth c B.U B.locs B.cells B.slots ∧ PostX A a q B ∧
      Steps p.tables e below (doInvoke e (A.U.setTop g) [] mk a).1 ((B.U.setTop g).pushFrame (.throwing q)))
section Payer
variable {l : Launch} {R : Room} {p : Program} {e : Env} {below : List Frame} {s : State} {sargs : Array Value} {y : MethodName} {len W9 : Nat}
theorem vx_back {ws : List Cond} {rm : Room} {Pc : Array Value → State → Prop} {Qc : Array Value → State → Outcome → State → Prop} {XC : String → State → State → Prop} {mc ms : Nat} {free : Addr → Prop} {bytes : ByteArray} {maxL : Nat} {ret : Option FieldType}
    (hM : vx_Met l y ws rm Pc Qc XC mc ms free) (hblind : FrameBlind Pc) (hrc : rm.cells = mc) (hrs : rm.slots = ms)
    (hframes : rm.frames + 1 ≤ R.frames) (hlocals : W9 + (maxL + 11) + rm.locals ≤ R.locals)
    (hws : ∀ w ∈ ws, ∀ a' U, s.WarmedH U.vm → w.before a' U = true) (hcode : Cond.code y bytes maxL ret ∈ ws) (hinit : ∀ a' U, s.WarmedH U.vm → (Cond.initialized y.cls).before a' U = true) :
    vx_Back l R p e below s sargs y len W9 (PreOf R mc ms Pc) (PostOf Qc mc ms free) (vx_Post XC mc ms free) := by
  intro m meth c A g ig mk a X hg hsize hdg hW hn hp
  have h1 : (headSpec ws rm).pre.before a A.U = true := atoms_intro fun w hw => hws w hw _ _ X.warmed
  have h2 : (Cond.code y bytes maxL ret).before a A.U = true := hws _ hcode _ _ X.warmed
  have h3 : (Cond.initialized y.cls).before a A.U = true := hinit _ _ X.warmed
  have h4 : A.cells + (headSpec ws rm).room.cells ≤ R.cells := by rw [show (headSpec ws rm).room.cells = mc from hrc]; exact hp.1
  have h5 : A.slots + (headSpec ws rm).room.slots ≤ R.slots := by rw [show (headSpec ws rm).room.slots = ms from hrs]; exact hp.2.1
  have hPc : Pc a (A.U.calling g mk a) := hblind _ _ _ _ hp.2.2
  obtain ⟨U, Ls, c0, s0⟩ := A
  dsimp only [Pt.U, Pt.locs, Pt.cells, Pt.slots] at h1 h2 h3 h4 h5 X hn hPc ⊢
  obtain ⟨methY, cY, hmY, hcY, -, hlY, -, -, -, -⟩ := Cond.code_spec hn h2
  obtain ⟨kY, hkY, -⟩ := className_of_methodNamed hn
  have hinitY : kY.init = .initialized := Cond.initialized_spec (findClass_of_methodNamed hn) hkY h3
  have h : At U g.method c below := by rw [hg]; exact X.here
  have hlocals9 : W9 + (maxL + 11) + (headSpec ws rm).room.locals ≤ R.locals := hlocals
  have happ : (headSpec ws rm).appliesLoose y e.platform (U.calling g mk a) = true :=
    Spec.appliesLoose_calling (g := g) h hdg hn hkY hinitY
      (X.room_calling (g := g) (R' := (headSpec ws rm).room) hsize hmY hcY hframes (by rw [hlY]; omega) h4 h5) h1
  obtain ⟨mid, hmid⟩ := h.above
  have hfr : (U.setTop g).frames = (.java g :: mid) ++ below := by rw [State.frames_setTop' g h.top, hmid]; rfl
  obtain ⟨o, s₂, hsteps, -, hend, hq⟩ := Steps.callFree hM p X.admits X.cas X.clock (acts := []) hfr happ hPc trivial
  have hq' : vx_Q Qc XC mc ms free a (U.calling g mk a) o s₂ := hq
  rw [State.frames_setTop' g h.top] at hend
  obtain ⟨g₀, hg0⟩ := Option.isSome_iff_exists.mp h.top
  obtain ⟨r, hr⟩ := State.topJava?_eq_some.mp hg0
  have hr' : (({ U with heap := s₂.heap, slotsUsed := s₂.slotsUsed } : State).setVm s₂.vm).frames = .java g₀ :: r := hr
  rcases hq' with ⟨hqc, L, hfe, hL⟩ | ⟨q, rfl, E, ce, L, hx, hce, hcv, hcl, hW₂, hsm, hL⟩
  · obtain ⟨⟨v, rfl⟩, hW₂, e2, q2, q3, q4, q5, q6⟩ := id hfe
    have e3 : s₂ = ({ (U.calling g mk a).setFrames s₂.frames with heap := s₂.heap, slotsUsed := s₂.slotsUsed } : State).setVm s₂.vm := by
      have : s₂ = ({ s₂ with vm := (U.calling g mk a).vm } : State).setVm s₂.vm := rfl
      rw [e2] at this
      exact this
    obtain ⟨c₂, i₂, len₂, hc₂, hd₂, hf₂⟩ := hend
    have hW' : U.WarmedH s₂.vm := hW₂
    have hcc : c₂ = c := by
      have h1 : s₂.code? g.method = U.code? g.method := by
        rw [State.code?_eq, State.code?_eq, hW'.alike.method?]
      exact Option.some.inj (hc₂.symm.trans (h1.trans h.code))
    subst hcc
    have hlen : len₂ = len := by rw [hdg] at hd₂; cases hd₂; rfl
    subst hlen
    have hs₂ : s₂ = (({ U with heap := s₂.heap, slotsUsed := s₂.slotsUsed } : State).setVm s₂.vm).setTop { g with pc := g.pc + len₂, stack := v.toList ++ g.stack } := by
      refine e3.trans ?_
      rw [hf₂, State.calling_eq h.top, State.setFrames_setFrames, State.setTop_of_frames _ hr', hr]
      rfl
    have hsame : U.sameButNew ({ U with heap := s₂.heap, slotsUsed := s₂.slotsUsed } : State) L mc ms := by
      refine ⟨?_, q2, q3, q4, q5, q6⟩
      obtain ⟨t, ht, -⟩ := State.frames_cons hr
      show ({ U with heap := s₂.heap, slotsUsed := s₂.slotsUsed } : State) = { U.setFrames U.frames with heap := s₂.heap, slotsUsed := s₂.slotsUsed }
      rw [State.setFrames_self ht]
    subst hg
    refine Or.inl ⟨v, ⟨(({ U with heap := s₂.heap, slotsUsed := s₂.slotsUsed } : State).setVm s₂.vm), Ls ++ L, c0 + mc, s0 + ms⟩,
      ⟨X.admits, X.cas, X.clock, X.frames, X.room, X.hears, X.method, X.code, (X.here.setHeapUsed s₂.heap s₂.slotsUsed).setVm hW'.alike, X.tail, State.WarmedH.trans X.warmed hW', X.limits, X.bytes, X.same.trans (hsame.setVm s.vm)⟩,
      ⟨g, mk, s₂, L, rfl, rfl, hqc, rfl, hL, rfl, rfl⟩, ?_⟩
    show Steps p.tables e below _ ((({ U with heap := s₂.heap, slotsUsed := s₂.slotsUsed } : State).setVm s₂.vm).setTop { g with pc := g.pc + len₂, stack := v.toList ++ g.stack })
    rw [← hs₂]
    exact hsteps
  · obtain ⟨e2, q2, q3, q4, q5, q6⟩ := id hsm
    have e3 : s₂ = ({ (U.calling g mk a).setFrames s₂.frames with heap := s₂.heap, slotsUsed := s₂.slotsUsed } : State).setVm s₂.vm := by
      have : s₂ = ({ s₂ with vm := (U.calling g mk a).vm } : State).setVm s₂.vm := rfl
      rw [e2] at this
      exact this
    have hf₂ : s₂.frames = .throwing q :: .java g :: U.frames.tail := hend
    have hW' : U.WarmedH s₂.vm := hW₂
    have hs₂ : s₂ = ((({ U with heap := s₂.heap, slotsUsed := s₂.slotsUsed } : State).setVm s₂.vm).setTop g).pushFrame (.throwing q) := by
      refine e3.trans ?_
      rw [hf₂, State.calling_eq h.top, State.setFrames_setFrames, State.pushFrame, State.frames_setTop _ hr', State.setTop_of_frames _ hr', State.setFrames_setFrames, hr]
      rfl
    have hsame : U.sameButNew ({ U with heap := s₂.heap, slotsUsed := s₂.slotsUsed } : State) L mc ms := by
      refine ⟨?_, q2, q3, q4, q5, q6⟩
      obtain ⟨t, ht, -⟩ := State.frames_cons hr
      show ({ U with heap := s₂.heap, slotsUsed := s₂.slotsUsed } : State) = { U.setFrames U.frames with heap := s₂.heap, slotsUsed := s₂.slotsUsed }
      rw [State.setFrames_self ht]
    subst hg
    refine Or.inr ⟨q, ⟨(({ U with heap := s₂.heap, slotsUsed := s₂.slotsUsed } : State).setVm s₂.vm), Ls ++ L, c0 + mc, s0 + ms⟩,
      ⟨X.admits, X.cas, X.clock, X.frames, X.room, X.hears, X.method, X.code, (X.here.setHeapUsed s₂.heap s₂.slotsUsed).setVm hW'.alike, X.tail, State.WarmedH.trans X.warmed hW', X.limits, X.bytes, X.same.trans (hsame.setVm s.vm)⟩,
      ⟨g, mk, s₂, L, E, ce, rfl, rfl, hx, hce, hcv, hcl, rfl, hL, rfl, rfl⟩, ?_⟩
    show Steps p.tables e below _ (((({ U with heap := s₂.heap, slotsUsed := s₂.slotsUsed } : State).setVm s₂.vm).setTop g).pushFrame (.throwing q))
    rw [← hs₂]
    exact hsteps
end Payer
section Calls
variable {p : Program} {l : Launch} {e : Env} {R : Room} {s : State} {m : MethodId} {args : Array Value} {below : List Frame} {meth : Method} {c : Code} {T : State} {locs : List Loc} {cells slots : Nat}
theorem vx_callV (X : Stand p l e R s m args below meth c T locs cells slots) (hexec : p.tables.exec = Jvm.exec) {own C : String} {index : Nat} {y : MethodName} {bytes : ByteArray} {maxL : Nat} {ret : Option FieldType}
    (hown : s.vm.findClass own = some m.cls) (hlink : (Cond.methodLink own index y).before args s = true) (hinst : (Cond.instanceMethod y).before args s = true) (hsel : (Cond.selects C y y).before args s = true)
    (hcode : (Cond.code y bytes maxL ret).before args s = true) (hy : y.cls ≠ "java/lang/invoke/MethodHandle" ∧ y.cls ≠ "java/lang/invoke/VarHandle")
    {W9 : Nat} {Pre : Pt → Array Value → Prop} {Post : Pt → Array Value → Option Value → Pt → Prop} {PostX : Pt → Array Value → Addr → Pt → Prop} (hK : vx_Back l R p e below s args y 3 W9 Pre Post PostX)
    {b : Addr} {cellB : Cell} (hcell : T.heap[b]? = some cellB) (hobj : cellB.vm.isStatics = false) (hcls : s.vm.findClass C = some cellB.cls)
    {g : JFrame} (hg : g.method = m) (hsize : g.locals.size = c.maxLocals) {argsL rest : List Value} (hlen : ∀ sig, parseMethodDescriptor y.desc = some sig → argsL.length = sig.parameters.length)
    (hstack : g.stack = argsL.reverse ++ .ref b :: rest) (hW : 2 * g.monitorRoom + (rest.map fun v => v.category).sum ≤ W9) (hdg : decode c.code g.pc = .ok (.invokevirtual index, 3))
    (hpre : ∀ vm₁, s.WarmedH vm₁ → Pre ⟨T.setVm vm₁, locs, cells, slots⟩ (Value.ref b :: argsL).toArray) :
    (∃ (v : Option Value) (vm₁ : Vm) (B : Pt), s.WarmedH vm₁ ∧ Stand p l e R s m args below meth c B.U B.locs B.cells B.slots ∧ Post ⟨T.setVm vm₁, locs, cells, slots⟩ (Value.ref b :: argsL).toArray v B ∧
      ∀ target, Steps p.tables e below (B.U.setTop { g with pc := g.pc + 3, stack := v.toList ++ rest }) target → Steps p.tables e below (T.setTop g) target) ∨
    (∃ (q : Addr) (vm₁ : Vm) (B : Pt), s.WarmedH vm₁ ∧ Stand p l e R s m args below meth c B.U B.locs B.cells B.slots ∧ PostX ⟨T.setVm vm₁, locs, cells, slots⟩ (Value.ref b :: argsL).toArray q B ∧
      Steps p.tables e below (T.setTop g) ((B.U.setTop { g with stack := rest }).pushFrame (.throwing q))) := by
  obtain ⟨mk, methM, hnamed, hmethM, hstM, habM⟩ := Cond.instanceMethod_spec hinst
  obtain ⟨methM', cM, hmethM', -, -, -, -, -, -, hsigM⟩ := Cond.code_spec hnamed hcode
  cases hmethM.symm.trans hmethM'
  obtain ⟨c2, r2, m2, q1, q2, q3, q4, kP, hkP, hkPi⟩ := Cond.selects_spec hsel
  cases hcls.symm.trans q1
  cases (State.methodFound?_of_named hnamed hy).symm.trans q2
  cases hnamed.symm.trans q3
  have hselP : selectMethod e.platform s.vm cellB.cls mk = .method mk := by rw [Launch.admits_selectMethod X.admits]; exact q4
  obtain ⟨vm₁, X₁, hstep₁⟩ := X.invokevirtual hexec hown hlink hnamed hmethM hstM hkP hkPi hy (a := b) (cell := cellB) hcell
    (fun z h => by rw [h] at hobj; cases hobj) hselP hmethM habM hkP hkPi (g := g) hg (argsL := argsL) (rest := rest) (hlen _ hsigM) hstack hdg
  rcases hK m meth c ⟨T.setVm vm₁, locs, cells, slots⟩ { g with stack := rest } (.invokevirtual index) mk (Value.ref b :: argsL).toArray X₁ hg hsize hdg hW (X₁.named hnamed) (hpre vm₁ X₁.warmed) with ⟨v, B, X', hpost, hsteps⟩ | ⟨q, B, X', hpost, hsteps⟩
  · exact Or.inl ⟨v, vm₁, B, X₁.warmed, X', hpost, fun target h => hstep₁ _ fun acts => by rw [doInvoke_state]; exact hsteps.trans h⟩
  · exact Or.inr ⟨q, vm₁, B, X₁.warmed, X', hpost, hstep₁ _ fun acts => by rw [doInvoke_state]; exact hsteps⟩
theorem vx_callS (X : Stand p l e R s m args below meth c T locs cells slots) (hexec : p.tables.exec = Jvm.exec) {own : String} {index : Nat} {y : MethodName} {bytes : ByteArray} {maxL : Nat} {ret : Option FieldType}
    (hown : s.vm.findClass own = some m.cls) (hlink : (Cond.methodLink own index y).before args s = true) (hstat : (Cond.static y).before args s = true) (hinit : (Cond.initialized y.cls).before args s = true)
    (hcode : (Cond.code y bytes maxL ret).before args s = true) (hy : y.cls ≠ "java/lang/invoke/MethodHandle" ∧ y.cls ≠ "java/lang/invoke/VarHandle")
    {W9 : Nat} {Pre : Pt → Array Value → Prop} {Post : Pt → Array Value → Option Value → Pt → Prop} {PostX : Pt → Array Value → Addr → Pt → Prop} (hK : vx_Back l R p e below s args y 3 W9 Pre Post PostX)
    {g : JFrame} (hg : g.method = m) (hsize : g.locals.size = c.maxLocals) {argsL rest : List Value} (hlen : ∀ sig, parseMethodDescriptor y.desc = some sig → argsL.length = sig.parameters.length)
    (hstack : g.stack = argsL.reverse ++ rest) (hW : 2 * g.monitorRoom + (rest.map fun v => v.category).sum ≤ W9) (hdg : decode c.code g.pc = .ok (.invokestatic index, 3))
    (hpre : ∀ vm₁, s.WarmedH vm₁ → Pre ⟨T.setVm vm₁, locs, cells, slots⟩ argsL.toArray) :
    (∃ (v : Option Value) (vm₁ : Vm) (B : Pt), s.WarmedH vm₁ ∧ Stand p l e R s m args below meth c B.U B.locs B.cells B.slots ∧ Post ⟨T.setVm vm₁, locs, cells, slots⟩ argsL.toArray v B ∧
      ∀ target, Steps p.tables e below (B.U.setTop { g with pc := g.pc + 3, stack := v.toList ++ rest }) target → Steps p.tables e below (T.setTop g) target) ∨
    (∃ (q : Addr) (vm₁ : Vm) (B : Pt), s.WarmedH vm₁ ∧ Stand p l e R s m args below meth c B.U B.locs B.cells B.slots ∧ PostX ⟨T.setVm vm₁, locs, cells, slots⟩ argsL.toArray q B ∧
      Steps p.tables e below (T.setTop g) ((B.U.setTop { g with stack := rest }).pushFrame (.throwing q))) := by
  obtain ⟨mk, hnamed⟩ := Cond.code_named hcode
  obtain ⟨methM, cM, hmethM, -, -, -, -, -, -, hsigM⟩ := Cond.code_spec hnamed hcode
  have hstatic : methM.isStatic = true := Cond.static_spec hnamed hmethM hstat
  obtain ⟨kP, hkP, -⟩ := className_of_methodNamed hnamed
  have hinitP : kP.init = .initialized := Cond.initialized_spec (findClass_of_methodNamed hnamed) hkP hinit
  obtain ⟨vm₁, X₁, hstep₁⟩ := X.invokestatic hexec hown hlink hnamed hmethM hstatic hkP hinitP hy (g := g) hg (argsL := argsL) (rest := rest) (hlen _ hsigM) hstack hdg
  rcases hK m meth c ⟨T.setVm vm₁, locs, cells, slots⟩ { g with stack := rest } (.invokestatic index) mk argsL.toArray X₁ hg hsize hdg hW (X₁.named hnamed) (hpre vm₁ X₁.warmed) with ⟨v, B, X', hpost, hsteps⟩ | ⟨q, B, X', hpost, hsteps⟩
  · exact Or.inl ⟨v, vm₁, B, X₁.warmed, X', hpost, fun target h => hstep₁ _ fun acts => by rw [doInvoke_state]; exact hsteps.trans h⟩
  · exact Or.inr ⟨q, vm₁, B, X₁.warmed, X', hpost, hstep₁ _ fun acts => by rw [doInvoke_state]; exact hsteps⟩
end Calls
theorem vx_cls {s : State} {T : State} {vm₁ : Vm} {E : String} {k : ClassId} (hW : s.WarmedH vm₁) (h : (T.setVm vm₁).vm.findClass E = some k) : s.vm.findClass E = some k := by
  have h1 : vm₁.findClass E = some k := h
  rw [hW.alike.findClass] at h1
  exact h1
/-- the method's frame g, with q thrown over it -/
def vx_W (p : Program) (l : Launch) (e : Env) (R : Room) (s : State) (m : MethodId) (args : Array Value) (below : List Frame) (meth : Method) (c : Code) (H : Heap) (locs : List Loc) (cells slots : Nat) (Q : State → Prop) (g : JFrame) (q : Addr) : Prop :=
  ∀ T : State, T.heap = H → Stand p l e R s m args below meth c T locs cells slots → ∃ t, Steps p.tables e below ((T.setTop g).pushFrame (.throwing q)) t ∧ Q t
def vx_Run (p : Program) (l : Launch) (e : Env) (R : Room) (s : State) (m : MethodId) (args : Array Value) (below : List Frame) (meth : Method) (c : Code) (H : Heap) (locs : List Loc) (cells slots mc ms : Nat) (g : JFrame) (rest : List Value) (Qa : State → Outcome → State → Prop) (XC : String → State → State → Prop) (free : Addr → Prop) : Prop :=
  ∀ T : State, T.heap = H → Stand p l e R s m args below meth c T locs cells slots →
    (∃ (v : Option Value) (st₀ t T' : State) (L : List Loc), st₀.heap = H ∧ Stand p l e R s m args below meth c T' (locs ++ L) (cells + mc) (slots + ms) ∧ (∀ q ∈ L, free q.base) ∧ T'.heap = t.heap ∧ T'.vm = t.vm ∧ Qa st₀ (.returned v) t ∧
      Goes p e below T g T' { g with pc := g.pc + 3, stack := v.toList ++ rest }) ∨
    (∃ (q : Addr) (st₀ t T' : State) (L : List Loc) (E : String) (ce : Cell), st₀.heap = H ∧ Stand p l e R s m args below meth c T' (locs ++ L) (cells + mc) (slots + ms) ∧ (∀ z ∈ L, free z.base) ∧ T'.heap = t.heap ∧ T'.vm = t.vm ∧ XC E st₀ t ∧ t.heap[q]? = some ce ∧ ce.vm = .none ∧ s.vm.findClass E = some ce.cls ∧
      Steps p.tables e below (T.setTop g) ((T'.setTop { g with stack := rest }).pushFrame (.throwing q)))
def vx_X {S : Type} (px : S → Prop) (B : String → S → State → Prop) (A : Nat → Prop) : String → State → State → Prop := fun E st t => ∃ u : S, px u ∧ B E u t ∧ va_F A st t
section Runs
variable {p : Program} {l : Launch} {e : Env} {R : Room} {s : State} {m : MethodId} {args : Array Value} {below : List Frame} {meth : Method} {c : Code} {H : Heap} {locs : List Loc} {cells slots : Nat}
variable {y : MethodName} {bytes cc : ByteArray} {maxL nL mc ms n index : Nat} {ret : Option FieldType} {ws : List Cond} {rm : Room} {Pc : Array Value → State → Prop} {Qc : Array Value → State → Outcome → State → Prop} {XC : String → State → State → Prop} {free : Addr → Prop} {Ts : List Cond} {own C : String} {b : Addr} {As rest : List Value} {g : JFrame}
theorem vx_callBack (cb : CallB R s args own index y bytes maxL ret ws rm mc ms n) (hM : vx_Met l y ws rm Pc Qc XC mc ms free) (hbl : FrameBlind Pc) : vx_Back l R p e below s args y 3 8 (PreOf R mc ms Pc) (PostOf Qc mc ms free) (vx_Post XC mc ms free) := by
  obtain ⟨hrc, hrs, hfr, hlo, hws, hcw, -, hini, -⟩ := cb
  exact vx_back (bytes := bytes) (maxL := maxL) (ret := ret) hM hbl hrc hrs hfr hlo hws hcw (fun a' U hW => word_at hW (Or.inl (by first | rfl | simp [Cond.onTables, Cond.keeps, Cond.steady])) hini)
theorem vx_runV (S : CallFix p m c cc nL s args Ts own) (hM : vx_Met l y ws rm Pc Qc XC mc ms free) (cw : CallW R s args own C index y bytes maxL ret ws rm mc ms n) (hp : PreV s H C b Pc As)
    (hg : g.method = m) (hn : As.length = n) (hsize : g.locals.size = nL) (hstack : g.stack = As.reverse ++ .ref b :: rest) (hW : 2 * g.monitorRoom + (rest.map fun v => v.category).sum ≤ 8) (hdg : decode cc g.pc = .ok (.invokevirtual index, 3)) (hf : cells + mc ≤ R.cells ∧ slots + ms ≤ R.slots) :
    vx_Run p l e R s m args below meth c H locs cells slots mc ms g rest (Qc (Value.ref b :: As).toArray) XC free := by
  have hK : vx_Back l R p e below s args y 3 8 (PreOf R mc ms Pc) (PostOf Qc mc ms free) (vx_Post XC mc ms free) := vx_callBack cw.1 hM hp.1
  obtain ⟨⟨-, -, -, -, -, -, hcode, -, hy, hlen, hl⟩, hin, hse⟩ := cw
  obtain ⟨hx, hb, hml, ho, -⟩ := S
  obtain ⟨-, ⟨cellB, hcB, hoB, hclB⟩, hPc⟩ := hp
  intro T hT X
  rcases vx_callV X hx (C := C) (bytes := bytes) (maxL := maxL) (ret := ret) ho hl hin hse hcode hy hK (by rw [hT]; exact hcB) hoB hclB hg (hsize.trans hml.symm) (argsL := As) (rest := rest) (fun sig h => hn.trans (hlen sig h)) hstack hW (by rw [hb]; exact hdg)
    (fun vm₁ hW₁ => ⟨hf.1, hf.2, hPc (T.setVm vm₁) hT hW₁⟩) with ⟨v, vm₁, ⟨U', l2, c2, s2⟩, hW₁, X', ⟨g', mk, t, L, e1, e2, hq, h1, hL, h2, h3⟩, st⟩ | ⟨q, vm₁, ⟨U', l2, c2, s2⟩, hW₁, X', ⟨g', mk, t, L, E, ce, e1, e2, hq, hce, hcv, hcl, h1, hL, h2, h3⟩, st⟩
  · dsimp only [Pt.U, Pt.locs, Pt.cells, Pt.slots] at X' e1 e2 h1 h2 h3 st
    subst h1; subst h2; subst h3
    exact Or.inl ⟨v, (T.setVm vm₁).calling g' mk (Value.ref b :: As).toArray, t, U', L, hT, X', hL, e1, e2, hq, st⟩
  · dsimp only [Pt.U, Pt.locs, Pt.cells, Pt.slots] at X' e1 e2 h1 h2 h3 st hcl
    subst h1; subst h2; subst h3
    exact Or.inr ⟨q, (T.setVm vm₁).calling g' mk (Value.ref b :: As).toArray, t, U', L, E, ce, hT, X', hL, e1, e2, hq, hce, hcv, vx_cls hW₁ hcl, st⟩
theorem vx_runS (S : CallFix p m c cc nL s args Ts own) (hM : vx_Met l y ws rm Pc Qc XC mc ms free) (cw : CallB R s args own index y bytes maxL ret ws rm mc ms n ∧ (Cond.static y).before args s = true) (hp : PreS s H Pc As)
    (hg : g.method = m) (hn : As.length = n) (hsize : g.locals.size = nL) (hstack : g.stack = As.reverse ++ rest) (hW : 2 * g.monitorRoom + (rest.map fun v => v.category).sum ≤ 8) (hdg : decode cc g.pc = .ok (.invokestatic index, 3)) (hf : cells + mc ≤ R.cells ∧ slots + ms ≤ R.slots) :
    vx_Run p l e R s m args below meth c H locs cells slots mc ms g rest (Qc As.toArray) XC free := by
  have hK : vx_Back l R p e below s args y 3 8 (PreOf R mc ms Pc) (PostOf Qc mc ms free) (vx_Post XC mc ms free) := vx_callBack cw.1 hM hp.1
  obtain ⟨⟨-, -, -, -, -, -, hcode, hini, hy, hlen, hl⟩, hstt⟩ := cw
  obtain ⟨hx, hb, hml, ho, -⟩ := S
  intro T hT X
  rcases vx_callS X hx (bytes := bytes) (maxL := maxL) (ret := ret) ho hl hstt hini hcode hy hK hg (hsize.trans hml.symm) (argsL := As) (rest := rest) (fun sig h => hn.trans (hlen sig h)) hstack hW (by rw [hb]; exact hdg)
    (fun vm₁ hW₁ => ⟨hf.1, hf.2, hp.2 (T.setVm vm₁) hT hW₁⟩) with ⟨v, vm₁, ⟨U', l2, c2, s2⟩, hW₁, X', ⟨g', mk, t, L, e1, e2, hq, h1, hL, h2, h3⟩, st⟩ | ⟨q, vm₁, ⟨U', l2, c2, s2⟩, hW₁, X', ⟨g', mk, t, L, E, ce, e1, e2, hq, hce, hcv, hcl, h1, hL, h2, h3⟩, st⟩
  · dsimp only [Pt.U, Pt.locs, Pt.cells, Pt.slots] at X' e1 e2 h1 h2 h3 st
    subst h1; subst h2; subst h3
    exact Or.inl ⟨v, (T.setVm vm₁).calling g' mk As.toArray, t, U', L, hT, X', hL, e1, e2, hq, st⟩
  · dsimp only [Pt.U, Pt.locs, Pt.cells, Pt.slots] at X' e1 e2 h1 h2 h3 st hcl
    subst h1; subst h2; subst h3
    exact Or.inr ⟨q, (T.setVm vm₁).calling g' mk As.toArray, t, U', L, E, ce, hT, X', hL, e1, e2, hq, hce, hcv, vx_cls hW₁ hcl, st⟩
end Runs
section Rows
variable {p : Program} {l : Launch} {e : Env} {R : Room} {s : State} {m : MethodId} {args : Array Value} {below : List Frame} {meth : Method} {c : Code} {H : Heap} {locs : List Loc} {cells slots : Nat} {Q : State → Prop}
variable {mc ms : Nat} {free : Addr → Prop} {A0 A1 : Nat → Prop} {H0 : Heap} {a : Array Value} {pc : Nat} {ls : Array Slot} {st0 rest : List Value}
theorem vx_keep {st₀ t T' : State} {L : List Loc} (h0 : st₀.heap = H) (e1 : T'.heap = t.heap) (hS : va_S A0 H0 H locs) (hA : ∀ q, q < H.size → A1 q → A0 q) (hf : ∀ q, free q → A0 q) (hL : ∀ q ∈ L, free q.base) (hF : va_F A1 st₀ t) :
    H.size ≤ T'.heap.size ∧ (∀ q : Nat, q < H.size → ¬ A1 q → T'.heap[q]? = H[q]?) ∧ va_S A0 H0 T'.heap (locs ++ L) := by
  obtain ⟨hz, hk⟩ := hF
  rw [h0] at hz hk
  exact ⟨by rw [e1]; exact hz, fun q h1 h2 => by rw [e1]; exact hk q h1 h2,
    ⟨Nat.le_trans hS.1 (by rw [e1]; exact hz), fun q h1 h2 => by rw [e1, hk q (Nat.lt_of_lt_of_le h1 hS.1) (fun z => h2 (hA q (Nat.lt_of_lt_of_le h1 hS.1) z))]; exact hS.2.1 q h1 h2, fun q hq => by
      rcases List.mem_append.mp hq with h | h
      · exact hS.2.2 q h
      · exact hf _ (hL q h)⟩⟩
theorem vx_calli {S SX : Type} {post : Int32 → S → Prop} {px : SX → Prop} {B : S → State → Prop} {BX : String → SX → State → Prop} {AX : Nat → Prop} (hr : vx_Run p l e R s m args below meth c H locs cells slots mc ms (F0 m pc ls st0) rest (va_Qi post B A1 a) (vx_X px BX AX) free) (hS : va_S A0 H0 H locs) (hA : ∀ q, q < H.size → A1 q → A0 q) (hf : ∀ q, free q → A0 q) (hAX : ∀ q, q < H.size → AX q → A0 q)
    (kx : ∀ (E : String) (ce : Cell) (q9 : Addr) (u : SX) (t : State) (H1 : Heap) (locs1 : List Loc), t.heap = H1 → s.vm.Alike t.vm → px u → BX E u t → H.size ≤ H1.size → (∀ q : Nat, q < H.size → ¬ AX q → H1[q]? = H[q]?) → va_S A0 H0 H1 locs1 → H1[q9]? = some ce → ce.vm = .none → s.vm.findClass E = some ce.cls → vx_W p l e R s m args below meth c H1 locs1 (cells + mc) (slots + ms) Q (F0 m pc ls rest) q9)
    (kk : ∀ (r : Int32) (u : S) (t : State) (H1 : Heap) (locs1 : List Loc), t.heap = H1 → s.vm.Alike t.vm → post r u → B u t → H.size ≤ H1.size → (∀ q : Nat, q < H.size → ¬ A1 q → H1[q]? = H[q]?) → va_S A0 H0 H1 locs1 → W p l e R s m args below meth c H1 locs1 (cells + mc) (slots + ms) Q (F0 m (pc + 3) ls (.int r :: rest))) : W p l e R s m args below meth c H locs cells slots Q (F0 m pc ls st0) := by
  intro T hT X
  rcases hr T hT X with ⟨v, st₀, t, T', L, h0, X', hL, e1, e2, ⟨⟨r, u, hv, hp, hb⟩, hF⟩, st⟩ | ⟨q, st₀, t, T', L, E, ce, h0, X', hL, e1, e2, ⟨u, hp, hb, hF⟩, hce, hcv, hcl, st⟩
  · cases hv
    obtain ⟨k1, k2, k3⟩ := vx_keep h0 e1 hS hA hf hL hF
    obtain ⟨t2, a1, b1⟩ := kk r u t T'.heap (locs ++ L) e1.symm (by rw [← e2]; exact X'.warmed.alike) hp hb k1 k2 k3 T' rfl X'
    exact ⟨t2, st t2 a1, b1⟩
  · obtain ⟨k1, k2, k3⟩ := vx_keep h0 e1 hS hAX hf hL hF
    obtain ⟨t2, a1, b1⟩ := kx E ce q u t T'.heap (locs ++ L) e1.symm (by rw [← e2]; exact X'.warmed.alike) hp hb k1 k2 k3 (by rw [e1]; exact hce) hcv hcl T' rfl X'
    exact ⟨t2, st.trans a1, b1⟩
theorem vx_calll {S SX : Type} {post : Int64 → S → Prop} {px : SX → Prop} {B : S → State → Prop} {BX : String → SX → State → Prop} {AX : Nat → Prop} (hr : vx_Run p l e R s m args below meth c H locs cells slots mc ms (F0 m pc ls st0) rest (va_Ql post B A1 a) (vx_X px BX AX) free) (hS : va_S A0 H0 H locs) (hA : ∀ q, q < H.size → A1 q → A0 q) (hf : ∀ q, free q → A0 q) (hAX : ∀ q, q < H.size → AX q → A0 q)
    (kx : ∀ (E : String) (ce : Cell) (q9 : Addr) (u : SX) (t : State) (H1 : Heap) (locs1 : List Loc), t.heap = H1 → s.vm.Alike t.vm → px u → BX E u t → H.size ≤ H1.size → (∀ q : Nat, q < H.size → ¬ AX q → H1[q]? = H[q]?) → va_S A0 H0 H1 locs1 → H1[q9]? = some ce → ce.vm = .none → s.vm.findClass E = some ce.cls → vx_W p l e R s m args below meth c H1 locs1 (cells + mc) (slots + ms) Q (F0 m pc ls rest) q9)
    (kk : ∀ (r : Int64) (u : S) (t : State) (H1 : Heap) (locs1 : List Loc), t.heap = H1 → s.vm.Alike t.vm → post r u → B u t → H.size ≤ H1.size → (∀ q : Nat, q < H.size → ¬ A1 q → H1[q]? = H[q]?) → va_S A0 H0 H1 locs1 → W p l e R s m args below meth c H1 locs1 (cells + mc) (slots + ms) Q (F0 m (pc + 3) ls (.long r :: rest))) : W p l e R s m args below meth c H locs cells slots Q (F0 m pc ls st0) := by
  intro T hT X
  rcases hr T hT X with ⟨v, st₀, t, T', L, h0, X', hL, e1, e2, ⟨⟨r, u, hv, hp, hb⟩, hF⟩, st⟩ | ⟨q, st₀, t, T', L, E, ce, h0, X', hL, e1, e2, ⟨u, hp, hb, hF⟩, hce, hcv, hcl, st⟩
  · cases hv
    obtain ⟨k1, k2, k3⟩ := vx_keep h0 e1 hS hA hf hL hF
    obtain ⟨t2, a1, b1⟩ := kk r u t T'.heap (locs ++ L) e1.symm (by rw [← e2]; exact X'.warmed.alike) hp hb k1 k2 k3 T' rfl X'
    exact ⟨t2, st t2 a1, b1⟩
  · obtain ⟨k1, k2, k3⟩ := vx_keep h0 e1 hS hAX hf hL hF
    obtain ⟨t2, a1, b1⟩ := kx E ce q u t T'.heap (locs ++ L) e1.symm (by rw [← e2]; exact X'.warmed.alike) hp hb k1 k2 k3 (by rw [e1]; exact hce) hcv hcl T' rfl X'
    exact ⟨t2, st.trans a1, b1⟩
theorem vx_callf {S SX : Type} {post : UInt32 → S → Prop} {px : SX → Prop} {B : S → State → Prop} {BX : String → SX → State → Prop} {AX : Nat → Prop} (hr : vx_Run p l e R s m args below meth c H locs cells slots mc ms (F0 m pc ls st0) rest (va_Qf post B A1 a) (vx_X px BX AX) free) (hS : va_S A0 H0 H locs) (hA : ∀ q, q < H.size → A1 q → A0 q) (hf : ∀ q, free q → A0 q) (hAX : ∀ q, q < H.size → AX q → A0 q)
    (kx : ∀ (E : String) (ce : Cell) (q9 : Addr) (u : SX) (t : State) (H1 : Heap) (locs1 : List Loc), t.heap = H1 → s.vm.Alike t.vm → px u → BX E u t → H.size ≤ H1.size → (∀ q : Nat, q < H.size → ¬ AX q → H1[q]? = H[q]?) → va_S A0 H0 H1 locs1 → H1[q9]? = some ce → ce.vm = .none → s.vm.findClass E = some ce.cls → vx_W p l e R s m args below meth c H1 locs1 (cells + mc) (slots + ms) Q (F0 m pc ls rest) q9)
    (kk : ∀ (r : UInt32) (u : S) (t : State) (H1 : Heap) (locs1 : List Loc), t.heap = H1 → s.vm.Alike t.vm → post r u → B u t → H.size ≤ H1.size → (∀ q : Nat, q < H.size → ¬ A1 q → H1[q]? = H[q]?) → va_S A0 H0 H1 locs1 → W p l e R s m args below meth c H1 locs1 (cells + mc) (slots + ms) Q (F0 m (pc + 3) ls (.float r :: rest))) : W p l e R s m args below meth c H locs cells slots Q (F0 m pc ls st0) := by
  intro T hT X
  rcases hr T hT X with ⟨v, st₀, t, T', L, h0, X', hL, e1, e2, ⟨⟨r, u, hv, hp, hb⟩, hF⟩, st⟩ | ⟨q, st₀, t, T', L, E, ce, h0, X', hL, e1, e2, ⟨u, hp, hb, hF⟩, hce, hcv, hcl, st⟩
  · cases hv
    obtain ⟨k1, k2, k3⟩ := vx_keep h0 e1 hS hA hf hL hF
    obtain ⟨t2, a1, b1⟩ := kk r u t T'.heap (locs ++ L) e1.symm (by rw [← e2]; exact X'.warmed.alike) hp hb k1 k2 k3 T' rfl X'
    exact ⟨t2, st t2 a1, b1⟩
  · obtain ⟨k1, k2, k3⟩ := vx_keep h0 e1 hS hAX hf hL hF
    obtain ⟨t2, a1, b1⟩ := kx E ce q u t T'.heap (locs ++ L) e1.symm (by rw [← e2]; exact X'.warmed.alike) hp hb k1 k2 k3 (by rw [e1]; exact hce) hcv hcl T' rfl X'
    exact ⟨t2, st.trans a1, b1⟩
theorem vx_calld {S SX : Type} {post : UInt64 → S → Prop} {px : SX → Prop} {B : S → State → Prop} {BX : String → SX → State → Prop} {AX : Nat → Prop} (hr : vx_Run p l e R s m args below meth c H locs cells slots mc ms (F0 m pc ls st0) rest (va_Qd post B A1 a) (vx_X px BX AX) free) (hS : va_S A0 H0 H locs) (hA : ∀ q, q < H.size → A1 q → A0 q) (hf : ∀ q, free q → A0 q) (hAX : ∀ q, q < H.size → AX q → A0 q)
    (kx : ∀ (E : String) (ce : Cell) (q9 : Addr) (u : SX) (t : State) (H1 : Heap) (locs1 : List Loc), t.heap = H1 → s.vm.Alike t.vm → px u → BX E u t → H.size ≤ H1.size → (∀ q : Nat, q < H.size → ¬ AX q → H1[q]? = H[q]?) → va_S A0 H0 H1 locs1 → H1[q9]? = some ce → ce.vm = .none → s.vm.findClass E = some ce.cls → vx_W p l e R s m args below meth c H1 locs1 (cells + mc) (slots + ms) Q (F0 m pc ls rest) q9)
    (kk : ∀ (r : UInt64) (u : S) (t : State) (H1 : Heap) (locs1 : List Loc), t.heap = H1 → s.vm.Alike t.vm → post r u → B u t → H.size ≤ H1.size → (∀ q : Nat, q < H.size → ¬ A1 q → H1[q]? = H[q]?) → va_S A0 H0 H1 locs1 → W p l e R s m args below meth c H1 locs1 (cells + mc) (slots + ms) Q (F0 m (pc + 3) ls (.double r :: rest))) : W p l e R s m args below meth c H locs cells slots Q (F0 m pc ls st0) := by
  intro T hT X
  rcases hr T hT X with ⟨v, st₀, t, T', L, h0, X', hL, e1, e2, ⟨⟨r, u, hv, hp, hb⟩, hF⟩, st⟩ | ⟨q, st₀, t, T', L, E, ce, h0, X', hL, e1, e2, ⟨u, hp, hb, hF⟩, hce, hcv, hcl, st⟩
  · cases hv
    obtain ⟨k1, k2, k3⟩ := vx_keep h0 e1 hS hA hf hL hF
    obtain ⟨t2, a1, b1⟩ := kk r u t T'.heap (locs ++ L) e1.symm (by rw [← e2]; exact X'.warmed.alike) hp hb k1 k2 k3 T' rfl X'
    exact ⟨t2, st t2 a1, b1⟩
  · obtain ⟨k1, k2, k3⟩ := vx_keep h0 e1 hS hAX hf hL hF
    obtain ⟨t2, a1, b1⟩ := kx E ce q u t T'.heap (locs ++ L) e1.symm (by rw [← e2]; exact X'.warmed.alike) hp hb k1 k2 k3 (by rw [e1]; exact hce) hcv hcl T' rfl X'
    exact ⟨t2, st.trans a1, b1⟩
theorem vx_callv {S SX : Type} {post : S → Prop} {px : SX → Prop} {B : S → State → Prop} {BX : String → SX → State → Prop} {AX : Nat → Prop} (hr : vx_Run p l e R s m args below meth c H locs cells slots mc ms (F0 m pc ls st0) rest (va_Qv post B A1 a) (vx_X px BX AX) free) (hS : va_S A0 H0 H locs) (hA : ∀ q, q < H.size → A1 q → A0 q) (hf : ∀ q, free q → A0 q) (hAX : ∀ q, q < H.size → AX q → A0 q)
    (kx : ∀ (E : String) (ce : Cell) (q9 : Addr) (u : SX) (t : State) (H1 : Heap) (locs1 : List Loc), t.heap = H1 → s.vm.Alike t.vm → px u → BX E u t → H.size ≤ H1.size → (∀ q : Nat, q < H.size → ¬ AX q → H1[q]? = H[q]?) → va_S A0 H0 H1 locs1 → H1[q9]? = some ce → ce.vm = .none → s.vm.findClass E = some ce.cls → vx_W p l e R s m args below meth c H1 locs1 (cells + mc) (slots + ms) Q (F0 m pc ls rest) q9)
    (kk : ∀ (u : S) (t : State) (H1 : Heap) (locs1 : List Loc), t.heap = H1 → s.vm.Alike t.vm → post u → B u t → H.size ≤ H1.size → (∀ q : Nat, q < H.size → ¬ A1 q → H1[q]? = H[q]?) → va_S A0 H0 H1 locs1 → W p l e R s m args below meth c H1 locs1 (cells + mc) (slots + ms) Q (F0 m (pc + 3) ls (rest))) : W p l e R s m args below meth c H locs cells slots Q (F0 m pc ls st0) := by
  intro T hT X
  rcases hr T hT X with ⟨v, st₀, t, T', L, h0, X', hL, e1, e2, ⟨⟨u, hv, hp, hb⟩, hF⟩, st⟩ | ⟨q, st₀, t, T', L, E, ce, h0, X', hL, e1, e2, ⟨u, hp, hb, hF⟩, hce, hcv, hcl, st⟩
  · cases hv
    obtain ⟨k1, k2, k3⟩ := vx_keep h0 e1 hS hA hf hL hF
    obtain ⟨t2, a1, b1⟩ := kk u t T'.heap (locs ++ L) e1.symm (by rw [← e2]; exact X'.warmed.alike) hp hb k1 k2 k3 T' rfl X'
    exact ⟨t2, st t2 a1, b1⟩
  · obtain ⟨k1, k2, k3⟩ := vx_keep h0 e1 hS hAX hf hL hF
    obtain ⟨t2, a1, b1⟩ := kx E ce q u t T'.heap (locs ++ L) e1.symm (by rw [← e2]; exact X'.warmed.alike) hp hb k1 k2 k3 (by rw [e1]; exact hce) hcv hcl T' rfl X'
    exact ⟨t2, st.trans a1, b1⟩
/-- caught by the row x of this method's table; the rows ahead don't take it -/
theorem vx_catch {own name : String} {E : String} {ce : Cell} {q : Addr} (hown : s.vm.findClass own = some m.cls) (pre : List ExceptionTableEntry) (x : ExceptionTableEntry) (suf : List ExceptionTableEntry) (hsplit : c.exceptionTable.toList = pre ++ x :: suf)
    (hpass : ∀ z ∈ pre, covers z pc = false ∨ (z.catchType ≠ 0 ∧ ∃ nm : String, (Cond.classLink own z.catchType nm).before args s = true ∧ va_Nc E nm s)) (hx : covers x pc = true) (h0 : x.catchType ≠ 0)
    (hlink : (Cond.classLink own x.catchType name).before args s = true) (hcast : (Cond.castable E name).before args s = true) (hcell : H[q]? = some ce) (hv : ce.vm = .none) (hcl : s.vm.findClass E = some ce.cls)
    (kk : W p l e R s m args below meth c H locs cells slots Q (F0 m x.handlerPc ls [.ref q])) : vx_W p l e R s m args below meth c H locs cells slots Q (F0 m pc ls rest) q := by
  intro T hT X
  have hpl : e.platform.magicAccessors = ({} : Platform).magicAccessors := by rw [X.admits.platform]
  obtain ⟨c3, c4, hc3, hc4, hasg⟩ := Cond.castable_spec hcast
  cases Option.some.inj (hc3.symm.trans hcl)
  obtain ⟨c5, hc5, hcl5⟩ := Cond.classLink_spec hown hlink e.platform hpl
  cases Option.some.inj (hc4.symm.trans hc5)
  obtain ⟨vm', X', st⟩ := X.thenCaughtThrough q (g := F0 m pc ls rest) rfl (Steps.refl _) (by rw [hT]; exact hcell) (by rw [hv]; rfl) (by obtain ⟨k9, h9, -⟩ := Vm.findClass_spec hcl; exact ⟨k9, h9⟩) pre x suf hsplit
    (fun z hz => by
      rcases hpass z hz with h | ⟨hz0, nm, hl1, hn1⟩
      · exact Or.inl h
      · obtain ⟨c6, hc6, hcl6⟩ := Cond.classLink_spec hown hl1 e.platform hpl
        obtain ⟨a8, b8, h1, h2, h3⟩ := hn1
        cases Option.some.inj (h1.symm.trans hcl)
        cases Option.some.inj (h2.symm.trans hc6)
        exact Or.inr ⟨hz0, _, hcl6, h3⟩) hx (Or.inr ⟨h0, c4, hcl5, hasg⟩)
  obtain ⟨t, a1, b1⟩ := kk (T.setVm vm') hT X'
  exact ⟨t, st.trans a1, b1⟩
end Rows
section Ends
variable {p : Program} {l : Launch} {e : Env} {R : Room} {s : State} {m : MethodId} {args : Array Value} {below : List Frame} {meth : Method} {c : Code} {H : Heap} {locs : List Loc} {cells slots : Nat} {Q : State → Prop}
variable {mc ms : Nat} {free : Addr → Prop} {A0 A1 : Nat → Prop} {H0 : Heap} {a : Array Value} {ls : Array Slot} {st0 rest : List Value}
variable {Qc : Array Value → State → Outcome → State → Prop} {XC : String → State → State → Prop}
/-- what a body that may throw owes at its end -/
def vx_MQ (below : List Frame) (Qc : Array Value → State → Outcome → State → Prop) (XC : String → State → State → Prop) (a : Array Value) (s : State) (mc ms : Nat) (free : Addr → Prop) : State → Prop := fun t =>
  ∃ o, t.status = .running ∧ Ended t below o ∧ vx_Q Qc XC mc ms free a s o t
theorem vx_ret {g : JFrame} {mc ms : Nat} (k : W p l e R s m args below meth c H locs cells slots (MQ below Qc args s mc ms free) g) : W p l e R s m args below meth c H locs cells slots (vx_MQ below Qc XC args s mc ms free) g := by
  intro T hT X
  obtain ⟨t, a1, o, b1, b2, b3, b4⟩ := k T hT X
  exact ⟨t, a1, o, b1, b2, Or.inl ⟨b3, b4⟩⟩
/-- not caught here: it goes on to the caller -/
theorem vx_widen {g : JFrame} {q : Addr} {k n : Nat} (h1 : cells ≤ k) (h2 : slots ≤ n) (kk : vx_W p l e R s m args below meth c H locs k n Q g q) : vx_W p l e R s m args below meth c H locs cells slots Q g q := fun T hT X => kk T hT (stand_widen X h1 h2)
theorem vx_out {pc : Nat} {E : String} {ce : Cell} {q : Addr} {mc ms : Nat} (hout : ∀ x ∈ c.exceptionTable.toList, covers x pc = false) (hlocks : meth.locks = false) (hcell : H[q]? = some ce) (hv : ce.vm = .none) (hcl : s.vm.findClass E = some ce.cls)
    (hx : ∀ t : State, t.heap = H → s.vm.Alike t.vm → XC E s t) (hf : ∀ z ∈ locs, free z.base) (hc : cells ≤ mc) (hs : slots ≤ ms) :
    vx_W p l e R s m args below meth c H locs cells slots (vx_MQ below Qc XC args s mc ms free) (F0 m pc ls rest) q := by
  intro T hT X
  obtain ⟨st1, hrun, hend, hW, hsm⟩ := X.leaveThrown q (g := F0 m pc ls rest) rfl rfl rfl hout hlocks
  have hcell9 : (T.setFrames (.throwing q :: below)).heap[q]? = some ce := by
    show T.heap[q]? = some ce
    rw [hT]; exact hcell
  exact ⟨_, st1, .threw q, hrun, hend, Or.inr ⟨q, rfl, E, ce, locs, hx _ hT hW.alike, hcell9, hv, hcl, hW, hsm.mono hc hs, hf⟩⟩
theorem vx_frame {U : State} {k n : Nat} (h : s.sameButNew ({ U with vm := s.vm } : State) locs k n) : s.heap.size ≤ U.heap.size ∧ ∀ q : Nat, q < s.heap.size → (∀ z ∈ locs, z.base ≠ q) → U.heap[q]? = s.heap[q]? := by
  obtain ⟨-, h2, -, -, -, h6⟩ := h
  refine ⟨h2, fun q hq hz => ?_⟩
  obtain ⟨c9, e1, e2, e3, e4⟩ := h6 q _ (Array.getElem?_eq_getElem hq)
  have hs : c9.slots = (s.heap[q]).slots := Array.ext_getElem? fun i => e4 i fun hm => hz _ hm rfl
  have h9 : c9 = s.heap[q] := by
    rw [hs] at e2
    exact e2
  have e5 : U.heap[q]? = some c9 := e1
  rw [e5, h9, Array.getElem?_eq_getElem hq]
/-- the words of a throw but the four that speak of the heap -/
def vx_no (w : Cond) : Bool := decide (w ≠ .isRef (.static Bundle.tN "UNASSIGNED_STACK" Bundle.steD)) && decide (w ≠ .isRef (.static Bundle.tN "SUPPRESSED_SENTINEL" Bundle.listD)) && decide (w ≠ .laysStatic Bundle.tN "UNASSIGNED_STACK" Bundle.steD) && decide (w ≠ .laysStatic Bundle.tN "SUPPRESSED_SENTINEL" Bundle.listD)
def vx_at0 (own : String) (ic : Nat) (X : String) (names : List String) : List Cond := (Bundle.ownAtoms0 own ic X names).filter vx_no
def vx_atS (own : String) (ic : Nat) (X : String) (names : List String) : List Cond := (Bundle.ownAtoms own ic X names).filter vx_no
/-- a word that the tables alone decide, or a good one -/
def vx_ot (w : Cond) : Bool := w.onTables || goodWord w
theorem vx_ot_at {args a' : Array Value} {s U : State} {w : Cond} (hW : s.WarmedH U.vm) (hvm : s.vm = U.vm) (hg : vx_ot w = true) (h : w.before args s = true) : w.before a' U = true := by
  simp only [vx_ot, Bool.or_eq_true] at hg
  rcases hg with hg | hg
  · exact va_tabs hg hvm h
  · exact word_at hW (good_of_word hg) h
/-- a list's words: the good ones out of the method's own list, the others by premises of their own -/
theorem vx_hat {args : Array Value} {s : State} {L B : List Cond} (h1 : ∀ w ∈ L.filter goodWord, w.before args s = true) (h2 : ∀ w ∈ L.filter (fun w => !goodWord w), w ∈ B) (h3 : ∀ w ∈ B, w.before args s = true) : ∀ w ∈ L, w.before args s = true := by
  intro w hw
  by_cases g : goodWord w = true
  · exact h1 w (List.mem_filter.mpr ⟨hw, g⟩)
  · refine h3 w (h2 w (List.mem_filter.mpr ⟨hw, ?_⟩))
    show (!goodWord w) = true
    cases hgw : goodWord w
    · rfl
    · exact absurd hgw g
theorem vx_c {args : Array Value} {s : State} {w : Cond} {B : List Cond} (h : w.before args s = true) (t : ∀ w ∈ B, w.before args s = true) : ∀ w' ∈ w :: B, w'.before args s = true := fun w' h' => (List.mem_cons.mp h').elim (fun e => by rw [e]; exact h) (t w')
theorem vx_n {args : Array Value} {s : State} : ∀ w ∈ ([] : List Cond), w.before args s = true := fun _ h => nomatch h
theorem vx_own {args : Array Value} {s : State} {L : List Cond} (h1 : ∀ w ∈ L.filter vx_no, w.before args s = true)
    (hU : (Cond.isRef (.static Bundle.tN "UNASSIGNED_STACK" Bundle.steD)).before args s = true) (hN : (Cond.isRef (.static Bundle.tN "SUPPRESSED_SENTINEL" Bundle.listD)).before args s = true)
    (lU : (Cond.laysStatic Bundle.tN "UNASSIGNED_STACK" Bundle.steD).before args s = true) (lN : (Cond.laysStatic Bundle.tN "SUPPRESSED_SENTINEL" Bundle.listD).before args s = true) : ∀ w ∈ L, w.before args s = true := by
  intro w hw
  by_cases e1 : w = .isRef (.static Bundle.tN "UNASSIGNED_STACK" Bundle.steD)
  · rw [e1]; exact hU
  · by_cases e2 : w = .isRef (.static Bundle.tN "SUPPRESSED_SENTINEL" Bundle.listD)
    · rw [e2]; exact hN
    · by_cases e3 : w = .laysStatic Bundle.tN "UNASSIGNED_STACK" Bundle.steD
      · rw [e3]; exact lU
      · by_cases e4 : w = .laysStatic Bundle.tN "SUPPRESSED_SENTINEL" Bundle.listD
        · rw [e4]; exact lN
        · exact h1 w (List.mem_filter.mpr ⟨hw, by unfold vx_no; rw [decide_eq_true e1, decide_eq_true e2, decide_eq_true e3, decide_eq_true e4]; rfl⟩)
/-- where a static field lies, its class's statics cell in H -/
def vx_L (C n d : String) (A : Nat → Prop) (U : State) (H : Heap) : Prop := ∃ (c : ClassId) (k : Class) (i : Nat) (f : Field) (a : Nat) (cell : Cell), U.vm.findClass C = some c ∧ U.fieldFound? C n d = some (c, k, i, f) ∧ f.isStatic = true ∧ k.statics = some a ∧ H[a]? = some cell ∧ cell.vm.isStatics = true ∧ cell.cls = c ∧ f.slot < cell.slots.size ∧ k.staticTypes[f.slot]? = some f.type ∧ ¬ A a
theorem vx_L.moved {C n d : String} {A : Nat → Prop} {u U : State} {H : Heap} (hvm : u.vm.Alike U.vm) (h : vx_L C n d A u H) : vx_L C n d A U H := by
  obtain ⟨c, k, i, f, a, cell, h1, h2, h3, h4, h5, h6, h7, h8, h9, h10⟩ := h
  obtain ⟨k', hi', he⟩ := State.fieldFound?_setVm hvm h2
  exact ⟨c, k', i, f, a, cell, by rw [hvm.findClass]; exact h1, hi', h3, by rw [he]; exact h4, h5, h6, h7, h8, by rw [he]; exact h9, h10⟩
theorem vx_L.kept {C n d : String} {A : Nat → Prop} {U : State} {H H1 : Heap} (h : vx_L C n d A U H) (hq : ∀ a : Nat, a < H.size → ¬ A a → H1[a]? = H[a]?) : vx_L C n d A U H1 := by
  obtain ⟨c, k, i, f, a, cell, h1, h2, h3, h4, h5, h6, h7, h8, h9, h10⟩ := h
  exact ⟨c, k, i, f, a, cell, h1, h2, h3, h4, by rw [hq a (Array.getElem?_eq_some_iff.mp h5).1 h10]; exact h5, h6, h7, h8, h9, h10⟩
theorem vx_L.narrow {C n d : String} {A B : Nat → Prop} {U : State} {H : Heap} (h : vx_L C n d A U H) (hAB : ∀ q, B q → A q) : vx_L C n d B U H := by
  obtain ⟨c, k, i, f, a, cell, h1, h2, h3, h4, h5, h6, h7, h8, h9, h10⟩ := h
  exact ⟨c, k, i, f, a, cell, h1, h2, h3, h4, h5, h6, h7, h8, h9, fun z => h10 (hAB _ z)⟩
theorem vx_L.word {C n d : String} {A : Nat → Prop} {s : State} {args : Array Value} (h : vx_L C n d A s s.heap) : (Cond.laysStatic C n d).before args s = true := by
  obtain ⟨c, k, i, f, a, cell, h1, h2, h3, h4, h5, h6, h7, h8, h9, -⟩ := h
  show (Cond.laysStatic C n d).holds args s none s [] = true
  exact Cond.laysStatic_of h1 h2 h3 h4 h5 h6 h7 h8 h9
/-- .. and what it holds: null or some reference -/
def vx_Zq (C n d : String) (A : Nat → Prop) (U : State) (H : Heap) : Prop := va_Zq C n d A U H ∧ vx_L C n d A U H
theorem vx_Zq.moved {C n d : String} {A : Nat → Prop} {u U : State} {H : Heap} (hvm : u.vm.Alike U.vm) (h : vx_Zq C n d A u H) : vx_Zq C n d A U H := ⟨va_Zq.moved hvm h.1, vx_L.moved hvm h.2⟩
theorem vx_Zq.kept {C n d : String} {A : Nat → Prop} {U : State} {H H1 : Heap} (h : vx_Zq C n d A U H) (hq : ∀ a : Nat, a < H.size → ¬ A a → H1[a]? = H[a]?) : vx_Zq C n d A U H1 := ⟨va_Zq.kept h.1 hq, vx_L.kept h.2 hq⟩
theorem vx_Zq.narrow {C n d : String} {A B : Nat → Prop} {U : State} {H : Heap} (h : vx_Zq C n d A U H) (hAB : ∀ q, B q → A q) : vx_Zq C n d B U H := ⟨va_Zq.narrow h.1 hAB, vx_L.narrow h.2 hAB⟩
theorem vx_Zqof {args : Array Value} {s : State} {C n d : String} {A : Nat → Prop} (hl : (Cond.laysStatic C n d).before args s = true) (hini : (Cond.initialized C).before args s = true) (h : (Cond.isRef (.static C n d)).before args s = true) (hA : ∀ a : Nat, a < s.heap.size → ¬ A a) : vx_Zq C n d A s s.heap := by
  refine ⟨va_Zqof hl hini h hA, ?_⟩
  obtain ⟨c, k, i, f, a, cell, h1, h2, h3, h4, h5, h6, h7, h8, h9⟩ := Cond.laysStatic_spec hl
  exact ⟨c, k, i, f, a, cell, h1, h2, h3, h4, h5, h6, h7, h8, h9, hA a (Array.getElem?_eq_some_iff.mp h5).1⟩
theorem vx_isRef {C n d : String} {v : Value} {A : Nat → Prop} {s : State} {args : Array Value} (h : va_Z C n d v A s s.heap) (hv : v.isRef = true) : (Cond.isRef (.static C n d)).before args s = true := by
  obtain ⟨cf, kf, fi, f, a, cell, h1, h2, h3, h4, h5, h6, h7, -⟩ := h
  have he : (Term.static C n d).eval args s none [] s = some v := by
    simp [Term.eval, State.fieldNamed?, h1, h2, h4, h5, h6, h7]
  simp only [Cond.before, Cond.holds, Cond.value, he]
  cases v <;> simp_all [Value.isRef]
theorem vx_isRefq {C n d : String} {A : Nat → Prop} {s : State} {args : Array Value} (h : va_Zq C n d A s s.heap) : (Cond.isRef (.static C n d)).before args s = true := by
  rcases h with h | ⟨t, h⟩
  · exact vx_isRef h rfl
  · exact vx_isRef h rfl
/-- the same frame, seen from here: as if the method were called anew in this heap -/
theorem vx_rebase {T : State} (X : Stand p l e R s m args below meth c T locs cells slots) {R' : Room} (hf : R'.frames ≤ R.frames) (hl : R'.locals ≤ R.locals) (hc : cells + R'.cells ≤ R.cells) (hs : slots + R'.slots ≤ R.slots) :
    Stand p l e R' ((T.setVm s.vm).setFrames (.invoking m args :: below)) m args below meth c T [] 0 0 := by
  have htop : (T.setVm s.vm).topJava?.isSome := X.here.top
  have hF : ((T.setVm s.vm).setFrames (.invoking m args :: below)).frames = .invoking m args :: below := State.frames_setFrames _ (State.cur_lt_of_top htop)
  obtain ⟨g₀, hg0⟩ := Option.isSome_iff_exists.mp htop
  obtain ⟨r, hr⟩ := State.topJava?_eq_some.mp hg0
  have hl9 : e.platform.stackLimits (T.setVm s.vm).me = e.platform.stackLimits s.me := X.limits
  have hb9 : (T.setVm s.vm).me.stackBytes = s.me.stackBytes := X.bytes
  refine ⟨X.admits, X.cas, X.clock, hF, ?_, X.hears, X.method, X.code, X.here, X.tail, X.warmed, ?_, ?_, ?_⟩
  · have h := X.room
    have hU : ((T.setVm s.vm).setFrames (.invoking m args :: below)).localsInUse = s.localsInUse := by
      rw [State.localsInUse_invoking hF (meth := meth) (c := c) X.method X.code, State.localsInUse_invoking X.frames X.method X.code]
    simp only [State.hasRoom, Bool.and_eq_true, decide_eq_true_eq] at h ⊢
    obtain ⟨⟨⟨⟨h1, h2, h3, h4, h5, h6⟩, h7⟩, h8⟩, h9⟩ := h
    rw [X.frames, List.length_cons] at h2 h3
    have q1 := X.heapSize
    have q2 := X.used
    simp only [hF, hU, List.length_cons, State.stackLimits_setFrames, State.stackBytes_setFrames, hl9, hb9]
    refine ⟨⟨⟨⟨by omega, by omega, by omega, by omega, by omega, h6⟩, ?_⟩, ?_⟩, X.book⟩
    · show T.heap.size + R'.cells ≤ e.platform.maxCells
      omega
    · show T.slotsUsed + R'.slots ≤ e.platform.maxSlots
      omega
  · rw [State.stackLimits_setFrames]; rfl
  · rw [State.stackBytes_setFrames]; rfl
  · refine ⟨?_, Nat.le_refl _, Nat.le_refl _, ?_, ?_, fun a c9 h9 => ⟨c9, h9, rfl, rfl, fun _ _ => rfl⟩⟩
    · obtain ⟨t, ht, -⟩ := State.frames_cons hr
      show T.setVm s.vm = { ((T.setVm s.vm).setFrames (.invoking m args :: below)).setFrames (T.setVm s.vm).frames with heap := T.heap, slotsUsed := T.slotsUsed }
      rw [State.setFrames_setFrames, State.setFrames_self ht]
      rfl
    · show T.slotsUsed = T.slotsUsed + ((T.heap.toList.drop T.heap.size).map (·.slots.size)).sum
      rw [List.drop_eq_nil_of_le (Nat.le_of_eq Array.length_toList)]
      rfl
    · show ((T.heap.toList.drop T.heap.size).map (·.slots.size)).sum ≤ 0
      rw [List.drop_eq_nil_of_le (Nat.le_of_eq Array.length_toList)]
      exact Nat.le_refl _
/-- 'throw new E()': new; dup; invokespecial; athrow -/
theorem vx_throw0 {cc : ByteArray} {pc : Nat} (hexec : p.tables.exec = Jvm.exec) (hb : c.code = cc) (hl : l.stackTraces = false) {own cls : String} {names : List String} {ik ic mc ms : Nat} {A : Nat → Prop}
    (hown : s.vm.findClass own = some m.cls) (hcls : Bundle.fit cls = true) (hnames : ∀ n ∈ names, Bundle.fit n = true)
    (hk : (Cond.classLink own ik cls).before args s = true) (hini : (Cond.initialized cls).before args s = true) (hat : ∀ w ∈ vx_at0 own ic cls names, w.before args s = true)
    (hgood : ∀ w ∈ Cond.classLink own ik cls :: Cond.initialized cls :: vx_at0 own ic cls names, vx_ot w = true)
    (hU : vx_Zq Bundle.tN "UNASSIGNED_STACK" Bundle.steD A s s.heap) (hN : vx_Zq Bundle.tN "SUPPRESSED_SENTINEL" Bundle.listD A s s.heap) (hS : va_S A s.heap H locs) (hsize : ls.size = c.maxLocals)
    (d0 : decode cc pc = .ok (.new ik, 3)) (d3 : decode cc (pc + 3) = .ok (.dup, 1)) (d4 : decode cc (pc + 4) = .ok (.invokespecial ic, 3)) (d7 : decode cc (pc + 7) = .ok (.athrow, 1))
    (hout : ∀ x ∈ c.exceptionTable.toList, covers x (pc + 7) = false)
    (hRframes : names.length + 3 < R.frames) (hRlocals : (rest.map fun v => v.category).sum + (13 * (names.length + 1) + 42) ≤ R.locals) (hRcells : cells + 1 ≤ R.cells) (hRslots : slots + 6 ≤ R.slots) (hlocks : meth.locks = false)
    (hx : ∀ t : State, s.vm.Alike t.vm → H.size ≤ t.heap.size → (∀ q : Nat, q < H.size → t.heap[q]? = H[q]?) → XC cls s t)
    (hf : ∀ z ∈ locs, free z.base) (hc : cells + 1 ≤ mc) (hs : slots + 6 ≤ ms) :
    W p l e R s m args below meth c H locs cells slots (vx_MQ below Qc XC args s mc ms free) (F0 m pc ls rest) := by
  intro T hT X
  have htr : e.platform.stackTraces = false := (show e.platform.stackTraces = l.stackTraces by rw [X.admits.platform]).trans hl
  have Y := vx_rebase X (R' := { frames := R.frames, locals := R.locals, cells := 1, slots := 6 }) (Nat.le_refl _) (Nat.le_refl _) hRcells hRslots
  obtain ⟨s', hA⟩ : ∃ z, z = (T.setVm s.vm).setFrames (.invoking m args :: below) := ⟨_, rfl⟩
  rw [← hA] at Y
  have hvm : s'.vm = s.vm := by rw [hA]; rfl
  have hhp : s'.heap = H := by rw [hA]; exact hT
  have hW0 : s.WarmedH s'.vm := by rw [hvm]; exact State.WarmedH.refl s
  have hat' : ∀ w ∈ vx_at0 own ic cls names, w.before args s' = true := fun w hw => vx_ot_at hW0 hvm.symm (hgood w (List.mem_cons_of_mem _ (List.mem_cons_of_mem _ hw))) (hat w hw)
  have hk' : (Cond.classLink own ik cls).before args s' = true := vx_ot_at hW0 hvm.symm (hgood _ List.mem_cons_self) hk
  have hini' : (Cond.initialized cls).before args s' = true := vx_ot_at hW0 hvm.symm (hgood _ (List.mem_cons_of_mem _ List.mem_cons_self)) hini
  have hU' : vx_Zq Bundle.tN "UNASSIGNED_STACK" Bundle.steD A s' s'.heap := by rw [hhp]; exact vx_Zq.moved hW0.alike (hU.kept hS.2.1)
  have hN' : vx_Zq Bundle.tN "SUPPRESSED_SENTINEL" Bundle.listD A s' s'.heap := by rw [hhp]; exact vx_Zq.moved hW0.alike (hN.kept hS.2.1)
  have h : ∀ w ∈ Bundle.ownAtoms0 own ic cls names, w.before args s' = true := vx_own hat' (vx_isRefq hU'.1) (vx_isRefq hN'.1) hU'.2.word hN'.2.word
  have hown' : s'.vm.findClass own = some m.cls := by rw [hvm]; exact hown
  have hins : (Cond.instantiable cls 6).before args s' = true := h _ (by simp [Bundle.ownAtoms0])
  obtain ⟨vm₁, cX, kX, hfX, hkX, -, -, X₁, st1⟩ := Y.newCold hexec (own := own) (C := cls) (index := ik) (n := 6) hown' hk' hins hini'
    (g := F0 m pc ls rest) rfl (by rw [hb]; exact d0) (Nat.le_refl _) (Nat.le_refl _)
  generalize hT1 : (T.setVm vm₁).pushCell { cls := cX, slots := kX.instanceTypes.map defaultValue, vm := .none } = T1 at X₁ st1
  have hcat : (Value.ref T.heap.size).category = 1 := rfl
  have hcellA : T1.heap[T.heap.size]? = some (freshCell cX kX) := by rw [← hT1]; exact State.heap_pushCell_size _ _
  have d3' : decode c.code (pc + 3) = .ok (.dup, 1) := by rw [hb]; exact d3
  obtain ⟨U, hsteps, hrun, hend, hW, hsame, ce, hce, hO⟩ := X₁.ctorThrow0 hexec htr (own := own) (cls := cls) (names := names) (ic := ic) hown' hcls hnames h (fun x hx => nomatch hx) hfX hkX hcellA (by rw [hhp, hT]; exact Nat.le_refl _)
    (g := { method := m, pc := pc + 4, locals := ls, stack := .ref T.heap.size :: .ref T.heap.size :: rest, locked := none }) rfl hsize rfl rfl (rest := rest) rfl
    (by rw [hb]; exact d4) (by rw [hb]; exact d7) hout hRframes (by simp only [List.map_cons, List.sum_cons, hcat]; omega) hlocks
  obtain ⟨f1, f2⟩ := vx_frame hsame
  rw [hhp] at f1 f2
  have hWs : s.WarmedH U.vm := State.WarmedH.trans hW0 hW
  have hcl : s.vm.findClass cls = some ce.cls := by
    have h9 := hO.cls
    rw [hvm] at h9
    exact h9
  have hall : s.sameButNew ({ U with vm := s.vm } : State) locs mc ms := by
    subst hA
    obtain ⟨e1, e2⟩ := hsame
    rw [State.setFrames_setFrames] at e1
    have h2 : (T.setVm s.vm).sameButNew ({ U with vm := s.vm } : State) [] (0 + 1) (0 + 6) := ⟨e1, e2⟩
    have h3 := X.same.trans h2
    rw [List.append_nil] at h3
    exact h3.mono hc hs
  refine ⟨U, ?_, .threw T.heap.size, hrun, hend, Or.inr ⟨T.heap.size, rfl, cls, ce, locs, hx U hWs.alike f1 (fun q hq => f2 q hq (fun z hz => nomatch hz)), hce, hO.vm, hcl, hWs, hall, hf⟩⟩
  refine st1 _ ?_
  show Steps p.tables e below (T1.setTop { method := m, pc := pc + 3, locals := ls, stack := .ref T.heap.size :: rest, locked := none }) _
  jvm_step X₁.here [X₁.here.top, hexec, d3', Value.category]
  exact hsteps
/-- 'throw new E("text")': new; dup; ldc; invokespecial; athrow -/
theorem vx_throwS {cc : ByteArray} {pc : Nat} (hexec : p.tables.exec = Jvm.exec) (hb : c.code = cc) (hl : l.stackTraces = false) {own cls text : String} {names : List String} {ik is ic mc ms sa : Nat} {A : Nat → Prop}
    (hown : s.vm.findClass own = some m.cls) (hcls : Bundle.fit cls = true) (hnames : ∀ n ∈ names, Bundle.fit n = true)
    (hk : (Cond.classLink own ik cls).before args s = true) (hini : (Cond.initialized cls).before args s = true) (hstr : vk_R own is text sa s) (hat : ∀ w ∈ vx_atS own ic cls names, w.before args s = true)
    (hgood : ∀ w ∈ Cond.classLink own ik cls :: Cond.initialized cls :: vx_atS own ic cls names, vx_ot w = true)
    (hU : vx_Zq Bundle.tN "UNASSIGNED_STACK" Bundle.steD A s s.heap) (hN : vx_Zq Bundle.tN "SUPPRESSED_SENTINEL" Bundle.listD A s s.heap) (hS : va_S A s.heap H locs) (hsize : ls.size = c.maxLocals)
    (d0 : decode cc pc = .ok (.new ik, 3)) (d3 : decode cc (pc + 3) = .ok (.dup, 1)) (d4 : decode cc (pc + 4) = .ok (.ldc is, 2)) (d6 : decode cc (pc + 6) = .ok (.invokespecial ic, 3)) (d9 : decode cc (pc + 9) = .ok (.athrow, 1))
    (hout : ∀ x ∈ c.exceptionTable.toList, covers x (pc + 9) = false)
    (hRframes : names.length + 3 < R.frames) (hRlocals : (rest.map fun v => v.category).sum + (13 * (names.length + 1) + 43) ≤ R.locals) (hRcells : cells + 1 ≤ R.cells) (hRslots : slots + 6 ≤ R.slots) (hlocks : meth.locks = false)
    (hx : ∀ t : State, s.vm.Alike t.vm → H.size ≤ t.heap.size → (∀ q : Nat, q < H.size → t.heap[q]? = H[q]?) → XC cls s t)
    (hf : ∀ z ∈ locs, free z.base) (hc : cells + 1 ≤ mc) (hs : slots + 6 ≤ ms) :
    W p l e R s m args below meth c H locs cells slots (vx_MQ below Qc XC args s mc ms free) (F0 m pc ls rest) := by
  intro T hT X
  have htr : e.platform.stackTraces = false := (show e.platform.stackTraces = l.stackTraces by rw [X.admits.platform]).trans hl
  have Y := vx_rebase X (R' := { frames := R.frames, locals := R.locals, cells := 1, slots := 6 }) (Nat.le_refl _) (Nat.le_refl _) hRcells hRslots
  obtain ⟨s', hA⟩ : ∃ z, z = (T.setVm s.vm).setFrames (.invoking m args :: below) := ⟨_, rfl⟩
  rw [← hA] at Y
  have hvm : s'.vm = s.vm := by rw [hA]; rfl
  have hhp : s'.heap = H := by rw [hA]; exact hT
  have hW0 : s.WarmedH s'.vm := by rw [hvm]; exact State.WarmedH.refl s
  have hat' : ∀ w ∈ vx_atS own ic cls names, w.before args s' = true := fun w hw => vx_ot_at hW0 hvm.symm (hgood w (List.mem_cons_of_mem _ (List.mem_cons_of_mem _ hw))) (hat w hw)
  have hk' : (Cond.classLink own ik cls).before args s' = true := vx_ot_at hW0 hvm.symm (hgood _ List.mem_cons_self) hk
  have hini' : (Cond.initialized cls).before args s' = true := vx_ot_at hW0 hvm.symm (hgood _ (List.mem_cons_of_mem _ List.mem_cons_self)) hini
  have hU' : vx_Zq Bundle.tN "UNASSIGNED_STACK" Bundle.steD A s' s'.heap := by rw [hhp]; exact vx_Zq.moved hW0.alike (hU.kept hS.2.1)
  have hN' : vx_Zq Bundle.tN "SUPPRESSED_SENTINEL" Bundle.listD A s' s'.heap := by rw [hhp]; exact vx_Zq.moved hW0.alike (hN.kept hS.2.1)
  have h : ∀ w ∈ Bundle.ownAtoms own ic cls names, w.before args s' = true := vx_own hat' (vx_isRefq hU'.1) (vx_isRefq hN'.1) hU'.2.word hN'.2.word
  have hown' : s'.vm.findClass own = some m.cls := by rw [hvm]; exact hown
  have hins : (Cond.instantiable cls 6).before args s' = true := h _ (by simp [Bundle.ownAtoms])
  obtain ⟨vm₁, cX, kX, hfX, hkX, -, -, X₁, st1⟩ := Y.newCold hexec (own := own) (C := cls) (index := ik) (n := 6) hown' hk' hins hini'
    (g := F0 m pc ls rest) rfl (by rw [hb]; exact d0) (Nat.le_refl _) (Nat.le_refl _)
  generalize hT1 : (T.setVm vm₁).pushCell { cls := cX, slots := kX.instanceTypes.map defaultValue, vm := .none } = T1 at X₁ st1
  have hcat : (Value.ref T.heap.size).category = 1 := rfl
  have hcellA : T1.heap[T.heap.size]? = some (freshCell cX kX) := by rw [← hT1]; exact State.heap_pushCell_size _ _
  have d3' : decode c.code (pc + 3) = .ok (.dup, 1) := by rw [hb]; exact d3
  have d4' : decode c.code (pc + 4) = .ok (.ldc is, 2) := by rw [hb]; exact d4
  have hstr' : vk_R own is text sa s' := vk_R.warm hW0 hstr
  obtain ⟨U, hsteps, hrun, hend, hW, hsame, ce, hce, hO⟩ := X₁.ctorThrowS hexec htr (own := own) (cls := cls) (names := names) (ic := ic) hown' hcls hnames h (fun x hx => nomatch hx) hfX hkX hcellA (by rw [hhp, hT]; exact Nat.le_refl _) (msg := .ref sa) rfl
    (g := { method := m, pc := pc + 6, locals := ls, stack := .ref sa :: .ref T.heap.size :: .ref T.heap.size :: rest, locked := none }) rfl hsize rfl rfl (rest := rest) rfl
    (by rw [hb]; exact d6) (by rw [hb]; exact d9) hout hRframes (by simp only [List.map_cons, List.sum_cons, hcat]; omega) hlocks
  obtain ⟨f1, f2⟩ := vx_frame hsame
  rw [hhp] at f1 f2
  have hWs : s.WarmedH U.vm := State.WarmedH.trans hW0 hW
  have hcl : s.vm.findClass cls = some ce.cls := by
    have h9 := hO.cls
    rw [hvm] at h9
    exact h9
  have hall : s.sameButNew ({ U with vm := s.vm } : State) locs mc ms := by
    subst hA
    obtain ⟨e1, e2⟩ := hsame
    rw [State.setFrames_setFrames] at e1
    have h2 : (T.setVm s.vm).sameButNew ({ U with vm := s.vm } : State) [] (0 + 1) (0 + 6) := ⟨e1, e2⟩
    have h3 := X.same.trans h2
    rw [List.append_nil] at h3
    exact h3.mono hc hs
  refine ⟨U, ?_, .threw T.heap.size, hrun, hend, Or.inr ⟨T.heap.size, rfl, cls, ce, locs, hx U hWs.alike f1 (fun q hq => f2 q hq (fun z hz => nomatch hz)), hce, hO.vm, hcl, hWs, hall, hf⟩⟩
  refine st1 _ ?_
  show Steps p.tables e below (T1.setTop { method := m, pc := pc + 3, locals := ls, stack := .ref T.heap.size :: rest, locked := none }) _
  jvm_step X₁.here [X₁.here.top, hexec, d3', Value.category]
  exact X₁.ldcString hexec (own := own) (text := text) (index := is) (a := sa) hown' hstr'.1 hstr'.2
    (g := { method := m, pc := pc + 4, locals := ls, stack := .ref T.heap.size :: .ref T.heap.size :: rest, locked := none }) rfl d4' _ hsteps
/-- 'throw new E("text")', the text by a wide index -/
theorem vx_throwSW {cc : ByteArray} {pc : Nat} (hexec : p.tables.exec = Jvm.exec) (hb : c.code = cc) (hl : l.stackTraces = false) {own cls text : String} {names : List String} {ik is ic mc ms sa : Nat} {A : Nat → Prop}
    (hown : s.vm.findClass own = some m.cls) (hcls : Bundle.fit cls = true) (hnames : ∀ n ∈ names, Bundle.fit n = true)
    (hk : (Cond.classLink own ik cls).before args s = true) (hini : (Cond.initialized cls).before args s = true) (hstr : vk_R own is text sa s) (hat : ∀ w ∈ vx_atS own ic cls names, w.before args s = true)
    (hgood : ∀ w ∈ Cond.classLink own ik cls :: Cond.initialized cls :: vx_atS own ic cls names, vx_ot w = true)
    (hU : vx_Zq Bundle.tN "UNASSIGNED_STACK" Bundle.steD A s s.heap) (hN : vx_Zq Bundle.tN "SUPPRESSED_SENTINEL" Bundle.listD A s s.heap) (hS : va_S A s.heap H locs) (hsize : ls.size = c.maxLocals)
    (d0 : decode cc pc = .ok (.new ik, 3)) (d3 : decode cc (pc + 3) = .ok (.dup, 1)) (d4 : decode cc (pc + 4) = .ok (.ldc_w is, 3)) (d7 : decode cc (pc + 7) = .ok (.invokespecial ic, 3)) (d10 : decode cc (pc + 10) = .ok (.athrow, 1))
    (hout : ∀ x ∈ c.exceptionTable.toList, covers x (pc + 10) = false)
    (hRframes : names.length + 3 < R.frames) (hRlocals : (rest.map fun v => v.category).sum + (13 * (names.length + 1) + 43) ≤ R.locals) (hRcells : cells + 1 ≤ R.cells) (hRslots : slots + 6 ≤ R.slots) (hlocks : meth.locks = false)
    (hx : ∀ t : State, s.vm.Alike t.vm → H.size ≤ t.heap.size → (∀ q : Nat, q < H.size → t.heap[q]? = H[q]?) → XC cls s t)
    (hf : ∀ z ∈ locs, free z.base) (hc : cells + 1 ≤ mc) (hs : slots + 6 ≤ ms) :
    W p l e R s m args below meth c H locs cells slots (vx_MQ below Qc XC args s mc ms free) (F0 m pc ls rest) := by
  intro T hT X
  have htr : e.platform.stackTraces = false := (show e.platform.stackTraces = l.stackTraces by rw [X.admits.platform]).trans hl
  have Y := vx_rebase X (R' := { frames := R.frames, locals := R.locals, cells := 1, slots := 6 }) (Nat.le_refl _) (Nat.le_refl _) hRcells hRslots
  obtain ⟨s', hA⟩ : ∃ z, z = (T.setVm s.vm).setFrames (.invoking m args :: below) := ⟨_, rfl⟩
  rw [← hA] at Y
  have hvm : s'.vm = s.vm := by rw [hA]; rfl
  have hhp : s'.heap = H := by rw [hA]; exact hT
  have hW0 : s.WarmedH s'.vm := by rw [hvm]; exact State.WarmedH.refl s
  have hat' : ∀ w ∈ vx_atS own ic cls names, w.before args s' = true := fun w hw => vx_ot_at hW0 hvm.symm (hgood w (List.mem_cons_of_mem _ (List.mem_cons_of_mem _ hw))) (hat w hw)
  have hk' : (Cond.classLink own ik cls).before args s' = true := vx_ot_at hW0 hvm.symm (hgood _ List.mem_cons_self) hk
  have hini' : (Cond.initialized cls).before args s' = true := vx_ot_at hW0 hvm.symm (hgood _ (List.mem_cons_of_mem _ List.mem_cons_self)) hini
  have hU' : vx_Zq Bundle.tN "UNASSIGNED_STACK" Bundle.steD A s' s'.heap := by rw [hhp]; exact vx_Zq.moved hW0.alike (hU.kept hS.2.1)
  have hN' : vx_Zq Bundle.tN "SUPPRESSED_SENTINEL" Bundle.listD A s' s'.heap := by rw [hhp]; exact vx_Zq.moved hW0.alike (hN.kept hS.2.1)
  have h : ∀ w ∈ Bundle.ownAtoms own ic cls names, w.before args s' = true := vx_own hat' (vx_isRefq hU'.1) (vx_isRefq hN'.1) hU'.2.word hN'.2.word
  have hown' : s'.vm.findClass own = some m.cls := by rw [hvm]; exact hown
  have hins : (Cond.instantiable cls 6).before args s' = true := h _ (by simp [Bundle.ownAtoms])
  obtain ⟨vm₁, cX, kX, hfX, hkX, -, -, X₁, st1⟩ := Y.newCold hexec (own := own) (C := cls) (index := ik) (n := 6) hown' hk' hins hini'
    (g := F0 m pc ls rest) rfl (by rw [hb]; exact d0) (Nat.le_refl _) (Nat.le_refl _)
  generalize hT1 : (T.setVm vm₁).pushCell { cls := cX, slots := kX.instanceTypes.map defaultValue, vm := .none } = T1 at X₁ st1
  have hcat : (Value.ref T.heap.size).category = 1 := rfl
  have hcellA : T1.heap[T.heap.size]? = some (freshCell cX kX) := by rw [← hT1]; exact State.heap_pushCell_size _ _
  have d3' : decode c.code (pc + 3) = .ok (.dup, 1) := by rw [hb]; exact d3
  have d4' : decode c.code (pc + 4) = .ok (.ldc_w is, 3) := by rw [hb]; exact d4
  have hstr' : vk_R own is text sa s' := vk_R.warm hW0 hstr
  obtain ⟨U, hsteps, hrun, hend, hW, hsame, ce, hce, hO⟩ := X₁.ctorThrowS hexec htr (own := own) (cls := cls) (names := names) (ic := ic) hown' hcls hnames h (fun x hx => nomatch hx) hfX hkX hcellA (by rw [hhp, hT]; exact Nat.le_refl _) (msg := .ref sa) rfl
    (g := { method := m, pc := pc + 7, locals := ls, stack := .ref sa :: .ref T.heap.size :: .ref T.heap.size :: rest, locked := none }) rfl hsize rfl rfl (rest := rest) rfl
    (by rw [hb]; exact d7) (by rw [hb]; exact d10) hout hRframes (by simp only [List.map_cons, List.sum_cons, hcat]; omega) hlocks
  obtain ⟨f1, f2⟩ := vx_frame hsame
  rw [hhp] at f1 f2
  have hWs : s.WarmedH U.vm := State.WarmedH.trans hW0 hW
  have hcl : s.vm.findClass cls = some ce.cls := by
    have h9 := hO.cls
    rw [hvm] at h9
    exact h9
  have hall : s.sameButNew ({ U with vm := s.vm } : State) locs mc ms := by
    subst hA
    obtain ⟨e1, e2⟩ := hsame
    rw [State.setFrames_setFrames] at e1
    have h2 : (T.setVm s.vm).sameButNew ({ U with vm := s.vm } : State) [] (0 + 1) (0 + 6) := ⟨e1, e2⟩
    have h3 := X.same.trans h2
    rw [List.append_nil] at h3
    exact h3.mono hc hs
  refine ⟨U, ?_, .threw T.heap.size, hrun, hend, Or.inr ⟨T.heap.size, rfl, cls, ce, locs, hx U hWs.alike f1 (fun q hq => f2 q hq (fun z hz => nomatch hz)), hce, hO.vm, hcl, hWs, hall, hf⟩⟩
  refine st1 _ ?_
  show Steps p.tables e below (T1.setTop { method := m, pc := pc + 3, locals := ls, stack := .ref T.heap.size :: rest, locked := none }) _
  jvm_step X₁.here [X₁.here.top, hexec, d3', Value.category]
  exact X₁.ldcStringW hexec (own := own) (text := text) (index := is) (a := sa) hown' hstr'.1 hstr'.2
    (g := { method := m, pc := pc + 4, locals := ls, stack := .ref T.heap.size :: .ref T.heap.size :: rest, locked := none }) rfl d4' _ hsteps
end Ends
section Bodies
variable {l : Launch}
theorem vx_ofW {y : MethodName} {ws ws' : List Cond} {rm : Room} {Pc : Array Value → State → Prop} {Qc : Array Value → State → Outcome → State → Prop} {XC : String → State → State → Prop} {mc ms : Nat} {free : Addr → Prop} {cc : ByteArray} {maxL : Nat} {ret : Option FieldType}
    (hy : plainName y.cls = true) (hw : ws = Cond.code y cc maxL ret :: ws')
    (body : ∀ p e s m args below meth c s₁, BodyLoose p l y (headSpec ws rm) cc maxL ret e s m args below meth c s₁ → c.maxLocals = maxL → (∀ x ∈ c.exceptionTable.toList, False) → Pc args s →
      W p l e (headSpec ws rm).room s m args below meth c s.heap [] 0 0 (vx_MQ below Qc XC args s mc ms free) (entryFrame m args maxL)) : vx_Met l y ws rm Pc Qc XC mc ms free := by
  refine MetFree.of_bodyS (code := cc) (maxLocals := maxL) (ret := ret) hy ?_ ?_
  · intro args s m h hn
    obtain ⟨meth, c, h1, h2, h3, h4, h5, h6, -, -⟩ := Cond.code_spec hn (atoms_spec (ws := ws) h _ (by rw [hw]; exact List.mem_cons_self))
    exact ⟨meth, c, h1, h2, h3, h4, h5, h6⟩
  · intro p e s m args below meth c s₁ B hml hP _
    have hh0 : s₁.heap = s.heap := by rw [B.state]; rfl
    have ht : ∀ x ∈ c.exceptionTable.toList, False := by
      obtain ⟨meth9, c9, h1, h2, -, -, -, -, h7, -⟩ := Cond.code_spec B.named (atoms_spec (ws := ws) B.pre _ (by rw [hw]; exact List.mem_cons_self))
      cases Option.some.inj (h1.symm.trans B.method)
      cases Option.some.inj (h2.symm.trans (Stand.of_body B).code)
      intro x hx
      rw [Array.isEmpty_iff.mp h7] at hx
      cases hx
    obtain ⟨t, a1, o, b1, b2, b3⟩ := body p e s m args below meth c s₁ B hml ht hP s₁ hh0 (Stand.of_body B)
    exact ⟨t, o, a1, b1, b2, b3⟩
/-- the table of a body with handlers -/
theorem vx_table {p : Program} {x y : MethodName} {S : Spec} {cc bytes : ByteArray} {maxL maxL' : Nat} {ret ret' : Option FieldType} {e : Env} {s s₁ : State} {m : MethodId} {args : Array Value} {below : List Frame} {meth : Method} {c : Code} {hh : List (Nat × Nat × Nat × Nat)}
    (B : BodyLoose p l y S cc maxL ret e s m args below meth c s₁) (h : (Cond.codeWith y bytes maxL' ret' hh).before args s = true) : c.exceptionTable.toList = tableOf hh := by
  obtain ⟨m9, meth9, c9, hn9, h1, h2, -, -, h6, -⟩ := Cond.codeWith_spec h
  cases Option.some.inj (hn9.symm.trans B.named)
  cases Option.some.inj (h1.symm.trans B.method)
  cases Option.some.inj (h2.symm.trans (Stand.of_body B).code)
  rw [← h6, table_eq]
end Bodies
end VXA
/-! ===== END ===== -/
/-! ===== BEGIN a static call of a method with an exception table ===== -/
section VXS
variable {p : Program} {l : Launch} {e : Env} {R : Room} {s : State} {m : MethodId} {args : Array Value} {below : List Frame} {meth : Method} {c : Code} {T : State} {H : Heap} {locs : List Loc} {cells slots : Nat}
abbrev vx_CSW (R : Room) (s : State) (args : Array Value) (own : String) (index : Nat) (y : MethodName) (bytes : ByteArray) (maxL : Nat) (ret : Option FieldType) (hh : List (Nat × Nat × Nat × Nat)) (ws : List Cond) (rm : Room) (mc ms n : Nat) : Prop :=
  (rm.cells = mc ∧ rm.slots = ms ∧ rm.frames + 1 ≤ R.frames ∧ 8 + (maxL + 11) + rm.locals ≤ R.locals ∧ (∀ w ∈ ws, ∀ (a' : Array Value) (U : State), s.WarmedH U.vm → w.before a' U = true) ∧ Cond.codeWith y bytes maxL ret hh ∈ ws) ∧
  (Cond.codeWith y bytes maxL ret hh).before args s = true ∧ (Cond.initialized y.cls).before args s = true ∧ (y.cls ≠ "java/lang/invoke/MethodHandle" ∧ y.cls ≠ "java/lang/invoke/VarHandle") ∧
  (∀ sig, parseMethodDescriptor y.desc = some sig → n = sig.parameters.length) ∧ (Cond.methodLink own index y).before args s = true ∧ (Cond.static y).before args s = true
theorem vx_cwSW {own : String} {index maxL mc ms : Nat} {y : MethodName} {bytes : ByteArray} {ret : Option FieldType} {hh : List (Nat × Nat × Nat × Nat)} {Ts ws ws' : List Cond} {rm : Room} (n : Nat) (ht : ∀ w ∈ Ts, w.before args s = true) (hT : GoodIn Ts (va_wsS own index y ws)) (hw : ws = Cond.codeWith y bytes maxL ret hh :: ws') (hrc : rm.cells = mc) (hrs : rm.slots = ms)
    (hd : y.cls ≠ "java/lang/invoke/MethodHandle" ∧ y.cls ≠ "java/lang/invoke/VarHandle" ∧ (parseMethodDescriptor y.desc).map (fun d => d.parameters.length) = some n) (hR : rm.frames + 1 ≤ R.frames ∧ 8 + (maxL + 11) + rm.locals ≤ R.locals) :
    vx_CSW R s args own index y bytes maxL ret hh ws rm mc ms n := by
  have ok : ∀ w ∈ va_wsS own index y ws, w.before args s = true := fun w h => ht w (hT w h).1
  have hG : GoodIn Ts ws := fun w h => hT w (by unfold va_wsS; exact List.mem_append_right _ h)
  have hc : Cond.codeWith y bytes maxL ret hh ∈ ws := by rw [hw]; exact List.mem_cons_self
  refine ⟨⟨hrc, hrs, hR.1, hR.2, pay_in ht hG, hc⟩, ht _ (hG _ hc).1, ok _ (by simp [va_wsS]), ⟨hd.1, hd.2.1⟩, fun sig h => ?_, ok _ (by simp [va_wsS]), ok _ (by simp [va_wsS])⟩
  have h2 := hd.2.2
  rw [h] at h2
  exact (Option.some.inj h2).symm
theorem vx_callSW (X : Stand p l e R s m args below meth c T locs cells slots) (hexec : p.tables.exec = Jvm.exec) {own : String} {index : Nat} {y : MethodName} {bytes : ByteArray} {maxL : Nat} {ret : Option FieldType} {hh : List (Nat × Nat × Nat × Nat)}
    (hown : s.vm.findClass own = some m.cls) (hlink : (Cond.methodLink own index y).before args s = true) (hstat : (Cond.static y).before args s = true) (hinit : (Cond.initialized y.cls).before args s = true)
    (hcode : (Cond.codeWith y bytes maxL ret hh).before args s = true) (hy : y.cls ≠ "java/lang/invoke/MethodHandle" ∧ y.cls ≠ "java/lang/invoke/VarHandle")
    {W9 : Nat} {Pre : Pt → Array Value → Prop} {Post : Pt → Array Value → Option Value → Pt → Prop} (hK : Back l R p e below s args y 3 W9 Pre Post)
    {g : JFrame} (hg : g.method = m) (hsize : g.locals.size = c.maxLocals) {argsL rest : List Value} (hlen : ∀ sig, parseMethodDescriptor y.desc = some sig → argsL.length = sig.parameters.length)
    (hstack : g.stack = argsL.reverse ++ rest) (hW : 2 * g.monitorRoom + (rest.map fun v => v.category).sum ≤ W9) (hdg : decode c.code g.pc = .ok (.invokestatic index, 3))
    (hpre : ∀ vm₁, s.WarmedH vm₁ → Pre ⟨T.setVm vm₁, locs, cells, slots⟩ argsL.toArray) :
    ∃ (v : Option Value) (vm₁ : Vm) (B : Pt), s.WarmedH vm₁ ∧ Stand p l e R s m args below meth c B.U B.locs B.cells B.slots ∧ Post ⟨T.setVm vm₁, locs, cells, slots⟩ argsL.toArray v B ∧
      ∀ target, Steps p.tables e below (B.U.setTop { g with pc := g.pc + 3, stack := v.toList ++ rest }) target → Steps p.tables e below (T.setTop g) target := by
  obtain ⟨mk, methM, cM, hnamed, hmethM, -, -, -, -, -, -, hsigM⟩ := Cond.codeWith_spec hcode
  have hstatic : methM.isStatic = true := Cond.static_spec hnamed hmethM hstat
  obtain ⟨kP, hkP, -⟩ := className_of_methodNamed hnamed
  have hinitP : kP.init = .initialized := Cond.initialized_spec (findClass_of_methodNamed hnamed) hkP hinit
  obtain ⟨vm₁, X₁, hstep₁⟩ := X.invokestatic hexec hown hlink hnamed hmethM hstatic hkP hinitP hy (g := g) hg (argsL := argsL) (rest := rest) (hlen _ hsigM) hstack hdg
  obtain ⟨v, B, X', hpost, hsteps⟩ := hK m meth c ⟨T.setVm vm₁, locs, cells, slots⟩ { g with stack := rest } (.invokestatic index) mk argsL.toArray X₁ hg hsize hdg hW (X₁.named hnamed) (hpre vm₁ X₁.warmed)
  exact ⟨v, vm₁, B, X₁.warmed, X', hpost, fun target h => hstep₁ _ fun acts => by rw [doInvoke_state]; exact hsteps.trans h⟩
theorem vx_runSW {y : MethodName} {bytes cc : ByteArray} {maxL nL mc ms n index : Nat} {ret : Option FieldType} {hh : List (Nat × Nat × Nat × Nat)} {ws : List Cond} {rm : Room} {Pc : Array Value → State → Prop} {Qc : Array Value → State → Outcome → State → Prop} {free : Addr → Prop} {Ts : List Cond} {own : String} {As rest : List Value} {g : JFrame}
    (S : CallFix p m c cc nL s args Ts own) (hM : Met l y ws rm Pc Qc mc ms free) (cw : vx_CSW R s args own index y bytes maxL ret hh ws rm mc ms n) (hp : PreS s H Pc As)
    (hg : g.method = m) (hn : As.length = n) (hsize : g.locals.size = nL) (hstack : g.stack = As.reverse ++ rest) (hW : 2 * g.monitorRoom + (rest.map fun v => v.category).sum ≤ 8) (hdg : decode cc g.pc = .ok (.invokestatic index, 3)) (hf : cells + mc ≤ R.cells ∧ slots + ms ≤ R.slots) :
    va_Run p l e R s m args below meth c H locs cells slots mc ms g rest (Qc As.toArray) (free) := by
  obtain ⟨⟨hrc, hrs, hfr, hlo, hws, hcw⟩, hcode, hini, hy, hlen, hl, hstt⟩ := cw
  have hK : Back l R p e below s args y 3 8 (PreOf R mc ms Pc) (PostOf Qc mc ms free) := va_backW (hh := hh) (bytes := bytes) (maxL := maxL) (ret := ret) hM hp.1 hrc hrs hfr hlo hws hcw (fun a' U hW => word_at hW (Or.inl (by first | rfl | simp [Cond.onTables, Cond.keeps, Cond.steady])) hini)
  obtain ⟨hx, hb, hml, ho, -⟩ := S
  intro T hT X
  obtain ⟨v, vm₁, ⟨U', l2, c2, s2⟩, hW₁, X', ⟨g', mk, t, L, e1, e2, hq, h1, hL, h2, h3⟩, st⟩ := vx_callSW X hx (hh := hh) (bytes := bytes) (maxL := maxL) (ret := ret) ho hl hstt hini hcode hy hK hg (hsize.trans hml.symm) (argsL := As) (rest := rest) (fun sig h => hn.trans (hlen sig h)) hstack hW (by rw [hb]; exact hdg)
    (fun vm₁ hW₁ => ⟨hf.1, hf.2, hp.2 (T.setVm vm₁) hT hW₁⟩)
  dsimp only [Pt.U, Pt.locs, Pt.cells, Pt.slots] at X' e1 e2 h1 h2 h3 st
  subst h1; subst h2; subst h3
  exact ⟨v, (T.setVm vm₁).calling g' mk As.toArray, t, U', L, hT, X', hL, e1, e2, hq, st⟩
/-- not caught here, past rows that name other classes: it goes on to the caller -/
theorem vx_outP {p : Program} {l : Launch} {e : Env} {R : Room} {s : State} {m : MethodId} {args : Array Value} {below : List Frame} {meth : Method} {c : Code} {H : Heap} {locs : List Loc} {cells slots : Nat} {free : Addr → Prop} {ls : Array Slot} {rest : List Value} {Qc : Array Value → State → Outcome → State → Prop} {XC : String → State → State → Prop}
    {pc : Nat} {own E : String} {ce : Cell} {q : Addr} {mc ms : Nat} (hown : s.vm.findClass own = some m.cls) (hlocks : meth.locks = false)
    (hpass : ∀ z ∈ c.exceptionTable.toList, covers z pc = false ∨ (z.catchType ≠ 0 ∧ ∃ nm : String, (Cond.classLink own z.catchType nm).before args s = true ∧ va_Nc E nm s)) (hcell : H[q]? = some ce) (hv : ce.vm = .none) (hcl : s.vm.findClass E = some ce.cls)
    (hx : ∀ t : State, t.heap = H → s.vm.Alike t.vm → XC E s t) (hf : ∀ z ∈ locs, free z.base) (hc : cells ≤ mc) (hs : slots ≤ ms) :
    vx_W p l e R s m args below meth c H locs cells slots (vx_MQ below Qc XC args s mc ms free) (F0 m pc ls rest) q := by
  intro T hT X
  have hpl : e.platform.magicAccessors = ({} : Platform).magicAccessors := by rw [X.admits.platform]
  obtain ⟨vm', hW', X', st⟩ := X.outThrough hlocks q (g := F0 m pc ls rest) rfl rfl rfl (cell := ce) (by rw [hT]; exact hcell) (by rw [hv]; rfl)
    (by obtain ⟨k9, h9, -⟩ := Vm.findClass_spec hcl; exact ⟨k9, h9⟩) (fun z hz => by
      rcases hpass z hz with h | ⟨hz0, nm, hl1, hn1⟩
      · exact Or.inl h
      · obtain ⟨c6, hc6, hcl6⟩ := Cond.classLink_spec hown hl1 e.platform hpl
        obtain ⟨a8, b8, h1, h2, h3⟩ := hn1
        cases Option.some.inj (h1.symm.trans hcl)
        cases Option.some.inj (h2.symm.trans hc6)
        exact Or.inr ⟨hz0, _, hcl6, h3⟩)
  obtain ⟨g₀, hfr⟩ := X'.frames_eq
  have hcell9 : ((T.setVm vm').setFrames (.throwing q :: below)).heap[q]? = some ce := by
    show T.heap[q]? = some ce
    rw [hT]; exact hcell
  have hend : Ended ((T.setVm vm').setFrames (.throwing q :: below)) below (.threw q) := State.frames_setFrames _ (State.cur_lt_of_frames hfr)
  refine ⟨(T.setVm vm').setFrames (.throwing q :: below), ?_, .threw q, X'.here.running, hend, Or.inr ⟨q, rfl, E, ce, locs, hx _ hT (X'.ends _).1.alike, hcell9, hv, hcl, (X'.ends _).1, (X'.ends _).2.mono hc hs, hf⟩⟩
  rw [X.pushThrowing_eq]
  exact st
/-- a thing of a world lies in the heap -/
theorem vx_lt {D : va_G} {cl : List vw_C} {ws : va_W} {H1 : Heap} (h : va_P D cl ws H1) {k : Nat} {q : Nat × va_E} (hk : ws[k]? = some q) : q.1 < H1.size := (h k q hk).lt
end VXS
/-! ===== END ===== -/
/-! ===== BEGIN methods with a table of their own: called by a name, returning or throwing ===== -/
section VXH
/-! vx_backW, vx_callVX, vx_callSX, vx_callVW, vx_runVW, vx_runVX, vx_runSX, vx_ofWH follow the same proofs as their sisters above (Free/Laws.lean, Shelf42/LK1.lean); vx_outP calls Shelf42/NT130.lean (outThrough). -/
section
variable {l : Launch} {R : Room} {p : Program} {e : Env} {below : List Frame} {s : State} {sargs : Array Value} {y : MethodName} {len W9 : Nat}
theorem vx_backW {ws : List Cond} {rm : Room} {Pc : Array Value → State → Prop} {Qc : Array Value → State → Outcome → State → Prop} {XC : String → State → State → Prop} {mc ms : Nat} {free : Addr → Prop} {bytes : ByteArray} {maxL : Nat} {ret : Option FieldType} {hh : List (Nat × Nat × Nat × Nat)}
    (hM : vx_Met l y ws rm Pc Qc XC mc ms free) (hblind : FrameBlind Pc) (hrc : rm.cells = mc) (hrs : rm.slots = ms)
    (hframes : rm.frames + 1 ≤ R.frames) (hlocals : W9 + (maxL + 11) + rm.locals ≤ R.locals)
    (hws : ∀ w ∈ ws, ∀ a' U, s.WarmedH U.vm → w.before a' U = true) (hcode : Cond.codeWith y bytes maxL ret hh ∈ ws) (hinit : ∀ a' U, s.WarmedH U.vm → (Cond.initialized y.cls).before a' U = true) :
    vx_Back l R p e below s sargs y len W9 (PreOf R mc ms Pc) (PostOf Qc mc ms free) (vx_Post XC mc ms free) := by
  intro m meth c A g ig mk a X hg hsize hdg hW hn hp
  have h1 : (headSpec ws rm).pre.before a A.U = true := atoms_intro fun w hw => hws w hw _ _ X.warmed
  have h2 : (Cond.codeWith y bytes maxL ret hh).before a A.U = true := hws _ hcode _ _ X.warmed
  have h3 : (Cond.initialized y.cls).before a A.U = true := hinit _ _ X.warmed
  have h4 : A.cells + (headSpec ws rm).room.cells ≤ R.cells := by rw [show (headSpec ws rm).room.cells = mc from hrc]; exact hp.1
  have h5 : A.slots + (headSpec ws rm).room.slots ≤ R.slots := by rw [show (headSpec ws rm).room.slots = ms from hrs]; exact hp.2.1
  have hPc : Pc a (A.U.calling g mk a) := hblind _ _ _ _ hp.2.2
  obtain ⟨U, Ls, c0, s0⟩ := A
  dsimp only [Pt.U, Pt.locs, Pt.cells, Pt.slots] at h1 h2 h3 h4 h5 X hn hPc ⊢
  obtain ⟨m9, methY, cY, hn9, hmY, hcY, -, hlY, -⟩ := Cond.codeWith_spec h2
  cases Option.some.inj (hn9.symm.trans hn)
  obtain ⟨kY, hkY, -⟩ := className_of_methodNamed hn
  have hinitY : kY.init = .initialized := Cond.initialized_spec (findClass_of_methodNamed hn) hkY h3
  have h : At U g.method c below := by rw [hg]; exact X.here
  have hlocals9 : W9 + (maxL + 11) + (headSpec ws rm).room.locals ≤ R.locals := hlocals
  have happ : (headSpec ws rm).appliesLoose y e.platform (U.calling g mk a) = true :=
    Spec.appliesLoose_calling (g := g) h hdg hn hkY hinitY
      (X.room_calling (g := g) (R' := (headSpec ws rm).room) hsize hmY hcY hframes (by rw [hlY]; omega) h4 h5) h1
  obtain ⟨mid, hmid⟩ := h.above
  have hfr : (U.setTop g).frames = (.java g :: mid) ++ below := by rw [State.frames_setTop' g h.top, hmid]; rfl
  obtain ⟨o, s₂, hsteps, -, hend, hq⟩ := Steps.callFree hM p X.admits X.cas X.clock (acts := []) hfr happ hPc trivial
  have hq' : vx_Q Qc XC mc ms free a (U.calling g mk a) o s₂ := hq
  rw [State.frames_setTop' g h.top] at hend
  obtain ⟨g₀, hg0⟩ := Option.isSome_iff_exists.mp h.top
  obtain ⟨r, hr⟩ := State.topJava?_eq_some.mp hg0
  have hr' : (({ U with heap := s₂.heap, slotsUsed := s₂.slotsUsed } : State).setVm s₂.vm).frames = .java g₀ :: r := hr
  rcases hq' with ⟨hqc, L, hfe, hL⟩ | ⟨q, rfl, E, ce, L, hx, hce, hcv, hcl, hW₂, hsm, hL⟩
  · obtain ⟨⟨v, rfl⟩, hW₂, e2, q2, q3, q4, q5, q6⟩ := id hfe
    have e3 : s₂ = ({ (U.calling g mk a).setFrames s₂.frames with heap := s₂.heap, slotsUsed := s₂.slotsUsed } : State).setVm s₂.vm := by
      have : s₂ = ({ s₂ with vm := (U.calling g mk a).vm } : State).setVm s₂.vm := rfl
      rw [e2] at this
      exact this
    obtain ⟨c₂, i₂, len₂, hc₂, hd₂, hf₂⟩ := hend
    have hW' : U.WarmedH s₂.vm := hW₂
    have hcc : c₂ = c := by
      have h1 : s₂.code? g.method = U.code? g.method := by
        rw [State.code?_eq, State.code?_eq, hW'.alike.method?]
      exact Option.some.inj (hc₂.symm.trans (h1.trans h.code))
    subst hcc
    have hlen : len₂ = len := by rw [hdg] at hd₂; cases hd₂; rfl
    subst hlen
    have hs₂ : s₂ = (({ U with heap := s₂.heap, slotsUsed := s₂.slotsUsed } : State).setVm s₂.vm).setTop { g with pc := g.pc + len₂, stack := v.toList ++ g.stack } := by
      refine e3.trans ?_
      rw [hf₂, State.calling_eq h.top, State.setFrames_setFrames, State.setTop_of_frames _ hr', hr]
      rfl
    have hsame : U.sameButNew ({ U with heap := s₂.heap, slotsUsed := s₂.slotsUsed } : State) L mc ms := by
      refine ⟨?_, q2, q3, q4, q5, q6⟩
      obtain ⟨t, ht, -⟩ := State.frames_cons hr
      show ({ U with heap := s₂.heap, slotsUsed := s₂.slotsUsed } : State) = { U.setFrames U.frames with heap := s₂.heap, slotsUsed := s₂.slotsUsed }
      rw [State.setFrames_self ht]
    subst hg
    refine Or.inl ⟨v, ⟨(({ U with heap := s₂.heap, slotsUsed := s₂.slotsUsed } : State).setVm s₂.vm), Ls ++ L, c0 + mc, s0 + ms⟩,
      ⟨X.admits, X.cas, X.clock, X.frames, X.room, X.hears, X.method, X.code, (X.here.setHeapUsed s₂.heap s₂.slotsUsed).setVm hW'.alike, X.tail, State.WarmedH.trans X.warmed hW', X.limits, X.bytes, X.same.trans (hsame.setVm s.vm)⟩,
      ⟨g, mk, s₂, L, rfl, rfl, hqc, rfl, hL, rfl, rfl⟩, ?_⟩
    show Steps p.tables e below _ ((({ U with heap := s₂.heap, slotsUsed := s₂.slotsUsed } : State).setVm s₂.vm).setTop { g with pc := g.pc + len₂, stack := v.toList ++ g.stack })
    rw [← hs₂]
    exact hsteps
  · obtain ⟨e2, q2, q3, q4, q5, q6⟩ := id hsm
    have e3 : s₂ = ({ (U.calling g mk a).setFrames s₂.frames with heap := s₂.heap, slotsUsed := s₂.slotsUsed } : State).setVm s₂.vm := by
      have : s₂ = ({ s₂ with vm := (U.calling g mk a).vm } : State).setVm s₂.vm := rfl
      rw [e2] at this
      exact this
    have hf₂ : s₂.frames = .throwing q :: .java g :: U.frames.tail := hend
    have hW' : U.WarmedH s₂.vm := hW₂
    have hs₂ : s₂ = ((({ U with heap := s₂.heap, slotsUsed := s₂.slotsUsed } : State).setVm s₂.vm).setTop g).pushFrame (.throwing q) := by
      refine e3.trans ?_
      rw [hf₂, State.calling_eq h.top, State.setFrames_setFrames, State.pushFrame, State.frames_setTop _ hr', State.setTop_of_frames _ hr', State.setFrames_setFrames, hr]
      rfl
    have hsame : U.sameButNew ({ U with heap := s₂.heap, slotsUsed := s₂.slotsUsed } : State) L mc ms := by
      refine ⟨?_, q2, q3, q4, q5, q6⟩
      obtain ⟨t, ht, -⟩ := State.frames_cons hr
      show ({ U with heap := s₂.heap, slotsUsed := s₂.slotsUsed } : State) = { U.setFrames U.frames with heap := s₂.heap, slotsUsed := s₂.slotsUsed }
      rw [State.setFrames_self ht]
    subst hg
    refine Or.inr ⟨q, ⟨(({ U with heap := s₂.heap, slotsUsed := s₂.slotsUsed } : State).setVm s₂.vm), Ls ++ L, c0 + mc, s0 + ms⟩,
      ⟨X.admits, X.cas, X.clock, X.frames, X.room, X.hears, X.method, X.code, (X.here.setHeapUsed s₂.heap s₂.slotsUsed).setVm hW'.alike, X.tail, State.WarmedH.trans X.warmed hW', X.limits, X.bytes, X.same.trans (hsame.setVm s.vm)⟩,
      ⟨g, mk, s₂, L, E, ce, rfl, rfl, hx, hce, hcv, hcl, rfl, hL, rfl, rfl⟩, ?_⟩
    show Steps p.tables e below _ (((({ U with heap := s₂.heap, slotsUsed := s₂.slotsUsed } : State).setVm s₂.vm).setTop g).pushFrame (.throwing q))
    rw [← hs₂]
    exact hsteps
end
variable {p : Program} {l : Launch} {e : Env} {R : Room} {s : State} {m : MethodId} {args : Array Value} {below : List Frame} {meth : Method} {c : Code} {T : State} {H : Heap} {locs : List Loc} {cells slots : Nat}
theorem vx_callVX (X : Stand p l e R s m args below meth c T locs cells slots) (hexec : p.tables.exec = Jvm.exec) {own C : String} {index : Nat} {y : MethodName} {bytes : ByteArray} {maxL : Nat} {ret : Option FieldType} {hh : List (Nat × Nat × Nat × Nat)}
    (hown : s.vm.findClass own = some m.cls) (hlink : (Cond.methodLink own index y).before args s = true) (hinst : (Cond.instanceMethod y).before args s = true) (hsel : (Cond.selects C y y).before args s = true)
    (hcode : (Cond.codeWith y bytes maxL ret hh).before args s = true) (hy : y.cls ≠ "java/lang/invoke/MethodHandle" ∧ y.cls ≠ "java/lang/invoke/VarHandle")
    {W9 : Nat} {Pre : Pt → Array Value → Prop} {Post : Pt → Array Value → Option Value → Pt → Prop} {PostX : Pt → Array Value → Addr → Pt → Prop} (hK : vx_Back l R p e below s args y 3 W9 Pre Post PostX)
    {b : Addr} {cellB : Cell} (hcell : T.heap[b]? = some cellB) (hobj : cellB.vm.isStatics = false) (hcls : s.vm.findClass C = some cellB.cls)
    {g : JFrame} (hg : g.method = m) (hsize : g.locals.size = c.maxLocals) {argsL rest : List Value} (hlen : ∀ sig, parseMethodDescriptor y.desc = some sig → argsL.length = sig.parameters.length)
    (hstack : g.stack = argsL.reverse ++ .ref b :: rest) (hW : 2 * g.monitorRoom + (rest.map fun v => v.category).sum ≤ W9) (hdg : decode c.code g.pc = .ok (.invokevirtual index, 3))
    (hpre : ∀ vm₁, s.WarmedH vm₁ → Pre ⟨T.setVm vm₁, locs, cells, slots⟩ (Value.ref b :: argsL).toArray) :
    (∃ (v : Option Value) (vm₁ : Vm) (B : Pt), s.WarmedH vm₁ ∧ Stand p l e R s m args below meth c B.U B.locs B.cells B.slots ∧ Post ⟨T.setVm vm₁, locs, cells, slots⟩ (Value.ref b :: argsL).toArray v B ∧
      ∀ target, Steps p.tables e below (B.U.setTop { g with pc := g.pc + 3, stack := v.toList ++ rest }) target → Steps p.tables e below (T.setTop g) target) ∨
    (∃ (q : Addr) (vm₁ : Vm) (B : Pt), s.WarmedH vm₁ ∧ Stand p l e R s m args below meth c B.U B.locs B.cells B.slots ∧ PostX ⟨T.setVm vm₁, locs, cells, slots⟩ (Value.ref b :: argsL).toArray q B ∧
      Steps p.tables e below (T.setTop g) ((B.U.setTop { g with stack := rest }).pushFrame (.throwing q))) := by
  obtain ⟨mk, methM, hnamed, hmethM, hstM, habM⟩ := Cond.instanceMethod_spec hinst
  obtain ⟨m8, methM', cM, hn8, hmethM', -, -, -, -, -, -, hsigM⟩ := Cond.codeWith_spec hcode
  cases Option.some.inj (hn8.symm.trans hnamed)
  cases hmethM.symm.trans hmethM'
  obtain ⟨c2, r2, m2, q1, q2, q3, q4, kP, hkP, hkPi⟩ := Cond.selects_spec hsel
  cases hcls.symm.trans q1
  cases (State.methodFound?_of_named hnamed hy).symm.trans q2
  cases hnamed.symm.trans q3
  have hselP : selectMethod e.platform s.vm cellB.cls mk = .method mk := by rw [Launch.admits_selectMethod X.admits]; exact q4
  obtain ⟨vm₁, X₁, hstep₁⟩ := X.invokevirtual hexec hown hlink hnamed hmethM hstM hkP hkPi hy (a := b) (cell := cellB) hcell
    (fun z h => by rw [h] at hobj; cases hobj) hselP hmethM habM hkP hkPi (g := g) hg (argsL := argsL) (rest := rest) (hlen _ hsigM) hstack hdg
  rcases hK m meth c ⟨T.setVm vm₁, locs, cells, slots⟩ { g with stack := rest } (.invokevirtual index) mk (Value.ref b :: argsL).toArray X₁ hg hsize hdg hW (X₁.named hnamed) (hpre vm₁ X₁.warmed) with ⟨v, B, X', hpost, hsteps⟩ | ⟨q, B, X', hpost, hsteps⟩
  · exact Or.inl ⟨v, vm₁, B, X₁.warmed, X', hpost, fun target h => hstep₁ _ fun acts => by rw [doInvoke_state]; exact hsteps.trans h⟩
  · exact Or.inr ⟨q, vm₁, B, X₁.warmed, X', hpost, hstep₁ _ fun acts => by rw [doInvoke_state]; exact hsteps⟩
theorem vx_callSX (X : Stand p l e R s m args below meth c T locs cells slots) (hexec : p.tables.exec = Jvm.exec) {own : String} {index : Nat} {y : MethodName} {bytes : ByteArray} {maxL : Nat} {ret : Option FieldType} {hh : List (Nat × Nat × Nat × Nat)}
    (hown : s.vm.findClass own = some m.cls) (hlink : (Cond.methodLink own index y).before args s = true) (hstat : (Cond.static y).before args s = true) (hinit : (Cond.initialized y.cls).before args s = true)
    (hcode : (Cond.codeWith y bytes maxL ret hh).before args s = true) (hy : y.cls ≠ "java/lang/invoke/MethodHandle" ∧ y.cls ≠ "java/lang/invoke/VarHandle")
    {W9 : Nat} {Pre : Pt → Array Value → Prop} {Post : Pt → Array Value → Option Value → Pt → Prop} {PostX : Pt → Array Value → Addr → Pt → Prop} (hK : vx_Back l R p e below s args y 3 W9 Pre Post PostX)
    {g : JFrame} (hg : g.method = m) (hsize : g.locals.size = c.maxLocals) {argsL rest : List Value} (hlen : ∀ sig, parseMethodDescriptor y.desc = some sig → argsL.length = sig.parameters.length)
    (hstack : g.stack = argsL.reverse ++ rest) (hW : 2 * g.monitorRoom + (rest.map fun v => v.category).sum ≤ W9) (hdg : decode c.code g.pc = .ok (.invokestatic index, 3))
    (hpre : ∀ vm₁, s.WarmedH vm₁ → Pre ⟨T.setVm vm₁, locs, cells, slots⟩ argsL.toArray) :
    (∃ (v : Option Value) (vm₁ : Vm) (B : Pt), s.WarmedH vm₁ ∧ Stand p l e R s m args below meth c B.U B.locs B.cells B.slots ∧ Post ⟨T.setVm vm₁, locs, cells, slots⟩ argsL.toArray v B ∧
      ∀ target, Steps p.tables e below (B.U.setTop { g with pc := g.pc + 3, stack := v.toList ++ rest }) target → Steps p.tables e below (T.setTop g) target) ∨
    (∃ (q : Addr) (vm₁ : Vm) (B : Pt), s.WarmedH vm₁ ∧ Stand p l e R s m args below meth c B.U B.locs B.cells B.slots ∧ PostX ⟨T.setVm vm₁, locs, cells, slots⟩ argsL.toArray q B ∧
      Steps p.tables e below (T.setTop g) ((B.U.setTop { g with stack := rest }).pushFrame (.throwing q))) := by
  obtain ⟨mk, methM, cM, hnamed, hmethM, -, -, -, -, -, -, hsigM⟩ := Cond.codeWith_spec hcode
  have hstatic : methM.isStatic = true := Cond.static_spec hnamed hmethM hstat
  obtain ⟨kP, hkP, -⟩ := className_of_methodNamed hnamed
  have hinitP : kP.init = .initialized := Cond.initialized_spec (findClass_of_methodNamed hnamed) hkP hinit
  obtain ⟨vm₁, X₁, hstep₁⟩ := X.invokestatic hexec hown hlink hnamed hmethM hstatic hkP hinitP hy (g := g) hg (argsL := argsL) (rest := rest) (hlen _ hsigM) hstack hdg
  rcases hK m meth c ⟨T.setVm vm₁, locs, cells, slots⟩ { g with stack := rest } (.invokestatic index) mk argsL.toArray X₁ hg hsize hdg hW (X₁.named hnamed) (hpre vm₁ X₁.warmed) with ⟨v, B, X', hpost, hsteps⟩ | ⟨q, B, X', hpost, hsteps⟩
  · exact Or.inl ⟨v, vm₁, B, X₁.warmed, X', hpost, fun target h => hstep₁ _ fun acts => by rw [doInvoke_state]; exact hsteps.trans h⟩
  · exact Or.inr ⟨q, vm₁, B, X₁.warmed, X', hpost, hstep₁ _ fun acts => by rw [doInvoke_state]; exact hsteps⟩
theorem vx_callVW (X : Stand p l e R s m args below meth c T locs cells slots) (hexec : p.tables.exec = Jvm.exec) {own C : String} {index : Nat} {y : MethodName} {bytes : ByteArray} {maxL : Nat} {ret : Option FieldType} {hh : List (Nat × Nat × Nat × Nat)}
    (hown : s.vm.findClass own = some m.cls) (hlink : (Cond.methodLink own index y).before args s = true) (hinst : (Cond.instanceMethod y).before args s = true) (hsel : (Cond.selects C y y).before args s = true)
    (hcode : (Cond.codeWith y bytes maxL ret hh).before args s = true) (hy : y.cls ≠ "java/lang/invoke/MethodHandle" ∧ y.cls ≠ "java/lang/invoke/VarHandle")
    {W9 : Nat} {Pre : Pt → Array Value → Prop} {Post : Pt → Array Value → Option Value → Pt → Prop} (hK : Back l R p e below s args y 3 W9 Pre Post)
    {b : Addr} {cellB : Cell} (hcell : T.heap[b]? = some cellB) (hobj : cellB.vm.isStatics = false) (hcls : s.vm.findClass C = some cellB.cls)
    {g : JFrame} (hg : g.method = m) (hsize : g.locals.size = c.maxLocals) {argsL rest : List Value} (hlen : ∀ sig, parseMethodDescriptor y.desc = some sig → argsL.length = sig.parameters.length)
    (hstack : g.stack = argsL.reverse ++ .ref b :: rest) (hW : 2 * g.monitorRoom + (rest.map fun v => v.category).sum ≤ W9) (hdg : decode c.code g.pc = .ok (.invokevirtual index, 3))
    (hpre : ∀ vm₁, s.WarmedH vm₁ → Pre ⟨T.setVm vm₁, locs, cells, slots⟩ (Value.ref b :: argsL).toArray) :
    ∃ (v : Option Value) (vm₁ : Vm) (B : Pt), s.WarmedH vm₁ ∧ Stand p l e R s m args below meth c B.U B.locs B.cells B.slots ∧ Post ⟨T.setVm vm₁, locs, cells, slots⟩ (Value.ref b :: argsL).toArray v B ∧
      ∀ target, Steps p.tables e below (B.U.setTop { g with pc := g.pc + 3, stack := v.toList ++ rest }) target → Steps p.tables e below (T.setTop g) target := by
  obtain ⟨mk, methM, hnamed, hmethM, hstM, habM⟩ := Cond.instanceMethod_spec hinst
  obtain ⟨m8, methM', cM, hn8, hmethM', -, -, -, -, -, -, hsigM⟩ := Cond.codeWith_spec hcode
  cases Option.some.inj (hn8.symm.trans hnamed)
  cases hmethM.symm.trans hmethM'
  obtain ⟨c2, r2, m2, q1, q2, q3, q4, kP, hkP, hkPi⟩ := Cond.selects_spec hsel
  cases hcls.symm.trans q1
  cases (State.methodFound?_of_named hnamed hy).symm.trans q2
  cases hnamed.symm.trans q3
  have hselP : selectMethod e.platform s.vm cellB.cls mk = .method mk := by rw [Launch.admits_selectMethod X.admits]; exact q4
  obtain ⟨vm₁, X₁, hstep₁⟩ := X.invokevirtual hexec hown hlink hnamed hmethM hstM hkP hkPi hy (a := b) (cell := cellB) hcell
    (fun z h => by rw [h] at hobj; cases hobj) hselP hmethM habM hkP hkPi (g := g) hg (argsL := argsL) (rest := rest) (hlen _ hsigM) hstack hdg
  obtain ⟨v, B, X', hpost, hsteps⟩ := hK m meth c ⟨T.setVm vm₁, locs, cells, slots⟩ { g with stack := rest } (.invokevirtual index) mk (Value.ref b :: argsL).toArray X₁ hg hsize hdg hW (X₁.named hnamed) (hpre vm₁ X₁.warmed)
  exact ⟨v, vm₁, B, X₁.warmed, X', hpost, fun target h => hstep₁ _ fun acts => by rw [doInvoke_state]; exact hsteps.trans h⟩
abbrev vx_CVW (R : Room) (s : State) (args : Array Value) (own C : String) (index : Nat) (y : MethodName) (bytes : ByteArray) (maxL : Nat) (ret : Option FieldType) (hh : List (Nat × Nat × Nat × Nat)) (ws : List Cond) (rm : Room) (mc ms n : Nat) : Prop :=
  (rm.cells = mc ∧ rm.slots = ms ∧ rm.frames + 1 ≤ R.frames ∧ 8 + (maxL + 11) + rm.locals ≤ R.locals ∧ (∀ w ∈ ws, ∀ (a' : Array Value) (U : State), s.WarmedH U.vm → w.before a' U = true) ∧ Cond.codeWith y bytes maxL ret hh ∈ ws) ∧
  (Cond.codeWith y bytes maxL ret hh).before args s = true ∧ (Cond.initialized y.cls).before args s = true ∧ (y.cls ≠ "java/lang/invoke/MethodHandle" ∧ y.cls ≠ "java/lang/invoke/VarHandle") ∧
  (∀ sig, parseMethodDescriptor y.desc = some sig → n = sig.parameters.length) ∧ (Cond.methodLink own index y).before args s = true ∧ (Cond.instanceMethod y).before args s = true ∧ (Cond.selects C y y).before args s = true
theorem vx_cwVW {own C : String} {index maxL mc ms : Nat} {y : MethodName} {bytes : ByteArray} {ret : Option FieldType} {hh : List (Nat × Nat × Nat × Nat)} {Ts ws ws' : List Cond} {rm : Room} (n : Nat) (ht : ∀ w ∈ Ts, w.before args s = true) (hT : GoodIn Ts (wsV own index C y ws)) (hw : ws = Cond.codeWith y bytes maxL ret hh :: ws') (hrc : rm.cells = mc) (hrs : rm.slots = ms)
    (hd : y.cls = C ∧ y.cls ≠ "java/lang/invoke/MethodHandle" ∧ y.cls ≠ "java/lang/invoke/VarHandle" ∧ (parseMethodDescriptor y.desc).map (fun d => d.parameters.length) = some n) (hR : rm.frames + 1 ≤ R.frames ∧ 8 + (maxL + 11) + rm.locals ≤ R.locals) :
    vx_CVW R s args own C index y bytes maxL ret hh ws rm mc ms n := by
  obtain ⟨hC, hd⟩ := hd
  subst hC
  have ok : ∀ w ∈ wsV own index y.cls y ws, w.before args s = true := fun w h => ht w (hT w h).1
  have hG : GoodIn Ts ws := fun w h => hT w (by unfold wsV; exact List.mem_append_right _ h)
  have hc : Cond.codeWith y bytes maxL ret hh ∈ ws := by rw [hw]; exact List.mem_cons_self
  refine ⟨⟨hrc, hrs, hR.1, hR.2, pay_in ht hG, hc⟩, ht _ (hG _ hc).1, ok _ (by simp [wsV]), ⟨hd.1, hd.2.1⟩, fun sig h => ?_, ok _ (by simp [wsV]), ok _ (by simp [wsV]), ok _ (by simp [wsV])⟩
  have h2 := hd.2.2
  rw [h] at h2
  exact (Option.some.inj h2).symm
theorem vx_runVW {y : MethodName} {bytes cc : ByteArray} {maxL nL mc ms n index : Nat} {ret : Option FieldType} {hh : List (Nat × Nat × Nat × Nat)} {ws : List Cond} {rm : Room} {Pc : Array Value → State → Prop} {Qc : Array Value → State → Outcome → State → Prop} {free : Addr → Prop} {Ts : List Cond} {own C : String} {b : Addr} {As rest : List Value} {g : JFrame}
    (S : CallFix p m c cc nL s args Ts own) (hM : Met l y ws rm Pc Qc mc ms free) (cw : vx_CVW R s args own C index y bytes maxL ret hh ws rm mc ms n) (hp : PreV s H C b Pc As)
    (hg : g.method = m) (hn : As.length = n) (hsize : g.locals.size = nL) (hstack : g.stack = As.reverse ++ .ref b :: rest) (hW : 2 * g.monitorRoom + (rest.map fun v => v.category).sum ≤ 8) (hdg : decode cc g.pc = .ok (.invokevirtual index, 3)) (hf : cells + mc ≤ R.cells ∧ slots + ms ≤ R.slots) :
    va_Run p l e R s m args below meth c H locs cells slots mc ms g rest (Qc (Value.ref b :: As).toArray) free := by
  obtain ⟨⟨hrc, hrs, hfr, hlo, hws, hcw⟩, hcode, hini, hy, hlen, hl, hin, hse⟩ := cw
  have hK : Back l R p e below s args y 3 8 (PreOf R mc ms Pc) (PostOf Qc mc ms free) := va_backW (hh := hh) (bytes := bytes) (maxL := maxL) (ret := ret) hM hp.1 hrc hrs hfr hlo hws hcw (fun a' U hW => word_at hW (Or.inl (by first | rfl | simp [Cond.onTables, Cond.keeps, Cond.steady])) hini)
  obtain ⟨hx, hb, hml, ho, -⟩ := S
  obtain ⟨-, ⟨cellB, hcB, hoB, hclB⟩, hPc⟩ := hp
  intro T hT X
  obtain ⟨v, vm₁, ⟨U', l2, c2, s2⟩, hW₁, X', ⟨g', mk, t, L, e1, e2, hq, h1, hL, h2, h3⟩, st⟩ := vx_callVW X hx (C := C) (hh := hh) (bytes := bytes) (maxL := maxL) (ret := ret) ho hl hin hse hcode hy hK (by rw [hT]; exact hcB) hoB hclB hg (hsize.trans hml.symm) (argsL := As) (rest := rest) (fun sig h => hn.trans (hlen sig h)) hstack hW (by rw [hb]; exact hdg)
    (fun vm₁ hW₁ => ⟨hf.1, hf.2, hPc (T.setVm vm₁) hT hW₁⟩)
  dsimp only [Pt.U, Pt.locs, Pt.cells, Pt.slots] at X' e1 e2 h1 h2 h3 st
  subst h1; subst h2; subst h3
  exact ⟨v, (T.setVm vm₁).calling g' mk (Value.ref b :: As).toArray, t, U', L, hT, X', hL, e1, e2, hq, st⟩
section
variable {y : MethodName} {bytes cc : ByteArray} {maxL nL mc ms n index : Nat} {ret : Option FieldType} {ws : List Cond} {rm : Room} {Pc : Array Value → State → Prop} {Qc : Array Value → State → Outcome → State → Prop} {XC : String → State → State → Prop} {free : Addr → Prop} {Ts : List Cond} {own C : String} {b : Addr} {As rest : List Value} {g : JFrame}
theorem vx_runVX {hh : List (Nat × Nat × Nat × Nat)} (S : CallFix p m c cc nL s args Ts own) (hM : vx_Met l y ws rm Pc Qc XC mc ms free) (cw : vx_CVW R s args own C index y bytes maxL ret hh ws rm mc ms n) (hp : PreV s H C b Pc As)
    (hg : g.method = m) (hn : As.length = n) (hsize : g.locals.size = nL) (hstack : g.stack = As.reverse ++ .ref b :: rest) (hW : 2 * g.monitorRoom + (rest.map fun v => v.category).sum ≤ 8) (hdg : decode cc g.pc = .ok (.invokevirtual index, 3)) (hf : cells + mc ≤ R.cells ∧ slots + ms ≤ R.slots) :
    vx_Run p l e R s m args below meth c H locs cells slots mc ms g rest (Qc (Value.ref b :: As).toArray) XC free := by
  obtain ⟨⟨hrc, hrs, hfr, hlo, hws, hcw⟩, hcode, hini, hy, hlen, hl, hin, hse⟩ := cw
  have hK : vx_Back l R p e below s args y 3 8 (PreOf R mc ms Pc) (PostOf Qc mc ms free) (vx_Post XC mc ms free) := vx_backW (hh := hh) (bytes := bytes) (maxL := maxL) (ret := ret) hM hp.1 hrc hrs hfr hlo hws hcw (fun a' U hW => word_at hW (Or.inl (by first | rfl | simp [Cond.onTables, Cond.keeps, Cond.steady])) hini)
  obtain ⟨hx, hb, hml, ho, -⟩ := S
  obtain ⟨-, ⟨cellB, hcB, hoB, hclB⟩, hPc⟩ := hp
  intro T hT X
  rcases vx_callVX X hx (C := C) (hh := hh) (bytes := bytes) (maxL := maxL) (ret := ret) ho hl hin hse hcode hy hK (by rw [hT]; exact hcB) hoB hclB hg (hsize.trans hml.symm) (argsL := As) (rest := rest) (fun sig h => hn.trans (hlen sig h)) hstack hW (by rw [hb]; exact hdg)
    (fun vm₁ hW₁ => ⟨hf.1, hf.2, hPc (T.setVm vm₁) hT hW₁⟩) with ⟨v, vm₁, ⟨U', l2, c2, s2⟩, hW₁, X', ⟨g', mk, t, L, e1, e2, hq, h1, hL, h2, h3⟩, st⟩ | ⟨q, vm₁, ⟨U', l2, c2, s2⟩, hW₁, X', ⟨g', mk, t, L, E, ce, e1, e2, hq, hce, hcv, hcl, h1, hL, h2, h3⟩, st⟩
  · dsimp only [Pt.U, Pt.locs, Pt.cells, Pt.slots] at X' e1 e2 h1 h2 h3 st
    subst h1; subst h2; subst h3
    exact Or.inl ⟨v, (T.setVm vm₁).calling g' mk (Value.ref b :: As).toArray, t, U', L, hT, X', hL, e1, e2, hq, st⟩
  · dsimp only [Pt.U, Pt.locs, Pt.cells, Pt.slots] at X' e1 e2 h1 h2 h3 st hcl
    subst h1; subst h2; subst h3
    exact Or.inr ⟨q, (T.setVm vm₁).calling g' mk (Value.ref b :: As).toArray, t, U', L, E, ce, hT, X', hL, e1, e2, hq, hce, hcv, vx_cls hW₁ hcl, st⟩
theorem vx_runSX {hh : List (Nat × Nat × Nat × Nat)} (S : CallFix p m c cc nL s args Ts own) (hM : vx_Met l y ws rm Pc Qc XC mc ms free) (cw : vx_CSW R s args own index y bytes maxL ret hh ws rm mc ms n) (hp : PreS s H Pc As)
    (hg : g.method = m) (hn : As.length = n) (hsize : g.locals.size = nL) (hstack : g.stack = As.reverse ++ rest) (hW : 2 * g.monitorRoom + (rest.map fun v => v.category).sum ≤ 8) (hdg : decode cc g.pc = .ok (.invokestatic index, 3)) (hf : cells + mc ≤ R.cells ∧ slots + ms ≤ R.slots) :
    vx_Run p l e R s m args below meth c H locs cells slots mc ms g rest (Qc As.toArray) XC free := by
  obtain ⟨⟨hrc, hrs, hfr, hlo, hws, hcw⟩, hcode, hini, hy, hlen, hl, hstt⟩ := cw
  have hK : vx_Back l R p e below s args y 3 8 (PreOf R mc ms Pc) (PostOf Qc mc ms free) (vx_Post XC mc ms free) := vx_backW (hh := hh) (bytes := bytes) (maxL := maxL) (ret := ret) hM hp.1 hrc hrs hfr hlo hws hcw (fun a' U hW => word_at hW (Or.inl (by first | rfl | simp [Cond.onTables, Cond.keeps, Cond.steady])) hini)
  obtain ⟨hx, hb, hml, ho, -⟩ := S
  intro T hT X
  rcases vx_callSX X hx (hh := hh) (bytes := bytes) (maxL := maxL) (ret := ret) ho hl hstt hini hcode hy hK hg (hsize.trans hml.symm) (argsL := As) (rest := rest) (fun sig h => hn.trans (hlen sig h)) hstack hW (by rw [hb]; exact hdg)
    (fun vm₁ hW₁ => ⟨hf.1, hf.2, hp.2 (T.setVm vm₁) hT hW₁⟩) with ⟨v, vm₁, ⟨U', l2, c2, s2⟩, hW₁, X', ⟨g', mk, t, L, e1, e2, hq, h1, hL, h2, h3⟩, st⟩ | ⟨q, vm₁, ⟨U', l2, c2, s2⟩, hW₁, X', ⟨g', mk, t, L, E, ce, e1, e2, hq, hce, hcv, hcl, h1, hL, h2, h3⟩, st⟩
  · dsimp only [Pt.U, Pt.locs, Pt.cells, Pt.slots] at X' e1 e2 h1 h2 h3 st
    subst h1; subst h2; subst h3
    exact Or.inl ⟨v, (T.setVm vm₁).calling g' mk As.toArray, t, U', L, hT, X', hL, e1, e2, hq, st⟩
  · dsimp only [Pt.U, Pt.locs, Pt.cells, Pt.slots] at X' e1 e2 h1 h2 h3 st hcl
    subst h1; subst h2; subst h3
    exact Or.inr ⟨q, (T.setVm vm₁).calling g' mk As.toArray, t, U', L, E, ce, hT, X', hL, e1, e2, hq, hce, hcv, vx_cls hW₁ hcl, st⟩
end
end VXH
theorem vx_ofWH {l : Launch} {y : MethodName} {ws ws' : List Cond} {rm : Room} {Pc : Array Value → State → Prop} {Qc : Array Value → State → Outcome → State → Prop} {XC : String → State → State → Prop} {mc ms : Nat} {free : Addr → Prop} {cc : ByteArray} {maxL : Nat} {ret : Option FieldType} {hh : List (Nat × Nat × Nat × Nat)}
    (hy : plainName y.cls = true) (hw : ws = Cond.codeWith y cc maxL ret hh :: ws')
    (body : ∀ p e s m args below meth c s₁, BodyLoose p l y (headSpec ws rm) cc maxL ret e s m args below meth c s₁ → c.maxLocals = maxL → Pc args s →
      W p l e (headSpec ws rm).room s m args below meth c s.heap [] 0 0 (vx_MQ below Qc XC args s mc ms free) (entryFrame m args maxL)) : vx_Met l y ws rm Pc Qc XC mc ms free := by
  refine MetFree.of_bodyS (code := cc) (maxLocals := maxL) (ret := ret) hy ?_ ?_
  · intro args s m h hn
    obtain ⟨m9, meth, c, hn9, h1, h2, h3, h4, -, h5, h6, -⟩ := Cond.codeWith_spec (atoms_spec (ws := ws) h _ (by rw [hw]; exact List.mem_cons_self))
    cases hn.symm.trans hn9
    exact ⟨meth, c, h1, h2, h3, h4, h5, h6⟩
  · intro p e s m args below meth c s₁ B hml hP _
    have hh0 : s₁.heap = s.heap := by rw [B.state]; rfl
    obtain ⟨t, a1, o, b1, b2, b3⟩ := body p e s m args below meth c s₁ B hml hP s₁ hh0 (Stand.of_body B)
    exact ⟨t, o, a1, b1, b2, b3⟩
/-! ===== END ===== -/

/-! ===== BEGIN printed: names, fields, word lists, decode rows ===== -/
end
section
/-! tables of the class, the reference and the law, printed by wip/whole/gen/p03.py -/
def mR (c : Nat) : String := match c with
  | 0 => "LiveCollections$Node"
  | 1 => "LiveCollections$Store"
  | 2 => "LiveCollections"
  | 3 => "LiveCollectionsModel"
  | 4 => "LiveCollectionsLaw"
  | 5 => "java/lang/Math"
  | _ => "java/lang/System"
def mT0 : u_T := fun k => match k with
  | 0 => ("LiveCollections$Node", "kind", "I", true)
  | 1 => ("LiveCollections$Node", "leaves", "I", true)
  | 2 => ("LiveCollections$Node", "height", "I", true)
  | 3 => ("LiveCollections$Node", "store", "LLiveCollections$Store;", true)
  | 4 => ("LiveCollections$Node", "key", "I", true)
  | 5 => ("LiveCollections$Node", "base", "LLiveCollections$Node;", true)
  | 6 => ("LiveCollections$Node", "other", "LLiveCollections$Node;", true)
  | 7 => ("LiveCollections$Node", "baseRow", "[I", true)
  | 8 => ("LiveCollections$Node", "otherRow", "[I", true)
  | 9 => ("LiveCollections$Node", "start", "I", false)
  | 10 => ("LiveCollections$Node", "length", "I", false)
  | 11 => ("LiveCollections$Node", "noted", "I", false)
  | _ => ("LiveCollections$Node", "by", "I", false)
def mF0 : Nat → FieldType := fun k => match k with
  | 0 => .int
  | 1 => .int
  | 2 => .int
  | 3 => .object "LiveCollections$Store"
  | 4 => .int
  | 5 => .object "LiveCollections$Node"
  | 6 => .object "LiveCollections$Node"
  | 7 => .array .int
  | 8 => .array .int
  | 9 => .int
  | 10 => .int
  | 11 => .int
  | _ => .int
def mT1 : u_T := fun k => match k with
  | 0 => ("LiveCollections$Store", "ints", "[I", true)
  | 1 => ("LiveCollections$Store", "keys", "[I", true)
  | 2 => ("LiveCollections$Store", "changes", "[I", true)
  | _ => ("LiveCollections$Store", "count", "I", false)
def mF1 : Nat → FieldType := fun k => match k with
  | 0 => .array .int
  | 1 => .array .int
  | 2 => .array .int
  | _ => .int
def mT2 : u_T := fun k => match k with
  | 0 => ("LiveCollections", "held", "[LLiveCollections$Node;", true)
  | 1 => ("LiveCollections", "made", "I", false)
  | 2 => ("LiveCollections", "row", "[I", true)
  | _ => ("LiveCollections", "otherRow", "[I", true)
def mF2 : Nat → FieldType := fun k => match k with
  | 0 => .array (.object "LiveCollections$Node")
  | 1 => .int
  | 2 => .array .int
  | _ => .array .int
def mT3 : u_T := fun k => match k with
  | 0 => ("LiveCollectionsModel", "failed", "I", false)
  | 1 => ("LiveCollectionsModel", "handle", "[I", true)
  | 2 => ("LiveCollectionsModel", "kind", "[I", true)
  | 3 => ("LiveCollectionsModel", "one", "[I", true)
  | 4 => ("LiveCollectionsModel", "two", "[I", true)
  | 5 => ("LiveCollectionsModel", "number", "[I", true)
  | 6 => ("LiveCollectionsModel", "partLength", "[I", true)
  | 7 => ("LiveCollectionsModel", "noted", "[I", true)
  | 8 => ("LiveCollectionsModel", "leaves", "[I", true)
  | 9 => ("LiveCollectionsModel", "height", "[I", true)
  | 10 => ("LiveCollectionsModel", "nodes", "I", false)
  | 11 => ("LiveCollectionsModel", "ints", "[I", true)
  | 12 => ("LiveCollectionsModel", "count", "[I", true)
  | 13 => ("LiveCollectionsModel", "changes", "[I", true)
  | 14 => ("LiveCollectionsModel", "order", "[I", true)
  | 15 => ("LiveCollectionsModel", "keys", "[I", true)
  | 16 => ("LiveCollectionsModel", "need", "[Z", true)
  | 17 => ("LiveCollectionsModel", "el", "[I", true)
  | _ => ("LiveCollectionsModel", "size", "[I", true)
def mF3 : Nat → FieldType := fun k => match k with
  | 0 => .int
  | 1 => .array .int
  | 2 => .array .int
  | 3 => .array .int
  | 4 => .array .int
  | 5 => .array .int
  | 6 => .array .int
  | 7 => .array .int
  | 8 => .array .int
  | 9 => .array .int
  | 10 => .int
  | 11 => .array .int
  | 12 => .array .int
  | 13 => .array .int
  | 14 => .array .int
  | 15 => .array .int
  | 16 => .array .boolean
  | 17 => .array .int
  | _ => .array .int
def mT (c : Nat) : u_T := match c with
  | 0 => mT0
  | 1 => mT1
  | 2 => mT2
  | _ => mT3
def mF (c : Nat) : Nat → FieldType := match c with
  | 0 => mF0
  | 1 => mF1
  | 2 => mF2
  | _ => mF3
def mN (c : Nat) : Nat := match c with
  | 0 => 13
  | 1 => 4
  | 2 => 4
  | 3 => 19
  | _ => 0
abbrev mm_cl : List vw_C := [(mR 0, mT 0, mN 0), (mR 1, mT 1, mN 1), (mR 2, mT 2, mN 2), (mR 3, mT 3, mN 3)]
def mm_WL : List Cond := lw_tbl.filter goodWord
def mm_Y (k : Nat) : MethodName × ByteArray × Option FieldType := match k with
  | 0 => (⟨"LiveCollections$Node", "<init>", "(ILLiveCollections$Store;I)V"⟩, prog_2_method_1_code, none)
  | 1 => (⟨"LiveCollections$Node", "<init>", "(ILLiveCollections$Node;LLiveCollections$Node;)V"⟩, prog_2_method_2_code, none)
  | 2 => (⟨"LiveCollections$Store", "<init>", "(II)V"⟩, prog_3_method_1_code, none)
  | 3 => (⟨"LiveCollections$Store", "fillAll", "([I)I"⟩, prog_3_method_10_code, some .int)
  | 4 => (⟨"LiveCollections$Store", "fillKeys", "([I)I"⟩, prog_3_method_12_code, some .int)
  | 5 => (⟨"LiveCollections$Store", "fillOf", "(I[I)I"⟩, prog_3_method_11_code, some .int)
  | 6 => (⟨"LiveCollections$Store", "countOf", "(I)I"⟩, prog_3_method_5_code, some .int)
  | 7 => (⟨"LiveCollections$Store", "firstOf", "(I)I"⟩, prog_3_method_4_code, some .int)
  | 8 => (⟨"LiveCollections$Store", "startWith", "([II)V"⟩, prog_3_method_2_code, none)
  | 9 => (⟨"LiveCollections$Store", "isFull", "()Z"⟩, prog_3_method_3_code, some .boolean)
  | 10 => (⟨"LiveCollections$Store", "putIn", "(III)V"⟩, prog_3_method_6_code, none)
  | 11 => (⟨"LiveCollections$Store", "replace", "(III)I"⟩, prog_3_method_7_code, some .int)
  | 12 => (⟨"LiveCollections$Store", "takeOut", "(I)V"⟩, prog_3_method_8_code, none)
  | 13 => (⟨"LiveCollections$Store", "takeOutKey", "(I)V"⟩, prog_3_method_9_code, none)
  | 14 => (⟨"LiveCollections", "<init>", "()V"⟩, prog_1_method_1_code, none)
  | 15 => (⟨"LiveCollections", "make", "(II)I"⟩, prog_1_method_2_code, some .int)
  | 16 => (⟨"LiveCollections", "isHandle", "(I)Z"⟩, prog_1_method_24_code, some .boolean)
  | 17 => (⟨"LiveCollections", "needTold", "(Z)V"⟩, prog_1_method_26_code, none)
  | 18 => (⟨"LiveCollections", "needRoomForNode", "(II)V"⟩, prog_1_method_32_code, none)
  | 19 => (⟨"LiveCollections", "needRoom", "(Z)V"⟩, prog_1_method_31_code, none)
  | 20 => (⟨"LiveCollections", "keep", "(ILLiveCollections$Node;)I"⟩, prog_1_method_21_code, some .int)
  | 21 => (⟨"LiveCollections", "copy", "(III)I"⟩, prog_1_method_3_code, some .int)
  | 22 => (⟨"LiveCollections", "nodeIn", "(I)LLiveCollections$Node;"⟩, prog_1_method_22_code, some (.object "LiveCollections$Node"))
  | 23 => (⟨"LiveCollections", "needFresh", "(LLiveCollections$Node;)V"⟩, prog_1_method_28_code, none)
  | 24 => (⟨"LiveCollections", "isStale", "(LLiveCollections$Node;)Z"⟩, prog_1_method_34_code, some .boolean)
  | 25 => (⟨"LiveCollections", "changesOf", "(LLiveCollections$Node;)I"⟩, prog_1_method_36_code, some .int)
  | 26 => (⟨"LiveCollections", "leafOf", "(LLiveCollections$Node;)LLiveCollections$Node;"⟩, prog_1_method_35_code, some (.object "LiveCollections$Node"))
  | 27 => (⟨"LiveCollections", "fill", "(LLiveCollections$Node;[I)I"⟩, prog_1_method_43_code, some .int)
  | 28 => (⟨"LiveCollections", "turnRound", "([II)I"⟩, prog_1_method_47_code, some .int)
  | 29 => (⟨"LiveCollections", "raise", "([III)I"⟩, prog_1_method_48_code, some .int)
  | 30 => (⟨"LiveCollections", "fillOfTwo", "(LLiveCollections$Node;[I)I"⟩, prog_1_method_44_code, some .int)
  | 31 => (⟨"LiveCollections", "placeOf", "([III)I"⟩, prog_1_method_46_code, some .int)
  | 32 => (⟨"LiveCollections", "appendOnce", "([III)I"⟩, prog_1_method_45_code, some .int)
  | 33 => (⟨"LiveCollections", "sortOnce", "([II)I"⟩, prog_1_method_49_code, some .int)
  | 34 => (⟨"LiveCollections", "reversed", "(II)I"⟩, prog_1_method_4_code, some .int)
  | 35 => (⟨"LiveCollections", "rowIn", "(I)LLiveCollections$Node;"⟩, prog_1_method_23_code, some (.object "LiveCollections$Node"))
  | 36 => (⟨"LiveCollections", "isRow", "(LLiveCollections$Node;)Z"⟩, prog_1_method_25_code, some .boolean)
  | 37 => (⟨"LiveCollections", "part", "(IIII)I"⟩, prog_1_method_5_code, some .int)
  | 38 => (⟨"LiveCollections", "rowLength", "(LLiveCollections$Node;)I"⟩, prog_1_method_37_code, some .int)
  | 39 => (⟨"LiveCollections", "needPlace", "(Z)V"⟩, prog_1_method_29_code, none)
  | 40 => (⟨"LiveCollections", "shifted", "(III)I"⟩, prog_1_method_6_code, some .int)
  | 41 => (⟨"LiveCollections", "ofMap", "(III)I"⟩, prog_1_method_7_code, some .int)
  | 42 => (⟨"LiveCollections", "combine", "(IIII)I"⟩, prog_1_method_8_code, some .int)
  | 43 => (⟨"LiveCollections", "hold", "(II)I"⟩, prog_1_method_9_code, some .int)
  | 44 => (⟨"LiveCollections", "size", "(I)I"⟩, prog_1_method_10_code, some .int)
  | 45 => (⟨"LiveCollections", "at", "(II)I"⟩, prog_1_method_11_code, some .int)
  | 46 => (⟨"LiveCollections", "find", "(II)I"⟩, prog_1_method_12_code, some .int)
  | 47 => (⟨"LiveCollections", "needThere", "(Z)V"⟩, prog_1_method_30_code, none)
  | 48 => (⟨"LiveCollections", "add", "(II)I"⟩, prog_1_method_13_code, some .int)
  | 49 => (⟨"LiveCollections", "canBeWritten", "(LLiveCollections$Node;)Z"⟩, prog_1_method_38_code, some .boolean)
  | 50 => (⟨"LiveCollections", "needSupported", "(Z)V"⟩, prog_1_method_27_code, none)
  | 51 => (⟨"LiveCollections", "needRoomForInt", "(LLiveCollections$Node;)V"⟩, prog_1_method_33_code, none)
  | 52 => (⟨"LiveCollections", "putIn", "(LLiveCollections$Node;II)V"⟩, prog_1_method_40_code, none)
  | 53 => (⟨"LiveCollections", "insert", "(III)I"⟩, prog_1_method_14_code, some .int)
  | 54 => (⟨"LiveCollections", "put", "(III)I"⟩, prog_1_method_15_code, some .int)
  | 55 => (⟨"LiveCollections", "replace", "(LLiveCollections$Node;II)I"⟩, prog_1_method_41_code, some .int)
  | 56 => (⟨"LiveCollections", "take", "(II)I"⟩, prog_1_method_16_code, some .int)
  | 57 => (⟨"LiveCollections", "canBeTakenFrom", "(LLiveCollections$Node;)Z"⟩, prog_1_method_39_code, some .boolean)
  | 58 => (⟨"LiveCollections", "takeOut", "(LLiveCollections$Node;I)V"⟩, prog_1_method_42_code, none)
  | 59 => (⟨"LiveCollections", "remove", "(II)I"⟩, prog_1_method_17_code, some .int)
  | 60 => (⟨"LiveCollections", "mean", "(I)D"⟩, prog_1_method_18_code, some .double)
  | 61 => (⟨"LiveCollections", "alike", "(II)Z"⟩, prog_1_method_19_code, some .boolean)
  | 62 => (⟨"LiveCollections", "about", "(II)I"⟩, prog_1_method_20_code, some .int)
  | 63 => (⟨"LiveCollectionsModel", "<init>", "()V"⟩, prog_5_method_1_code, none)
  | 64 => (⟨"LiveCollectionsModel", "thrown", "()I"⟩, prog_5_method_2_code, some .int)
  | 65 => (⟨"LiveCollectionsModel", "make", "(II)I"⟩, prog_5_method_19_code, some .int)
  | 66 => (⟨"LiveCollectionsModel", "out", "(II)Z"⟩, prog_5_method_4_code, some .boolean)
  | 67 => (⟨"LiveCollectionsModel", "fail", "(I)I"⟩, prog_5_method_3_code, some .int)
  | 68 => (⟨"LiveCollectionsModel", "create", "(IIIII)I"⟩, prog_5_method_18_code, some .int)
  | 69 => (⟨"LiveCollectionsModel", "copy", "(III)I"⟩, prog_5_method_20_code, some .int)
  | 70 => (⟨"LiveCollectionsModel", "nodeOf", "(I)I"⟩, prog_5_method_5_code, some .int)
  | 71 => (⟨"LiveCollectionsModel", "show", "(I)Z"⟩, prog_5_method_17_code, some .boolean)
  | 72 => (⟨"LiveCollectionsModel", "mark", "(I)Z"⟩, prog_5_method_11_code, some .boolean)
  | 73 => (⟨"LiveCollectionsModel", "changesOf", "(I)I"⟩, prog_5_method_10_code, some .int)
  | 74 => (⟨"LiveCollectionsModel", "listOf", "(I)I"⟩, prog_5_method_9_code, some .int)
  | 75 => (⟨"LiveCollectionsModel", "leaf", "(I)I"⟩, prog_5_method_8_code, some .int)
  | 76 => (⟨"LiveCollectionsModel", "based", "(I)Z"⟩, prog_5_method_7_code, some .boolean)
  | 77 => (⟨"LiveCollectionsModel", "work", "(I)V"⟩, prog_5_method_16_code, none)
  | 78 => (⟨"LiveCollectionsModel", "list", "(II)V"⟩, prog_5_method_14_code, none)
  | 79 => (⟨"LiveCollectionsModel", "push", "(II)V"⟩, prog_5_method_12_code, none)
  | 80 => (⟨"LiveCollectionsModel", "combined", "(I)V"⟩, prog_5_method_15_code, none)
  | 81 => (⟨"LiveCollectionsModel", "has", "(II)Z"⟩, prog_5_method_13_code, some .boolean)
  | 82 => (⟨"LiveCollectionsModel", "firstOf", "(II)I"⟩, prog_5_method_22_code, some .int)
  | 83 => (⟨"LiveCollectionsModel", "keep", "(III)V"⟩, prog_5_method_21_code, none)
  | 84 => (⟨"LiveCollectionsModel", "below", "(II)I"⟩, prog_5_method_23_code, some .int)
  | 85 => (⟨"LiveCollectionsModel", "reversed", "(II)I"⟩, prog_5_method_25_code, some .int)
  | 86 => (⟨"LiveCollectionsModel", "over", "(IIII)I"⟩, prog_5_method_24_code, some .int)
  | 87 => (⟨"LiveCollectionsModel", "row", "(I)Z"⟩, prog_5_method_6_code, some .boolean)
  | 88 => (⟨"LiveCollectionsModel", "part", "(IIII)I"⟩, prog_5_method_26_code, some .int)
  | 89 => (⟨"LiveCollectionsModel", "shifted", "(III)I"⟩, prog_5_method_27_code, some .int)
  | 90 => (⟨"LiveCollectionsModel", "ofMap", "(III)I"⟩, prog_5_method_28_code, some .int)
  | 91 => (⟨"LiveCollectionsModel", "combine", "(IIII)I"⟩, prog_5_method_29_code, some .int)
  | 92 => (⟨"LiveCollectionsModel", "hold", "(II)I"⟩, prog_5_method_30_code, some .int)
  | 93 => (⟨"LiveCollectionsModel", "size", "(I)I"⟩, prog_5_method_31_code, some .int)
  | 94 => (⟨"LiveCollectionsModel", "at", "(II)I"⟩, prog_5_method_32_code, some .int)
  | 95 => (⟨"LiveCollectionsModel", "find", "(II)I"⟩, prog_5_method_33_code, some .int)
  | 96 => (⟨"LiveCollectionsModel", "add", "(II)I"⟩, prog_5_method_42_code, some .int)
  | 97 => (⟨"LiveCollectionsModel", "supported", "(II)Z"⟩, prog_5_method_34_code, some .boolean)
  | 98 => (⟨"LiveCollectionsModel", "putIn", "(III)I"⟩, prog_5_method_41_code, some .int)
  | 99 => (⟨"LiveCollectionsModel", "full", "(I)Z"⟩, prog_5_method_40_code, some .boolean)
  | 100 => (⟨"LiveCollectionsModel", "down", "(IIZ)I"⟩, prog_5_method_38_code, some .int)
  | 101 => (⟨"LiveCollectionsModel", "insertInto", "(III)V"⟩, prog_5_method_36_code, none)
  | 102 => (⟨"LiveCollectionsModel", "changed", "(I)V"⟩, prog_5_method_35_code, none)
  | 103 => (⟨"LiveCollectionsModel", "note", "(II)V"⟩, prog_5_method_39_code, none)
  | 104 => (⟨"LiveCollectionsModel", "insert", "(III)I"⟩, prog_5_method_43_code, some .int)
  | 105 => (⟨"LiveCollectionsModel", "put", "(III)I"⟩, prog_5_method_44_code, some .int)
  | 106 => (⟨"LiveCollectionsModel", "take", "(II)I"⟩, prog_5_method_46_code, some .int)
  | 107 => (⟨"LiveCollectionsModel", "takeAt", "(II)V"⟩, prog_5_method_45_code, none)
  | 108 => (⟨"LiveCollectionsModel", "takeFrom", "(II)V"⟩, prog_5_method_37_code, none)
  | 109 => (⟨"LiveCollectionsModel", "remove", "(II)I"⟩, prog_5_method_47_code, some .int)
  | 110 => (⟨"LiveCollectionsModel", "mean", "(I)D"⟩, prog_5_method_48_code, some .double)
  | 111 => (⟨"LiveCollectionsModel", "alike", "(II)Z"⟩, prog_5_method_49_code, some .boolean)
  | 112 => (⟨"LiveCollectionsModel", "about", "(II)I"⟩, prog_5_method_50_code, some .int)
  | 113 => (⟨"LiveCollectionsLaw", "make", "(LLiveCollections;II[J)I"⟩, method_3_code, some .int)
  | 114 => (⟨"LiveCollectionsLaw", "copy", "(LLiveCollections;III[J)I"⟩, method_4_code, some .int)
  | 115 => (⟨"LiveCollectionsLaw", "reversed", "(LLiveCollections;II[J)I"⟩, method_5_code, some .int)
  | 116 => (⟨"LiveCollectionsLaw", "part", "(LLiveCollections;IIII[J)I"⟩, method_6_code, some .int)
  | 117 => (⟨"LiveCollectionsLaw", "shifted", "(LLiveCollections;III[J)I"⟩, method_7_code, some .int)
  | 118 => (⟨"LiveCollectionsLaw", "ofMap", "(LLiveCollections;III[J)I"⟩, method_8_code, some .int)
  | 119 => (⟨"LiveCollectionsLaw", "combine", "(LLiveCollections;IIII[J)I"⟩, method_9_code, some .int)
  | 120 => (⟨"LiveCollectionsLaw", "hold", "(LLiveCollections;II[J)I"⟩, method_10_code, some .int)
  | 121 => (⟨"LiveCollectionsLaw", "size", "(LLiveCollections;I[J)I"⟩, method_11_code, some .int)
  | 122 => (⟨"LiveCollectionsLaw", "at", "(LLiveCollections;II[J)I"⟩, method_12_code, some .int)
  | 123 => (⟨"LiveCollectionsLaw", "find", "(LLiveCollections;II[J)I"⟩, method_13_code, some .int)
  | 124 => (⟨"LiveCollectionsLaw", "add", "(LLiveCollections;II[J)I"⟩, method_14_code, some .int)
  | 125 => (⟨"LiveCollectionsLaw", "insert", "(LLiveCollections;III[J)I"⟩, method_15_code, some .int)
  | 126 => (⟨"LiveCollectionsLaw", "put", "(LLiveCollections;III[J)I"⟩, method_16_code, some .int)
  | 127 => (⟨"LiveCollectionsLaw", "take", "(LLiveCollections;II[J)I"⟩, method_17_code, some .int)
  | 128 => (⟨"LiveCollectionsLaw", "remove", "(LLiveCollections;II[J)I"⟩, method_18_code, some .int)
  | 129 => (⟨"LiveCollectionsLaw", "mean", "(LLiveCollections;I[D)I"⟩, method_19_code, some .int)
  | 130 => (⟨"LiveCollectionsLaw", "alike", "(LLiveCollections;II[J)I"⟩, method_20_code, some .int)
  | 131 => (⟨"LiveCollectionsLaw", "about", "(LLiveCollections;II[J)I"⟩, method_21_code, some .int)
  | 132 => (⟨"java/lang/Math", "max", "(II)I"⟩, prog_10_method_65_code, some .int)
  | 133 => (⟨"LiveCollectionsLaw", "law", "([I)Z"⟩, code, some .boolean)
  | _ => (⟨"", "", ""⟩, ⟨#[]⟩, none)
/-- own class, locals, arguments (with the receiver), kind (0 static, 1 instance, 2 constructor, 3 static with a table, 4 the law) -/
def mm_Q (k : Nat) : Nat × Nat × Nat × Nat := match k with
  | 0 => (0, 4, 4, 2)
  | 1 => (0, 4, 4, 2)
  | 2 => (1, 3, 3, 2)
  | 3 => (1, 2, 2, 1)
  | 4 => (1, 4, 2, 1)
  | 5 => (1, 4, 3, 1)
  | 6 => (1, 4, 2, 1)
  | 7 => (1, 3, 2, 1)
  | 8 => (1, 3, 3, 1)
  | 9 => (1, 1, 1, 1)
  | 10 => (1, 5, 4, 1)
  | 11 => (1, 6, 4, 1)
  | 12 => (1, 2, 2, 1)
  | 13 => (1, 5, 2, 1)
  | 14 => (2, 1, 1, 2)
  | 15 => (2, 4, 3, 1)
  | 16 => (2, 1, 1, 0)
  | 17 => (2, 1, 1, 0)
  | 18 => (2, 3, 3, 1)
  | 19 => (2, 1, 1, 0)
  | 20 => (2, 3, 3, 1)
  | 21 => (2, 7, 4, 1)
  | 22 => (2, 3, 2, 1)
  | 23 => (2, 1, 1, 0)
  | 24 => (2, 1, 1, 0)
  | 25 => (2, 2, 1, 0)
  | 26 => (2, 2, 1, 0)
  | 27 => (2, 2, 2, 0)
  | 28 => (2, 4, 2, 0)
  | 29 => (2, 4, 3, 0)
  | 30 => (2, 9, 2, 0)
  | 31 => (2, 4, 3, 0)
  | 32 => (2, 3, 3, 0)
  | 33 => (2, 6, 2, 0)
  | 34 => (2, 4, 3, 1)
  | 35 => (2, 3, 2, 1)
  | 36 => (2, 1, 1, 0)
  | 37 => (2, 7, 5, 1)
  | 38 => (2, 2, 1, 0)
  | 39 => (2, 1, 1, 0)
  | 40 => (2, 6, 4, 1)
  | 41 => (2, 5, 4, 1)
  | 42 => (2, 7, 5, 1)
  | 43 => (2, 3, 3, 1)
  | 44 => (2, 3, 2, 1)
  | 45 => (2, 5, 3, 1)
  | 46 => (2, 5, 3, 1)
  | 47 => (2, 1, 1, 0)
  | 48 => (2, 4, 3, 1)
  | 49 => (2, 3, 1, 0)
  | 50 => (2, 1, 1, 0)
  | 51 => (2, 1, 1, 0)
  | 52 => (2, 3, 3, 0)
  | 53 => (2, 5, 4, 1)
  | 54 => (2, 5, 4, 1)
  | 55 => (2, 3, 3, 0)
  | 56 => (2, 5, 3, 1)
  | 57 => (2, 2, 1, 0)
  | 58 => (2, 2, 2, 0)
  | 59 => (2, 5, 3, 1)
  | 60 => (2, 7, 2, 1)
  | 61 => (2, 7, 3, 1)
  | 62 => (2, 4, 3, 1)
  | 63 => (3, 2, 1, 2)
  | 64 => (3, 1, 1, 1)
  | 65 => (3, 3, 3, 1)
  | 66 => (3, 3, 3, 1)
  | 67 => (3, 2, 2, 1)
  | 68 => (3, 8, 6, 1)
  | 69 => (3, 9, 4, 1)
  | 70 => (3, 2, 2, 1)
  | 71 => (3, 3, 2, 1)
  | 72 => (3, 4, 2, 1)
  | 73 => (3, 2, 2, 1)
  | 74 => (3, 3, 2, 1)
  | 75 => (3, 3, 2, 1)
  | 76 => (3, 2, 2, 1)
  | 77 => (3, 4, 2, 1)
  | 78 => (3, 4, 3, 1)
  | 79 => (3, 3, 3, 1)
  | 80 => (3, 7, 2, 1)
  | 81 => (3, 4, 3, 1)
  | 82 => (3, 4, 3, 1)
  | 83 => (3, 4, 4, 1)
  | 84 => (3, 5, 3, 1)
  | 85 => (3, 3, 3, 1)
  | 86 => (3, 6, 5, 1)
  | 87 => (3, 2, 2, 1)
  | 88 => (3, 6, 5, 1)
  | 89 => (3, 4, 4, 1)
  | 90 => (3, 5, 4, 1)
  | 91 => (3, 7, 5, 1)
  | 92 => (3, 3, 3, 1)
  | 93 => (3, 3, 2, 1)
  | 94 => (3, 4, 3, 1)
  | 95 => (3, 5, 3, 1)
  | 96 => (3, 4, 3, 1)
  | 97 => (3, 4, 3, 1)
  | 98 => (3, 5, 4, 1)
  | 99 => (3, 5, 2, 1)
  | 100 => (3, 6, 4, 1)
  | 101 => (3, 5, 4, 1)
  | 102 => (3, 6, 2, 1)
  | 103 => (3, 4, 3, 1)
  | 104 => (3, 5, 4, 1)
  | 105 => (3, 5, 4, 1)
  | 106 => (3, 4, 3, 1)
  | 107 => (3, 6, 3, 1)
  | 108 => (3, 4, 3, 1)
  | 109 => (3, 5, 3, 1)
  | 110 => (3, 6, 2, 1)
  | 111 => (3, 7, 3, 1)
  | 112 => (3, 4, 3, 1)
  | 113 => (4, 5, 4, 3)
  | 114 => (4, 6, 5, 3)
  | 115 => (4, 5, 4, 3)
  | 116 => (4, 7, 6, 3)
  | 117 => (4, 6, 5, 3)
  | 118 => (4, 6, 5, 3)
  | 119 => (4, 7, 6, 3)
  | 120 => (4, 5, 4, 3)
  | 121 => (4, 4, 3, 3)
  | 122 => (4, 5, 4, 3)
  | 123 => (4, 5, 4, 3)
  | 124 => (4, 5, 4, 3)
  | 125 => (4, 6, 5, 3)
  | 126 => (4, 6, 5, 3)
  | 127 => (4, 5, 4, 3)
  | 128 => (4, 5, 4, 3)
  | 129 => (4, 4, 3, 3)
  | 130 => (4, 5, 4, 3)
  | 131 => (4, 5, 4, 3)
  | 132 => (5, 2, 2, 0)
  | 133 => (4, 9, 1, 4)
  | _ => (9, 0, 0, 9)
def mm_y (k : Nat) : MethodName := (mm_Y k).1
def mm_b (k : Nat) : ByteArray := (mm_Y k).2.1
def mm_rt (k : Nat) : Option FieldType := (mm_Y k).2.2
def mm_own (k : Nat) : Nat := (mm_Q k).1
def mm_mx (k : Nat) : Nat := (mm_Q k).2.1
def mm_na (k : Nat) : Nat := (mm_Q k).2.2.1
def mm_kd (k : Nat) : Nat := (mm_Q k).2.2.2
def mm_FL : List (Nat × Nat × Nat × Nat × Nat) := [(2, 11, 2, 0, 59), (2, 154, 2, 1, 60), (2, 15, 2, 2, 61), (2, 19, 2, 3, 62), (1, 7, 1, 0, 181), (1, 13, 1, 1, 182), (1, 16, 1, 2, 183), (2, 187, 1, 2, 184), (1, 25, 1, 3, 185), (0, 9, 0, 0, 200), (2, 103, 0, 0, 201), (0, 22, 0, 1, 202), (2, 71, 0, 1, 203), (0, 25, 0, 2, 204), (2, 75, 0, 2, 205), (0, 15, 0, 3, 206), (2, 106, 0, 3, 207), (0, 19, 0, 4, 208), (2, 190, 0, 4, 209), (0, 28, 0, 5, 210), (2, 180, 0, 5, 211), (0, 32, 0, 6, 212), (2, 184, 0, 6, 213), (0, 35, 0, 7, 214), (2, 238, 0, 7, 215), (0, 39, 0, 8, 216), (2, 241, 0, 8, 217), (2, 88, 0, 9, 218), (2, 91, 0, 10, 219), (2, 97, 0, 11, 220), (2, 100, 0, 12, 221), (3, 62, 3, 0, 565), (3, 7, 3, 1, 566), (3, 13, 3, 2, 567), (3, 16, 3, 3, 568), (3, 19, 3, 4, 569), (3, 22, 3, 5, 570), (3, 25, 3, 6, 571), (3, 28, 3, 7, 572), (3, 31, 3, 8, 573), (3, 34, 3, 9, 574), (3, 104, 3, 10, 575), (3, 37, 3, 11, 576), (3, 40, 3, 12, 577), (3, 43, 3, 13, 578), (3, 46, 3, 14, 579), (3, 49, 3, 15, 580), (3, 52, 3, 16, 581), (3, 56, 3, 17, 582), (3, 59, 3, 18, 583)]
def mm_ML : List (Nat × Nat × Nat × Nat) := [(4, 82, 14, 51), (4, 86, 113, 73), (4, 7, 15, 78), (2, 22, 16, 82), (2, 26, 17, 85), (2, 30, 18, 153), (2, 61, 19, 157), (2, 36, 2, 177), (2, 38, 0, 196), (2, 41, 20, 249), (4, 96, 114, 253), (4, 17, 21, 256), (2, 45, 22, 260), (2, 49, 23, 264), (2, 151, 24, 267), (2, 94, 25, 270), (2, 172, 26, 273), (2, 53, 27, 276), (2, 212, 28, 279), (2, 221, 29, 285), (2, 224, 3, 288), (2, 228, 4, 293), (2, 231, 30, 297), (2, 116, 31, 300), (2, 242, 32, 303), (2, 234, 5, 306), (1, 33, 6, 310), (1, 29, 7, 314), (2, 57, 33, 318), (2, 64, 8, 321), (4, 100, 115, 325), (4, 21, 34, 328), (2, 68, 35, 332), (2, 148, 36, 336), (2, 78, 1, 339), (4, 103, 116, 345), (4, 24, 37, 349), (2, 81, 38, 353), (2, 193, 6, 356), (2, 85, 39, 357), (4, 107, 117, 375), (4, 30, 40, 378), (4, 110, 118, 382), (4, 33, 41, 385), (4, 113, 119, 389), (4, 36, 42, 392), (4, 116, 120, 397), (4, 39, 43, 400), (4, 119, 121, 404), (4, 42, 44, 407), (4, 123, 122, 411), (4, 46, 45, 414), (4, 126, 123, 418), (4, 49, 46, 422), (2, 120, 47, 426), (4, 129, 124, 444), (4, 54, 48, 448), (2, 123, 49, 452), (2, 127, 50, 455), (2, 130, 51, 473), (2, 176, 9, 476), (2, 133, 52, 480), (2, 197, 10, 483), (4, 132, 125, 487), (4, 59, 53, 490), (4, 135, 126, 494), (4, 62, 54, 497), (2, 137, 55, 501), (2, 200, 11, 504), (4, 138, 127, 508), (4, 65, 56, 511), (2, 141, 57, 515), (2, 144, 58, 518), (2, 203, 12, 521), (2, 206, 13, 525), (1, 36, 12, 529), (2, 209, 7, 530), (4, 141, 128, 531), (4, 68, 59, 534), (4, 144, 129, 538), (4, 71, 60, 541), (4, 148, 130, 545), (4, 75, 61, 548), (4, 151, 131, 552), (4, 79, 62, 555), (4, 85, 63, 561), (4, 92, 64, 624), (4, 91, 65, 628), (3, 66, 66, 632), (3, 107, 67, 636), (3, 110, 68, 640), (4, 99, 69, 644), (3, 114, 70, 648), (3, 117, 71, 652), (3, 98, 72, 656), (3, 81, 73, 660), (3, 78, 74, 664), (3, 74, 75, 668), (3, 70, 76, 672), (3, 101, 77, 676), (3, 91, 78, 680), (3, 84, 79, 684), (3, 94, 80, 688), (3, 88, 81, 692), (3, 120, 82, 696), (3, 124, 83, 700), (3, 128, 84, 704), (4, 102, 85, 708), (3, 134, 86, 712), (3, 131, 87, 716), (4, 106, 88, 720), (4, 109, 89, 724), (4, 112, 90, 728), (4, 115, 91, 732), (4, 118, 92, 736), (4, 122, 93, 740), (4, 125, 94, 744), (4, 128, 95, 748), (4, 131, 96, 752), (3, 154, 97, 756), (3, 157, 98, 760), (3, 141, 99, 764), (3, 144, 100, 768), (3, 148, 101, 772), (3, 138, 102, 776), (3, 151, 103, 780), (4, 134, 104, 784), (4, 137, 105, 788), (4, 140, 106, 792), (3, 164, 107, 796), (3, 161, 108, 800), (4, 143, 109, 804), (4, 147, 110, 808), (4, 150, 111, 812), (4, 153, 112, 816)]
def mm_XL : List (Nat × Nat × Nat) := [(0, 42, 342), (2, 110, 396)]
def mm_OL : List (Nat × Nat × Nat) := [(2, 3, 54), (1, 1, 180), (0, 3, 199), (3, 1, 564)]
def mm_AL : List (Nat × Nat × Nat) := [(2, 215, 282), (1, 19, 292)]
def mm_CL : List (Nat × Nat × Nat × Nat) := [(4, 8, 2, 49), (2, 9, 0, 57), (2, 34, 1, 175), (4, 83, 3, 559)]
def mIAE : String := "java/lang/IllegalArgumentException"
def mISE : String := "java/lang/IllegalStateException"
def mIOB : String := "java/lang/IndexOutOfBoundsException"
def mNSE : String := "java/util/NoSuchElementException"
def mUOE : String := "java/lang/UnsupportedOperationException"
def mm_E (i : Nat) : String := match i with
  | 0 => mIAE
  | 1 => mISE
  | 2 => mIOB
  | 3 => mNSE
  | _ => mUOE
/-- own, class link, exception, constructor link, word -/
def mm_EL : List (Nat × Nat × Nat × Nat × Nat) := [(2, 157, 0, 159, 88), (2, 163, 1, 165, 160), (2, 166, 2, 168, 360), (2, 169, 3, 171, 429), (2, 160, 4, 162, 458)]
def mm_hh (k : Nat) : List (Nat × Nat × Nat × Nat) := match k with
  | 113 => [(0, 10, 13, 13), (0, 10, 17, 15)]
  | 114 => [(0, 12, 15, 13), (0, 12, 19, 15)]
  | 115 => [(0, 10, 13, 13), (0, 10, 17, 15)]
  | 116 => [(0, 14, 17, 13), (0, 14, 21, 15), (0, 14, 25, 28)]
  | 117 => [(0, 12, 15, 13), (0, 12, 19, 15)]
  | 118 => [(0, 12, 15, 13), (0, 12, 19, 15)]
  | 119 => [(0, 14, 17, 13), (0, 14, 21, 15)]
  | 120 => [(0, 10, 13, 13)]
  | 121 => [(0, 9, 12, 13), (0, 9, 15, 15)]
  | 122 => [(0, 10, 13, 13), (0, 10, 17, 15), (0, 10, 21, 28)]
  | 123 => [(0, 10, 13, 13), (0, 10, 17, 15), (0, 10, 21, 52)]
  | 124 => [(0, 10, 13, 13), (0, 10, 17, 57), (0, 10, 21, 15)]
  | 125 => [(0, 12, 15, 13), (0, 12, 19, 57), (0, 12, 23, 15), (0, 12, 27, 28)]
  | 126 => [(0, 12, 15, 13), (0, 12, 19, 57), (0, 12, 23, 15), (0, 12, 27, 28)]
  | 127 => [(0, 10, 13, 13), (0, 10, 17, 57), (0, 10, 21, 15), (0, 10, 25, 28)]
  | 128 => [(0, 10, 13, 13), (0, 10, 17, 57), (0, 10, 21, 15), (0, 10, 25, 52)]
  | 129 => [(0, 8, 11, 13), (0, 8, 14, 15), (0, 8, 17, 52)]
  | 130 => [(0, 17, 20, 13), (0, 17, 24, 15)]
  | 131 => [(0, 10, 13, 13)]
  | _ => []
/-- method, pc of its call, exception, the code that it answers -/
def mm_HL : List (Nat × Nat × Nat × Int) := [(113, 5, 0, 1), (113, 5, 1, 2), (114, 7, 0, 1), (114, 7, 1, 2), (115, 5, 0, 1), (115, 5, 1, 2), (116, 9, 0, 1), (116, 9, 1, 2), (116, 9, 2, 3), (117, 7, 0, 1), (117, 7, 1, 2), (118, 7, 0, 1), (118, 7, 1, 2), (119, 9, 0, 1), (119, 9, 1, 2), (120, 5, 0, 1), (121, 4, 0, 1), (121, 4, 1, 2), (122, 5, 0, 1), (122, 5, 1, 2), (122, 5, 2, 3), (123, 5, 0, 1), (123, 5, 1, 2), (123, 5, 3, 3), (124, 5, 0, 1), (124, 5, 4, 2), (124, 5, 1, 3), (125, 7, 0, 1), (125, 7, 4, 2), (125, 7, 1, 3), (125, 7, 2, 4), (126, 7, 0, 1), (126, 7, 4, 2), (126, 7, 1, 3), (126, 7, 2, 4), (127, 5, 0, 1), (127, 5, 4, 2), (127, 5, 1, 3), (127, 5, 2, 4), (128, 5, 0, 1), (128, 5, 4, 2), (128, 5, 1, 3), (128, 5, 3, 4), (129, 4, 0, 1), (129, 4, 1, 2), (129, 4, 3, 3), (130, 5, 0, 1), (130, 5, 1, 2), (131, 5, 0, 1)]
def mm_LX : List (Nat × Nat × Nat) := [(13, 0, 76), (15, 1, 77), (28, 2, 348), (52, 3, 421), (57, 4, 447)]
/-- words of a method in lw_tbl: code, then static | instanceMethod, selects -/
def mm_WI (k : Nat) : Nat × Nat × Nat := match k with
  | 0 => (198, 197, 0)
  | 1 => (341, 340, 0)
  | 2 => (179, 178, 0)
  | 3 => (291, 289, 290)
  | 4 => (296, 294, 295)
  | 5 => (309, 307, 308)
  | 6 => (313, 311, 312)
  | 7 => (317, 315, 316)
  | 8 => (324, 322, 323)
  | 9 => (479, 477, 478)
  | 10 => (486, 484, 485)
  | 11 => (507, 505, 506)
  | 12 => (524, 522, 523)
  | 13 => (528, 526, 527)
  | 14 => (53, 52, 0)
  | 15 => (81, 79, 80)
  | 16 => (84, 83, 0)
  | 17 => (87, 86, 0)
  | 18 => (156, 155, 1)
  | 19 => (159, 158, 0)
  | 20 => (252, 251, 2)
  | 21 => (259, 257, 258)
  | 22 => (263, 262, 3)
  | 23 => (266, 265, 0)
  | 24 => (269, 268, 0)
  | 25 => (272, 271, 0)
  | 26 => (275, 274, 0)
  | 27 => (278, 277, 0)
  | 28 => (281, 280, 0)
  | 29 => (287, 286, 0)
  | 30 => (299, 298, 0)
  | 31 => (302, 301, 0)
  | 32 => (305, 304, 0)
  | 33 => (320, 319, 0)
  | 34 => (331, 329, 330)
  | 35 => (335, 334, 4)
  | 36 => (338, 337, 0)
  | 37 => (352, 350, 351)
  | 38 => (355, 354, 0)
  | 39 => (359, 358, 0)
  | 40 => (381, 379, 380)
  | 41 => (388, 386, 387)
  | 42 => (395, 393, 394)
  | 43 => (403, 401, 402)
  | 44 => (410, 408, 409)
  | 45 => (417, 415, 416)
  | 46 => (425, 423, 424)
  | 47 => (428, 427, 0)
  | 48 => (451, 449, 450)
  | 49 => (454, 453, 0)
  | 50 => (457, 456, 0)
  | 51 => (475, 474, 0)
  | 52 => (482, 481, 0)
  | 53 => (493, 491, 492)
  | 54 => (500, 498, 499)
  | 55 => (503, 502, 0)
  | 56 => (514, 512, 513)
  | 57 => (517, 516, 0)
  | 58 => (520, 519, 0)
  | 59 => (537, 535, 536)
  | 60 => (544, 542, 543)
  | 61 => (551, 549, 550)
  | 62 => (558, 556, 557)
  | 63 => (563, 562, 0)
  | 64 => (627, 625, 626)
  | 65 => (631, 629, 630)
  | 66 => (635, 634, 5)
  | 67 => (639, 638, 6)
  | 68 => (643, 642, 7)
  | 69 => (647, 645, 646)
  | 70 => (651, 650, 8)
  | 71 => (655, 654, 9)
  | 72 => (659, 658, 10)
  | 73 => (663, 662, 11)
  | 74 => (667, 666, 12)
  | 75 => (671, 670, 13)
  | 76 => (675, 674, 14)
  | 77 => (679, 678, 15)
  | 78 => (683, 682, 16)
  | 79 => (687, 686, 17)
  | 80 => (691, 690, 18)
  | 81 => (695, 694, 19)
  | 82 => (699, 698, 20)
  | 83 => (703, 702, 21)
  | 84 => (707, 706, 22)
  | 85 => (711, 709, 710)
  | 86 => (715, 714, 23)
  | 87 => (719, 718, 24)
  | 88 => (723, 721, 722)
  | 89 => (727, 725, 726)
  | 90 => (731, 729, 730)
  | 91 => (735, 733, 734)
  | 92 => (739, 737, 738)
  | 93 => (743, 741, 742)
  | 94 => (747, 745, 746)
  | 95 => (751, 749, 750)
  | 96 => (755, 753, 754)
  | 97 => (759, 758, 25)
  | 98 => (763, 762, 26)
  | 99 => (767, 766, 27)
  | 100 => (771, 770, 28)
  | 101 => (775, 774, 29)
  | 102 => (779, 778, 30)
  | 103 => (783, 782, 31)
  | 104 => (787, 785, 786)
  | 105 => (791, 789, 790)
  | 106 => (795, 793, 794)
  | 107 => (799, 798, 32)
  | 108 => (803, 802, 33)
  | 109 => (807, 805, 806)
  | 110 => (811, 809, 810)
  | 111 => (815, 813, 814)
  | 112 => (819, 817, 818)
  | 113 => (75, 74, 0)
  | 114 => (255, 254, 0)
  | 115 => (327, 326, 0)
  | 116 => (347, 346, 0)
  | 117 => (377, 376, 0)
  | 118 => (384, 383, 0)
  | 119 => (391, 390, 0)
  | 120 => (399, 398, 0)
  | 121 => (406, 405, 0)
  | 122 => (413, 412, 0)
  | 123 => (420, 419, 0)
  | 124 => (446, 445, 0)
  | 125 => (489, 488, 0)
  | 126 => (496, 495, 0)
  | 127 => (510, 509, 0)
  | 128 => (533, 532, 0)
  | 129 => (540, 539, 0)
  | 130 => (547, 546, 0)
  | 131 => (554, 553, 0)
  | 132 => (344, 343, 0)
  | _ => (0, 0, 0)
def mm_fw (e : Nat × Nat × Nat × Nat × Nat) : Cond := .fieldLink (mR e.1) e.2.1 (mR e.2.2.1) (mT e.2.2.1 e.2.2.2.1).2.1 (mT e.2.2.1 e.2.2.2.1).2.2.1
def mm_at (i : Nat) (w : Cond) : Bool := decide (lw_tbl[i]? = some w) && goodWord w
theorem mm_at_in {i : Nat} {w : Cond} (h : mm_at i w = true) : w ∈ mm_WL := by
  simp only [mm_at, Bool.and_eq_true, decide_eq_true_eq] at h
  exact List.mem_filter.mpr ⟨List.mem_of_getElem? h.1, h.2⟩
theorem mm_WL_tbl {w : Cond} (h : w ∈ mm_WL) : w ∈ lw_tbl := (List.mem_filter.mp h).1
theorem mm_WL_good : ∀ w ∈ mm_WL, goodWord w = true := fun _ h => (List.mem_filter.mp h).2
theorem mm_FL_ok : mm_FL.all (fun e => mm_at e.2.2.2.2 (mm_fw e) && decide (e.2.2.1 < 4) && decide (e.2.2.2.1 < mN e.2.2.1)) = true := by decide +kernel
theorem mm_ML_ok : mm_ML.all (fun e => mm_at e.2.2.2 (.methodLink (mR e.1) e.2.1 (mm_y e.2.2.1)) && decide (e.2.2.1 < 132)) = true := by decide +kernel
theorem mm_OL_ok : mm_OL.all (fun e => mm_at e.2.2 (.methodLink (mR e.1) e.2.1 objectInit)) = true := by decide +kernel
theorem mm_AL_ok : mm_AL.all (fun e => mm_at e.2.2 (.methodLink (mR e.1) e.2.1 arraycopyName)) = true := by decide +kernel
theorem mm_CL_ok : mm_CL.all (fun e => mm_at e.2.2.2 (.classLink (mR e.1) e.2.1 (mR e.2.2.1)) && decide (e.2.2.1 < 4)) = true := by decide +kernel
theorem mm_EL_ok : mm_EL.all (fun e => mm_at e.2.2.2.2 (.classLink (mR e.1) e.2.1 (mm_E e.2.2.1))) = true := by decide +kernel
theorem mm_LX_ok : mm_LX.all (fun e => mm_at e.2.2 (.classLink (mR 4) e.1 (mm_E e.2.1))) = true := by decide +kernel
theorem mm_XL_ok : mm_XL.all (fun e => mm_at e.2.2 (.methodLink (mR e.1) e.2.1 Lib.Math.max.name)) = true := by decide +kernel
theorem mm_max_ok : (mm_at 343 (.static Lib.Math.max.name) && mm_at 344 (.code Lib.Math.max.name Lib.Math.max.code 2 (some .int))) = true := by decide +kernel
def mm_ini (c : Nat) : Nat := match c with
  | 0 => 43
  | 1 => 42
  | 2 => 35
  | 3 => 36
  | 4 => 34
  | 5 => 45
  | _ => 44
def mm_ins (c : Nat) : Nat := match c with
  | 0 => 195
  | 1 => 176
  | 2 => 50
  | 3 => 560
  | _ => 0
theorem mm_ini_ok : (List.range 7).all (fun c => mm_at (mm_ini c) (.initialized (mR c))) = true := by decide +kernel
theorem mm_ins_ok : (List.range 4).all (fun c => mm_at (mm_ins c) (.instantiable (mR c) (mN c))) = true := by decide +kernel
theorem mm_obj_ok : (mm_at 55 (.instanceMethod objectInit) && mm_at 56 (.code objectInit ⟨#[0xb1]⟩ 1 none)) = true := by decide +kernel
theorem mm_cpy_ok : (mm_at 284 (.native arraycopyName) && mm_at 283 (.static arraycopyName)) = true := by decide +kernel
theorem mm_arr_int : mm_at 72 (.arrayClass .int) = true := by decide +kernel
theorem mm_arr_boolean : mm_at 623 (.arrayClass .boolean) = true := by decide +kernel
theorem mm_arr_long : mm_at 820 (.arrayClass .long) = true := by decide +kernel
theorem mm_arr_double : mm_at 821 (.arrayClass .double) = true := by decide +kernel
def mm_code (k : Nat) : Cond := if mm_kd k = 3 then .codeWith (mm_y k) (mm_b k) (mm_mx k) (mm_rt k) (mm_hh k) else .code (mm_y k) (mm_b k) (mm_mx k) (mm_rt k)
def mm_K_ok (k : Nat) : Bool := mm_at (mm_WI k).1 (mm_code k) && (if mm_kd k = 0 ∨ mm_kd k = 3 then mm_at (mm_WI k).2.1 (.static (mm_y k)) else mm_at (mm_WI k).2.1 (.instanceMethod (mm_y k))) && (if mm_kd k = 1 then mm_at (mm_WI k).2.2 (.selects (mR (mm_own k)) (mm_y k) (mm_y k)) else true) && decide ((mm_y k).cls = mR (mm_own k)) && plainName (mm_y k).cls && decide ((parseMethodDescriptor (mm_y k).desc).map (fun d => d.parameters.length) = some (if mm_kd k = 0 ∨ mm_kd k = 3 then mm_na k else mm_na k - 1)) && decide (mm_na k ≤ mm_mx k) && decide (mm_mx k < 20) && decide (mm_own k < 6) && (if mm_kd k = 2 then decide ((mm_y k).name = "<init>" ∧ mm_rt k = none) else true) && (if mm_kd k = 0 ∨ mm_kd k = 3 then true else decide (0 < mm_na k))
theorem mm_K_ok0 : ((List.range 20).drop 0).all mm_K_ok = true := by decide +kernel
theorem mm_K_ok1 : ((List.range 40).drop 20).all mm_K_ok = true := by decide +kernel
theorem mm_K_ok2 : ((List.range 60).drop 40).all mm_K_ok = true := by decide +kernel
theorem mm_K_ok3 : ((List.range 80).drop 60).all mm_K_ok = true := by decide +kernel
theorem mm_K_ok4 : ((List.range 100).drop 80).all mm_K_ok = true := by decide +kernel
theorem mm_K_ok5 : ((List.range 120).drop 100).all mm_K_ok = true := by decide +kernel
theorem mm_K_ok6 : ((List.range 132).drop 120).all mm_K_ok = true := by decide +kernel
theorem mm_K_all {k : Nat} (hk : k < 132) : mm_K_ok k = true := by
  by_cases h0 : k < 20
  · exact List.all_eq_true.mp mm_K_ok0 k (List.mem_iff_getElem?.mpr ⟨k - 0, by rw [List.getElem?_drop, List.getElem?_range (by omega)]; congr 1; omega⟩)
  by_cases h1 : k < 40
  · exact List.all_eq_true.mp mm_K_ok1 k (List.mem_iff_getElem?.mpr ⟨k - 20, by rw [List.getElem?_drop, List.getElem?_range (by omega)]; congr 1; omega⟩)
  by_cases h2 : k < 60
  · exact List.all_eq_true.mp mm_K_ok2 k (List.mem_iff_getElem?.mpr ⟨k - 40, by rw [List.getElem?_drop, List.getElem?_range (by omega)]; congr 1; omega⟩)
  by_cases h3 : k < 80
  · exact List.all_eq_true.mp mm_K_ok3 k (List.mem_iff_getElem?.mpr ⟨k - 60, by rw [List.getElem?_drop, List.getElem?_range (by omega)]; congr 1; omega⟩)
  by_cases h4 : k < 100
  · exact List.all_eq_true.mp mm_K_ok4 k (List.mem_iff_getElem?.mpr ⟨k - 80, by rw [List.getElem?_drop, List.getElem?_range (by omega)]; congr 1; omega⟩)
  by_cases h5 : k < 120
  · exact List.all_eq_true.mp mm_K_ok5 k (List.mem_iff_getElem?.mpr ⟨k - 100, by rw [List.getElem?_drop, List.getElem?_range (by omega)]; congr 1; omega⟩)
  by_cases h6 : k < 132
  · exact List.all_eq_true.mp mm_K_ok6 k (List.mem_iff_getElem?.mpr ⟨k - 120, by rw [List.getElem?_drop, List.getElem?_range (by omega)]; congr 1; omega⟩)
  omega
end
section
/-! the abstract machine: the bytecode over a memory that maps addresses to objects and arrays -/
abbrev mm_O : Type := (Nat × vp_A) ⊕ (Nat × List Value)
/-- heap size, slots used since the start, what lies where -/
abbrev mm_M : Type := Nat × Nat × (Nat → Option mm_O)
/-- returned a value, or threw the exception of that number (mm_E) -/
abbrev mm_Out : Type := (Option Value) ⊕ Nat
def mm_set (M : mm_M) (a : Nat) (o : mm_O) : mm_M := (M.1, M.2.1, fun q => if q = a then some o else M.2.2 q)
def mm_push (M : mm_M) (n : Nat) (o : mm_O) : mm_M := (M.1 + 1, M.2.1 + n, fun q => if q = M.1 then some o else M.2.2 q)
def mm_skip (M : mm_M) (n : Nat) : mm_M := (M.1 + 1, M.2.1 + n, M.2.2)
def mm_fld (o i : Nat) : Option (Nat × Nat) := (mm_FL.find? (fun e => e.1 == o && e.2.1 == i)).map (fun e => (e.2.2.1, e.2.2.2.1))
def mm_mth (o i : Nat) : Option Nat := (mm_ML.find? (fun e => e.1 == o && e.2.1 == i)).map (fun e => e.2.2.1)
def mm_isO (o i : Nat) : Bool := mm_OL.any (fun e => e.1 == o && e.2.1 == i)
def mm_isA (o i : Nat) : Bool := mm_AL.any (fun e => e.1 == o && e.2.1 == i)
def mm_isX (o i : Nat) : Bool := mm_XL.any (fun e => e.1 == o && e.2.1 == i)
def mm_new (o i : Nat) : Option Nat := (mm_CL.find? (fun e => e.1 == o && e.2.1 == i)).map (fun e => e.2.2.1)
def mm_thr (o i : Nat) : Option (Nat × Nat) := (mm_EL.find? (fun e => e.1 == o && e.2.1 == i)).map (fun e => (e.2.2.1, e.2.2.2.1))
def mm_hnd (k pc x : Nat) : Option Int := (mm_HL.find? (fun e => e.1 == k && e.2.1 == pc && e.2.2.1 == x)).map (fun e => e.2.2.2)
def mm_vk (v : Value) : Nat := match v with
  | .int _ => 0
  | .long _ => 1
  | .double _ => 2
  | .null => 3
  | .ref _ => 3
  | _ => 9
def mm_fits (ty : FieldType) (v : Value) : Bool := match ty with
  | .int => mm_vk v == 0
  | .object _ => mm_vk v == 3
  | .array _ => mm_vk v == 3
  | _ => false
def mm_cc (c : ClassFile.Cond) (x y : Int32) : Bool := match c with
  | .eq => decide (x = y)
  | .ne => decide (¬ x = y)
  | .lt => decide (x < y)
  | .ge => decide (y ≤ x)
  | .gt => decide (y < x)
  | .le => decide (x ≤ y)
def mm_pu (i : Instr) (len : Nat) (st : List Value) : Option (List Value) := match i, len, st with
  | .iconst v, 1, st => some (.int (Int32.ofInt v) :: st)
  | .bipush v, 2, st => some (.int (Int8.ofInt v).toInt32 :: st)
  | .sipush v, 3, st => some (.int (Int16.ofInt v).toInt32 :: st)
  | .lconst v, 1, st => some (.long (Int64.ofNat (v : Nat)) :: st)
  | .aconst_null, 1, st => some (.null :: st)
  | .iadd, 1, .int y :: .int x :: r => some (.int (x + y) :: r)
  | .isub, 1, .int y :: .int x :: r => some (.int (x - y) :: r)
  | .imul, 1, .int y :: .int x :: r => some (.int (x * y) :: r)
  | .idiv, 1, .int y :: .int x :: r => if y = 0 then none else some (.int (x / y) :: r)
  | .irem, 1, .int y :: .int x :: r => if y = 0 then none else some (.int (x - x / y * y) :: r)
  | .iand, 1, .int y :: .int x :: r => some (.int (x &&& y) :: r)
  | .i2l, 1, .int x :: r => some (.long x.toInt64 :: r)
  | .i2d, 1, .int x :: r => some (.double (FP.i2d x) :: r)
  | .l2d, 1, .long x :: r => some (.double (FP.l2d x) :: r)
  | .ladd, 1, .long y :: .long x :: r => some (.long (x + y) :: r)
  | .lcmp, 1, .long y :: .long x :: r => some (.int (lg_cmp x y) :: r)
  | .ddiv, 1, .double y :: .double x :: r => if FP.ddiv x y &&& 0x7fffffffffffffff ≤ 0x7ff0000000000000 then some (.double (FP.ddiv x y) :: r) else none
  | .dcmp op, 1, .double y :: .double x :: r => some (.int (Op.cmpValue (FP.dcmp x y) op) :: r)
  | .dup, 1, v :: r => if v.category = 1 then some (v :: v :: r) else none
  | .dup2, 1, v :: u :: r => if v.category = 1 ∧ u.category = 1 then some (v :: u :: v :: u :: r) else none
  | .pop, 1, v :: r => if v.category = 1 then some r else none
  | _, _, _ => none
def mm_tg (pc : Nat) (o : Int) : Option Nat := if 0 ≤ (pc : Int) + o then some ((pc : Int) + o).toNat else none
/-- where a branch goes on -/
def mm_br (pc : Nat) (i : Instr) (len : Nat) (st : List Value) : Option (List Value × Nat) := match i, len, st with
  | .goto o, 3, st => (mm_tg pc o).map (fun t => (st, t))
  | .if_icmp c o, 3, .int y :: .int x :: r => (mm_tg pc o).map (fun t => (r, if mm_cc c x y = true then t else pc + 3))
  | .ifCond c o, 3, .int x :: r => (mm_tg pc o).map (fun t => (r, if mm_cc c x 0 = true then t else pc + 3))
  | .ifnull o, 3, .null :: r => (mm_tg pc o).map (fun t => (r, t))
  | .ifnull _, 3, .ref _ :: r => some (r, pc + 3)
  | .ifnonnull _, 3, .null :: r => some (r, pc + 3)
  | .ifnonnull o, 3, .ref _ :: r => (mm_tg pc o).map (fun t => (r, t))
  | .tableswitch d lo hi offs, _, .int x :: r => if x.toInt < lo ∨ hi < x.toInt then (mm_tg pc d).map (fun t => (r, t)) else (match offs[(x.toInt - lo).toNat]? with
    | some o => (mm_tg pc o).map (fun t => (r, t))
    | none => none)
  | .lookupswitch d ps, _, .int x :: r => if (ps.toList.zip (ps.toList.drop 1)).all (fun (a, next) => a.1 < next.1) = true then (mm_tg pc (Op.lookupswitch.offset ps.toList d x.toInt)).map (fun t => (r, t)) else none
  | _, _, _ => none
def mm_ld (i : Instr) (len : Nat) : Option (Nat × Nat) := match i, len with
  | .iload n, 2 => some (n, 0)
  | .iload_n n, 1 => some (n, 0)
  | .lload n, 2 => some (n, 1)
  | .lload_n n, 1 => some (n, 1)
  | .dload n, 2 => some (n, 2)
  | .aload n, 2 => some (n, 3)
  | .aload_n n, 1 => some (n, 3)
  | _, _ => none
def mm_so (i : Instr) (len : Nat) : Option (Nat × Nat) := match i, len with
  | .istore n, 2 => some (n, 0)
  | .istore_n n, 1 => some (n, 0)
  | .lstore n, 2 => some (n, 1)
  | .lstore_n n, 1 => some (n, 1)
  | .dstore n, 2 => some (n, 2)
  | .astore n, 2 => some (n, 3)
  | .astore_n n, 1 => some (n, 3)
  | _, _ => none
/-- what a store of a place leaves of the value one below -/
def mm_k (v : Option Value) : Option Value := match v with
  | some (.long _) => none
  | some (.double _) => none
  | v => v
def mm_a1 (al : List (Option Value)) (n : Nat) : List (Option Value) := match n with
  | 0 => al
  | j + 1 => al.modify j mm_k
def mm_st (al : List (Option Value)) (n : Nat) (v : Value) : List (Option Value) := match v with
  | .long _ => ((mm_a1 al n).set n (some v)).set (n + 1) none
  | .double _ => ((mm_a1 al n).set n (some v)).set (n + 1) none
  | _ => (mm_a1 al n).set n (some v)
def mm_sum (st : List Value) : Nat := (st.map fun v => v.category).sum
def mm_arg (k : Nat) (vs : List Value) : List (Option Value) := vs.map some ++ List.replicate (mm_mx k - vs.length) none
def mm_aty (t : ArrayType) : Option (Nat × vp_A × Nat) := match t with
  | .int => some (0, (0, .inl (fun _ => 0)), 4)
  | .boolean => some (1, (0, .inl (fun _ => 0)), 1)
  | .long => some (3, (0, .inr (.inl (fun _ => 0))), 8)
  | .double => some (4, (0, .inr (.inr (.inr (.inl (fun _ => 0))))), 8)
  | _ => none
def mm_dfl (c : Nat) : List Value := (List.range (mN c)).map (fun j => defaultValue (mF c j))
section MM
variable (rec : Nat → Nat → Nat → List (Option Value) → List Value → mm_M → Option (mm_Out × mm_M)) (X : Nat × Nat × (Nat → Int32))
def mm_call (d k pc : Nat) (k' : Nat) (al : List (Option Value)) (st : List Value) (M : mm_M) : Option (mm_Out × mm_M) :=
  if d = 0 ∨ st.length < mm_na k' ∨ 8 < mm_sum (st.drop (mm_na k')) ∨ (st.take (mm_na k')).all (fun v => v.category == 1) = false then none else
  match rec (d - 1) k' 0 (mm_arg k' (st.take (mm_na k')).reverse) [] M with
  | some (.inl v, M') => rec d k (pc + 3) al (v.toList ++ st.drop (mm_na k')) M'
  | some (.inr x, M') => if mm_kd k' = 2 then none else if mm_kd k = 3 then (mm_hnd k pc x).map (fun r => (.inl (some (.int (Int32.ofInt r))), M')) else if mm_kd k = 4 then none else some (.inr x, M')
  | none => none
def mm_heap (d k pc : Nat) (i : Instr) (len : Nat) (al : List (Option Value)) (st : List Value) (M : mm_M) : Option (mm_Out × mm_M) := match i, len, st with
  | .iinc n v, 3, st => match al[n]? with
    | some (some (.int x)) => rec d k (pc + 3) (mm_st al n (.int (x + Int32.ofInt v))) st M
    | _ => none
  | .getfield idx, 3, .ref a :: r => match mm_fld (mm_own k) idx, M.2.2 a with
    | some (ci, j), some (.inr (c, fs)) => if c = ci then (match fs[j]? with
      | some v => rec d k (pc + 3) al (v :: r) M
      | none => none) else none
    | _, _ => none
  | .putfield idx, 3, v :: .ref a :: r => match mm_fld (mm_own k) idx, M.2.2 a with
    | some (ci, j), some (.inr (c, fs)) => if c = ci ∧ j < fs.length ∧ mm_fits (mF ci j) v = true ∧ ((mT ci j).2.2.2 = false ∨ (mm_kd k = 2 ∧ ci = mm_own k)) then rec d k (pc + 3) al r (mm_set M a (.inr (c, fs.set j v))) else none
    | _, _ => none
  | .iaload, 1, .int j :: .ref a :: r => match M.2.2 a with
    | some (.inl (0, n, .inl f)) => if j < 0 ∨ n ≤ j.toNatClampNeg then none else rec d k (pc + 1) al (.int (f j.toNatClampNeg) :: r) M
    | some _ => none
    | none => if a = X.1 then (if j < 0 ∨ X.2.1 ≤ j.toNatClampNeg then none else rec d k (pc + 1) al (.int (X.2.2 j.toNatClampNeg) :: r) M) else none
  | .baload, 1, .int j :: .ref a :: r => match M.2.2 a with
    | some (.inl (1, n, .inl f)) => if j < 0 ∨ n ≤ j.toNatClampNeg then none else rec d k (pc + 1) al (.int (f j.toNatClampNeg) :: r) M
    | _ => none
  | .aaload, 1, .int j :: .ref a :: r => match M.2.2 a with
    | some (.inl (2, n, .inr (.inr (.inr (.inr f))))) => if j < 0 ∨ n ≤ j.toNatClampNeg then none else rec d k (pc + 1) al (va_rf (f j.toNatClampNeg) :: r) M
    | _ => none
  | .laload, 1, .int j :: .ref a :: r => match M.2.2 a with
    | some (.inl (3, n, .inr (.inl f))) => if j < 0 ∨ n ≤ j.toNatClampNeg then none else rec d k (pc + 1) al (.long (f j.toNatClampNeg) :: r) M
    | _ => none
  | .daload, 1, .int j :: .ref a :: r => match M.2.2 a with
    | some (.inl (4, n, .inr (.inr (.inr (.inl f))))) => if j < 0 ∨ n ≤ j.toNatClampNeg then none else rec d k (pc + 1) al (.double (f j.toNatClampNeg) :: r) M
    | _ => none
  | .iastore, 1, .int x :: .int j :: .ref a :: r => match M.2.2 a with
    | some (.inl (0, n, .inl f)) => if j < 0 ∨ n ≤ j.toNatClampNeg then none else rec d k (pc + 1) al r (mm_set M a (.inl (0, n, .inl (upd f j.toNatClampNeg x))))
    | _ => none
  | .bastore, 1, .int x :: .int j :: .ref a :: r => match M.2.2 a with
    | some (.inl (1, n, .inl f)) => if j < 0 ∨ n ≤ j.toNatClampNeg then none else rec d k (pc + 1) al r (mm_set M a (.inl (1, n, .inl (upd f j.toNatClampNeg (vp_nar .boolean x)))))
    | _ => none
  | .lastore, 1, .long x :: .int j :: .ref a :: r => match M.2.2 a with
    | some (.inl (3, n, .inr (.inl f))) => if j < 0 ∨ n ≤ j.toNatClampNeg then none else rec d k (pc + 1) al r (mm_set M a (.inl (3, n, .inr (.inl (vp_updL f j.toNatClampNeg x)))))
    | _ => none
  | .dastore, 1, .double x :: .int j :: .ref a :: r => match M.2.2 a with
    | some (.inl (4, n, .inr (.inr (.inr (.inl f))))) => if j < 0 ∨ n ≤ j.toNatClampNeg then none else rec d k (pc + 1) al r (mm_set M a (.inl (4, n, .inr (.inr (.inr (.inl (vf_upd f j.toNatClampNeg x)))))))
    | _ => none
  | .aastore, 1, .null :: .int j :: .ref a :: r => match M.2.2 a with
    | some (.inl (2, n, .inr (.inr (.inr (.inr f))))) => if j < 0 ∨ n ≤ j.toNatClampNeg then none else rec d k (pc + 1) al r (mm_set M a (.inl (2, n, .inr (.inr (.inr (.inr (va_up f j.toNatClampNeg none)))))))
    | _ => none
  | .aastore, 1, .ref v :: .int j :: .ref a :: r => match M.2.2 a, M.2.2 v with
    | some (.inl (2, n, .inr (.inr (.inr (.inr f))))), some (.inr (0, _)) => if j < 0 ∨ n ≤ j.toNatClampNeg then none else rec d k (pc + 1) al r (mm_set M a (.inl (2, n, .inr (.inr (.inr (.inr (va_up f j.toNatClampNeg (some v))))))))
    | _, _ => none
  | .arraylength, 1, .ref a :: r => match M.2.2 a with
    | some (.inl (t, n, _)) => if t < 5 then rec d k (pc + 1) al (.int (Int32.ofNat n) :: r) M else none
    | some _ => none
    | none => if a = X.1 then rec d k (pc + 1) al (.int (Int32.ofNat X.2.1) :: r) M else none
  | .new idx, 3, r => match mm_new (mm_own k) idx with
    | some ci => rec d k (pc + 3) al (.ref M.1 :: r) (mm_push M (mN ci) (.inr (ci, mm_dfl ci)))
    | none => match mm_thr (mm_own k) idx with
      | some (x, ic) => if 6 ≤ d ∧ mm_sum r ≤ 8 ∧ (mm_kd k < 2) ∧ decode (mm_b k) (pc + 3) = .ok (.dup, 1) ∧ decode (mm_b k) (pc + 4) = .ok (.invokespecial ic, 3) ∧ decode (mm_b k) (pc + 7) = .ok (.athrow, 1) then some (.inr x, mm_skip M 6) else none
      | none => none
  | .newarray t, 2, .int n :: r => match mm_aty t with
    | some (q, x, w) => if n < 0 ∨ 536870912 < n.toNatClampNeg * w then none else rec d k (pc + 2) al (.ref M.1 :: r) (mm_push M n.toNatClampNeg (.inl (q, n.toNatClampNeg, x.2)))
    | none => none
  | .anewarray idx, 3, .int n :: r => if n < 0 ∨ 536870912 < n.toNatClampNeg * 4 ∨ mm_new (mm_own k) idx ≠ some 0 then none else rec d k (pc + 3) al (.ref M.1 :: r) (mm_push M n.toNatClampNeg (.inl (2, n.toNatClampNeg, .inr (.inr (.inr (.inr (fun _ => none)))))))
  | .invokestatic idx, 3, st => match mm_mth (mm_own k) idx with
    | some k' => if mm_kd k' = 0 ∨ mm_kd k' = 3 then mm_call rec d k pc k' al st M else none
    | none => match st with
      | .int n :: .int dp :: .ref a :: .int sp :: .ref a0 :: r => if mm_isA (mm_own k) idx = true ∧ 1 ≤ d ∧ mm_sum r ≤ 8 then (match M.2.2 a0, M.2.2 a with
        | some (.inl (0, n0, .inl f)), some (.inl (0, n1, .inl g)) => if sp < 0 ∨ dp < 0 ∨ n < 0 ∨ n0 < sp.toNatClampNeg + n.toNatClampNeg ∨ n1 < dp.toNatClampNeg + n.toNatClampNeg then none else rec d k (pc + 3) al r (mm_set M a (.inl (0, n1, .inl (va_cpy f g sp.toNatClampNeg dp.toNatClampNeg n.toNatClampNeg))))
        | _, _ => none) else none
      | .int y :: .int x :: r => if mm_isX (mm_own k) idx = true ∧ 1 ≤ d ∧ mm_sum r ≤ 8 then rec d k (pc + 3) al (.int (if x < y then y else x) :: r) M else none
      | _ => none
  | .invokevirtual idx, 3, st => match mm_mth (mm_own k) idx with
    | some k' => match st[mm_na k' - 1]? with
      | some (.ref b) => match M.2.2 b with
        | some (.inr (c, _)) => if mm_kd k' = 1 ∧ c = mm_own k' then mm_call rec d k pc k' al st M else none
        | _ => none
      | _ => none
    | none => none
  | .invokespecial idx, 3, st => match mm_mth (mm_own k) idx with
    | some k' => match st[mm_na k' - 1]? with
      | some (.ref _) => if mm_kd k' = 2 then mm_call rec d k pc k' al st M else none
      | _ => none
    | none => match st with
      | .ref _ :: r => if mm_isO (mm_own k) idx = true ∧ 1 ≤ d ∧ mm_sum r ≤ 8 then rec d k (pc + 3) al r M else none
      | _ => none
  | .ireturn, 1, [.int v] => if mm_rt k = some .int ∨ (mm_rt k = some .boolean ∧ (v = 0 ∨ v = 1)) then some (.inl (some (.int v)), M) else none
  | .areturn, 1, [v] => if mm_rt k = some (.object (mR 0)) ∧ mm_vk v = 3 then some (.inl (some v), M) else none
  | .dreturn, 1, [.double v] => if mm_rt k = some .double then some (.inl (some (.double v)), M) else none
  | .return_, 1, [] => if mm_rt k = none then some (.inl none, M) else none
  | _, _, _ => none
def mm_step (d k pc : Nat) (i : Instr) (len : Nat) (al : List (Option Value)) (st : List Value) (M : mm_M) : Option (mm_Out × mm_M) :=
  match mm_pu i len st with
  | some st' => rec d k (pc + len) al st' M
  | none => match mm_br pc i len st with
    | some (st', t) => rec d k t al st' M
    | none => match mm_ld i len with
      | some (n, t) => (match al[n]? with
        | some (some v) => if mm_vk v = t then rec d k (pc + len) al (v :: st) M else none
        | _ => none)
      | none => match mm_so i len with
        | some (n, t) => (match st with
          | v :: r => if mm_vk v = t ∧ n + v.category ≤ al.length then rec d k (pc + len) (mm_st al n v) r M else none
          | [] => none)
        | none => mm_heap rec X d k pc i len al st M
end MM
def mm_run (X : Nat × Nat × (Nat → Int32)) : Nat → Nat → Nat → Nat → List (Option Value) → List Value → mm_M → Option (mm_Out × mm_M)
  | 0 => fun _ _ _ _ _ _ => none
  | n + 1 => fun d k pc al st M => match decode (mm_b k) pc with
    | .ok (i, len) => mm_step (mm_run X n) X d k pc i len al st M
    | .error _ => none
/-- from here the method ends, and so -/
def WP (X : Nat × Nat × (Nat → Int32)) (d k pc : Nat) (al : List (Option Value)) (st : List Value) (M : mm_M) (Q : mm_Out → mm_M → Prop) : Prop := ∃ n o M', mm_run X n d k pc al st M = some (o, M') ∧ Q o M'
end
section
/-! the abstract machine against the machine: stack, branches, locals -/
section MS1
variable {p : Program} {l : Launch} {e : Env} {R : Room} {s : State} {m : MethodId} {args : Array Value} {below : List Frame} {meth : Method} {c : Code} {H : Heap} {locs : List Loc} {cells slots : Nat} {Q : State → Prop}
variable {cc : ByteArray} {pc : Nat} {ls : Array Slot}
theorem mm_pu_ok (hx : p.tables.exec = Jvm.exec) (hb : c.code = cc) {i : Instr} {len : Nat} {st st' : List Value} (hd : decode cc pc = .ok (i, len)) (h : mm_pu i len st = some st')
    (kk : W p l e R s m args below meth c H locs cells slots Q (F0 m (pc + len) ls st')) : W p l e R s m args below meth c H locs cells slots Q (F0 m pc ls st) := by
  unfold mm_pu at h
  split at h
  · cases h; exact lv_iconst hx hb hd rfl kk
  · cases h; exact lv_bipush hx hb hd rfl kk
  · cases h; exact lv_sipush hx hb hd rfl kk
  · cases h; exact lv_lconst hx hb hd rfl kk
  · cases h; exact lv_null hx hb hd kk
  · cases h; exact lv_iadd hx hb hd kk
  · cases h; exact lv_isub hx hb hd kk
  · cases h; exact lv_imul hx hb hd kk
  · split at h
    · cases h
    · rename_i hne; cases h; exact lv_idiv hx hb hd hne kk
  · split at h
    · cases h
    · rename_i hne; cases h; exact lv_irem hx hb hd hne kk
  · cases h; exact lv_iand hx hb hd kk
  · cases h; exact lv_i2l hx hb hd rfl kk
  · cases h; exact lv_i2d hx hb hd kk
  · cases h; exact lv_l2d hx hb hd kk
  · cases h; exact lv_ladd hx hb hd kk
  · cases h; exact W.lcmp hx hb hd kk
  · split at h
    · rename_i hne; cases h; exact lv_ddiv hx hb hd hne kk
    · cases h
  · cases h; exact lv_dcmp hx hb hd kk
  · split at h
    · rename_i hne; cases h; exact lv_dup hx hb hd hne kk
    · cases h
  · split at h
    · rename_i hne; cases h; exact lv_dup2_11 hx hb hd hne.1 hne.2 kk
    · cases h
  · split at h
    · rename_i hne; cases h; exact lv_pop hx hb hd hne kk
    · cases h
  · cases h
theorem mm_tg_eq {pc : Nat} {o : Int} {t : Nat} (h : mm_tg pc o = some t) : (pc : Int) + o = (t : Int) := by
  unfold mm_tg at h
  split at h
  · rename_i h0
    cases h
    omega
  · cases h
theorem mm_tg_map {α : Type} {pc : Nat} {o : Int} {f : Nat → α} {z : α} (h : (mm_tg pc o).map f = some z) : ∃ t : Nat, (pc : Int) + o = (t : Int) ∧ f t = z := by
  cases h1 : mm_tg pc o with
  | none => rw [h1] at h; cases h
  | some t => rw [h1] at h; exact ⟨t, mm_tg_eq h1, Option.some.inj h⟩
theorem mm_br_ok (hx : p.tables.exec = Jvm.exec) (hb : c.code = cc) {i : Instr} {len : Nat} {st st' : List Value} {tgt : Nat} (hd : decode cc pc = .ok (i, len)) (h : mm_br pc i len st = some (st', tgt))
    (kk : W p l e R s m args below meth c H locs cells slots Q (F0 m tgt ls st')) : W p l e R s m args below meth c H locs cells slots Q (F0 m pc ls st) := by
  unfold mm_br at h
  split at h
  · obtain ⟨t, ht, h1⟩ := mm_tg_map h
    cases h1
    exact lv_goto hx hb hd ht kk
  · rename_i c1 o1 y x r
    obtain ⟨t, ht, h1⟩ := mm_tg_map h
    have hr : r = st' := congrArg Prod.fst h1
    have hg : (if mm_cc c1 x y = true then t else pc + 3) = tgt := congrArg Prod.snd h1
    subst hr
    subst hg
    cases c1 <;> simp only [mm_cc, decide_eq_true_eq] at kk
    · exact lv_icmp_eq hx hb hd ht (fun z => by rwa [if_pos z] at kk) (fun z => by rwa [if_neg z] at kk)
    · exact lv_icmp_ne hx hb hd ht (fun z => by rwa [if_pos z] at kk) (fun z => by rwa [if_neg (fun q => q z)] at kk)
    · exact lv_icmp_lt hx hb hd ht (fun z => by rwa [if_pos z] at kk) (fun z => by rwa [if_neg z] at kk)
    · exact lv_icmp_ge hx hb hd ht (fun z => by rwa [if_pos z] at kk) (fun z => by rwa [if_neg z] at kk)
    · exact lv_icmp_gt hx hb hd ht (fun z => by rwa [if_pos z] at kk) (fun z => by rwa [if_neg z] at kk)
    · exact lv_icmp_le hx hb hd ht (fun z => by rwa [if_pos z] at kk) (fun z => by rwa [if_neg z] at kk)
  · rename_i c1 o1 x r
    obtain ⟨t, ht, h1⟩ := mm_tg_map h
    have hr : r = st' := congrArg Prod.fst h1
    have hg : (if mm_cc c1 x 0 = true then t else pc + 3) = tgt := congrArg Prod.snd h1
    subst hr
    subst hg
    cases c1 <;> simp only [mm_cc, decide_eq_true_eq] at kk
    · exact lv_if_eq hx hb hd ht (fun z => by rwa [if_pos z] at kk) (fun z => by rwa [if_neg z] at kk)
    · exact lv_if_ne hx hb hd ht (fun z => by rwa [if_pos z] at kk) (fun z => by rwa [if_neg (fun q => q z)] at kk)
    · exact lv_if_lt hx hb hd ht (fun z => by rwa [if_pos z] at kk) (fun z => by rwa [if_neg z] at kk)
    · exact lv_if_ge hx hb hd ht (fun z => by rwa [if_pos z] at kk) (fun z => by rwa [if_neg z] at kk)
    · exact lv_if_gt hx hb hd ht (fun z => by rwa [if_pos z] at kk) (fun z => by rwa [if_neg z] at kk)
    · exact lv_if_le hx hb hd ht (fun z => by rwa [if_pos z] at kk) (fun z => by rwa [if_neg z] at kk)
  · obtain ⟨t, ht, h1⟩ := mm_tg_map h
    cases h1
    exact lv_ifnullN hx hb hd ht kk
  · cases h
    exact lv_ifnull hx hb hd kk
  · cases h
    exact lv_ifnonnullN hx hb hd kk
  · obtain ⟨t, ht, h1⟩ := mm_tg_map h
    cases h1
    exact lv_ifnonnull hx hb hd ht kk
  · rename_i d lo hi offs x r
    split at h
    · rename_i hz
      obtain ⟨t, ht, h1⟩ := mm_tg_map h
      cases h1
      exact lv_tableOut hx hb hd hz ht kk
    · rename_i hz
      split at h
      · rename_i o1 ho
        obtain ⟨t, ht, h1⟩ := mm_tg_map h
        cases h1
        exact lv_tableIn hx hb hd (fun q => hz (Or.inl q)) (fun q => hz (Or.inr q)) ho ht kk
      · cases h
  · rename_i d ps x r
    split at h
    · rename_i hz
      obtain ⟨t, ht, h1⟩ := mm_tg_map h
      cases h1
      exact lv_lookup hx hb hd hz rfl ht kk
    · cases h
  · cases h
theorem mm_ld_ok (hx : p.tables.exec = Jvm.exec) (hb : c.code = cc) {i : Instr} {len n t : Nat} {v : Value} {st : List Value} (hd : decode cc pc = .ok (i, len)) (h : mm_ld i len = some (n, t)) (hl : ls[n]? = some (.val v)) (hv : mm_vk v = t)
    (kk : W p l e R s m args below meth c H locs cells slots Q (F0 m (pc + len) ls (v :: st))) : W p l e R s m args below meth c H locs cells slots Q (F0 m pc ls st) := by
  unfold mm_ld at h
  split at h
  · cases h
    cases v <;> simp only [mm_vk] at hv <;> first | exact lv_iload hx hb hd hl kk | cases hv
  · cases h
    cases v <;> simp only [mm_vk] at hv <;> first | exact lv_iload_n hx hb hd rfl hl kk | cases hv
  · cases h
    cases v <;> simp only [mm_vk] at hv <;> first | exact lv_lload hx hb hd hl kk | cases hv
  · cases h
    cases v <;> simp only [mm_vk] at hv <;> first | exact lv_lload_n hx hb hd rfl hl kk | cases hv
  · cases h
    cases v <;> simp only [mm_vk] at hv <;> first | exact lv_dload hx hb hd hl kk | cases hv
  · cases h
    cases v <;> simp only [mm_vk] at hv <;> first | exact lv_aload hx hb hd hl kk | exact lv_aloadN hx hb hd hl kk | cases hv
  · cases h
    cases v <;> simp only [mm_vk] at hv <;> first | exact lv_aload_n hx hb hd rfl hl kk | exact lv_aload_nN hx hb hd rfl hl kk | cases hv
  · cases h
/-- the locals: a list of what each holds, where it is known -/
def mm_L (ls : Array Slot) (nL : Nat) (al : List (Option Value)) : Prop := ls.size = nL ∧ al.length = nL ∧ lv_wf ls ∧ ∀ (j : Nat) (v : Value), al[j]? = some (some v) → ls[j]? = some (.val v)
def mm_lv (al : List (Option Value)) : List (Nat × Value) := al.zipIdx.filterMap (fun q => q.1.map (fun v => (q.2, v)))
theorem mm_lv_in {al : List (Option Value)} {j : Nat} {v : Value} : (j, v) ∈ mm_lv al ↔ al[j]? = some (some v) := by
  unfold mm_lv
  rw [List.mem_filterMap]
  constructor
  · rintro ⟨⟨o, n⟩, h1, h2⟩
    have h3 := List.mem_zipIdx_iff_getElem?.mp h1
    dsimp only at h2 h3
    cases o with
    | none => cases h2
    | some w => cases h2; exact h3
  · intro h
    exact ⟨(some v, j), List.mem_zipIdx_iff_getElem?.mpr h, rfl⟩
theorem mm_L_has {ls : Array Slot} {nL : Nat} {al : List (Option Value)} (h : mm_L ls nL al) : lv_has ls nL (mm_lv al) := ⟨h.1, h.2.2.1, fun q hq => h.2.2.2 q.1 q.2 (mm_lv_in.mp hq)⟩
theorem mm_st_len (al : List (Option Value)) (n : Nat) (v : Value) : (mm_st al n v).length = al.length := by
  unfold mm_st mm_a1
  cases n <;> cases v <;> simp
theorem mm_k_eq {x : Option Value} {v : Value} (h : mm_k x = some v) : x = some v ∧ ¬ v.category = 2 := by
  cases x with
  | none => cases h
  | some w => cases w <;> simp_all [mm_k, Value.category] <;> (subst h; simp)
theorem mm_al1 {al : List (Option Value)} {n j : Nat} {w : Value} (h : (mm_a1 al n)[j]? = some (some w)) : al[j]? = some (some w) ∧ ¬ (j + 1 = n ∧ w.category = 2) := by
  cases n with
  | zero => exact ⟨h, fun q => by omega⟩
  | succ q =>
    unfold mm_a1 at h
    dsimp only at h
    rw [List.getElem?_modify] at h
    cases hz : al[j]? with
    | none => rw [hz] at h; cases h
    | some x =>
      rw [hz] at h
      have h2 : (if q = j then mm_k x else x) = some w := Option.some.inj h
      by_cases hq : q = j
      · rw [if_pos hq] at h2
        obtain ⟨e1, e2⟩ := mm_k_eq h2
        exact ⟨by rw [e1], fun z => e2 z.2⟩
      · rw [if_neg hq] at h2
        exact ⟨by rw [h2], fun z => hq (by omega)⟩
/-- behind a store of one slot -/
theorem mm_L_st1 {ls ls' : Array Slot} {nL n : Nat} {al : List (Option Value)} {v : Value} (h : mm_L ls nL al) (hv : v.category = 1) (h' : lv_has ls' nL ((n, v) :: (mm_lv al).filter (fun q => !(q.1 == n) && !(q.1 + 1 == n && q.2.category == 2)))) : mm_L ls' nL (mm_st al n v) := by
  refine ⟨h'.1, by rw [mm_st_len]; exact h.2.1, h'.2.1, fun j w hw => ?_⟩
  have hw1 : ((mm_a1 al n).set n (some v))[j]? = some (some w) := by
    cases v <;> simp [Value.category] at hv <;> exact hw
  rw [List.getElem?_set] at hw1
  by_cases hj : n = j
  · subst hj
    rw [if_pos rfl] at hw1
    split at hw1
    · cases hw1
      exact h'.2.2 (n, v) List.mem_cons_self
    · cases hw1
  · rw [if_neg hj] at hw1
    obtain ⟨e1, e2⟩ := mm_al1 hw1
    refine h'.2.2 (j, w) (List.mem_cons_of_mem _ (List.mem_filter.mpr ⟨mm_lv_in.mpr e1, ?_⟩))
    simp only [Bool.and_eq_true, Bool.not_eq_true', beq_eq_false_iff_ne, ne_eq, Bool.and_eq_false_imp, beq_iff_eq]
    exact ⟨fun z => hj z.symm, fun z q => e2 ⟨z, q⟩⟩
theorem mm_L_st2 {ls ls' : Array Slot} {nL n : Nat} {al : List (Option Value)} {v : Value} (h : mm_L ls nL al) (hv : v.category = 2) (h' : lv_has ls' nL ((n, v) :: (mm_lv al).filter (fun q => !(q.1 == n) && (!(q.1 == n + 1) && !(q.1 + 1 == n && q.2.category == 2))))) : mm_L ls' nL (mm_st al n v) := by
  refine ⟨h'.1, by rw [mm_st_len]; exact h.2.1, h'.2.1, fun j w hw => ?_⟩
  have hw1 : (((mm_a1 al n).set n (some v)).set (n + 1) none)[j]? = some (some w) := by
    cases v <;> simp [Value.category] at hv <;> exact hw
  rw [List.getElem?_set] at hw1
  by_cases hj1 : n + 1 = j
  · subst hj1
    rw [if_pos rfl] at hw1
    split at hw1 <;> cases hw1
  · rw [if_neg hj1, List.getElem?_set] at hw1
    by_cases hj : n = j
    · subst hj
      rw [if_pos rfl] at hw1
      split at hw1
      · cases hw1
        exact h'.2.2 (n, v) List.mem_cons_self
      · cases hw1
    · rw [if_neg hj] at hw1
      obtain ⟨e1, e2⟩ := mm_al1 hw1
      refine h'.2.2 (j, w) (List.mem_cons_of_mem _ (List.mem_filter.mpr ⟨mm_lv_in.mpr e1, ?_⟩))
      simp only [Bool.and_eq_true, Bool.not_eq_true', beq_eq_false_iff_ne, ne_eq, Bool.and_eq_false_imp, beq_iff_eq]
      exact ⟨fun z => hj z.symm, fun z => hj1 z.symm, fun z q => e2 ⟨z, q⟩⟩
theorem mm_so_ok (hx : p.tables.exec = Jvm.exec) (hb : c.code = cc) {i : Instr} {len n t nL : Nat} {v : Value} {st : List Value} {al : List (Option Value)} (hd : decode cc pc = .ok (i, len)) (h : mm_so i len = some (n, t)) (hL : mm_L ls nL al) (hv : mm_vk v = t) (hn : n + v.category ≤ al.length)
    (kk : ∀ ls' : Array Slot, mm_L ls' nL (mm_st al n v) → W p l e R s m args below meth c H locs cells slots Q (F0 m (pc + len) ls' st)) : W p l e R s m args below meth c H locs cells slots Q (F0 m pc ls (v :: st)) := by
  rw [hL.2.1] at hn
  unfold mm_so at h
  split at h
  · cases h
    cases v <;> simp only [mm_vk] at hv <;> simp only [Value.category] at hn <;> first | exact lv_istore hx hb hd (mm_L_has hL) (by omega) rfl (fun ls' h' => kk ls' (mm_L_st1 hL rfl h')) | cases hv
  · cases h
    cases v <;> simp only [mm_vk] at hv <;> simp only [Value.category] at hn <;> first | exact lv_istore_n hx hb hd rfl (mm_L_has hL) (by omega) rfl (fun ls' h' => kk ls' (mm_L_st1 hL rfl h')) | cases hv
  · cases h
    cases v <;> simp only [mm_vk] at hv <;> simp only [Value.category] at hn <;> first | exact lv_lstore hx hb hd (mm_L_has hL) (by omega) rfl (fun ls' h' => kk ls' (mm_L_st2 hL rfl h')) | cases hv
  · cases h
    cases v <;> simp only [mm_vk] at hv <;> simp only [Value.category] at hn <;> first | exact lv_lstore_n hx hb hd rfl (mm_L_has hL) (by omega) rfl (fun ls' h' => kk ls' (mm_L_st2 hL rfl h')) | cases hv
  · cases h
    cases v <;> simp only [mm_vk] at hv <;> simp only [Value.category] at hn <;> first | exact lv_dstore hx hb hd (mm_L_has hL) (by omega) rfl (fun ls' h' => kk ls' (mm_L_st2 hL rfl h')) | cases hv
  · cases h
    cases v <;> simp only [mm_vk] at hv <;> simp only [Value.category] at hn <;> first | exact lv_astore hx hb hd (mm_L_has hL) (by omega) rfl (fun ls' h' => kk ls' (mm_L_st1 hL rfl h')) | exact lv_astoreN hx hb hd (mm_L_has hL) (by omega) rfl (fun ls' h' => kk ls' (mm_L_st1 hL rfl h')) | cases hv
  · cases h
    cases v <;> simp only [mm_vk] at hv <;> simp only [Value.category] at hn <;> first | exact lv_astore_n hx hb hd rfl (mm_L_has hL) (by omega) rfl (fun ls' h' => kk ls' (mm_L_st1 hL rfl h')) | exact lv_astore_nN hx hb hd rfl (mm_L_has hL) (by omega) rfl (fun ls' h' => kk ls' (mm_L_st1 hL rfl h')) | cases hv
  · cases h
theorem mm_iinc_ok (hx : p.tables.exec = Jvm.exec) (hb : c.code = cc) {n nL : Nat} {z : Int} {x : Int32} {st : List Value} {al : List (Option Value)} (hd : decode cc pc = .ok (.iinc n z, 3)) (hL : mm_L ls nL al) (hv : al[n]? = some (some (.int x)))
    (kk : ∀ ls' : Array Slot, mm_L ls' nL (mm_st al n (.int (x + Int32.ofInt z))) → W p l e R s m args below meth c H locs cells slots Q (F0 m (pc + 3) ls' st)) : W p l e R s m args below meth c H locs cells slots Q (F0 m pc ls st) := by
  obtain ⟨q, hq⟩ := List.getElem?_of_mem (mm_lv_in.mpr hv)
  have hn : n < nL := by rw [← hL.2.1]; exact (List.getElem?_eq_some_iff.mp hv).1
  exact lv_iinc hx hb hd (mm_L_has hL) hq rfl hn rfl (fun ls' h' => kk ls' (mm_L_st1 hL rfl h'))
/-- the locals at the entry -/
theorem mm_args_in : ∀ (vs : List Value) (b j : Nat) (v : Value), vs.all (fun v => v.category == 1) = true → vs[j]? = some v → (b + j, v) ∈ lv_args b vs
  | [], _, j, _, _, h => by cases j <;> cases h
  | x :: xs, b, 0, v, hc, h => by
    cases h
    simp only [List.all_cons, Bool.and_eq_true, beq_iff_eq] at hc
    simp [lv_args]
  | x :: xs, b, j + 1, v, hc, h => by
    simp only [List.all_cons, Bool.and_eq_true, beq_iff_eq] at hc
    have h1 := mm_args_in xs (b + 1) j v hc.2 (by simpa using h)
    rw [show b + (j + 1) = b + 1 + j by omega]
    simp only [lv_args]
    rw [hc.1]
    exact List.mem_cons_of_mem _ h1
end MS1
end
section
/-! the abstract machine against the machine: the memory -/
theorem mm_uws_ok : (List.range 4).all (fun c => (u_ws (mR c) (mT c) (mN c)).all (fun w => decide (w ∈ lw_tbl) && goodWord w)) = true := by decide +kernel
theorem mm_uws {c : Nat} (hc : c < 4) : ∀ w ∈ u_ws (mR c) (mT c) (mN c), w ∈ mm_WL := fun w hw => by
  have h1 := List.all_eq_true.mp (List.all_eq_true.mp mm_uws_ok c (List.mem_range.mpr hc)) w hw
  simp only [Bool.and_eq_true, decide_eq_true_eq] at h1
  exact List.mem_filter.mpr h1
theorem mm_T_ok : (List.range 4).all (fun c => (List.range (mN c)).all (fun j => decide ((mT c j).1 = mR c) && decide (parseFieldDescriptor (mT c j).2.2.1 = some (mF c j)) && (List.range (mN c)).all (fun b => decide (j = b) || !decide ((mT c j).2.1 = (mT c b).2.1)))) = true := by decide +kernel
theorem mm_T {c j : Nat} (hc : c < 4) (hj : j < mN c) : (mT c j).1 = mR c ∧ parseFieldDescriptor (mT c j).2.2.1 = some (mF c j) ∧ ∀ b, b < mN c → j ≠ b → (mT c j).2.1 ≠ (mT c b).2.1 := by
  have h1 := List.all_eq_true.mp (List.all_eq_true.mp mm_T_ok c (List.mem_range.mpr hc)) j (List.mem_range.mpr hj)
  simp only [Bool.and_eq_true, decide_eq_true_eq] at h1
  refine ⟨h1.1.1, h1.1.2, fun b hb hjb => ?_⟩
  have h2 := List.all_eq_true.mp h1.2 b (List.mem_range.mpr hb)
  simp only [Bool.or_eq_true, decide_eq_true_eq, Bool.not_eq_true', decide_eq_false_iff_not] at h2
  exact h2.resolve_left hjb
theorem mm_cl_at {c : Nat} (hc : c < 4) : mm_cl[c]? = some (mR c, mT c, mN c) := by
  match c, hc with
  | 0, _ => rfl
  | 1, _ => rfl
  | 2, _ => rfl
  | 3, _ => rfl
theorem mm_fld_eq {o i ci j : Nat} (h : mm_fld o i = some (ci, j)) : Cond.fieldLink (mR o) i (mR ci) (mT ci j).2.1 (mT ci j).2.2.1 ∈ mm_WL ∧ ci < 4 ∧ j < mN ci := by
  unfold mm_fld at h
  obtain ⟨e, he, h2⟩ := Option.map_eq_some_iff.mp h
  have h3 := List.all_eq_true.mp mm_FL_ok e (List.mem_of_find?_eq_some he)
  have h4 := List.find?_some he
  simp only [Bool.and_eq_true, decide_eq_true_eq, beq_iff_eq] at h3 h4
  obtain ⟨a1, a2, a3, a4, a5⟩ := e
  cases h2
  obtain ⟨rfl, rfl⟩ := h4
  exact ⟨mm_at_in h3.1.1, h3.1.2, h3.2⟩
def mm_e (cT : Nat → ClassId) (o : mm_O) : va_E := match o with
  | .inl q => .inl (cT q.1, q.2)
  | .inr o => .inr o
/-- the heap holds the memory -/
def mm_I (D : va_G) (cT : Nat → ClassId) (M : mm_M) (H : Heap) : Prop := H.size = M.1 ∧ ∀ (q : Nat) (o : mm_O), M.2.2 q = some o → va_at D mm_cl (q, mm_e cT o) H
abbrev mm_tys (cT : Nat → ClassId) : List (ClassId × FieldType) := [(cT 0, .int), (cT 1, .boolean), (cT 2, .object (mR 0)), (cT 3, .long), (cT 4, .double)]
def mm_A (M : mm_M) (q : Nat) : Prop := M.2.2 q ≠ none ∨ M.1 ≤ q
def mm_BW : List Cond := [.declares ⟨"java/lang/RuntimeException", "<init>", "()V"⟩, .declares ⟨"java/lang/Exception", "<init>", "()V"⟩, .declares ⟨"java/lang/Throwable", "<init>", "()V"⟩, .castable mIAE mIAE, .castable mISE mISE, .castable mIOB mIOB, .castable mNSE mNSE, .castable mUOE mUOE]
def mm_NC : List (String × String) := [(mISE, mIAE), (mIOB, mIAE), (mNSE, mIAE), (mUOE, mIAE), (mIOB, mISE), (mNSE, mISE), (mISE, mUOE), (mIOB, mUOE), (mNSE, mUOE)]
/-- what lies beside the memory: the script, Throwable's two statics, words of their own -/
def mm_Wd (X : Nat × Nat × (Nat → Int32)) (A : Nat → Prop) (U : State) (H : Heap) : Prop :=
  va_X X.1 X.2.1 X.2.2 U H ∧ X.1 < H.size ∧ ¬ A X.1 ∧ vx_Zq Bundle.tN "UNASSIGNED_STACK" Bundle.steD A U H ∧ vx_Zq Bundle.tN "SUPPRESSED_SENTINEL" Bundle.listD A U H ∧ (∀ w ∈ mm_BW, va_Nw w U) ∧ (∀ q ∈ mm_NC, va_Nc q.1 q.2 U) ∧ va_AO (mR 0) U
/-- what holds in a frame of method k from its entry on -/
def mm_Fx (D : va_G) (cT : Nat → ClassId) (X : Nat × Nat × (Nat → Int32)) (p : Program) (l : Launch) (s : State) (m : MethodId) (args : Array Value) (meth : Method) (c : Code) (k : Nat) (A : Nat → Prop) : Prop :=
  p.tables.exec = Jvm.exec ∧ c.code = mm_b k ∧ c.maxLocals = mm_mx k ∧ s.vm.findClass (mR (mm_own k)) = some m.cls ∧ (∀ w ∈ mm_WL, w.before args s = true) ∧ va_K D mm_cl (mm_tys cT) s ∧
  meth.sig.returnType = mm_rt k ∧ meth.locks = false ∧ (mm_kd k = 2 → meth.name = "<init>") ∧ l.stackTraces = false ∧ mm_Wd X A s s.heap ∧
  (¬ mm_kd k = 3 → ∀ x ∈ c.exceptionTable.toList, False) ∧ (mm_kd k = 3 → c.exceptionTable.toList = tableOf (mm_hh k))
theorem mm_I.set {D : va_G} {cT : Nat → ClassId} {M : mm_M} {H H1 : Heap} (h : mm_I D cT M H) {a : Nat} {o : mm_O} (h1 : va_at D mm_cl (a, mm_e cT o) H1) (z : H1.size = H.size) (oq : ∀ q : Nat, q ≠ a → H1[q]? = H[q]?) : mm_I D cT (mm_set M a o) H1 := by
  refine ⟨z.trans h.1, fun q o1 hq => ?_⟩
  unfold mm_set at hq
  dsimp only at hq
  by_cases hqa : q = a
  · subst hqa
    rw [if_pos rfl] at hq
    cases hq
    exact h1
  · rw [if_neg hqa] at hq
    exact (h.2 q o1 hq).kept (oq q hqa)
theorem mm_I.push {D : va_G} {cT : Nat → ClassId} {M : mm_M} {H H1 : Heap} (h : mm_I D cT M H) {n : Nat} {o : mm_O} (h1 : va_at D mm_cl (M.1, mm_e cT o) H1) (z : H1.size = H.size + 1) (oq : ∀ q : Nat, q < H.size → H1[q]? = H[q]?) : mm_I D cT (mm_push M n o) H1 := by
  refine ⟨by rw [z, h.1]; rfl, fun q o1 hq => ?_⟩
  unfold mm_push at hq
  dsimp only at hq
  by_cases hqa : q = M.1
  · subst hqa
    rw [if_pos rfl] at hq
    cases hq
    exact h1
  · rw [if_neg hqa] at hq
    have h2 := h.2 q o1 hq
    exact h2.kept (oq q h2.lt)
theorem mm_fits_ok {ty : FieldType} {v : Value} (h : mm_fits ty v = true) : narrow ty v = v ∧ fits ty v = true := by
  cases ty <;> cases v <;> first | (exfalso; revert h; simp [mm_fits, mm_vk]; done) | exact ⟨rfl, rfl⟩
section MS2
variable {p : Program} {l : Launch} {e : Env} {R : Room} {s : State} {m : MethodId} {args : Array Value} {below : List Frame} {meth : Method} {c : Code} {H : Heap} {locs : List Loc} {cells slots : Nat} {Q : State → Prop}
variable {pc : Nat} {ls : Array Slot} {r : List Value} {D : va_G} {cT : Nat → ClassId} {X : Nat × Nat × (Nat → Int32)} {k a : Nat} {A : Nat → Prop} {M : mm_M}
theorem mm_get_ok (F : mm_Fx D cT X p l s m args meth c k A) (hI : mm_I D cT M H) {idx ci j : Nat} {fs : List Value} {v : Value} (hd : decode (mm_b k) pc = .ok (.getfield idx, 3)) (hf : mm_fld (mm_own k) idx = some (ci, j)) (hM : M.2.2 a = some (.inr (ci, fs))) (hv : fs[j]? = some v)
    (kk : W p l e R s m args below meth c H locs cells slots Q (F0 m (pc + 3) ls (v :: r))) : W p l e R s m args below meth c H locs cells slots Q (F0 m pc ls (.ref a :: r)) := by
  obtain ⟨hx, hb, -, hown, hts, hK, -⟩ := F
  obtain ⟨h1, h2, h3⟩ := mm_fld_eq hf
  have hP : va_P D mm_cl [(a, .inr (ci, fs))] H := fun n q hq => by
    have hz : n < 1 := (List.getElem?_eq_some_iff.mp hq).1
    rw [show n = 0 by omega] at hq
    cases hq
    exact hI.2 a _ hM
  exact va_get hx hb hts (mm_uws h2) hown hK hP 0 rfl (mm_cl_at h2) j h3 (hts _ h1) (fun x h => by rw [(mm_T h2 h3).1] at h; exact h) hv hd kk
theorem mm_put_ok (F : mm_Fx D cT X p l s m args meth c k A) (hI : mm_I D cT M H) (hS : va_S A s.heap H locs) (hA : A a) {idx ci j : Nat} {fs : List Value} {v : Value} (hd : decode (mm_b k) pc = .ok (.putfield idx, 3)) (hf : mm_fld (mm_own k) idx = some (ci, j)) (hM : M.2.2 a = some (.inr (ci, fs)))
    (hl : j < fs.length) (hfit : mm_fits (mF ci j) v = true) (hfin : (mT ci j).2.2.2 = false ∨ (mm_kd k = 2 ∧ ci = mm_own k))
    (kk : ∀ (H1 : Heap) (locs1 : List Loc), mm_I D cT (mm_set M a (.inr (ci, fs.set j v))) H1 → va_S A s.heap H1 locs1 → W p l e R s m args below meth c H1 locs1 cells slots Q (F0 m (pc + 3) ls r)) : W p l e R s m args below meth c H locs cells slots Q (F0 m pc ls (v :: .ref a :: r)) := by
  obtain ⟨hx, hb, -, hown, hts, hK, -, -, hini, -⟩ := F
  obtain ⟨h1, h2, h3⟩ := mm_fld_eq hf
  have hT := mm_T h2 h3
  obtain ⟨hn, hfit⟩ := mm_fits_ok hfit
  have hc := mm_cl_at h2
  have hap := va_apart (own := mR (mm_own k)) hts (mm_uws h2) (mF ci) (fun j hj => (mm_T h2 hj).2.1) (fun x hx y hy hne => (mm_T h2 hx).2.2 y hy hne) hK hc
  obtain ⟨rr, g1, cell, q1, q2, q3, q4⟩ := hI.2 a _ hM
  have hr : rr = (mR ci, mT ci, mN ci) := Option.some.inj (g1.symm.trans hc)
  subst hr
  dsimp only [mm_e] at q1 q2 q3 q4
  obtain ⟨hSl, hfc, kC, hkC, hkind⟩ := hK.1 ci _ hc
  obtain ⟨cf, kf, fi, f, hi, hsl⟩ := hSl j h3
  have hi' : s.fieldFound? (mR ci) (mT ci j).2.1 (mT ci j).2.2.1 = some (cf, kf, fi, f) := by rw [hT.1] at hi; exact hi
  have hst := (u_facts hfc hkC (u_lays hts (mm_uws h2) h3) hi).1
  have done : ∀ (H1 : Heap), H1[a]? = some (cell.setSlot f.slot v) → H1.size = H.size → (∀ q, q ≠ a → H1[q]? = H[q]?) → W p l e R s m args below meth c H1 (locs ++ [⟨a, f.slot⟩]) cells slots Q (F0 m (pc + 3) ls r) := by
    intro H1 e1 e2 e3
    rw [hsl] at e1 ⊢
    exact kk H1 _ (hI.set ⟨_, hc, t_OB.to (V := updV (vp_V fs) j v) ⟨_, e1, q2, q3, t_set q4 hap h3 v⟩ (fun x _ => vp_updV_set hl v x)⟩ e2 e3) (hS.put e2 e3 hA)
  have hlay := hts _ (mm_uws h2 _ (u_in_lay h3))
  unfold u_lay at hlay
  cases hfb : (mT ci j).2.2.2 with
  | false =>
    rw [if_neg (by rw [hfb]; decide)] at hlay
    have h6 := u_store hfc hkC hkind hlay hi hT.2.1 hn hfit
    exact W.putK hx hb (f := f) ⟨hown, hts _ h1, ⟨_, _, _, hi'⟩, hst⟩ (by rw [q2]; exact h6) q1 q3 (by rw [hsl]; exact k2_hasslot (q4 j h3)) rfl rfl hd done
  | true =>
    have hk2 := hfin.resolve_left (by rw [hfb]; decide)
    rw [if_pos hfb] at hlay
    have hcf : m.cls = cf := by
      obtain ⟨_, _, c', _, _, _, -, -, hf', -, -, -, hown2, -⟩ := Cond.laysFinal_spec hlay
      have e1 : c' = cf := by have := hi.symm.trans hf'; simp at this; exact this.1.symm
      rw [hT.1, hk2.2] at hown2
      rw [← e1]; exact Option.some.inj (hown.symm.trans hown2)
    have h6 := u_fits hfc hkC hkind (Or.inr hlay) hi hT.2.1 hn hfit
    exact W.putFinK hx hb hown (hts _ h1) hi' hst hcf (hini hk2.1) (by rw [q2]; exact h6) q1 q3 (by rw [hsl]; exact k2_hasslot (q4 j h3)) rfl rfl hd done
end MS2
end
section
/-! the abstract machine against the machine: arrays, new cells, copies, throws -/
theorem mm_one {D : va_G} {cT : Nat → ClassId} {M : mm_M} {H : Heap} {a : Nat} {o : mm_O} (hI : mm_I D cT M H) (hM : M.2.2 a = some o) : va_P D mm_cl [(a, mm_e cT o)] H := fun n q hq => by
  have hz : n < 1 := (List.getElem?_eq_some_iff.mp hq).1
  rw [show n = 0 by omega] at hq
  cases hq
  exact hI.2 a _ hM
section MS3
variable {p : Program} {l : Launch} {e : Env} {R : Room} {s : State} {m : MethodId} {args : Array Value} {below : List Frame} {meth : Method} {c : Code} {H : Heap} {locs : List Loc} {cells slots : Nat} {Q : State → Prop}
variable {pc : Nat} {ls : Array Slot} {r : List Value} {D : va_G} {cT : Nat → ClassId} {X : Nat × Nat × (Nat → Int32)} {k a : Nat} {A : Nat → Prop} {M : mm_M}
theorem mm_iald_ok (F : mm_Fx D cT X p l s m args meth c k A) (hI : mm_I D cT M H) {n : Nat} {f : Nat → Int32} {j : Int32} (hd : decode (mm_b k) pc = .ok (.iaload, 1)) (hM : M.2.2 a = some (.inl (0, n, .inl f))) (hj : ¬ (j < 0 ∨ n ≤ j.toNatClampNeg))
    (kk : W p l e R s m args below meth c H locs cells slots Q (F0 m (pc + 1) ls (.int (f j.toNatClampNeg) :: r))) : W p l e R s m args below meth c H locs cells slots Q (F0 m pc ls (.int j :: .ref a :: r)) := by
  obtain ⟨hx, hb, -, hown, hts, hK, -⟩ := F
  exact va_iald hx hb hK (mm_one hI hM) 0 0 (tys := mm_tys cT) rfl rfl hj hd kk
theorem mm_zald_ok (F : mm_Fx D cT X p l s m args meth c k A) (hI : mm_I D cT M H) {n : Nat} {f : Nat → Int32} {j : Int32} (hd : decode (mm_b k) pc = .ok (.baload, 1)) (hM : M.2.2 a = some (.inl (1, n, .inl f))) (hj : ¬ (j < 0 ∨ n ≤ j.toNatClampNeg))
    (kk : W p l e R s m args below meth c H locs cells slots Q (F0 m (pc + 1) ls (.int (f j.toNatClampNeg) :: r))) : W p l e R s m args below meth c H locs cells slots Q (F0 m pc ls (.int j :: .ref a :: r)) := by
  obtain ⟨hx, hb, -, hown, hts, hK, -⟩ := F
  exact va_zald hx hb hK (mm_one hI hM) 0 1 (tys := mm_tys cT) rfl rfl hj hd kk
theorem mm_aald_ok (F : mm_Fx D cT X p l s m args meth c k A) (hI : mm_I D cT M H) {n : Nat} {f : Nat → Option Nat} {j : Int32} (hd : decode (mm_b k) pc = .ok (.aaload, 1)) (hM : M.2.2 a = some (.inl (2, n, .inr (.inr (.inr (.inr f)))))) (hj : ¬ (j < 0 ∨ n ≤ j.toNatClampNeg))
    (kk : W p l e R s m args below meth c H locs cells slots Q (F0 m (pc + 1) ls (va_rf (f j.toNatClampNeg) :: r))) : W p l e R s m args below meth c H locs cells slots Q (F0 m pc ls (.int j :: .ref a :: r)) := by
  obtain ⟨hx, hb, -, hown, hts, hK, -⟩ := F
  exact va_aldq hx hb hK (mm_one hI hM) 0 2 (tys := mm_tys cT) rfl rfl hj hd kk
theorem mm_lald_ok (F : mm_Fx D cT X p l s m args meth c k A) (hI : mm_I D cT M H) {n : Nat} {f : Nat → Int64} {j : Int32} (hd : decode (mm_b k) pc = .ok (.laload, 1)) (hM : M.2.2 a = some (.inl (3, n, .inr (.inl f)))) (hj : ¬ (j < 0 ∨ n ≤ j.toNatClampNeg))
    (kk : W p l e R s m args below meth c H locs cells slots Q (F0 m (pc + 1) ls (.long (f j.toNatClampNeg) :: r))) : W p l e R s m args below meth c H locs cells slots Q (F0 m pc ls (.int j :: .ref a :: r)) := by
  obtain ⟨hx, hb, -, hown, hts, hK, -⟩ := F
  exact va_lald hx hb hK (mm_one hI hM) 0 3 (tys := mm_tys cT) rfl rfl hj hd kk
theorem mm_dald_ok (F : mm_Fx D cT X p l s m args meth c k A) (hI : mm_I D cT M H) {n : Nat} {f : Nat → UInt64} {j : Int32} (hd : decode (mm_b k) pc = .ok (.daload, 1)) (hM : M.2.2 a = some (.inl (4, n, .inr (.inr (.inr (.inl f)))))) (hj : ¬ (j < 0 ∨ n ≤ j.toNatClampNeg))
    (kk : W p l e R s m args below meth c H locs cells slots Q (F0 m (pc + 1) ls (.double (f j.toNatClampNeg) :: r))) : W p l e R s m args below meth c H locs cells slots Q (F0 m pc ls (.int j :: .ref a :: r)) := by
  obtain ⟨hx, hb, -, hown, hts, hK, -⟩ := F
  exact va_dald hx hb hK (mm_one hI hM) 0 4 (tys := mm_tys cT) rfl rfl hj hd kk
theorem mm_iast_ok (F : mm_Fx D cT X p l s m args meth c k A) (hI : mm_I D cT M H) (hS : va_S A s.heap H locs) (hA : A a) {n : Nat} {f : Nat → Int32} {j : Int32} {x : Int32} (hd : decode (mm_b k) pc = .ok (.iastore, 1)) (hM : M.2.2 a = some (.inl (0, n, .inl f))) (hj : ¬ (j < 0 ∨ n ≤ j.toNatClampNeg))
    (kk : ∀ (H1 : Heap) (locs1 : List Loc), mm_I D cT (mm_set M a (.inl (0, n, .inl (upd f j.toNatClampNeg x)))) H1 → va_S A s.heap H1 locs1 → W p l e R s m args below meth c H1 locs1 cells slots Q (F0 m (pc + 1) ls r)) : W p l e R s m args below meth c H locs cells slots Q (F0 m pc ls (.int x :: .int j :: .ref a :: r)) := by
  obtain ⟨hx, hb, -, hown, hts, hK, -⟩ := F
  refine W.iast hx hb (mm_one hI hM 0 _ rfl) ((hK.2 0 _ rfl).1 n (fun j => .int (f j))) (fun q => by cases q) (by show ¬ (j < 0 ∨ (arrV _ _ _).slots.size ≤ _); rw [arrV_size]; exact hj) rfl rfl hd fun H1 e1 z oq => ?_
  refine kk H1 _ (hI.set ?_ z oq) (hS.put z oq hA)
  show H1[a]? = some (vp_cell _ _)
  rw [e1]
  dsimp only
  rw [vp_cell_i, vp_cell_i, arrV_store]
  congr 2
  funext q
  by_cases hq : q = j.toNatClampNeg
  · subst hq
    simp [updV, upd]
    try rfl
  · simp [updV, upd, hq]
theorem mm_zast_ok (F : mm_Fx D cT X p l s m args meth c k A) (hI : mm_I D cT M H) (hS : va_S A s.heap H locs) (hA : A a) {n : Nat} {f : Nat → Int32} {j : Int32} {x : Int32} (hd : decode (mm_b k) pc = .ok (.bastore, 1)) (hM : M.2.2 a = some (.inl (1, n, .inl f))) (hj : ¬ (j < 0 ∨ n ≤ j.toNatClampNeg))
    (kk : ∀ (H1 : Heap) (locs1 : List Loc), mm_I D cT (mm_set M a (.inl (1, n, .inl (upd f j.toNatClampNeg (vp_nar .boolean x))))) H1 → va_S A s.heap H1 locs1 → W p l e R s m args below meth c H1 locs1 cells slots Q (F0 m (pc + 1) ls r)) : W p l e R s m args below meth c H locs cells slots Q (F0 m pc ls (.int x :: .int j :: .ref a :: r)) := by
  obtain ⟨hx, hb, -, hown, hts, hK, -⟩ := F
  refine W.zast hx hb (mm_one hI hM 0 _ rfl) ((hK.2 1 _ rfl).1 n (fun j => .int (f j))) (fun q => by cases q) (by show ¬ (j < 0 ∨ (arrV _ _ _).slots.size ≤ _); rw [arrV_size]; exact hj) rfl rfl hd fun H1 e1 z oq => ?_
  refine kk H1 _ (hI.set ?_ z oq) (hS.put z oq hA)
  show H1[a]? = some (vp_cell _ _)
  rw [e1]
  dsimp only
  rw [vp_cell_i, vp_cell_i, arrV_store]
  congr 2
  funext q
  by_cases hq : q = j.toNatClampNeg
  · subst hq
    simp [updV, upd, vp_nar]
    try rfl
  · simp [updV, upd, vp_nar, hq]
theorem mm_last_ok (F : mm_Fx D cT X p l s m args meth c k A) (hI : mm_I D cT M H) (hS : va_S A s.heap H locs) (hA : A a) {n : Nat} {f : Nat → Int64} {j : Int32} {x : Int64} (hd : decode (mm_b k) pc = .ok (.lastore, 1)) (hM : M.2.2 a = some (.inl (3, n, .inr (.inl f)))) (hj : ¬ (j < 0 ∨ n ≤ j.toNatClampNeg))
    (kk : ∀ (H1 : Heap) (locs1 : List Loc), mm_I D cT (mm_set M a (.inl (3, n, .inr (.inl (vp_updL f j.toNatClampNeg x))))) H1 → va_S A s.heap H1 locs1 → W p l e R s m args below meth c H1 locs1 cells slots Q (F0 m (pc + 1) ls r)) : W p l e R s m args below meth c H locs cells slots Q (F0 m pc ls (.long x :: .int j :: .ref a :: r)) := by
  obtain ⟨hx, hb, -, hown, hts, hK, -⟩ := F
  refine W.last hx hb (mm_one hI hM 0 _ rfl) ((hK.2 3 _ rfl).1 n (fun j => .long (f j))) (fun q => by cases q) (by show ¬ (j < 0 ∨ (arrV _ _ _).slots.size ≤ _); rw [arrV_size]; exact hj) rfl rfl hd fun H1 e1 z oq => ?_
  refine kk H1 _ (hI.set ?_ z oq) (hS.put z oq hA)
  show H1[a]? = some (vp_cell _ _)
  rw [e1]
  dsimp only
  rw [vp_cell_l, vp_cell_l, arrV_store]
  congr 2
  funext q
  by_cases hq : q = j.toNatClampNeg
  · subst hq
    simp [updV, vp_updL]
    try rfl
  · simp [updV, vp_updL, hq]
theorem mm_dast_ok (F : mm_Fx D cT X p l s m args meth c k A) (hI : mm_I D cT M H) (hS : va_S A s.heap H locs) (hA : A a) {n : Nat} {f : Nat → UInt64} {j : Int32} {x : UInt64} (hd : decode (mm_b k) pc = .ok (.dastore, 1)) (hM : M.2.2 a = some (.inl (4, n, .inr (.inr (.inr (.inl f)))))) (hj : ¬ (j < 0 ∨ n ≤ j.toNatClampNeg))
    (kk : ∀ (H1 : Heap) (locs1 : List Loc), mm_I D cT (mm_set M a (.inl (4, n, .inr (.inr (.inr (.inl (vf_upd f j.toNatClampNeg x))))))) H1 → va_S A s.heap H1 locs1 → W p l e R s m args below meth c H1 locs1 cells slots Q (F0 m (pc + 1) ls r)) : W p l e R s m args below meth c H locs cells slots Q (F0 m pc ls (.double x :: .int j :: .ref a :: r)) := by
  obtain ⟨hx, hb, -, hown, hts, hK, -⟩ := F
  refine W.dast hx hb (mm_one hI hM 0 _ rfl) ((hK.2 4 _ rfl).1 n (fun j => .double (f j))) (fun q => by cases q) (by show ¬ (j < 0 ∨ (arrV _ _ _).slots.size ≤ _); rw [arrV_size]; exact hj) rfl rfl hd fun H1 e1 z oq => ?_
  refine kk H1 _ (hI.set ?_ z oq) (hS.put z oq hA)
  show H1[a]? = some (vp_cell _ _)
  rw [e1]
  dsimp only
  rw [vp_cell_d, vp_cell_d, arrV_store]
  congr 2
  funext q
  by_cases hq : q = j.toNatClampNeg
  · subst hq
    simp [updV, vf_upd]
    try rfl
  · simp [updV, vf_upd, hq]
theorem mm_aast_ok (F : mm_Fx D cT X p l s m args meth c k A) (hI : mm_I D cT M H) (hS : va_S A s.heap H locs) (hA : A a) {n : Nat} {f : Nat → Option Nat} {j : Int32} {v : Nat} {vs : List Value} (hV : M.2.2 v = some (.inr (0, vs))) (hd : decode (mm_b k) pc = .ok (.aastore, 1)) (hM : M.2.2 a = some (.inl (2, n, .inr (.inr (.inr (.inr f)))))) (hj : ¬ (j < 0 ∨ n ≤ j.toNatClampNeg))
    (kk : ∀ (H1 : Heap) (locs1 : List Loc), mm_I D cT (mm_set M a (.inl (2, n, .inr (.inr (.inr (.inr (va_up f j.toNatClampNeg (some v)))))))) H1 → va_S A s.heap H1 locs1 → W p l e R s m args below meth c H1 locs1 cells slots Q (F0 m (pc + 1) ls r)) : W p l e R s m args below meth c H locs cells slots Q (F0 m pc ls (.ref v :: .int j :: .ref a :: r)) := by
  obtain ⟨hx, hb, -, hown, hts, hK, -⟩ := F
  obtain ⟨r', hr', cellV, g1, g2, g3, -⟩ := hI.2 v _ hV
  have hcls := (hK.1 0 _ (mm_cl_at (by decide))).2
  obtain ⟨kA, comp, k1, k2, k3, -⟩ := (hK.2 2 _ rfl).2
  have hcomp : comp = D.1 0 := Option.some.inj (k3.symm.trans hcls.1)
  subst hcomp
  obtain ⟨kC, hkC, -⟩ := hcls.2
  dsimp only [mm_e] at g1 g2 g3
  refine W.aast hx hb (mm_one hI hM 0 _ rfl) (fun q h => by cases h) (fun h => by cases h) k1 k2 rfl hkC ⟨fun q => hj (Or.inl q), by show _ < (arrV _ _ _).slots.size; rw [arrV_size]; exact Nat.not_le.mp fun q => hj (Or.inr q)⟩ g1 (fun q h => by rw [g3] at h; cases h) (by rw [g2]; exact hkC) (by rw [g2]; exact va_assign hcls) rfl rfl hd fun H1 e1 z oq => ?_
  refine kk H1 _ (hI.set ?_ z oq) (hS.put z oq hA)
  show H1[a]? = some (vp_cell _ _)
  rw [e1]
  dsimp only
  rw [vp_cell_q, vp_cell_q, arrV_store]
  congr 2
  funext q
  by_cases hq : q = j.toNatClampNeg
  · subst hq
    simp [updV, va_up, va_rf]
  · simp [updV, va_up, hq]
theorem mm_aastN_ok (F : mm_Fx D cT X p l s m args meth c k A) (hI : mm_I D cT M H) (hS : va_S A s.heap H locs) (hA : A a) {n : Nat} {f : Nat → Option Nat} {j : Int32} (hd : decode (mm_b k) pc = .ok (.aastore, 1)) (hM : M.2.2 a = some (.inl (2, n, .inr (.inr (.inr (.inr f)))))) (hj : ¬ (j < 0 ∨ n ≤ j.toNatClampNeg))
    (kk : ∀ (H1 : Heap) (locs1 : List Loc), mm_I D cT (mm_set M a (.inl (2, n, .inr (.inr (.inr (.inr (va_up f j.toNatClampNeg none))))))) H1 → va_S A s.heap H1 locs1 → W p l e R s m args below meth c H1 locs1 cells slots Q (F0 m (pc + 1) ls r)) : W p l e R s m args below meth c H locs cells slots Q (F0 m pc ls (.null :: .int j :: .ref a :: r)) := by
  obtain ⟨hx, hb, -, hown, hts, hK, -⟩ := F
  refine va_WaastN (C := mR 0) hx hb (mm_one hI hM 0 _ rfl) ((hK.2 2 _ rfl).1 n (fun j => va_rf (f j))) (fun q => by cases q) (by show ¬ (j < 0 ∨ (arrV _ _ _).slots.size ≤ _); rw [arrV_size]; exact hj) rfl rfl hd fun H1 e1 z oq => ?_
  refine kk H1 _ (hI.set ?_ z oq) (hS.put z oq hA)
  show H1[a]? = some (vp_cell _ _)
  rw [e1]
  dsimp only
  rw [vp_cell_q, vp_cell_q, arrV_store]
  congr 2
  funext q
  by_cases hq : q = j.toNatClampNeg
  · subst hq
    simp [updV, va_up, va_rf]
  · simp [updV, va_up, hq]
theorem mm_sld_ok (F : mm_Fx D cT X p l s m args meth c k A) (hS : va_S A s.heap H locs) {j : Int32} (hd : decode (mm_b k) pc = .ok (.iaload, 1)) (hj : ¬ (j < 0 ∨ X.2.1 ≤ j.toNatClampNeg))
    (kk : W p l e R s m args below meth c H locs cells slots Q (F0 m (pc + 1) ls (.int (X.2.2 j.toNatClampNeg) :: r))) : W p l e R s m args below meth c H locs cells slots Q (F0 m pc ls (.int j :: .ref X.1 :: r)) := by
  obtain ⟨hx, hb, -, hown, hts, hK, -, -, -, -, ⟨w1, w2, w3, -⟩, -⟩ := F
  exact va_sld hx hb w1 w2 w3 hS hj hd kk
theorem mm_slen_ok (F : mm_Fx D cT X p l s m args meth c k A) (hS : va_S A s.heap H locs) (hd : decode (mm_b k) pc = .ok (.arraylength, 1))
    (kk : W p l e R s m args below meth c H locs cells slots Q (F0 m (pc + 1) ls (.int (Int32.ofNat X.2.1) :: r))) : W p l e R s m args below meth c H locs cells slots Q (F0 m pc ls (.ref X.1 :: r)) := by
  obtain ⟨hx, hb, -, hown, hts, hK, -, -, -, -, ⟨w1, w2, w3, -⟩, -⟩ := F
  exact va_slen hx hb w1 w2 w3 hS hd kk
theorem mm_alen_ok (F : mm_Fx D cT X p l s m args meth c k A) (hI : mm_I D cT M H) {t : Nat} {x : vp_A} (ht : t < 5) (hd : decode (mm_b k) pc = .ok (.arraylength, 1)) (hM : M.2.2 a = some (.inl (t, x)))
    (kk : W p l e R s m args below meth c H locs cells slots Q (F0 m (pc + 1) ls (.int (Int32.ofNat x.1) :: r))) : W p l e R s m args below meth c H locs cells slots Q (F0 m pc ls (.ref a :: r)) := by
  obtain ⟨hx, hb, -, hown, hts, hK, -⟩ := F
  match t, ht with
  | 0, _ => exact va_alen hx hb hK (mm_one hI hM) 0 0 (tys := mm_tys cT) rfl rfl rfl hd kk
  | 1, _ => exact va_alen hx hb hK (mm_one hI hM) 0 1 (tys := mm_tys cT) rfl rfl rfl hd kk
  | 2, _ => exact va_alen hx hb hK (mm_one hI hM) 0 2 (tys := mm_tys cT) rfl rfl rfl hd kk
  | 3, _ => exact va_alen hx hb hK (mm_one hI hM) 0 3 (tys := mm_tys cT) rfl rfl rfl hd kk
  | 4, _ => exact va_alen hx hb hK (mm_one hI hM) 0 4 (tys := mm_tys cT) rfl rfl rfl hd kk
theorem mm_new_eq {o i ci : Nat} (h : mm_new o i = some ci) : Cond.classLink (mR o) i (mR ci) ∈ mm_WL ∧ ci < 4 := by
  unfold mm_new at h
  obtain ⟨x, he, h2⟩ := Option.map_eq_some_iff.mp h
  have h3 := List.all_eq_true.mp mm_CL_ok x (List.mem_of_find?_eq_some he)
  have h4 := List.find?_some he
  simp only [Bool.and_eq_true, decide_eq_true_eq, beq_iff_eq] at h3 h4
  obtain ⟨a1, a2, a3, a4⟩ := x
  cases h2
  obtain ⟨rfl, rfl⟩ := h4
  exact ⟨mm_at_in h3.1, h3.2⟩
theorem mm_new_ok (F : mm_Fx D cT X p l s m args meth c k A) (hI : mm_I D cT M H) (hS : va_S A s.heap H locs) {idx ci : Nat} (hd : decode (mm_b k) pc = .ok (.new idx, 3)) (hn : mm_new (mm_own k) idx = some ci) (hcl : cells + 1 ≤ R.cells) (hsl : slots + mN ci ≤ R.slots)
    (kk : ∀ H1 : Heap, mm_I D cT (mm_push M (mN ci) (.inr (ci, mm_dfl ci))) H1 → va_S A s.heap H1 locs → W p l e R s m args below meth c H1 locs (cells + 1) (slots + mN ci) Q (F0 m (pc + 3) ls (.ref M.1 :: r))) : W p l e R s m args below meth c H locs cells slots Q (F0 m pc ls r) := by
  obtain ⟨hx, hb, -, hown, hts, hK, -⟩ := F
  obtain ⟨h1, h2⟩ := mm_new_eq hn
  have hc := mm_cl_at h2
  have hKn := hK.1 ci _ hc
  have i1 := mm_at_in (List.all_eq_true.mp mm_ins_ok ci (List.mem_range.mpr h2))
  have i2 := mm_at_in (List.all_eq_true.mp mm_ini_ok ci (List.mem_range.mpr (by omega)))
  refine W.newcK hx hb hown (hts _ h1) (hts _ i1) (hts _ i2) rfl hd hcl hsl hKn.2.1 hI.1 fun H1 kC hkC e1 z1 o1 => ?_
  rw [← hI.1] at z1
  have o2 : ∀ q : Nat, q < H.size → H1[q]? = H[q]? := fun q hq => o1 q (by rw [← hI.1]; exact hq)
  refine kk H1 (hI.push ?_ z1 o2) ⟨Nat.le_trans hS.1 (by omega), fun x g1 g2 => (o2 x (Nat.lt_of_lt_of_le g1 hS.1)).trans (hS.2.1 x g1 g2), hS.2.2⟩
  refine ⟨_, hc, (u_born (mF ci) hts (mm_uws h2) hKn hkC e1 (fun j hj => (mm_T h2 hj).2.1)).to (fun j hj => ?_)⟩
  show defaultValue (mF ci j) = (mm_dfl ci).getD j .null
  simp [mm_dfl, hj]
theorem mm_newa_ok (F : mm_Fx D cT X p l s m args meth c k A) (hI : mm_I D cT M H) (hS : va_S A s.heap H locs) {t : ArrayType} {q w : Nat} {x : vp_A} {n : Int32} (hd : decode (mm_b k) pc = .ok (.newarray t, 2)) (ht : mm_aty t = some (q, x, w)) (hn : ¬ (n < 0 ∨ 536870912 < n.toNatClampNeg * w)) (hcl : cells + 1 ≤ R.cells) (hsl : slots + n.toNatClampNeg ≤ R.slots)
    (kk : ∀ H1 : Heap, mm_I D cT (mm_push M n.toNatClampNeg (.inl (q, n.toNatClampNeg, x.2))) H1 → va_S A s.heap H1 locs → W p l e R s m args below meth c H1 locs (cells + 1) (slots + n.toNatClampNeg) Q (F0 m (pc + 2) ls (.ref M.1 :: r))) : W p l e R s m args below meth c H locs cells slots Q (F0 m pc ls (.int n :: r)) := by
  obtain ⟨hx, hb, -, hown, hts, hK, -⟩ := F
  have key : ∀ (harr : (Cond.arrayClass (newarray.typeOf t)).before args s = true) (hb4 : n.toNatClampNeg * componentBytes (newarray.typeOf t) ≤ 536870912) (hq : s.vm.findClass ("[" ++ (newarray.typeOf t).toString) = some (cT q)) (hz : ∀ cA N, vp_cell cA (N, x.2) = arrV cA N (fun _ => defaultValue (newarray.typeOf t))), W p l e R s m args below meth c H locs cells slots Q (F0 m pc ls (.int n :: r)) := by
    intro harr hb4 hq hz
    refine va_newaK hx hb harr rfl hd rfl (fun z => hn (Or.inl z)) rfl hb4 hcl hsl hI.1 fun H1 cA e1 z1 o1 hAr hNm => ?_
    cases hq.symm.trans hNm
    rw [← hI.1] at z1
    have o2 : ∀ q : Nat, q < H.size → H1[q]? = H[q]? := fun q hq => o1 q (by rw [← hI.1]; exact hq)
    refine kk H1 (hI.push ?_ z1 o2) ⟨Nat.le_trans hS.1 (by omega), fun x g1 g2 => (o2 x (Nat.lt_of_lt_of_le g1 hS.1)).trans (hS.2.1 x g1 g2), hS.2.2⟩
    show H1[M.1]? = some (vp_cell _ _)
    dsimp only
    rw [hz]
    exact e1
  cases t <;> simp only [mm_aty] at ht <;> cases ht
  · exact key (hts _ (mm_at_in mm_arr_boolean)) (by have : componentBytes (newarray.typeOf .boolean) = 1 := rfl; rw [this]; omega) (hK.2 1 _ rfl).2 (fun _ _ => rfl)
  · exact key (hts _ (mm_at_in mm_arr_double)) (by have : componentBytes (newarray.typeOf .double) = 8 := rfl; rw [this]; omega) (hK.2 4 _ rfl).2 (fun _ _ => rfl)
  · exact key (hts _ (mm_at_in mm_arr_int)) (by have : componentBytes (newarray.typeOf .int) = 4 := rfl; rw [this]; omega) (hK.2 0 _ rfl).2 (fun _ _ => rfl)
  · exact key (hts _ (mm_at_in mm_arr_long)) (by have : componentBytes (newarray.typeOf .long) = 8 := rfl; rw [this]; omega) (hK.2 3 _ rfl).2 (fun _ _ => rfl)
theorem mm_newq_ok (F : mm_Fx D cT X p l s m args meth c k A) (hI : mm_I D cT M H) (hS : va_S A s.heap H locs) {idx : Nat} {n : Int32} (hd : decode (mm_b k) pc = .ok (.anewarray idx, 3)) (hq : mm_new (mm_own k) idx = some 0) (hn : ¬ n < 0) (hn4 : n.toNatClampNeg * 4 ≤ 536870912) (hcl : cells + 1 ≤ R.cells) (hsl : slots + n.toNatClampNeg ≤ R.slots)
    (kk : ∀ H1 : Heap, mm_I D cT (mm_push M n.toNatClampNeg (.inl (2, n.toNatClampNeg, .inr (.inr (.inr (.inr (fun _ => none))))))) H1 → va_S A s.heap H1 locs → W p l e R s m args below meth c H1 locs (cells + 1) (slots + n.toNatClampNeg) Q (F0 m (pc + 3) ls (.ref M.1 :: r))) : W p l e R s m args below meth c H locs cells slots Q (F0 m pc ls (.int n :: r)) := by
  obtain ⟨hx, hb, -, hown, hts, hK, -, -, -, -, ⟨-, -, -, -, -, -, -, w8⟩, -⟩ := F
  obtain ⟨h1, -⟩ := mm_new_eq hq
  refine W.anew hx hb hown (hts _ h1) (va_AO.use w8) rfl hd rfl hn hn4 hcl hsl fun cA kA comp f1 f2 f3 f4 => ?_
  obtain ⟨kA', comp', k1, k2, k3, k4⟩ := (hK.2 2 _ rfl).2
  cases k4.symm.trans f1
  rw [hI.1]
  generalize hH1 : H.push ({ cls := cT 2, slots := Array.replicate n.toNatClampNeg .null, vm := .none } : Cell) = H1
  have z1 : H1.size = H.size + 1 := by rw [← hH1, Array.size_push]
  have e1 : H1[M.1]? = some (arrV (cT 2) n.toNatClampNeg (fun _ => .null)) := by rw [← hI.1, ← hH1, Array.getElem?_push_size, ← arrV_new]
  have o1 : ∀ q : Nat, q < H.size → H1[q]? = H[q]? := fun q hq => by rw [← hH1, Array.getElem?_push, if_neg (Nat.ne_of_lt hq)]
  exact kk H1 (hI.push e1 z1 o1) ⟨Nat.le_trans hS.1 (by omega), fun x g1 g2 => (o1 x (Nat.lt_of_lt_of_le g1 hS.1)).trans (hS.2.1 x g1 g2), hS.2.2⟩
end MS3
end
section
/-! the abstract machine against the machine: copies, Math.max, Object's constructor, throws -/
theorem mm_any_in {L : List (Nat × Nat × Nat)} {f : Nat × Nat × Nat → Bool} {o i : Nat} (hL : L.all f = true) (h : L.any (fun e => e.1 == o && e.2.1 == i) = true) : ∃ w, f (o, i, w) = true := by
  obtain ⟨x, hx, h2⟩ := List.any_eq_true.mp h
  have h3 := List.all_eq_true.mp hL x hx
  simp only [Bool.and_eq_true, beq_iff_eq] at h2
  obtain ⟨a1, a2, a3⟩ := x
  obtain ⟨rfl, rfl⟩ := h2
  exact ⟨a3, h3⟩
theorem mm_ini_in {c : Nat} (hc : c < 7) : Cond.initialized (mR c) ∈ mm_WL := mm_at_in (List.all_eq_true.mp mm_ini_ok c (List.mem_range.mpr hc))
def mm_two : List String := ["java/lang/RuntimeException", "java/lang/Exception"]
theorem mm_EX_ok : mm_EL.all (fun z => (vx_at0 (mR z.1) z.2.2.2.1 (mm_E z.2.2.1) mm_two).all (fun w => vx_ot w && (if goodWord w = true then decide (w ∈ lw_tbl) else decide (w ∈ mm_BW))) && Bundle.fit (mm_E z.2.2.1) && mm_two.all Bundle.fit && decide (Cond.initialized (mm_E z.2.2.1) ∈ lw_tbl) && vx_ot (.initialized (mm_E z.2.2.1)) && vx_ot (.classLink (mR z.1) z.2.1 (mm_E z.2.2.1)) && goodWord (.initialized (mm_E z.2.2.1))) = true := by decide +kernel
section MS4
variable {p : Program} {l : Launch} {e : Env} {R : Room} {s : State} {m : MethodId} {args : Array Value} {below : List Frame} {meth : Method} {c : Code} {H : Heap} {locs : List Loc} {cells slots : Nat} {Q : State → Prop}
variable {pc : Nat} {ls : Array Slot} {r : List Value} {D : va_G} {cT : Nat → ClassId} {X : Nat × Nat × (Nat → Int32)} {k a : Nat} {A : Nat → Prop} {M : mm_M}
theorem mm_nn (z : Int32) (hz : ¬ z < 0) : z.toInt = (z.toNatClampNeg : Int) := by
  have hz0 : (0 : Int) ≤ z.toInt := by
    have := Int32.not_lt.mp hz
    simpa using Int32.le_iff_toInt_le.mp this
  show z.toInt = ((z.toInt.toNat : Nat) : Int)
  omega
theorem mm_max_okr (F : mm_Fx D cT X p l s m args meth c k A) (hsz : ls.size = mm_mx k) {idx : Nat} {x y : Int32} (hd : decode (mm_b k) pc = .ok (.invokestatic idx, 3)) (hX : mm_isX (mm_own k) idx = true) (hfr : 1 ≤ R.frames) (hlo : mm_sum r + 56 ≤ R.locals) (hc : cells ≤ R.cells) (hs : slots ≤ R.slots)
    (kk : W p l e R s m args below meth c H locs cells slots Q (F0 m (pc + 3) ls (.int (if x < y then y else x) :: r))) : W p l e R s m args below meth c H locs cells slots Q (F0 m pc ls (.int y :: .int x :: r)) := by
  obtain ⟨hx, hb, hml, hown, hts, hK, -⟩ := F
  obtain ⟨w, hw⟩ := mm_any_in mm_XL_ok hX
  have h2 := mm_max_ok
  simp only [Bool.and_eq_true] at h2
  have hlo' : (r.map fun v => v.category).sum + 13 ≤ R.locals := by have := hlo; unfold mm_sum at this; omega
  exact va_mmax hx hb (hml.trans hsz.symm) hown (hts _ (mm_at_in hw)) (hts _ (mm_at_in h2.1)) (hts _ (mm_ini_in (c := 5) (by decide))) (hts _ (mm_at_in h2.2)) hfr hlo' hc hs hd kk
theorem mm_obj_okr (F : mm_Fx D cT X p l s m args meth c k A) (hsz : ls.size = mm_mx k) {idx : Nat} (hd : decode (mm_b k) pc = .ok (.invokespecial idx, 3)) (hO : mm_isO (mm_own k) idx = true) (hfr : 1 ≤ R.frames) (hlo : mm_sum r + 56 ≤ R.locals)
    (kk : W p l e R s m args below meth c H locs cells slots Q (F0 m (pc + 3) ls r)) : W p l e R s m args below meth c H locs cells slots Q (F0 m pc ls (.ref a :: r)) := by
  obtain ⟨hx, hb, hml, hown, hts, hK, -⟩ := F
  obtain ⟨w, hw⟩ := mm_any_in mm_OL_ok hO
  have h2 := mm_obj_ok
  simp only [Bool.and_eq_true] at h2
  exact W.objInit hx hb hown (hts _ (mm_at_in hw)) (hts _ (mm_at_in h2.1)) (hts _ (mm_at_in h2.2)) (g := F0 m pc ls (.ref a :: r)) rfl (by show ls.size = _; rw [hsz, hml]) rfl hd hfr (by have := hlo; unfold mm_sum at this; show 2 * 0 + _ + 12 ≤ _; omega) kk
theorem mm_nfw : nativeFrameWords "java/lang/System" "arraycopy" 5 ≤ 40 := by decide +kernel
theorem mm_cpy_okr (F : mm_Fx D cT X p l s m args meth c k A) (hI : mm_I D cT M H) (hS : va_S A s.heap H locs) (hA : A a) (hsz : ls.size = mm_mx k) {idx a0 n0 n1 : Nat} {f g : Nat → Int32} {sp dp n : Int32} (hd : decode (mm_b k) pc = .ok (.invokestatic idx, 3)) (hX : mm_isA (mm_own k) idx = true)
    (hM0 : M.2.2 a0 = some (.inl (0, n0, .inl f))) (hM1 : M.2.2 a = some (.inl (0, n1, .inl g))) (hg : ¬ (sp < 0 ∨ dp < 0 ∨ n < 0 ∨ n0 < sp.toNatClampNeg + n.toNatClampNeg ∨ n1 < dp.toNatClampNeg + n.toNatClampNeg)) (hfr : 1 ≤ R.frames) (hlo : mm_sum r + 56 ≤ R.locals)
    (kk : ∀ (H1 : Heap) (locs1 : List Loc), mm_I D cT (mm_set M a (.inl (0, n1, .inl (va_cpy f g sp.toNatClampNeg dp.toNatClampNeg n.toNatClampNeg)))) H1 → va_S A s.heap H1 locs1 → W p l e R s m args below meth c H1 locs1 cells slots Q (F0 m (pc + 3) ls r)) :
    W p l e R s m args below meth c H locs cells slots Q (F0 m pc ls (.int n :: .int dp :: .ref a :: .int sp :: .ref a0 :: r)) := by
  obtain ⟨hx, hb, hml, hown, hts, hK, -⟩ := F
  obtain ⟨w, hw⟩ := mm_any_in mm_AL_ok hX
  have h2 := mm_cpy_ok
  simp only [Bool.and_eq_true] at h2
  have h1 : ¬ sp < 0 := fun z => hg (Or.inl z)
  have h1' : ¬ dp < 0 := fun z => hg (Or.inr (Or.inl z))
  have h3 : ¬ n < 0 := fun z => hg (Or.inr (Or.inr (Or.inl z)))
  have h4 : sp.toNatClampNeg + n.toNatClampNeg ≤ n0 := Nat.le_of_not_lt fun z => hg (Or.inr (Or.inr (Or.inr (Or.inl z))))
  have h5 : dp.toNatClampNeg + n.toNatClampNeg ≤ n1 := Nat.le_of_not_lt fun z => hg (Or.inr (Or.inr (Or.inr (Or.inr z))))
  have hlo' := hlo
  unfold mm_sum at hlo'
  have hnf := mm_nfw
  intro T hT Xs
  have hc0 : H[a0]? = some (vp_cell (cT 0) (n0, .inl f)) := mm_one hI hM0 0 _ rfl
  have hc1 : H[a]? = some (vp_cell (cT 0) (n1, .inl g)) := mm_one hI hM1 0 _ rfl
  obtain ⟨-, k0, hk0, cm0, hkk0⟩ := (hK.2 0 _ rfl).1 n0 (fun j => .int (f j))
  obtain ⟨-, k1, hk1, cm1, hkk1⟩ := (hK.2 0 _ rfl).1 n1 (fun j => .int (g j))
  obtain ⟨vm', X', step⟩ := Xs.arraycopy hx hown (hts _ (mm_at_in hw)) (hts _ (mm_at_in h2.1)) (hts _ (mm_at_in h2.2)) (hts _ (mm_ini_in (c := 6) (by decide))) (src := a0) (dst := a) (cs := vp_cell (cT 0) (n0, .inl f)) (cd := vp_cell (cT 0) (n1, .inl g)) (srcPos := sp) (destPos := dp) (n := n) (by rw [hT]; exact hc0) (by rw [hT]; exact hc1)
    (fun _ h => by cases h) (fun _ h => by cases h) (fun h => by cases h) (fun h => by cases h) hk0 hk1 hkk0 hkk1 rfl h1 h1' h3
    (by rw [mm_nn sp h1, mm_nn n h3]; show ¬ _ > ((arrV (cT 0) n0 (fun j => .int (f j))).slots.size : Int); rw [arrV_size]; omega)
    (by rw [mm_nn dp h1', mm_nn n h3]; show ¬ _ > ((arrV (cT 0) n1 (fun j => .int (g j))).slots.size : Int); rw [arrV_size]; omega)
    (fun vm₁ _ i hi => by
      have e1 : (vp_cell (cT 0) (n0, .inl f)).slots.getD (sp.toNatClampNeg + i) .null = .int (f (sp.toNatClampNeg + i)) := by
        show (arrV (cT 0) n0 (fun j => .int (f j))).slots.getD _ _ = _
        rw [Array.getD_eq_getD_getElem?, arrV_read _ _ (by omega)]
        rfl
      refine ⟨?_, ?_⟩
      · rw [e1]
        rfl
      · rw [e1]
        exact trivial)
    (g := F0 m pc ls (.int n :: .int dp :: .ref a :: .int sp :: .ref a0 :: r)) rfl (by show ls.size = _; rw [hsz, hml]) (rest := r) rfl (by rw [hb]; exact hd) hfr (by show 2 * 0 + _ + _ ≤ _; omega)
  have e1 : copied (vp_cell (cT 0) (n0, .inl f)) (vp_cell (cT 0) (n1, .inl g)) sp dp n = vp_cell (cT 0) (n1, .inl (va_cpy f g sp.toNatClampNeg dp.toNatClampNeg n.toNatClampNeg)) := va_copied (fun z => .int z) (cT 0) (cT 0) f g h4
  rw [e1] at X' step
  have hl : a < H.size := (Array.getElem?_eq_some_iff.mp hc1).1
  have hheap : ((T.setVm vm').setCell a (vp_cell (cT 0) (n1, .inl (va_cpy f g sp.toNatClampNeg dp.toNatClampNeg n.toNatClampNeg)))).heap = H.setIfInBounds a (vp_cell (cT 0) (n1, .inl (va_cpy f g sp.toNatClampNeg dp.toNatClampNeg n.toNatClampNeg))) := by rw [← hT]; rfl
  have oq : ∀ q : Nat, q ≠ a → (H.setIfInBounds a (vp_cell (cT 0) (n1, .inl (va_cpy f g sp.toNatClampNeg dp.toNatClampNeg n.toNatClampNeg))))[q]? = H[q]? := fun q hq => by simp [Array.getElem?_setIfInBounds, Ne.symm hq]
  obtain ⟨t, a1, b1⟩ := kk _ _ (hI.set (o := .inl (0, n1, .inl (va_cpy f g sp.toNatClampNeg dp.toNatClampNeg n.toNatClampNeg))) (show (H.setIfInBounds a _)[a]? = some _ by simp [Array.getElem?_setIfInBounds, hl, mm_e]) (by simp) oq) ⟨by simp; exact hS.1, fun q g1 g2 => by
      rw [oq q (fun z => g2 (by rw [z]; exact hA))]
      exact hS.2.1 q g1 g2, fun q hq => by
      rcases List.mem_append.mp hq with h | h
      · exact hS.2.2 q h
      · obtain ⟨z, -, hz⟩ := List.mem_map.mp h
        rw [← hz]
        exact hA⟩ _ hheap X'
  exact ⟨t, step t a1, b1⟩
end MS4
end
section
/-! the abstract machine against the machine: throws, calls, and the whole -/
section MS5
variable {p : Program} {l : Launch} {e : Env} {R : Room} {s : State} {m : MethodId} {args : Array Value} {below : List Frame} {meth : Method} {c : Code} {H : Heap} {locs : List Loc} {cells slots : Nat} {Q : State → Prop}
variable {mc ms : Nat} {free : Addr → Prop} {A0 A1 : Nat → Prop} {H0 : Heap} {a : Array Value} {ls : Array Slot} {st0 rest : List Value}
variable {Qc : Array Value → State → Outcome → State → Prop} {XC : String → State → State → Prop}
/-- vx_throw0 of the printed kit (part 02), with the heap's size behind it -/
theorem mm_throw0 {cc : ByteArray} {pc : Nat} (hexec : p.tables.exec = Jvm.exec) (hb : c.code = cc) (hl : l.stackTraces = false) {own cls : String} {names : List String} {ik ic mc ms : Nat} {A : Nat → Prop}
    (hown : s.vm.findClass own = some m.cls) (hcls : Bundle.fit cls = true) (hnames : ∀ n ∈ names, Bundle.fit n = true)
    (hk : (Cond.classLink own ik cls).before args s = true) (hini : (Cond.initialized cls).before args s = true) (hat : ∀ w ∈ vx_at0 own ic cls names, w.before args s = true)
    (hgood : ∀ w ∈ Cond.classLink own ik cls :: Cond.initialized cls :: vx_at0 own ic cls names, vx_ot w = true)
    (hU : vx_Zq Bundle.tN "UNASSIGNED_STACK" Bundle.steD A s s.heap) (hN : vx_Zq Bundle.tN "SUPPRESSED_SENTINEL" Bundle.listD A s s.heap) (hS : va_S A s.heap H locs) (hsize : ls.size = c.maxLocals)
    (d0 : decode cc pc = .ok (.new ik, 3)) (d3 : decode cc (pc + 3) = .ok (.dup, 1)) (d4 : decode cc (pc + 4) = .ok (.invokespecial ic, 3)) (d7 : decode cc (pc + 7) = .ok (.athrow, 1))
    (hout : ∀ x ∈ c.exceptionTable.toList, covers x (pc + 7) = false)
    (hRframes : names.length + 3 < R.frames) (hRlocals : (rest.map fun v => v.category).sum + (13 * (names.length + 1) + 42) ≤ R.locals) (hRcells : cells + 1 ≤ R.cells) (hRslots : slots + 6 ≤ R.slots) (hlocks : meth.locks = false)
    (hx : ∀ t : State, s.vm.Alike t.vm → t.heap.size = H.size + 1 → (∀ q : Nat, q < H.size → t.heap[q]? = H[q]?) → XC cls s t)
    (hf : ∀ z ∈ locs, free z.base) (hc : cells + 1 ≤ mc) (hs : slots + 6 ≤ ms) :
    W p l e R s m args below meth c H locs cells slots (vx_MQ below Qc XC args s mc ms free) (F0 m pc ls rest) := by
  intro T hT X
  have htr : e.platform.stackTraces = false := (show e.platform.stackTraces = l.stackTraces by rw [X.admits.platform]).trans hl
  have Y := vx_rebase X (R' := { frames := R.frames, locals := R.locals, cells := 1, slots := 6 }) (Nat.le_refl _) (Nat.le_refl _) hRcells hRslots
  obtain ⟨s', hA⟩ : ∃ z, z = (T.setVm s.vm).setFrames (.invoking m args :: below) := ⟨_, rfl⟩
  rw [← hA] at Y
  have hvm : s'.vm = s.vm := by rw [hA]; rfl
  have hhp : s'.heap = H := by rw [hA]; exact hT
  have hW0 : s.WarmedH s'.vm := by rw [hvm]; exact State.WarmedH.refl s
  have hat' : ∀ w ∈ vx_at0 own ic cls names, w.before args s' = true := fun w hw => vx_ot_at hW0 hvm.symm (hgood w (List.mem_cons_of_mem _ (List.mem_cons_of_mem _ hw))) (hat w hw)
  have hk' : (Cond.classLink own ik cls).before args s' = true := vx_ot_at hW0 hvm.symm (hgood _ List.mem_cons_self) hk
  have hini' : (Cond.initialized cls).before args s' = true := vx_ot_at hW0 hvm.symm (hgood _ (List.mem_cons_of_mem _ List.mem_cons_self)) hini
  have hU' : vx_Zq Bundle.tN "UNASSIGNED_STACK" Bundle.steD A s' s'.heap := by rw [hhp]; exact vx_Zq.moved hW0.alike (hU.kept hS.2.1)
  have hN' : vx_Zq Bundle.tN "SUPPRESSED_SENTINEL" Bundle.listD A s' s'.heap := by rw [hhp]; exact vx_Zq.moved hW0.alike (hN.kept hS.2.1)
  have h : ∀ w ∈ Bundle.ownAtoms0 own ic cls names, w.before args s' = true := vx_own hat' (vx_isRefq hU'.1) (vx_isRefq hN'.1) hU'.2.word hN'.2.word
  have hown' : s'.vm.findClass own = some m.cls := by rw [hvm]; exact hown
  have hins : (Cond.instantiable cls 6).before args s' = true := h _ (by simp [Bundle.ownAtoms0])
  obtain ⟨vm₁, cX, kX, hfX, hkX, -, -, X₁, st1⟩ := Y.newCold hexec (own := own) (C := cls) (index := ik) (n := 6) hown' hk' hins hini'
    (g := F0 m pc ls rest) rfl (by rw [hb]; exact d0) (Nat.le_refl _) (Nat.le_refl _)
  generalize hT1 : (T.setVm vm₁).pushCell { cls := cX, slots := kX.instanceTypes.map defaultValue, vm := .none } = T1 at X₁ st1
  have hcat : (Value.ref T.heap.size).category = 1 := rfl
  have hcellA : T1.heap[T.heap.size]? = some (freshCell cX kX) := by rw [← hT1]; exact State.heap_pushCell_size _ _
  have d3' : decode c.code (pc + 3) = .ok (.dup, 1) := by rw [hb]; exact d3
  obtain ⟨U, hsteps, hrun, hend, hW, hsame, ce, hce, hO⟩ := X₁.ctorThrow0 hexec htr (own := own) (cls := cls) (names := names) (ic := ic) hown' hcls hnames h (fun x hx => nomatch hx) hfX hkX hcellA (by rw [hhp, hT]; exact Nat.le_refl _)
    (g := { method := m, pc := pc + 4, locals := ls, stack := .ref T.heap.size :: .ref T.heap.size :: rest, locked := none }) rfl hsize rfl rfl (rest := rest) rfl
    (by rw [hb]; exact d4) (by rw [hb]; exact d7) hout hRframes (by simp only [List.map_cons, List.sum_cons, hcat]; omega) hlocks
  obtain ⟨f1, f2⟩ := vx_frame hsame
  rw [hhp] at f1 f2
  have f3 : U.heap.size = H.size + 1 := by
    have g1 : U.heap.size ≤ s'.heap.size + (0 + 1) := hsame.2.2.1
    have g2 : T.heap.size < U.heap.size := (Array.getElem?_eq_some_iff.mp hce).1
    rw [hhp] at g1
    rw [hT] at g2
    omega
  have hWs : s.WarmedH U.vm := State.WarmedH.trans hW0 hW
  have hcl : s.vm.findClass cls = some ce.cls := by
    have h9 := hO.cls
    rw [hvm] at h9
    exact h9
  have hall : s.sameButNew ({ U with vm := s.vm } : State) locs mc ms := by
    subst hA
    obtain ⟨e1, e2⟩ := hsame
    rw [State.setFrames_setFrames] at e1
    have h2 : (T.setVm s.vm).sameButNew ({ U with vm := s.vm } : State) [] (0 + 1) (0 + 6) := ⟨e1, e2⟩
    have h3 := X.same.trans h2
    rw [List.append_nil] at h3
    exact h3.mono hc hs
  refine ⟨U, ?_, .threw T.heap.size, hrun, hend, Or.inr ⟨T.heap.size, rfl, cls, ce, locs, hx U hWs.alike f3 (fun q hq => f2 q hq (fun z hz => nomatch hz)), hce, hO.vm, hcl, hWs, hall, hf⟩⟩
  refine st1 _ ?_
  show Steps p.tables e below (T1.setTop { method := m, pc := pc + 3, locals := ls, stack := .ref T.heap.size :: rest, locked := none }) _
  jvm_step X₁.here [X₁.here.top, hexec, d3', Value.category]
  exact hsteps
end MS5
theorem mm_Wd.same {X : Nat × Nat × (Nat → Int32)} {A : Nat → Prop} {u U : State} {H : Heap} (hvm : u.vm = U.vm) (h : mm_Wd X A u H) : mm_Wd X A U H := by
  obtain ⟨w1, w2, w3, w4, w5, w6, w7, w8⟩ := h
  have hal : u.vm.Alike U.vm := by rw [hvm]; exact Vm.Alike.refl _
  refine ⟨va_X.moved hal w1, w2, w3, vx_Zq.moved hal w4, vx_Zq.moved hal w5, fun w hw => ?_, fun q hq => (w7 q hq).moved hal, va_AO.moved hal w8⟩
  refine va_Nw.same ?_ hvm (w6 w hw)
  simp only [mm_BW, List.mem_cons, List.not_mem_nil, or_false] at hw
  rcases hw with rfl | rfl | rfl | rfl | rfl | rfl | rfl | rfl <;> rfl
theorem mm_Wd.warm {X : Nat × Nat × (Nat → Int32)} {A : Nat → Prop} {u U : State} {H : Heap} (hW : u.WarmedH U.vm) (h : mm_Wd X A u H) : mm_Wd X A U H := by
  obtain ⟨w1, w2, w3, w4, w5, w6, w7, w8⟩ := h
  have hal : u.vm.Alike U.vm := hW.alike
  refine ⟨va_X.moved hal w1, w2, w3, vx_Zq.moved hal w4, vx_Zq.moved hal w5, fun w hw => ?_, fun q hq => (w7 q hq).moved hal, va_AO.moved hal w8⟩
  have h6 := w6 w hw
  simp only [mm_BW, List.mem_cons, List.not_mem_nil, or_false] at hw
  rcases hw with rfl | rfl | rfl | rfl | rfl | rfl | rfl | rfl
  · exact va_Nw.warmD hW h6
  · exact va_Nw.warmD hW h6
  · exact va_Nw.warmD hW h6
  · exact va_Nw.warmC hW h6
  · exact va_Nw.warmC hW h6
  · exact va_Nw.warmC hW h6
  · exact va_Nw.warmC hW h6
  · exact va_Nw.warmC hW h6
theorem mm_Wd.kept {X : Nat × Nat × (Nat → Int32)} {A B : Nat → Prop} {U : State} {H H1 : Heap} (h : mm_Wd X A U H) (hz : H.size ≤ H1.size) (hq : ∀ a : Nat, a < H.size → ¬ A a → H1[a]? = H[a]?) (hAB : ∀ q, B q → A q) : mm_Wd X B U H1 := by
  obtain ⟨w1, w2, w3, w4, w5, w6, w7, w8⟩ := h
  exact ⟨w1.kept (hq _ w2 w3), Nat.lt_of_lt_of_le w2 hz, fun z => w3 (hAB _ z), (w4.kept hq).narrow hAB, (w5.kept hq).narrow hAB, w6, w7, w8⟩
def mm_ws (k : Nat) : List Cond := mm_code k :: mm_WL
def mm_rm (d k n : Nat) : Room := { frames := d, cells := k, slots := n, locals := 64 * d }
def mm_le (M M' : mm_M) : Prop := M.1 ≤ M'.1 ∧ M.2.1 ≤ M'.2.1 ∧ ∀ q, mm_A M' q → mm_A M q
theorem mm_le.refl (M : mm_M) : mm_le M M := ⟨Nat.le_refl _, Nat.le_refl _, fun _ h => h⟩
theorem mm_le.trans {M M1 M2 : mm_M} (h : mm_le M M1) (h2 : mm_le M1 M2) : mm_le M M2 := ⟨Nat.le_trans h.1 h2.1, Nat.le_trans h.2.1 h2.2.1, fun q z => h.2.2 q (h2.2.2 q z)⟩
theorem mm_le.set {M : mm_M} {a : Nat} {o o' : mm_O} (h : M.2.2 a = some o) : mm_le M (mm_set M a o') := by
  refine ⟨Nat.le_refl _, Nat.le_refl _, fun q z => ?_⟩
  rcases z with z | z
  · by_cases hq : q = a
    · subst hq; exact Or.inl (by rw [h]; simp)
    · refine Or.inl ?_
      unfold mm_set at z
      dsimp only at z
      rwa [if_neg hq] at z
  · exact Or.inr z
theorem mm_le.push {M : mm_M} {n : Nat} {o : mm_O} : mm_le M (mm_push M n o) := by
  refine ⟨by unfold mm_push; simp, by unfold mm_push; simp, fun q z => ?_⟩
  rcases z with z | z
  · by_cases hq : q = M.1
    · exact Or.inr (by omega)
    · refine Or.inl ?_
      unfold mm_push at z
      dsimp only at z
      rwa [if_neg hq] at z
  · exact Or.inr (by unfold mm_push at z; dsimp only at z; omega)
theorem mm_le.skip {M : mm_M} {n : Nat} : mm_le M (mm_skip M n) := by
  refine ⟨by unfold mm_skip; simp, by unfold mm_skip; simp, fun q z => ?_⟩
  rcases z with z | z
  · exact Or.inl z
  · exact Or.inr (by unfold mm_skip at z; dsimp only at z; omega)
/-- what the abstract machine says of the machine from a point of method k on -/
def mm_Go (D : va_G) (cT : Nat → ClassId) (X : Nat × Nat × (Nat → Int32)) (d k pc : Nat) (al : List (Option Value)) (st : List Value) (M : mm_M) (o : mm_Out) (M' : mm_M) : Prop :=
  mm_le M M' ∧ ∀ {p : Program} {l : Launch} {e : Env} {R : Room} {s : State} {m : MethodId} {args : Array Value} {below : List Frame} {meth : Method} {c : Code} {H : Heap} {locs : List Loc} {cells slots mc ms : Nat} {ls : Array Slot} {Qc : Array Value → State → Outcome → State → Prop} {XC : String → State → State → Prop} {free : Addr → Prop} {A : Nat → Prop},
    mm_Fx D cT X p l s m args meth c k A → mm_L ls (mm_mx k) al → mm_I D cT M H → va_S A s.heap H locs → (∀ q, mm_A M q → A q) → (∀ q, A q → free q) → cells + (M'.1 - M.1) ≤ mc → slots + (M'.2.1 - M.2.1) ≤ ms → mc ≤ R.cells → ms ≤ R.slots → d ≤ R.frames → 64 * d ≤ R.locals →
    (∀ (t : State) (v : Option Value), o = .inl v → mm_I D cT M' t.heap → s.WarmedH t.vm → va_F A s t → Qc args s (.returned v) t) →
    (∀ (t : State) (x : Nat), o = .inr x → mm_I D cT M' t.heap → s.vm.Alike t.vm → va_F A s t → XC (mm_E x) s t) →
    W p l e R s m args below meth c H locs cells slots (vx_MQ below Qc XC args s mc ms free) (F0 m pc ls st)
section MS6
variable {D : va_G} {cT : Nat → ClassId} {X : Nat × Nat × (Nat → Int32)} {d k pc pc2 : Nat} {al al2 : List (Option Value)} {st st2 : List Value} {M M2 M' : mm_M} {o : mm_Out}
/-- one step on: the row of the step, in every frame -/
theorem mm_Go.of (hle : mm_le M M2) (g : mm_Go D cT X d k pc2 al2 st2 M2 o M')
    (row : ∀ {p : Program} {l : Launch} {e : Env} {R : Room} {s : State} {m : MethodId} {args : Array Value} {below : List Frame} {meth : Method} {c : Code} {H : Heap} {locs : List Loc} {cells slots : Nat} {ls : Array Slot} {A : Nat → Prop} {Q : State → Prop},
      mm_Fx D cT X p l s m args meth c k A → mm_L ls (mm_mx k) al → mm_I D cT M H → va_S A s.heap H locs → (∀ q, mm_A M q → A q) → cells + (M2.1 - M.1) ≤ R.cells → slots + (M2.2.1 - M.2.1) ≤ R.slots → d ≤ R.frames → 64 * d ≤ R.locals →
      (∀ (H2 : Heap) (locs2 : List Loc) (ls2 : Array Slot), mm_L ls2 (mm_mx k) al2 → mm_I D cT M2 H2 → va_S A s.heap H2 locs2 → W p l e R s m args below meth c H2 locs2 (cells + (M2.1 - M.1)) (slots + (M2.2.1 - M.2.1)) Q (F0 m pc2 ls2 st2)) →
      W p l e R s m args below meth c H locs cells slots Q (F0 m pc ls st)) : mm_Go D cT X d k pc al st M o M' := by
  refine ⟨hle.trans g.1, ?_⟩
  intro p l e R s m args below meth c H locs cells slots mc ms ls Qc XC free A F hL hI hS hA hfr hc hs hmc hms hd h64 hq hx
  obtain ⟨h1, h2, h3⟩ := hle
  obtain ⟨⟨g1, g2, g3⟩, g4⟩ := g
  exact row F hL hI hS hA (by omega) (by omega) hd h64 (fun H2 locs2 ls2 hL2 hI2 hS2 => g4 F hL2 hI2 hS2 (fun q z => hA q (h3 q z)) hfr (by omega) (by omega) hmc hms hd h64 hq hx)
/-- .. that leaves the memory -/
theorem mm_Go.of0 (g : mm_Go D cT X d k pc2 al2 st2 M o M')
    (row : ∀ {p : Program} {l : Launch} {e : Env} {R : Room} {s : State} {m : MethodId} {args : Array Value} {below : List Frame} {meth : Method} {c : Code} {H : Heap} {locs : List Loc} {cells slots : Nat} {ls : Array Slot} {A : Nat → Prop} {Q : State → Prop},
      mm_Fx D cT X p l s m args meth c k A → mm_L ls (mm_mx k) al → mm_I D cT M H → va_S A s.heap H locs → cells ≤ R.cells → slots ≤ R.slots → d ≤ R.frames → 64 * d ≤ R.locals →
      (∀ ls2 : Array Slot, mm_L ls2 (mm_mx k) al2 → W p l e R s m args below meth c H locs cells slots Q (F0 m pc2 ls2 st2)) →
      W p l e R s m args below meth c H locs cells slots Q (F0 m pc ls st)) : mm_Go D cT X d k pc al st M o M' := by
  refine mm_Go.of (mm_le.refl M) g ?_
  intro p l e R s m args below meth c H locs cells slots ls A Q F hL hI hS hA hc hs hd h64 kk
  exact row F hL hI hS (by omega) (by omega) hd h64 (fun ls2 hL2 => by simpa using kk H locs ls2 hL2 hI hS)
/-- .. that changes one cell -/
theorem mm_Go.ofS {a : Nat} {x x' : mm_O} (hM : M.2.2 a = some x) (g : mm_Go D cT X d k pc2 al st2 (mm_set M a x') o M')
    (row : ∀ {p : Program} {l : Launch} {e : Env} {R : Room} {s : State} {m : MethodId} {args : Array Value} {below : List Frame} {meth : Method} {c : Code} {H : Heap} {locs : List Loc} {cells slots : Nat} {ls : Array Slot} {A : Nat → Prop} {Q : State → Prop},
      mm_Fx D cT X p l s m args meth c k A → mm_I D cT M H → va_S A s.heap H locs → A a → ls.size = mm_mx k → d ≤ R.frames → 64 * d ≤ R.locals →
      (∀ (H2 : Heap) (locs2 : List Loc), mm_I D cT (mm_set M a x') H2 → va_S A s.heap H2 locs2 → W p l e R s m args below meth c H2 locs2 cells slots Q (F0 m pc2 ls st2)) →
      W p l e R s m args below meth c H locs cells slots Q (F0 m pc ls st)) : mm_Go D cT X d k pc al st M o M' := by
  refine mm_Go.of (mm_le.set hM) g ?_
  intro p l e R s m args below meth c H locs cells slots ls A Q F hL hI hS hA hc hs hd h64 kk
  refine row F hI hS (hA a (Or.inl (by rw [hM]; simp))) hL.1 hd h64 (fun H2 locs2 hI2 hS2 => ?_)
  have h := kk H2 locs2 ls hL hI2 hS2
  simpa [mm_set] using h
/-- .. that makes a cell -/
theorem mm_Go.ofP {n : Nat} {x : mm_O} (g : mm_Go D cT X d k pc2 al st2 (mm_push M n x) o M')
    (row : ∀ {p : Program} {l : Launch} {e : Env} {R : Room} {s : State} {m : MethodId} {args : Array Value} {below : List Frame} {meth : Method} {c : Code} {H : Heap} {locs : List Loc} {cells slots : Nat} {ls : Array Slot} {A : Nat → Prop} {Q : State → Prop},
      mm_Fx D cT X p l s m args meth c k A → mm_I D cT M H → va_S A s.heap H locs → cells + 1 ≤ R.cells → slots + n ≤ R.slots →
      (∀ (H2 : Heap), mm_I D cT (mm_push M n x) H2 → va_S A s.heap H2 locs → W p l e R s m args below meth c H2 locs (cells + 1) (slots + n) Q (F0 m pc2 ls st2)) →
      W p l e R s m args below meth c H locs cells slots Q (F0 m pc ls st)) : mm_Go D cT X d k pc al st M o M' := by
  refine mm_Go.of mm_le.push g ?_
  intro p l e R s m args below meth c H locs cells slots ls A Q F hL hI hS hA hc hs hd h64 kk
  have e1 : (mm_push M n x).1 - M.1 = 1 := by unfold mm_push; simp
  have e2 : (mm_push M n x).2.1 - M.2.1 = n := by unfold mm_push; simp
  rw [e1] at hc
  rw [e2] at hs
  refine row F hI hS hc hs (fun H2 hI2 hS2 => ?_)
  have h := kk H2 locs ls hL hI2 hS2
  rwa [e1, e2] at h
end MS6
end
section
/-! the abstract machine against the machine: calls -/
def mm_hnv (z : Nat × Nat × Nat × Int) : Bool := (List.range (mm_hh z.1).length).any (fun i => match (mm_hh z.1)[i]? with
  | none => false
  | some q => decide (mm_kd z.1 = 3) && decide (mm_own z.1 = 4) && decide (q.1 ≤ z.2.1) && decide (z.2.1 < q.2.1) && decide (q.2.2.2 ≠ 0) && mm_LX.any (fun y => y.1 == q.2.2.2 && y.2.1 == z.2.2.1) && decide (z.2.2.1 < 5) &&
    ((mm_hh z.1).take i).all (fun q2 => decide (q2.2.2.2 ≠ 0) && mm_LX.any (fun y => y.1 == q2.2.2.2 && decide ((mm_E z.2.2.1, mm_E y.2.1) ∈ mm_NC))) &&
    decide (mm_rt z.1 = some .int) &&
    (match decode (mm_b z.1) q.2.2.1 with
    | .ok (i1, n1) => (match mm_so i1 n1 with
      | some (x, t) => decide (t = 3) && decide (x < mm_mx z.1) && (match decode (mm_b z.1) (q.2.2.1 + n1) with
        | .ok (.iconst r, 1) => decide (r = z.2.2.2) && decide (decode (mm_b z.1) (q.2.2.1 + n1 + 1) = .ok (.ireturn, 1))
        | _ => false)
      | none => false)
    | .error _ => false))
theorem mm_hnv_ok : mm_HL.all mm_hnv = true := by decide +kernel
theorem mm_castE : ∀ x, x < 5 → Cond.castable (mm_E x) (mm_E x) ∈ mm_BW := by
  intro x hx
  match x, hx with
  | 0, _ => simp [mm_BW, mm_E]
  | 1, _ => simp [mm_BW, mm_E]
  | 2, _ => simp [mm_BW, mm_E]
  | 3, _ => simp [mm_BW, mm_E]
  | 4, _ => simp [mm_BW, mm_E]
section MS7
variable {p : Program} {l : Launch} {e : Env} {R : Room} {s : State} {m : MethodId} {args : Array Value} {below : List Frame} {meth : Method} {c : Code} {H : Heap} {locs : List Loc} {cells slots mc ms : Nat} {Q : State → Prop}
variable {pc : Nat} {ls : Array Slot} {r : List Value} {D : va_G} {cT : Nat → ClassId} {X : Nat × Nat × (Nat → Int32)} {k a : Nat} {A : Nat → Prop} {free : Addr → Prop} {M M1 : mm_M} {Qc : Array Value → State → Outcome → State → Prop} {XC : String → State → State → Prop}
/-- behind a catch of the law's helpers: the code is answered -/
theorem mm_caught (F : mm_Fx D cT X p l s m args meth c k A) {al : List (Option Value)} (hL : mm_L ls (mm_mx k) al) {x : Nat} {v : Int} (hh : mm_hnd k pc x = some v) {ce : Cell} {q : Addr} (hcell : H[q]? = some ce) (hv : ce.vm = .none) (hcl : s.vm.findClass (mm_E x) = some ce.cls)
    (hf : ∀ z ∈ locs, free z.base) (hc : cells ≤ mc) (hs : slots ≤ ms) (hq : ∀ t : State, t.heap = H → s.WarmedH t.vm → Qc args s (.returned (some (.int (Int32.ofInt v)))) t) :
    vx_W p l e R s m args below meth c H locs cells slots (vx_MQ below Qc XC args s mc ms free) (F0 m pc ls r) q := by
  obtain ⟨hx, hb, hml, hown, hts, hK, hret, hlk, -, -, hWd, -, htab⟩ := F
  unfold mm_hnd at hh
  obtain ⟨z, hz, hzv⟩ := Option.map_eq_some_iff.mp hh
  have h4 := List.find?_some hz
  have h3 := List.all_eq_true.mp mm_hnv_ok z (List.mem_of_find?_eq_some hz)
  simp only [Bool.and_eq_true, beq_iff_eq] at h4
  obtain ⟨z1, z2, z3, z4⟩ := z
  dsimp only at h4 hzv
  obtain ⟨⟨rfl, rfl⟩, rfl⟩ := h4
  subst hzv
  unfold mm_hnv at h3
  obtain ⟨i, hi, h5⟩ := List.any_eq_true.mp h3
  dsimp only at h5 hi
  cases hqi : (mm_hh z1)[i]? with
  | none => rw [hqi] at h5; cases h5
  | some qq =>
    rw [hqi] at h5
    dsimp only at h5
    simp only [Bool.and_eq_true, decide_eq_true_eq] at h5
    obtain ⟨⟨⟨⟨⟨⟨⟨⟨⟨e1, e2⟩, e3⟩, e4⟩, e5⟩, e6⟩, e7⟩, e8⟩, e9⟩, e10⟩ := h5
    obtain ⟨y, hy, hy2⟩ := List.any_eq_true.mp e6
    simp only [Bool.and_eq_true, beq_iff_eq] at hy2
    have hyw := mm_at_in (List.all_eq_true.mp mm_LX_ok y hy)
    rw [hy2.1, hy2.2] at hyw
    have hilt : i < (mm_hh z1).length := (List.getElem?_eq_some_iff.mp hqi).1
    have hsplit : c.exceptionTable.toList = tableOf ((mm_hh z1).take i) ++ ⟨qq.1, qq.2.1, qq.2.2.1, qq.2.2.2⟩ :: tableOf ((mm_hh z1).drop (i + 1)) := by
      rw [htab e1]
      have h6 : mm_hh z1 = (mm_hh z1).take i ++ qq :: (mm_hh z1).drop (i + 1) := by
        have h7 : qq = (mm_hh z1)[i] := (List.getElem?_eq_some_iff.mp hqi).2.symm
        rw [h7, List.getElem_cons_drop hilt]
        exact (List.take_append_drop i _).symm
      have h8 : tableOf (mm_hh z1) = tableOf ((mm_hh z1).take i ++ qq :: (mm_hh z1).drop (i + 1)) := congrArg tableOf h6
      rw [h8]
      simp [tableOf]
    rw [e2] at hown
    refine vx_catch (own := mR 4) (name := mm_E z3) (E := mm_E z3) (ce := ce) hown (tableOf ((mm_hh z1).take i)) _ _ hsplit (fun w hw => ?_) (by simp [covers, e3, e4]) e5 (hts _ hyw) (va_Nw.use rfl (hWd.2.2.2.2.2.1 _ (mm_castE _ e7))) hcell hv hcl ?_
    · obtain ⟨q2, hq2, rfl⟩ := List.mem_map.mp hw
      have h6 := List.all_eq_true.mp e8 q2 hq2
      simp only [Bool.and_eq_true, decide_eq_true_eq] at h6
      obtain ⟨y2, hy3, hy4⟩ := List.any_eq_true.mp h6.2
      simp only [Bool.and_eq_true, beq_iff_eq, decide_eq_true_eq] at hy4
      have hyw2 := mm_at_in (List.all_eq_true.mp mm_LX_ok y2 hy3)
      rw [hy4.1] at hyw2
      exact Or.inr ⟨h6.1, mm_E y2.2.1, hts _ hyw2, hWd.2.2.2.2.2.2.1 _ hy4.2⟩
    · dsimp only
      cases hd1 : decode (mm_b z1) qq.2.2.1 with
      | error _ => rw [hd1] at e10; cases e10
      | ok w =>
        obtain ⟨i1, n1⟩ := w
        rw [hd1] at e10
        dsimp only at e10
        cases hso : mm_so i1 n1 with
        | none => rw [hso] at e10; cases e10
        | some xt =>
          obtain ⟨x9, t9⟩ := xt
          rw [hso] at e10
          simp only [Bool.and_eq_true, decide_eq_true_eq] at e10
          obtain ⟨⟨f1, f2⟩, f3⟩ := e10
          refine mm_so_ok hx hb hd1 hso hL (show mm_vk (.ref q) = t9 by rw [f1]; rfl) (by rw [hL.2.1]; exact f2) (fun ls2 hL2 => ?_)
          split at f3
          · rename_i r9 hd2
            simp only [Bool.and_eq_true, decide_eq_true_eq] at f3
            obtain ⟨rfl, hd3⟩ := f3
            refine lv_iconst hx hb hd2 rfl ?_
            refine W.widen hc hs ?_
            exact vx_ret (W.iret hx hb (by rw [hret, e9]) hq hf hd3 hlk)
          · cases f3
end MS7
end
section
/-! the abstract machine against the machine: contracts of methods -/
theorem mm_K_spec {k : Nat} (hk : k < 132) : mm_code k ∈ mm_WL ∧ (mm_kd k = 0 ∨ mm_kd k = 3 → Cond.static (mm_y k) ∈ mm_WL) ∧ (¬ (mm_kd k = 0 ∨ mm_kd k = 3) → Cond.instanceMethod (mm_y k) ∈ mm_WL ∧ 0 < mm_na k) ∧ (mm_kd k = 1 → Cond.selects (mR (mm_own k)) (mm_y k) (mm_y k) ∈ mm_WL) ∧ (mm_y k).cls = mR (mm_own k) ∧ plainName (mm_y k).cls = true ∧
    (parseMethodDescriptor (mm_y k).desc).map (fun d => d.parameters.length) = some (if mm_kd k = 0 ∨ mm_kd k = 3 then mm_na k else mm_na k - 1) ∧ mm_na k ≤ mm_mx k ∧ mm_mx k < 20 ∧ mm_own k < 6 ∧ (mm_kd k = 2 → (mm_y k).name = "<init>" ∧ mm_rt k = none) := by
  have h := mm_K_all hk
  unfold mm_K_ok at h
  simp only [Bool.and_eq_true, decide_eq_true_eq] at h
  obtain ⟨⟨⟨⟨⟨⟨⟨⟨⟨⟨h1, h2⟩, h3⟩, h4⟩, h5⟩, h6⟩, h7⟩, h8⟩, h9⟩, h10⟩, h11⟩ := h
  refine ⟨mm_at_in h1, fun z => ?_, fun z => ⟨?_, ?_⟩, fun z => ?_, h4, h5, h6, h7, h8, h9, fun z => ?_⟩
  · rw [if_pos z] at h2; exact mm_at_in h2
  · rw [if_neg z] at h2; exact mm_at_in h2
  · rw [if_neg z] at h11; exact of_decide_eq_true h11
  · rw [if_pos z] at h3; exact mm_at_in h3
  · rw [if_pos z] at h10; exact of_decide_eq_true h10
def mm_Pc (D : va_G) (cT : Nat → ClassId) (X : Nat × Nat × (Nat → Int32)) (vs : List Value) (M : mm_M) : Array Value → State → Prop := fun av U => av = vs.toArray ∧ mm_I D cT M U.heap ∧ va_K D mm_cl (mm_tys cT) U ∧ mm_Wd X (mm_A M) U U.heap
def mm_Qc (D : va_G) (cT : Nat → ClassId) (M : mm_M) (o : mm_Out) (M' : mm_M) : Array Value → State → Outcome → State → Prop := fun _ st oc t => ∃ v, o = .inl v ∧ oc = .returned v ∧ mm_I D cT M' t.heap ∧ va_F (mm_A M) st t
def mm_XC (D : va_G) (cT : Nat → ClassId) (M : mm_M) (o : mm_Out) (M' : mm_M) : String → State → State → Prop := fun E st t => ∃ x, o = .inr x ∧ E = mm_E x ∧ mm_I D cT M' t.heap ∧ va_F (mm_A M) st t
section MS8
variable {l : Launch} {D : va_G} {cT : Nat → ClassId} {X : Nat × Nat × (Nat → Int32)} {d k : Nat} {vs : List Value} {M M' : mm_M} {o : mm_Out}
theorem mm_sl1 : ∀ (vs : List Value), vs.all (fun v => v.category == 1) = true → (lg_sl vs).length = vs.length
  | [], _ => rfl
  | x :: xs, h => by
    simp only [List.all_cons, Bool.and_eq_true, beq_iff_eq] at h
    have := mm_sl1 xs h.2
    simp only [lg_sl, List.flatMap_cons, List.length_append, List.length_cons] at this ⊢
    rw [this, h.1]
    simp
    omega
theorem mm_L_entry {n : Nat} (hv : vs.all (fun v => v.category == 1) = true) (hn : vs.length ≤ n) : mm_L ((lg_sl vs ++ List.replicate (n - (lg_sl vs).length) Slot.unset).toArray) n (vs.map some ++ List.replicate (n - vs.length) none) := by
  have hl := lv_entry vs (n := n) (by rw [mm_sl1 vs hv]; exact hn)
  refine ⟨hl.1, by simp; omega, hl.2.1, fun j v hj => ?_⟩
  have h2 : vs[j]? = some v := by
    by_cases hjl : j < vs.length
    · rw [List.getElem?_append_left (by simpa using hjl), List.getElem?_map] at hj
      cases h3 : vs[j]? with
      | none => rw [h3] at hj; cases hj
      | some w => rw [h3] at hj; cases hj; rfl
    · rw [List.getElem?_append_right (by simpa using hjl)] at hj
      have h4 := List.mem_of_getElem? hj
      rw [List.mem_replicate] at h4
      cases h4.2
  have h3 := mm_args_in vs 0 j v hv h2
  rw [Nat.zero_add] at h3
  exact hl.2.2 (j, v) h3
theorem mm_blind : FrameBlind (mm_Pc D cT X vs M) := fun a U g mk q => by
  obtain ⟨q1, q2, q3, q4⟩ := q
  exact ⟨q1, q2, va_K.moved (u := U) (U := U.calling g mk a) (Vm.Alike.refl U.vm) q3, mm_Wd.same (u := U) (U := U.calling g mk a) rfl q4⟩
theorem mm_met (hl : l.stackTraces = false) (hk : k < 132) (g : mm_Go D cT X d k 0 (mm_arg k vs) [] M o M') (hv : vs.all (fun v => v.category == 1) = true) (hn : vs.length = mm_na k) :
    vx_Met l (mm_y k) (mm_ws k) (mm_rm d (M'.1 - M.1) (M'.2.1 - M.2.1)) (mm_Pc D cT X vs M) (mm_Qc D cT M o M') (mm_XC D cT M o M') (M'.1 - M.1) (M'.2.1 - M.2.1) (mm_A M) := by
  obtain ⟨s1, s2, s3, s4, s5, s6, s7, s8, s9, s10, s11⟩ := mm_K_spec hk
  have body : ∀ (p : Program) (e : Env) (s : State) (m : MethodId) (args : Array Value) (below : List Frame) (meth : Method) (c : Code) (s₁ : State), BodyLoose p l (mm_y k) (headSpec (mm_ws k) (mm_rm d (M'.1 - M.1) (M'.2.1 - M.2.1))) (mm_b k) (mm_mx k) (mm_rt k) e s m args below meth c s₁ → c.maxLocals = mm_mx k → ((¬ mm_kd k = 3 → ∀ x ∈ c.exceptionTable.toList, False) ∧ (mm_kd k = 3 → c.exceptionTable.toList = tableOf (mm_hh k))) → mm_Pc D cT X vs M args s →
      W p l e (headSpec (mm_ws k) (mm_rm d (M'.1 - M.1) (M'.2.1 - M.2.1))).room s m args below meth c s.heap [] 0 0 (vx_MQ below (mm_Qc D cT M o M') (mm_XC D cT M o M') args s (M'.1 - M.1) (M'.2.1 - M.2.1) (mm_A M)) (entryFrame m args (mm_mx k)) := by
    intro p e s m args below meth c s₁ B hml htb hP
    obtain ⟨rfl, hI, hK, hWd⟩ := hP
    have hts := atoms_spec (ws := mm_ws k) B.pre
    have hown : s.vm.findClass (mR (mm_own k)) = some m.cls := by rw [← s5]; exact findClass_of_methodNamed B.named
    have F : mm_Fx D cT X p l s m vs.toArray meth c k (mm_A M) := ⟨B.exec, B.bytes, hml, hown, fun w hw => hts w (List.mem_cons_of_mem _ hw), hK, B.returns, B.notSynchronized, fun hk2 => by rw [(name_of_methodNamed B.named B.method).1]; exact (s11 hk2).1, hl, hWd, htb.1, htb.2⟩
    rw [lg_entry_eq]
    exact g.2 F (mm_L_entry hv (by rw [hn]; exact s8)) hI va_S.rf (fun _ h => h) (fun _ h => h) (by omega) (by omega) (Nat.le_refl _) (Nat.le_refl _) (Nat.le_refl _) (Nat.le_refl _)
      (fun t v ho hIt hW hF => ⟨v, ho, rfl, hIt, hF⟩) (fun t x ho hIt hW hF => ⟨x, ho, rfl, hIt, hF⟩)
  by_cases h3 : mm_kd k = 3
  · have hw : mm_ws k = .codeWith (mm_y k) (mm_b k) (mm_mx k) (mm_rt k) (mm_hh k) :: mm_WL := by unfold mm_ws mm_code; rw [if_pos h3]
    refine vx_ofWH (hh := mm_hh k) s6 hw (fun p e s m args below meth c s₁ B hml hP => body p e s m args below meth c s₁ B hml ⟨fun z => absurd h3 z, fun _ => ?_⟩ hP)
    exact vx_table (x := mm_y k) B (atoms_spec (ws := mm_ws k) B.pre _ (by rw [hw]; exact List.mem_cons_self))
  · have hw : mm_ws k = .code (mm_y k) (mm_b k) (mm_mx k) (mm_rt k) :: mm_WL := by unfold mm_ws mm_code; rw [if_neg h3]
    exact vx_ofW s6 hw (fun p e s m args below meth c s₁ B hml ht hP => body p e s m args below meth c s₁ B hml ⟨fun _ => ht, fun z => absurd z h3⟩ hP)
/-- a contract of a method that doesn't throw -/
theorem mm_metR {y : MethodName} {ws : List Cond} {rm : Room} {Pc : Array Value → State → Prop} {Qc : Array Value → State → Outcome → State → Prop} {XC : String → State → State → Prop} {mc ms : Nat} {free : Addr → Prop} (h : vx_Met l y ws rm Pc Qc XC mc ms free) (hx : ∀ E s t, ¬ XC E s t) : Met l y ws rm Pc Qc mc ms free := by
  intro p e ha hc hk s m args below hf happ hP hK
  obtain ⟨n, o, h1, h2, h3, h4⟩ := h p e ha hc hk s m args below hf happ hP hK
  refine ⟨n, o, h1, h2, h3, ?_⟩
  rcases h4 with h4 | ⟨q, -, E, ce, L, hq, -⟩
  · exact h4
  · exact absurd hq (hx _ _ _)
end MS8
section MS9
variable {p : Program} {l : Launch} {e : Env} {R : Room} {s : State} {m : MethodId} {args : Array Value} {below : List Frame} {meth : Method} {c : Code} {H : Heap} {locs : List Loc} {cells slots : Nat} {Q : State → Prop}
variable {pc : Nat} {ls : Array Slot} {r vs : List Value} {D : va_G} {cT : Nat → ClassId} {X : Nat × Nat × (Nat → Int32)} {d k k' a : Nat} {A : Nat → Prop} {M M1 : mm_M} {oc : mm_Out}
/-- a call, whatever kind, runs so -/
theorem mm_callrun (F : mm_Fx D cT X p l s m args meth c k A) (hsz : ls.size = mm_mx k) (hI : mm_I D cT M H) (hS : va_S A s.heap H locs) (hA : ∀ q, mm_A M q → A q) (hk : k' < 132) (g : mm_Go D cT X d k' 0 (mm_arg k' vs) [] M oc M1) (hv : vs.all (fun v => v.category == 1) = true) (hn : vs.length = mm_na k') (hr : mm_sum r ≤ 8)
    (hd : d + 1 ≤ R.frames) (h64 : 64 * (d + 1) ≤ R.locals) (hc : cells + (M1.1 - M.1) ≤ R.cells) (hs : slots + (M1.2.1 - M.2.1) ≤ R.slots) {idx : Nat} (hlink : Cond.methodLink (mR (mm_own k)) idx (mm_y k') ∈ mm_WL)
    (hkind : (decode (mm_b k) pc = .ok (.invokestatic idx, 3) ∧ (mm_kd k' = 0 ∨ mm_kd k' = 3)) ∨ (decode (mm_b k) pc = .ok (.invokevirtual idx, 3) ∧ mm_kd k' = 1 ∧ ∃ (b : Nat) (as : List Value) (fs : List Value), vs = .ref b :: as ∧ M.2.2 b = some (.inr (mm_own k', fs)) ∧ mm_own k' < 4) ∨ (decode (mm_b k) pc = .ok (.invokespecial idx, 3) ∧ mm_kd k' = 2 ∧ (∃ (b : Nat) (as : List Value), vs = .ref b :: as) ∧ ∃ v, oc = .inl v)) :
    vx_Run p l e R s m args below meth c H locs cells slots (M1.1 - M.1) (M1.2.1 - M.2.1) (F0 m pc ls (vs.reverse ++ r)) r (mm_Qc D cT M oc M1 vs.toArray) (mm_XC D cT M oc M1) (mm_A M) := by
  obtain ⟨s1, s2, s3, s4, s5, s6, s7, s8, s9, s10, s11⟩ := mm_K_spec hk
  have F0' := F
  obtain ⟨hx, hb, hml, hown, hts, hK, hret, hlk, -, hst, hWd, -⟩ := F0'
  have hM := mm_met (l := l) hst hk g hv hn
  have hmono := g.1
  have good : ∀ w ∈ mm_WL, w ∈ mm_WL ∧ ((w.onTables && w.keeps) = true ∨ ∃ ty, w = .arrayClass ty) := fun w hw => ⟨hw, good_of_word (mm_WL_good w hw)⟩
  have hmW : ∀ w ∈ mm_ws k', w ∈ mm_WL := fun w hw => (List.mem_cons.mp hw).elim (fun z => by rw [z]; exact s1) id
  have hini := mm_ini_in (c := mm_own k') (by omega)
  have pre : ∀ U : State, U.heap = H → s.WarmedH U.vm → mm_Pc D cT X vs M vs.toArray U := fun U hU hW => by
    have hWd2 : mm_Wd X (mm_A M) U H := (hWd.warm hW).kept hS.1 hS.2.1 hA
    exact ⟨rfl, by rw [hU]; exact hI, va_K.moved hW.alike hK, by rw [hU]; exact hWd2⟩
  have hcf : CallFix p m c (mm_b k) (mm_mx k) s args mm_WL (mR (mm_own k)) := ⟨hx, hb, hml, hown, hts⟩
  have hroom : (mm_rm d (M1.1 - M.1) (M1.2.1 - M.2.1)).frames + 1 ≤ R.frames ∧ 8 + (mm_mx k' + 11) + (mm_rm d (M1.1 - M.1) (M1.2.1 - M.2.1)).locals ≤ R.locals := by unfold mm_rm; dsimp only; omega
  have hW8 : 2 * (F0 m pc ls (vs.reverse ++ r)).monitorRoom + (r.map fun v => v.category).sum ≤ 8 := lv_room hr
  have notMH : ∀ c, c < 7 → mR c ≠ "java/lang/invoke/MethodHandle" ∧ mR c ≠ "java/lang/invoke/VarHandle" := by
    intro c hc
    match c, hc with
    | 0, _ => decide +kernel
    | 1, _ => decide +kernel
    | 2, _ => decide +kernel
    | 3, _ => decide +kernel
    | 4, _ => decide +kernel
    | 5, _ => decide +kernel
    | 6, _ => decide +kernel
  have hnm : (mm_y k').cls ≠ "java/lang/invoke/MethodHandle" ∧ (mm_y k').cls ≠ "java/lang/invoke/VarHandle" := by rw [s5]; exact notMH _ (by omega)
  rcases hkind with ⟨hdg, hkd⟩ | ⟨hdg, hkd, b, as, fs, rfl, hMb, hown4⟩ | ⟨hdg, hkd, ⟨b, as, rfl⟩, v, hov⟩
  · rw [if_pos hkd] at s7
    by_cases h3 : mm_kd k' = 3
    · have hw : mm_ws k' = .codeWith (mm_y k') (mm_b k') (mm_mx k') (mm_rt k') (mm_hh k') :: mm_WL := by unfold mm_ws mm_code; rw [if_pos h3]
      have cw : vx_CSW R s args (mR (mm_own k)) idx (mm_y k') (mm_b k') (mm_mx k') (mm_rt k') (mm_hh k') (mm_ws k') (mm_rm d (M1.1 - M.1) (M1.2.1 - M.2.1)) (M1.1 - M.1) (M1.2.1 - M.2.1) (mm_na k') := by
        have hcd : Cond.codeWith (mm_y k') (mm_b k') (mm_mx k') (mm_rt k') (mm_hh k') ∈ mm_ws k' := by rw [hw]; exact List.mem_cons_self
        refine ⟨⟨rfl, rfl, hroom.1, hroom.2, pay_in hts (fun w h => good w (hmW w h)), hcd⟩, hts _ (hmW _ hcd), by rw [s5]; exact hts _ hini, hnm, fun sig h => ?_, hts _ hlink, hts _ (s2 hkd)⟩
        rw [h] at s7
        exact (Option.some.inj s7).symm
      exact vx_runSX (hh := mm_hh k') hcf hM cw ⟨mm_blind, pre⟩ rfl hn hsz rfl hW8 hdg ⟨hc, hs⟩
    · have hw : mm_ws k' = .code (mm_y k') (mm_b k') (mm_mx k') (mm_rt k') :: mm_WL := by unfold mm_ws mm_code; rw [if_neg h3]
      exact vx_runS hcf hM ⟨callB_of (mm_na k') hts (fun w h => good w (hmW w h)) hw rfl rfl (by rw [s5]; exact hts _ hini) (hts _ hlink) ⟨hnm.1, hnm.2, s7⟩ hroom, hts _ (s2 hkd)⟩ ⟨mm_blind, pre⟩ rfl hn hsz rfl hW8 hdg ⟨hc, hs⟩
  · have hk0 : ¬ (mm_kd k' = 0 ∨ mm_kd k' = 3) := by omega
    rw [if_neg hk0] at s7
    have hw : mm_ws k' = .code (mm_y k') (mm_b k') (mm_mx k') (mm_rt k') :: mm_WL := by unfold mm_ws mm_code; rw [if_neg (by omega)]
    have hcell := va_recv (ci := mm_own k') (q0 := 0) hK (mm_one hI hMb) (mm_cl_at hown4) rfl
    have hlen : as.length = mm_na k' - 1 := by rw [← hn]; simp
    have hst2 : (F0 m pc ls ((Value.ref b :: as).reverse ++ r)).stack = as.reverse ++ Value.ref b :: r := by simp
    exact vx_runV hcf hM ⟨callB_of (mm_na k' - 1) hts (fun w h => good w (hmW w h)) hw rfl rfl (by rw [s5]; exact hts _ hini) (hts _ hlink) ⟨hnm.1, hnm.2, s7⟩ hroom, hts _ (s3 hk0).1, hts _ (s4 hkd)⟩ ⟨mm_blind, hcell, pre⟩ rfl hlen hsz hst2 hW8 hdg ⟨hc, hs⟩
  · have hk0 : ¬ (mm_kd k' = 0 ∨ mm_kd k' = 3) := by omega
    rw [if_neg hk0] at s7
    have hrt := (s11 hkd).2
    have hw : mm_ws k' = .code (mm_y k') (mm_b k') (mm_mx k') none :: mm_WL := by unfold mm_ws mm_code; rw [if_neg (by omega), hrt]
    have hM2 := mm_metR hM (fun E s t ⟨x, h, _⟩ => by rw [hov] at h; cases h)
    have hlen : as.length = mm_na k' - 1 := by rw [← hn]; simp
    have hst2 : (F0 m pc ls ((Value.ref b :: as).reverse ++ r)).stack = as.reverse ++ Value.ref b :: r := by simp
    have hrun := va_runI (e := e) (below := below) (meth := meth) (H := H) (locs := locs) (cells := cells) (slots := slots) (R := R) hcf hM2 (cwI (mm_na k' - 1) hts (fun w h => good w (hmW w h)) hw rfl rfl (by rw [s5]; exact hts _ hini) (hts _ hlink) (hts _ (s3 hk0).1) (s11 hkd).1 ⟨hnm.1, hnm.2, s7⟩ hroom) ⟨mm_blind, pre⟩ rfl hlen hsz hst2 hW8 hdg ⟨hc, hs⟩
    intro T hT Xs
    exact Or.inl (hrun T hT Xs)
/-- behind a call -/
theorem mm_after (hr : vx_Run p l e R s m args below meth c H locs cells slots (M1.1 - M.1) (M1.2.1 - M.2.1) (F0 m pc ls (vs.reverse ++ r)) r (mm_Qc D cT M oc M1 vs.toArray) (mm_XC D cT M oc M1) (mm_A M)) (hS : va_S A s.heap H locs) (hA : ∀ q, mm_A M q → A q)
    (kk : ∀ (v : Option Value) (H1 : Heap) (locs1 : List Loc), oc = .inl v → mm_I D cT M1 H1 → va_S A s.heap H1 locs1 → W p l e R s m args below meth c H1 locs1 (cells + (M1.1 - M.1)) (slots + (M1.2.1 - M.2.1)) Q (F0 m (pc + 3) ls (v.toList ++ r)))
    (kx : ∀ (x : Nat) (ce : Cell) (q9 : Addr) (H1 : Heap) (locs1 : List Loc), oc = .inr x → mm_I D cT M1 H1 → va_S A s.heap H1 locs1 → H1[q9]? = some ce → ce.vm = .none → s.vm.findClass (mm_E x) = some ce.cls → vx_W p l e R s m args below meth c H1 locs1 (cells + (M1.1 - M.1)) (slots + (M1.2.1 - M.2.1)) Q (F0 m pc ls r) q9) :
    W p l e R s m args below meth c H locs cells slots Q (F0 m pc ls (vs.reverse ++ r)) := by
  intro T hT Xs
  rcases hr T hT Xs with ⟨v, st₀, t, T', L, h0, X', hL, e1, e2, ⟨v', ho, hv, hI1, hF⟩, st⟩ | ⟨q, st₀, t, T', L, E, ce, h0, X', hL, e1, e2, ⟨x, ho, hE, hI1, hF⟩, hce, hcv, hcl, st⟩
  · cases hv
    obtain ⟨k1, k2, k3⟩ := vx_keep h0 e1 hS (fun q _ h => hA q h) hA hL hF
    obtain ⟨t2, a1, b1⟩ := kk v T'.heap (locs ++ L) ho (by rw [e1]; exact hI1) k3 T' rfl X'
    exact ⟨t2, st t2 a1, b1⟩
  · subst hE
    obtain ⟨k1, k2, k3⟩ := vx_keep h0 e1 hS (fun q _ h => hA q h) hA hL hF
    obtain ⟨t2, a1, b1⟩ := kx x ce q T'.heap (locs ++ L) ho (by rw [e1]; exact hI1) k3 (by rw [e1]; exact hce) hcv hcl T' rfl X'
    exact ⟨t2, st.trans a1, b1⟩
end MS9
end
section
/-! the abstract machine against the machine: the whole -/
theorem mm_mth_eq {o i k' : Nat} (h : mm_mth o i = some k') : Cond.methodLink (mR o) i (mm_y k') ∈ mm_WL ∧ k' < 132 := by
  unfold mm_mth at h
  obtain ⟨x, he, h2⟩ := Option.map_eq_some_iff.mp h
  have h3 := List.all_eq_true.mp mm_ML_ok x (List.mem_of_find?_eq_some he)
  have h4 := List.find?_some he
  simp only [Bool.and_eq_true, decide_eq_true_eq, beq_iff_eq] at h3 h4
  obtain ⟨a1, a2, a3, a4⟩ := x
  cases h2
  obtain ⟨rfl, rfl⟩ := h4
  exact ⟨mm_at_in h3.1, h3.2⟩
section MS10
variable {D : va_G} {cT : Nat → ClassId} {X : Nat × Nat × (Nat → Int32)}
theorem mm_own_lt {k : Nat} (h : mm_own k < 4) : k < 132 := by
  by_cases hk : k < 132
  · exact hk
  · exfalso
    match k with
    | 132 => revert h; decide
    | 133 => revert h; decide
    | j + 134 => revert h; simp [mm_own, mm_Q]
/-- a call, and on -/
theorem mm_Go.call {n : Nat} (ih : ∀ d k pc al st M o M', mm_run X n d k pc al st M = some (o, M') → mm_Go D cT X d k pc al st M o M') {d k pc k' idx : Nat} {al : List (Option Value)} {st : List Value} {M M' : mm_M} {o : mm_Out} (hm : mm_mth (mm_own k) idx = some k')
    (h : mm_call (mm_run X n) d k pc k' al st M = some (o, M'))
    (hkind : (decode (mm_b k) pc = .ok (.invokestatic idx, 3) ∧ (mm_kd k' = 0 ∨ mm_kd k' = 3)) ∨ (decode (mm_b k) pc = .ok (.invokevirtual idx, 3) ∧ mm_kd k' = 1 ∧ ∃ (b : Nat) (fs : List Value), st[mm_na k' - 1]? = some (.ref b) ∧ M.2.2 b = some (.inr (mm_own k', fs))) ∨ (decode (mm_b k) pc = .ok (.invokespecial idx, 3) ∧ mm_kd k' = 2 ∧ ∃ b : Nat, st[mm_na k' - 1]? = some (.ref b))) : mm_Go D cT X d k pc al st M o M' := by
  obtain ⟨hlink, hk'⟩ := mm_mth_eq hm
  obtain ⟨s1, s2, s3, s4, s5, s6, s7, s8, s9, s10, s11⟩ := mm_K_spec hk'
  unfold mm_call at h
  split at h
  · cases h
  rename_i hg
  have hd0 : ¬ d = 0 := fun z => hg (Or.inl z)
  have hlen : mm_na k' ≤ st.length := Nat.le_of_not_lt fun z => hg (Or.inr (Or.inl z))
  have hsum : mm_sum (st.drop (mm_na k')) ≤ 8 := Nat.le_of_not_lt fun z => hg (Or.inr (Or.inr (Or.inl z)))
  have hcat : (st.take (mm_na k')).all (fun v => v.category == 1) = true := by
    cases hz : (st.take (mm_na k')).all (fun v => v.category == 1) with
    | true => rfl
    | false => exact absurd (Or.inr (Or.inr (Or.inr hz))) hg
  have hcat2 : (st.take (mm_na k')).reverse.all (fun v => v.category == 1) = true := by rw [List.all_reverse]; exact hcat
  have hn2 : (st.take (mm_na k')).reverse.length = mm_na k' := by simp; omega
  have hst : (st.take (mm_na k')).reverse.reverse ++ st.drop (mm_na k') = st := by rw [List.reverse_reverse]; exact List.take_append_drop _ _
  have hrecv : ∀ b : Nat, 0 < mm_na k' → st[mm_na k' - 1]? = some (.ref b) → ∃ as, (st.take (mm_na k')).reverse = .ref b :: as := by
    intro b h0 hb
    have e1 : (st.take (mm_na k')).getLast? = some (.ref b) := by
      rw [List.getLast?_eq_getElem?, List.length_take, Nat.min_eq_left hlen, List.getElem?_take_of_lt (by omega)]
      exact hb
    rw [List.getLast?_eq_head?_reverse] at e1
    cases hz : (st.take (mm_na k')).reverse with
    | nil => rw [hz] at e1; cases e1
    | cons x as => rw [hz] at e1; cases e1; exact ⟨as, rfl⟩
  generalize hvs : (st.take (mm_na k')).reverse = vs at h hcat2 hn2 hst hrecv
  generalize hr : st.drop (mm_na k') = r at h hsum hst
  split at h
  · rename_i v M1 hrun
    have g1 := ih _ _ _ _ _ _ _ _ hrun
    have g2 := ih _ _ _ _ _ _ _ _ h
    refine ⟨g1.1.trans g2.1, ?_⟩
    intro p l e R s m args below meth c H locs cells slots mc ms ls Qc XC free A F hL hI hS hA hfr hc hs hmc hms hd h64 hq hx
    obtain ⟨a1, a2, a3⟩ := g1.1
    obtain ⟨b1, b2, b3⟩ := g2.1
    have hkind2 : (decode (mm_b k) pc = .ok (.invokestatic idx, 3) ∧ (mm_kd k' = 0 ∨ mm_kd k' = 3)) ∨ (decode (mm_b k) pc = .ok (.invokevirtual idx, 3) ∧ mm_kd k' = 1 ∧ ∃ (b : Nat) (as : List Value) (fs : List Value), vs = .ref b :: as ∧ M.2.2 b = some (.inr (mm_own k', fs)) ∧ mm_own k' < 4) ∨ (decode (mm_b k) pc = .ok (.invokespecial idx, 3) ∧ mm_kd k' = 2 ∧ (∃ (b : Nat) (as : List Value), vs = .ref b :: as) ∧ ∃ v', (Sum.inl v : mm_Out) = .inl v') := by
      rcases hkind with z | ⟨z1, z2, b, fs, z3, z4⟩ | ⟨z1, z2, b, z3⟩
      · exact Or.inl z
      · obtain ⟨as, has⟩ := hrecv b (s3 (by omega)).2 z3
        obtain ⟨rr, g3, -⟩ := hI.2 b _ z4
        exact Or.inr (Or.inl ⟨z1, z2, b, as, fs, has, z4, (List.getElem?_eq_some_iff.mp g3).1⟩)
      · obtain ⟨as, has⟩ := hrecv b (s3 (by omega)).2 z3
        exact Or.inr (Or.inr ⟨z1, z2, ⟨b, as, has⟩, v, rfl⟩)
    have hrr := mm_callrun (e := e) (R := R) (pc := pc) (meth := meth) (below := below) (cells := cells) (slots := slots) F hL.1 hI hS hA hk' g1 hcat2 hn2 hsum (by omega) (by omega) (by omega) (by omega) hlink hkind2
    rw [← hst]
    refine mm_after hrr hS hA (fun v2 H1 locs1 ho hI1 hS1 => ?_) (fun x ce q9 H1 locs1 ho _ _ _ _ _ => by cases ho)
    cases ho
    exact g2.2 F hL hI1 hS1 (fun q z => hA q (a3 q z)) hfr (by omega) (by omega) hmc hms hd h64 hq hx
  · rename_i x M1 hrun
    have g1 := ih _ _ _ _ _ _ _ _ hrun
    have hk2 : ¬ mm_kd k' = 2 := by
      intro z
      rw [if_pos z] at h
      cases h
    rw [if_neg hk2] at h
    have hle : mm_le M M' ∧ M1 = M' := by
      split at h
      · obtain ⟨w, -, hw⟩ := Option.map_eq_some_iff.mp h
        cases hw
        exact ⟨g1.1, rfl⟩
      · split at h
        · cases h
        · cases h; exact ⟨g1.1, rfl⟩
    obtain ⟨hle, rfl⟩ := hle
    refine ⟨hle, ?_⟩
    intro p l e R s m args below meth c H locs cells slots mc ms ls Qc XC free A F hL hI hS hA hfr hc hs hmc hms hd h64 hq hx
    have hkind2 : (decode (mm_b k) pc = .ok (.invokestatic idx, 3) ∧ (mm_kd k' = 0 ∨ mm_kd k' = 3)) ∨ (decode (mm_b k) pc = .ok (.invokevirtual idx, 3) ∧ mm_kd k' = 1 ∧ ∃ (b : Nat) (as : List Value) (fs : List Value), vs = .ref b :: as ∧ M.2.2 b = some (.inr (mm_own k', fs)) ∧ mm_own k' < 4) ∨ (decode (mm_b k) pc = .ok (.invokespecial idx, 3) ∧ mm_kd k' = 2 ∧ (∃ (b : Nat) (as : List Value), vs = .ref b :: as) ∧ ∃ v', (Sum.inr x : mm_Out) = .inl v') := by
      rcases hkind with z | ⟨z1, z2, b, fs, z3, z4⟩ | ⟨z1, z2, b, z3⟩
      · exact Or.inl z
      · obtain ⟨as, has⟩ := hrecv b (s3 (by omega)).2 z3
        obtain ⟨rr, g3, -⟩ := hI.2 b _ z4
        exact Or.inr (Or.inl ⟨z1, z2, b, as, fs, has, z4, (List.getElem?_eq_some_iff.mp g3).1⟩)
      · exact absurd z2 hk2
    have hrr := mm_callrun (e := e) (R := R) (pc := pc) (meth := meth) (below := below) (cells := cells) (slots := slots) F hL.1 hI hS hA hk' g1 hcat2 hn2 hsum (by omega) (by omega) (by omega) (by omega) hlink hkind2
    rw [← hst]
    refine mm_after hrr hS hA (fun v2 H1 locs1 ho _ _ => by cases ho) (fun x2 ce q9 H1 locs1 ho hI1 hS1 hce hcv hcl => ?_)
    cases ho
    have hf1 : ∀ z ∈ locs1, free z.base := fun z hz => hfr _ (hS1.2.2 z hz)
    by_cases h3 : mm_kd k = 3
    · rw [if_pos h3] at h
      obtain ⟨w, hw, hw2⟩ := Option.map_eq_some_iff.mp h
      cases hw2
      exact mm_caught F hL hw hce hcv hcl hf1 hc hs (fun t ht hW => hq t _ rfl (by rw [ht]; exact hI1) hW (hS1.F ht))
    · rw [if_neg h3] at h
      split at h
      · cases h
      · cases h
        obtain ⟨-, -, -, -, -, -, -, hlk, -, -, -, ht0, -⟩ := F
        exact vx_out (fun z hz => absurd hz (fun z2 => ht0 h3 z z2)) hlk hce hcv hcl (fun t ht hal => hx t x rfl (by rw [ht]; exact hI1) hal (hS1.F ht)) hf1 hc hs
  · cases h
end MS10
end
section
/-! the abstract machine against the machine: the theorem -/
section MS11
variable {D : va_G} {cT : Nat → ClassId} {X : Nat × Nat × (Nat → Int32)}
/-- the method ends here -/
theorem mm_Go.ret {d k pc : Nat} {al : List (Option Value)} {st : List Value} {M : mm_M} {v : Option Value}
    (row : ∀ {p : Program} {l : Launch} {e : Env} {R : Room} {s : State} {m : MethodId} {args : Array Value} {below : List Frame} {meth : Method} {c : Code} {H : Heap} {locs : List Loc} {cells slots : Nat} {ls : Array Slot} {A : Nat → Prop} {free : Addr → Prop} {Qc : Array Value → State → Outcome → State → Prop},
      mm_Fx D cT X p l s m args meth c k A → (∀ z ∈ locs, free z.base) → (∀ t : State, t.heap = H → s.WarmedH t.vm → Qc args s (.returned v) t) → W p l e R s m args below meth c H locs cells slots (MQ below Qc args s cells slots free) (F0 m pc ls st)) : mm_Go D cT X d k pc al st M (.inl v) M := by
  refine ⟨mm_le.refl M, ?_⟩
  intro p l e R s m args below meth c H locs cells slots mc ms ls Qc XC free A F hL hI hS hA hfr hc hs hmc hms hd h64 hq hx
  refine W.widen (k := mc) (n := ms) (by omega) (by omega) ?_
  exact vx_ret (row F (fun z hz => hfr _ (hS.2.2 z hz)) (fun t ht hW => hq t v rfl (by rw [ht]; exact hI) hW (hS.F ht)))
theorem mm_E_ok {x : Nat} (hx : x < 5) : mm_E x = mm_E x := rfl
theorem mm_Go.throw {d k pc idx x ic : Nat} {al : List (Option Value)} {r : List Value} {M : mm_M} (ht : mm_thr (mm_own k) idx = some (x, ic)) (h6 : 6 ≤ d) (h8 : mm_sum r ≤ 8) (hk : mm_kd k < 2) (d0 : decode (mm_b k) pc = .ok (.new idx, 3)) (d3 : decode (mm_b k) (pc + 3) = .ok (.dup, 1)) (d4 : decode (mm_b k) (pc + 4) = .ok (.invokespecial ic, 3)) (d7 : decode (mm_b k) (pc + 7) = .ok (.athrow, 1)) :
    mm_Go D cT X d k pc al r M (.inr x) (mm_skip M 6) := by
  refine ⟨mm_le.skip, ?_⟩
  intro p l e R s m args below meth c H locs cells slots mc ms ls Qc XC free A F hL hI hS hA hfr hc hs hmc hms hd h64 hq hx
  obtain ⟨hxx, hb, hml, hown, hts, hK, hret, hlk, -, hst, hWd, ht0, -⟩ := F
  unfold mm_thr at ht
  obtain ⟨z, hz, hz2⟩ := Option.map_eq_some_iff.mp ht
  have h4 := List.find?_some hz
  have hmem := List.mem_of_find?_eq_some hz
  have h3 := List.all_eq_true.mp mm_EX_ok z hmem
  have h5 := List.all_eq_true.mp mm_EL_ok z hmem
  obtain ⟨z1, z2, z3, z4, z5⟩ := z
  simp only [Bool.and_eq_true, beq_iff_eq] at h4
  dsimp only at h3 h4 h5 hz2
  obtain ⟨rfl, rfl⟩ := h4
  cases hz2
  simp only [Bool.and_eq_true, decide_eq_true_eq] at h3
  obtain ⟨⟨⟨⟨⟨⟨g1, g2⟩, g3⟩, g4⟩, g5⟩, g6⟩, g7⟩ := h3
  have hat : ∀ w ∈ vx_at0 (mR (mm_own k)) ic (mm_E x) mm_two, w.before args s = true ∧ vx_ot w = true := by
    intro w hw
    have h9 := List.all_eq_true.mp g1 w hw
    simp only [Bool.and_eq_true] at h9
    refine ⟨?_, h9.1⟩
    by_cases hgw : goodWord w = true
    · have h10 := h9.2
      rw [if_pos hgw] at h10
      exact hts w (List.mem_filter.mpr ⟨of_decide_eq_true h10, hgw⟩)
    · have h10 := h9.2
      rw [if_neg hgw] at h10
      have h11 := of_decide_eq_true h10
      have h12 := hWd.2.2.2.2.2.1 w h11
      refine va_Nw.use ?_ h12
      simp only [mm_BW, List.mem_cons, List.not_mem_nil, or_false] at h11
      rcases h11 with rfl | rfl | rfl | rfl | rfl | rfl | rfl | rfl <;> rfl
  have hini : Cond.initialized (mm_E x) ∈ mm_WL := List.mem_filter.mpr ⟨g4, g7⟩
  have e1 : (mm_skip M 6).1 - M.1 = 1 := by unfold mm_skip; simp
  have e2 : (mm_skip M 6).2.1 - M.2.1 = 6 := by unfold mm_skip; simp
  rw [e1] at hc
  rw [e2] at hs
  unfold mm_sum at h8
  refine mm_throw0 hxx hb hst (own := mR (mm_own k)) (cls := mm_E x) (names := mm_two) (ik := z2) (ic := ic) (A := A) hown g2 (fun n hn => List.all_eq_true.mp g3 n hn) (hts _ (mm_at_in h5)) (hts _ hini) (fun w hw => (hat w hw).1) (fun w hw => ?_) hWd.2.2.2.1 hWd.2.2.2.2.1 hS (by rw [hml]; exact hL.1) d0 d3 d4 d7 (fun y hy => absurd hy (fun z => ht0 (by omega) y z)) (by simp [mm_two]; omega) (by simp only [mm_two, List.length_cons, List.length_nil]; omega) (by omega) (by omega) hlk (fun t hal hsz hk2 => ?_) (fun z hz => hfr _ (hS.2.2 z hz)) hc hs
  · rcases List.mem_cons.mp hw with rfl | hw
    · exact g6
    · rcases List.mem_cons.mp hw with rfl | hw
      · exact g5
      · exact (hat w hw).2
  · refine hx t _ rfl ⟨by rw [hsz, hI.1]; rfl, fun q o1 hq1 => ?_⟩ hal ⟨by rw [hsz]; have := hS.1; omega, fun q q1 q2 => ?_⟩
    · have h7 := hI.2 q o1 hq1
      exact h7.kept (hk2 q h7.lt)
    · rw [hk2 q (Nat.lt_of_lt_of_le q1 hS.1)]
      exact hS.2.1 q q1 q2
set_option maxHeartbeats 4000000 in
theorem mm_heap_ok {n : Nat} (ih : ∀ d k pc al st M o M', mm_run X n d k pc al st M = some (o, M') → mm_Go D cT X d k pc al st M o M') {d k pc : Nat} {i : Instr} {len : Nat} {al : List (Option Value)} {st : List Value} {M M' : mm_M} {o : mm_Out} (hd : decode (mm_b k) pc = .ok (i, len))
    (h : mm_heap (mm_run X n) X d k pc i len al st M = some (o, M')) : mm_Go D cT X d k pc al st M o M' := by
  unfold mm_heap at h
  split at h
  · split at h
    · rename_i x hx
      exact (ih _ _ _ _ _ _ _ _ h).of0 (fun F hL hI hS _ _ _ _ kk => mm_iinc_ok F.1 F.2.1 hd hL hx kk)
    · cases h
  · split at h
    · rename_i ci j c fs hf hM
      split at h
      · rename_i hc
        subst hc
        split at h
        · rename_i v hv
          exact (ih _ _ _ _ _ _ _ _ h).of0 (fun {p l e R s m args below meth c H locs cells slots ls A Q} F hL hI hS _ _ _ _ kk => mm_get_ok F hI hd hf hM hv (kk ls hL))
        · cases h
      · cases h
    · cases h
  · split at h
    · rename_i ci j c fs hf hM
      split at h
      · rename_i hc
        obtain ⟨rfl, h2, h3, h4⟩ := hc
        exact (ih _ _ _ _ _ _ _ _ h).ofS hM (fun F hI hS hA _ _ _ kk => mm_put_ok F hI hS hA hd hf hM h2 h3 h4 kk)
      · cases h
    · cases h
  · split at h
    · rename_i m f hM
      split at h
      · cases h
      · rename_i hj
        exact (ih _ _ _ _ _ _ _ _ h).of0 (fun {p l e R s m args below meth c H locs cells slots ls A Q} F hL hI hS _ _ _ _ kk => mm_iald_ok F hI hd hM hj (kk ls hL))
    · cases h
    · split at h
      · rename_i hX
        subst hX
        split at h
        · cases h
        · rename_i hj
          exact (ih _ _ _ _ _ _ _ _ h).of0 (fun {p l e R s m args below meth c H locs cells slots ls A Q} F hL hI hS _ _ _ _ kk => mm_sld_ok F hS hd hj (kk ls hL))
      · cases h
  · split at h
    · rename_i m f hM
      split at h
      · cases h
      · rename_i hj
        exact (ih _ _ _ _ _ _ _ _ h).of0 (fun {p l e R s m args below meth c H locs cells slots ls A Q} F hL hI hS _ _ _ _ kk => mm_zald_ok F hI hd hM hj (kk ls hL))
    · cases h
  · split at h
    · rename_i m f hM
      split at h
      · cases h
      · rename_i hj
        exact (ih _ _ _ _ _ _ _ _ h).of0 (fun {p l e R s m args below meth c H locs cells slots ls A Q} F hL hI hS _ _ _ _ kk => mm_aald_ok F hI hd hM hj (kk ls hL))
    · cases h
  · split at h
    · rename_i m f hM
      split at h
      · cases h
      · rename_i hj
        exact (ih _ _ _ _ _ _ _ _ h).of0 (fun {p l e R s m args below meth c H locs cells slots ls A Q} F hL hI hS _ _ _ _ kk => mm_lald_ok F hI hd hM hj (kk ls hL))
    · cases h
  · split at h
    · rename_i m f hM
      split at h
      · cases h
      · rename_i hj
        exact (ih _ _ _ _ _ _ _ _ h).of0 (fun {p l e R s m args below meth c H locs cells slots ls A Q} F hL hI hS _ _ _ _ kk => mm_dald_ok F hI hd hM hj (kk ls hL))
    · cases h
  · split at h
    · rename_i m f hM
      split at h
      · cases h
      · rename_i hj
        exact (ih _ _ _ _ _ _ _ _ h).ofS hM (fun F hI hS hA _ _ _ kk => mm_iast_ok F hI hS hA hd hM hj kk)
    · cases h
  · split at h
    · rename_i m f hM
      split at h
      · cases h
      · rename_i hj
        exact (ih _ _ _ _ _ _ _ _ h).ofS hM (fun F hI hS hA _ _ _ kk => mm_zast_ok F hI hS hA hd hM hj kk)
    · cases h
  · split at h
    · rename_i m f hM
      split at h
      · cases h
      · rename_i hj
        exact (ih _ _ _ _ _ _ _ _ h).ofS hM (fun F hI hS hA _ _ _ kk => mm_last_ok F hI hS hA hd hM hj kk)
    · cases h
  · split at h
    · rename_i m f hM
      split at h
      · cases h
      · rename_i hj
        exact (ih _ _ _ _ _ _ _ _ h).ofS hM (fun F hI hS hA _ _ _ kk => mm_dast_ok F hI hS hA hd hM hj kk)
    · cases h
  · split at h
    · rename_i m f hM
      split at h
      · cases h
      · rename_i hj
        exact (ih _ _ _ _ _ _ _ _ h).ofS hM (fun F hI hS hA _ _ _ kk => mm_aastN_ok F hI hS hA hd hM hj kk)
    · cases h
  · split at h
    · rename_i m f vs hM hV
      split at h
      · cases h
      · rename_i hj
        exact (ih _ _ _ _ _ _ _ _ h).ofS hM (fun F hI hS hA _ _ _ kk => mm_aast_ok F hI hS hA hV hd hM hj kk)
    · cases h
  · split at h
    · rename_i t m x hM
      split at h
      · rename_i ht
        exact (ih _ _ _ _ _ _ _ _ h).of0 (fun {p l e R s m args below meth c H locs cells slots ls A Q} F hL hI hS _ _ _ _ kk => mm_alen_ok F hI ht hd hM (kk ls hL))
      · cases h
    · cases h
    · split at h
      · rename_i hX
        subst hX
        exact (ih _ _ _ _ _ _ _ _ h).of0 (fun {p l e R s m args below meth c H locs cells slots ls A Q} F hL hI hS _ _ _ _ kk => mm_slen_ok F hS hd (kk ls hL))
      · cases h
  · split at h
    · rename_i ci hn
      exact (ih _ _ _ _ _ _ _ _ h).ofP (fun F hI hS hc hs kk => mm_new_ok F hI hS hd hn hc hs kk)
    · split at h
      · rename_i x ic ht
        split at h
        · rename_i hg
          cases h
          exact mm_Go.throw ht hg.1 hg.2.1 hg.2.2.1 hd hg.2.2.2.1 hg.2.2.2.2.1 hg.2.2.2.2.2
        · cases h
      · cases h
  · split at h
    · rename_i q x w ht
      split at h
      · cases h
      · rename_i hn
        exact (ih _ _ _ _ _ _ _ _ h).ofP (fun F hI hS hc hs kk => mm_newa_ok F hI hS hd ht hn hc hs kk)
    · cases h
  · split at h
    · cases h
    · rename_i hg
      have hq : mm_new (mm_own k) _ = some 0 := Classical.not_not.mp (fun z => hg (Or.inr (Or.inr z)))
      exact (ih _ _ _ _ _ _ _ _ h).ofP (fun F hI hS hc hs kk => mm_newq_ok F hI hS hd hq (fun z => hg (Or.inl z)) (Nat.le_of_not_lt fun z => hg (Or.inr (Or.inl z))) hc hs kk)
  · split at h
    · rename_i k' hm
      split at h
      · rename_i hkd
        exact mm_Go.call ih hm h (Or.inl ⟨hd, hkd⟩)
      · cases h
    · split at h
      · split at h
        · rename_i hg
          split at h
          · rename_i n0 f n1 g hM0 hM1
            split at h
            · cases h
            · rename_i hj
              exact (ih _ _ _ _ _ _ _ _ h).ofS hM1 (fun F hI hS hA hsz h1 h64 kk => mm_cpy_okr F hI hS hA hsz hd hg.1 hM0 hM1 hj (by omega) (by omega) kk)
          · cases h
        · cases h
      · split at h
        · rename_i hg
          exact (ih _ _ _ _ _ _ _ _ h).of0 (fun {p l e R s m args below meth c H locs cells slots ls A Q} F hL hI hS hc hs h1 h64 kk => mm_max_okr F hL.1 hd hg.1 (by omega) (by omega) hc hs (kk ls hL))
        · cases h
      · cases h
  · split at h
    · rename_i k' hm
      split at h
      · rename_i b hb
        split at h
        · rename_i c fs hM
          split at h
          · rename_i hg
            exact mm_Go.call ih hm h (Or.inr (Or.inl ⟨hd, hg.1, b, fs, hb, by rw [← hg.2]; exact hM⟩))
          · cases h
        · cases h
      · cases h
    · cases h
  · split at h
    · rename_i k' hm
      split at h
      · rename_i b hb
        split at h
        · rename_i hg
          exact mm_Go.call ih hm h (Or.inr (Or.inr ⟨hd, hg, b, hb⟩))
        · cases h
      · cases h
    · split at h
      · split at h
        · rename_i hg
          exact (ih _ _ _ _ _ _ _ _ h).of0 (fun {p l e R s m args below meth c H locs cells slots ls A Q} F hL hI hS hc hs h1 h64 kk => mm_obj_okr F hL.1 hd hg.1 (by omega) (by omega) (kk ls hL))
        · cases h
      · cases h
  · split at h
    · rename_i v hg
      cases h
      refine mm_Go.ret (fun F hf hq => ?_)
      rcases hg with hg | ⟨hg, hv⟩
      · exact W.iret F.1 F.2.1 (by rw [F.2.2.2.2.2.2.1, hg]) hq hf hd F.2.2.2.2.2.2.2.1
      · exact W.zret (ty := .boolean) F.1 F.2.1 (by rw [F.2.2.2.2.2.2.1, hg]) (by rcases hv with rfl | rfl <;> rfl) hq hf hd F.2.2.2.2.2.2.2.1
    · cases h
  · split at h
    · rename_i v hg
      cases h
      refine mm_Go.ret (fun F hf hq => W.aret F.1 F.2.1 (by rw [F.2.2.2.2.2.2.1, hg.1]) (Or.inl ⟨_, rfl⟩) ?_ hq hf hd F.2.2.2.2.2.2.2.1)
      have hv := hg.2
      cases v <;> simp [mm_vk] at hv
      · exact Or.inl rfl
      · exact Or.inr ⟨_, rfl⟩
    · cases h
  · split at h
    · rename_i v hg
      cases h
      exact mm_Go.ret (fun F hf hq => W.dret F.1 F.2.1 (by rw [F.2.2.2.2.2.2.1, hg]) hq hf hd F.2.2.2.2.2.2.2.1)
    · cases h
  · split at h
    · rename_i hg
      cases h
      exact mm_Go.ret (fun F hf hq => W.vret F.1 F.2.1 (by rw [F.2.2.2.2.2.2.1, hg]) hq hf hd F.2.2.2.2.2.2.2.1)
    · cases h
  · cases h
theorem mm_sound : ∀ (n d k pc : Nat) (al : List (Option Value)) (st : List Value) (M : mm_M) (o : mm_Out) (M' : mm_M), mm_run X n d k pc al st M = some (o, M') → mm_Go D cT X d k pc al st M o M' := by
  intro n
  induction n with
  | zero => intro d k pc al st M o M' h; cases h
  | succ n ih =>
    intro d k pc al st M o M' h
    unfold mm_run at h
    split at h
    · rename_i i len hd
      unfold mm_step at h
      split at h
      · rename_i st' hp
        exact (ih _ _ _ _ _ _ _ _ h).of0 (fun {p l e R s m args below meth c H locs cells slots ls A Q} F hL hI hS _ _ _ _ kk => mm_pu_ok F.1 F.2.1 hd hp (kk ls hL))
      · split at h
        · rename_i st' t hp
          exact (ih _ _ _ _ _ _ _ _ h).of0 (fun {p l e R s m args below meth c H locs cells slots ls A Q} F hL hI hS _ _ _ _ kk => mm_br_ok F.1 F.2.1 hd hp (kk ls hL))
        · split at h
          · rename_i x t hp
            split at h
            · rename_i v hv
              split at h
              · rename_i ht
                exact (ih _ _ _ _ _ _ _ _ h).of0 (fun {p l e R s m args below meth c H locs cells slots ls A Q} F hL hI hS _ _ _ _ kk => mm_ld_ok F.1 F.2.1 hd hp (hL.2.2.2 _ _ hv) ht (kk ls hL))
              · cases h
            · cases h
          · split at h
            · rename_i x t hp
              split at h
              · split at h
                · rename_i hg
                  exact (ih _ _ _ _ _ _ _ _ h).of0 (fun F hL hI hS _ _ _ _ kk => mm_so_ok F.1 F.2.1 hd hp hL hg.1 hg.2 kk)
                · cases h
              · cases h
            · exact mm_heap_ok ih hd h
    · cases h
end MS11
end
section
/-! rewriting rules of the abstract machine -/
section MR
variable {X : Nat × Nat × (Nat → Int32)} {d k pc len : Nat} {i : Instr} {al al2 : List (Option Value)} {st st2 r : List Value} {M M2 : mm_M} {Q Q' : mm_Out → mm_M → Prop}
theorem WP_unfold (hd : decode (mm_b k) pc = .ok (i, len)) : WP X d k pc al st M Q ↔ ∃ n o M', mm_step (mm_run X n) X d k pc i len al st M = some (o, M') ∧ Q o M' := by
  unfold WP
  constructor
  · rintro ⟨n, o, M', h, hq⟩
    cases n with
    | zero => cases h
    | succ n =>
      unfold mm_run at h
      rw [hd] at h
      exact ⟨n, o, M', h, hq⟩
  · rintro ⟨n, o, M', h, hq⟩
    refine ⟨n + 1, o, M', ?_, hq⟩
    unfold mm_run
    rw [hd]
    exact h
theorem WP_to {k2 d2 pc2 : Nat} (hd : decode (mm_b k) pc = .ok (i, len)) (h : ∀ rec, mm_step rec X d k pc i len al st M = rec d2 k2 pc2 al2 st2 M2) : WP X d k pc al st M Q = WP X d2 k2 pc2 al2 st2 M2 Q := by
  refine propext ((WP_unfold hd).trans ?_)
  simp only [h]
  rfl
theorem WP_no (hd : decode (mm_b k) pc = .ok (i, len)) (h : ∀ rec, mm_step rec X d k pc i len al st M = none) : WP X d k pc al st M Q = False := by
  refine propext ((WP_unfold hd).trans ?_)
  simp only [h]
  constructor
  · rintro ⟨n, o, M', h, -⟩; cases h
  · exact False.elim
theorem WP_end {o : mm_Out} (hd : decode (mm_b k) pc = .ok (i, len)) (h : ∀ rec, mm_step rec X d k pc i len al st M = some (o, M2)) : WP X d k pc al st M Q = Q o M2 := by
  refine propext ((WP_unfold hd).trans ?_)
  simp only [h]
  constructor
  · rintro ⟨n, o, M', h, hq⟩; cases h; exact hq
  · intro hq; exact ⟨0, _, _, rfl, hq⟩
theorem mm_call_mono {rec rec' : Nat → Nat → Nat → List (Option Value) → List Value → mm_M → Option (mm_Out × mm_M)} (hle : ∀ d k pc al st M z, rec d k pc al st M = some z → rec' d k pc al st M = some z) {k' : Nat} {z : mm_Out × mm_M} (h : mm_call rec d k pc k' al st M = some z) : mm_call rec' d k pc k' al st M = some z := by
  unfold mm_call at h ⊢
  split at h
  · cases h
  · rename_i hg
    rw [if_neg hg]
    cases hr : rec (d - 1) k' 0 (mm_arg k' (st.take (mm_na k')).reverse) [] M with
    | none => rw [hr] at h; cases h
    | some w =>
      rw [hle _ _ _ _ _ _ _ hr]
      rw [hr] at h
      obtain ⟨o, M1⟩ := w
      cases o with
      | inl v => exact hle _ _ _ _ _ _ _ h
      | inr x => exact h
theorem mm_heap_mono {rec rec' : Nat → Nat → Nat → List (Option Value) → List Value → mm_M → Option (mm_Out × mm_M)} (hle : ∀ d k pc al st M z, rec d k pc al st M = some z → rec' d k pc al st M = some z) {z : mm_Out × mm_M} (h : mm_heap rec X d k pc i len al st M = some z) : mm_heap rec' X d k pc i len al st M = some z := by
  unfold mm_heap at h ⊢
  split at h <;> (try dsimp only) <;> (repeat' split at h) <;> first | (cases h; done) | (simp only [*, if_true, if_false, reduceIte, not_false_eq_true, not_true_eq_false, and_self, or_self, true_and, and_true, true_or, or_true, false_or, or_false]; first | exact hle _ _ _ _ _ _ _ h | exact mm_call_mono hle h | exact h) | skip
  all_goals first | exact hle _ _ _ _ _ _ _ h | exact h | (rw [if_pos (by assumption)]; first | exact h | exact hle _ _ _ _ _ _ _ h)
theorem mm_step_mono {rec rec' : Nat → Nat → Nat → List (Option Value) → List Value → mm_M → Option (mm_Out × mm_M)} (hle : ∀ d k pc al st M z, rec d k pc al st M = some z → rec' d k pc al st M = some z) {z : mm_Out × mm_M} (h : mm_step rec X d k pc i len al st M = some z) : mm_step rec' X d k pc i len al st M = some z := by
  unfold mm_step at h ⊢
  cases h1 : mm_pu i len st with
  | some st' => rw [h1] at h; exact hle _ _ _ _ _ _ _ h
  | none =>
    rw [h1] at h
    dsimp only at h ⊢
    cases h2 : mm_br pc i len st with
    | some w => rw [h2] at h; exact hle _ _ _ _ _ _ _ h
    | none =>
      rw [h2] at h
      dsimp only at h ⊢
      cases h3 : mm_ld i len with
      | some w =>
        obtain ⟨n, t⟩ := w
        rw [h3] at h
        dsimp only at h ⊢
        cases h4 : al[n]? with
        | none => rw [h4] at h; cases h
        | some x =>
          rw [h4] at h
          cases x with
          | none => cases h
          | some v =>
            dsimp only at h ⊢
            split at h
            · rename_i hg; rw [if_pos hg]; exact hle _ _ _ _ _ _ _ h
            · cases h
      | none =>
        rw [h3] at h
        dsimp only at h ⊢
        cases h4 : mm_so i len with
        | some w =>
          obtain ⟨n, t⟩ := w
          rw [h4] at h
          dsimp only at h ⊢
          cases st with
          | nil => cases h
          | cons v r =>
            dsimp only at h ⊢
            split at h
            · rename_i hg; rw [if_pos hg]; exact hle _ _ _ _ _ _ _ h
            · cases h
        | none =>
          rw [h4] at h
          exact mm_heap_mono hle h
theorem mm_run_mono : ∀ (n : Nat) (d k pc : Nat) (al : List (Option Value)) (st : List Value) (M : mm_M) (z : mm_Out × mm_M), mm_run X n d k pc al st M = some z → mm_run X (n + 1) d k pc al st M = some z := by
  intro n
  induction n with
  | zero => intro d k pc al st M z h; cases h
  | succ n ih =>
    intro d k pc al st M z h
    unfold mm_run at h ⊢
    cases hd : decode (mm_b k) pc with
    | error _ => rw [hd] at h; cases h
    | ok w =>
      obtain ⟨i, len⟩ := w
      rw [hd] at h
      exact mm_step_mono ih h
theorem mm_run_le {n n' : Nat} (hn : n ≤ n') {z : mm_Out × mm_M} (h : mm_run X n d k pc al st M = some z) : mm_run X n' d k pc al st M = some z := by
  induction hn with
  | refl => exact h
  | step _ ih => exact mm_run_mono _ _ _ _ _ _ _ _ ih
theorem WP.mono (h : WP X d k pc al st M Q) (hq : ∀ o M', Q o M' → Q' o M') : WP X d k pc al st M Q' := by
  obtain ⟨n, o, M', h1, h2⟩ := h
  exact ⟨n, o, M', h1, hq _ _ h2⟩
end MR
end
section
/-! rewriting rules of the abstract machine: memory, calls, ends -/
def mm_in (j : Int32) (n : Nat) : Prop := ¬ (j < 0 ∨ n ≤ j.toNatClampNeg)
def mm_fg (o : Option mm_O) (ci j : Nat) (K : Value → Prop) : Prop := match o with
  | some (.inr (c, fs)) => c = ci ∧ (match fs[j]? with
    | some v => K v
    | none => False)
  | _ => False
def mm_fp (o : Option mm_O) (ci j : Nat) (v : Value) (K : mm_O → Prop) : Prop := match o with
  | some (.inr (c, fs)) => c = ci ∧ j < fs.length ∧ K (.inr (c, fs.set j v))
  | _ => False
def mm_ai (X : Nat × Nat × (Nat → Int32)) (a : Nat) (o : Option mm_O) (j : Int32) (K : Int32 → Prop) : Prop := match o with
  | some (.inl (0, n, .inl f)) => mm_in j n ∧ K (f j.toNatClampNeg)
  | some _ => False
  | none => a = X.1 ∧ mm_in j X.2.1 ∧ K (X.2.2 j.toNatClampNeg)
def mm_az (o : Option mm_O) (j : Int32) (K : Int32 → Prop) : Prop := match o with
  | some (.inl (1, n, .inl f)) => mm_in j n ∧ K (f j.toNatClampNeg)
  | _ => False
def mm_aa (o : Option mm_O) (j : Int32) (K : Option Nat → Prop) : Prop := match o with
  | some (.inl (2, n, .inr (.inr (.inr (.inr f))))) => mm_in j n ∧ K (f j.toNatClampNeg)
  | _ => False
def mm_al (o : Option mm_O) (j : Int32) (K : Int64 → Prop) : Prop := match o with
  | some (.inl (3, n, .inr (.inl f))) => mm_in j n ∧ K (f j.toNatClampNeg)
  | _ => False
def mm_ad (o : Option mm_O) (j : Int32) (K : UInt64 → Prop) : Prop := match o with
  | some (.inl (4, n, .inr (.inr (.inr (.inl f))))) => mm_in j n ∧ K (f j.toNatClampNeg)
  | _ => False
def mm_si (o : Option mm_O) (j x : Int32) (K : mm_O → Prop) : Prop := match o with
  | some (.inl (0, n, .inl f)) => mm_in j n ∧ K (.inl (0, n, .inl (upd f j.toNatClampNeg x)))
  | _ => False
def mm_sz (o : Option mm_O) (j x : Int32) (K : mm_O → Prop) : Prop := match o with
  | some (.inl (1, n, .inl f)) => mm_in j n ∧ K (.inl (1, n, .inl (upd f j.toNatClampNeg (vp_nar .boolean x))))
  | _ => False
def mm_sl (o : Option mm_O) (j : Int32) (x : Int64) (K : mm_O → Prop) : Prop := match o with
  | some (.inl (3, n, .inr (.inl f))) => mm_in j n ∧ K (.inl (3, n, .inr (.inl (vp_updL f j.toNatClampNeg x))))
  | _ => False
def mm_sd (o : Option mm_O) (j : Int32) (x : UInt64) (K : mm_O → Prop) : Prop := match o with
  | some (.inl (4, n, .inr (.inr (.inr (.inl f))))) => mm_in j n ∧ K (.inl (4, n, .inr (.inr (.inr (.inl (vf_upd f j.toNatClampNeg x))))))
  | _ => False
def mm_sa (o : Option mm_O) (ov : Option mm_O) (j : Int32) (v : Nat) (K : mm_O → Prop) : Prop := match o, ov with
  | some (.inl (2, n, .inr (.inr (.inr (.inr f))))), some (.inr (0, _)) => mm_in j n ∧ K (.inl (2, n, .inr (.inr (.inr (.inr (va_up f j.toNatClampNeg (some v)))))))
  | _, _ => False
def mm_sn (o : Option mm_O) (j : Int32) (K : mm_O → Prop) : Prop := match o with
  | some (.inl (2, n, .inr (.inr (.inr (.inr f))))) => mm_in j n ∧ K (.inl (2, n, .inr (.inr (.inr (.inr (va_up f j.toNatClampNeg none))))))
  | _ => False
def mm_ln (X : Nat × Nat × (Nat → Int32)) (a : Nat) (o : Option mm_O) (K : Int32 → Prop) : Prop := match o with
  | some (.inl (t, n, _)) => t < 5 ∧ K (Int32.ofNat n)
  | some _ => False
  | none => a = X.1 ∧ K (Int32.ofNat X.2.1)
def mm_cp (o0 o1 : Option mm_O) (sp dp n : Int32) (K : mm_O → Prop) : Prop := match o0, o1 with
  | some (.inl (0, n0, .inl f)), some (.inl (0, n1, .inl g)) => ¬ (sp < 0 ∨ dp < 0 ∨ n < 0 ∨ n0 < sp.toNatClampNeg + n.toNatClampNeg ∨ n1 < dp.toNatClampNeg + n.toNatClampNeg) ∧ K (.inl (0, n1, .inl (va_cpy f g sp.toNatClampNeg dp.toNatClampNeg n.toNatClampNeg)))
  | _, _ => False
/-- the receiver is an object of that class -/
def mm_rc (o : Option mm_O) (c : Nat) : Prop := match o with
  | some (.inr (c', _)) => c' = c
  | _ => False
def mm_K (f : Option Value → mm_M → Prop) (g : Nat → mm_M → Prop) : mm_Out → mm_M → Prop := fun o M => match o with
  | .inl v => f v M
  | .inr x => g x M
/-- a call of method k with these arguments -/
def WPC (X : Nat × Nat × (Nat → Int32)) (d k : Nat) (vs : List Value) (M : mm_M) (Q : mm_Out → mm_M → Prop) : Prop := WP X d k 0 (mm_arg k vs) [] M Q
section MR2
variable {X : Nat × Nat × (Nat → Int32)} {d k pc len : Nat} {i : Instr} {al al2 : List (Option Value)} {st st2 r : List Value} {M M2 : mm_M} {Q Q' : mm_Out → mm_M → Prop}
theorem WP_imp {P : Prop} (hd : decode (mm_b k) pc = .ok (i, len)) (h : P → ∀ rec, mm_step rec X d k pc i len al st M = none) (h2 : ¬ P → WP X d k pc al st M Q = Q' (.inl none) M) : WP X d k pc al st M Q = (¬ P ∧ Q' (.inl none) M) := by
  by_cases hp : P
  · rw [WP_no hd (h hp)]
    simp [hp]
  · rw [h2 hp]
    simp [hp]
theorem WP_pu (hd : decode (mm_b k) pc = .ok (i, len)) (h : mm_pu i len st = some st2) : WP X d k pc al st M Q = WP X d k (pc + len) al st2 M Q := WP_to hd (fun rec => by unfold mm_step; rw [h])
theorem WP_brr {t : Nat} (hd : decode (mm_b k) pc = .ok (i, len)) (h0 : mm_pu i len st = none) (h : mm_br pc i len st = some (st2, t)) : WP X d k pc al st M Q = WP X d k t al st2 M Q := WP_to hd (fun rec => by unfold mm_step; rw [h0, h])
theorem WP_ic {c : ClassFile.Cond} {o : Int} {t : Nat} {x y : Int32} (hd : decode (mm_b k) pc = .ok (.if_icmp c o, 3)) (ht : mm_tg pc o = some t) : WP X d k pc al (.int y :: .int x :: r) M Q = if mm_cc c x y = true then WP X d k t al r M Q else WP X d k (pc + 3) al r M Q := by
  rw [WP_brr (st2 := r) (t := if mm_cc c x y = true then t else pc + 3) hd rfl (by simp [mm_br, ht])]
  split <;> rfl
theorem WP_i0 {c : ClassFile.Cond} {o : Int} {t : Nat} {x : Int32} (hd : decode (mm_b k) pc = .ok (.ifCond c o, 3)) (ht : mm_tg pc o = some t) : WP X d k pc al (.int x :: r) M Q = if mm_cc c x 0 = true then WP X d k t al r M Q else WP X d k (pc + 3) al r M Q := by
  rw [WP_brr (st2 := r) (t := if mm_cc c x 0 = true then t else pc + 3) hd rfl (by simp [mm_br, ht])]
  split <;> rfl
theorem WP_ld {n t : Nat} {v : Value} (hd : decode (mm_b k) pc = .ok (i, len)) (h : mm_ld i len = some (n, t)) (h0 : ∀ s, mm_pu i len s = none) (h1 : ∀ s, mm_br pc i len s = none) (hl : al[n]? = some (some v)) (hv : mm_vk v = t) : WP X d k pc al st M Q = WP X d k (pc + len) al (v :: st) M Q := WP_to hd (fun rec => by unfold mm_step; rw [h0, h1, h]; dsimp only; rw [hl]; dsimp only; rw [if_pos hv])
theorem WP_so {n t : Nat} {v : Value} (hd : decode (mm_b k) pc = .ok (i, len)) (h : mm_so i len = some (n, t)) (h0 : ∀ s, mm_pu i len s = none) (h1 : ∀ s, mm_br pc i len s = none) (h2 : mm_ld i len = none) (hv : mm_vk v = t) (hn : n + v.category ≤ al.length) : WP X d k pc al (v :: st) M Q = WP X d k (pc + len) (mm_st al n v) st M Q := WP_to hd (fun rec => by unfold mm_step; rw [h0, h1, h2, h]; dsimp only; rw [if_pos ⟨hv, hn⟩])
theorem WP_inc {n : Nat} {c : Int} {x : Int32} (hd : decode (mm_b k) pc = .ok (.iinc n c, 3)) (hl : al[n]? = some (some (.int x))) : WP X d k pc al st M Q = WP X d k (pc + 3) (mm_st al n (.int (x + Int32.ofInt c))) st M Q := WP_to hd (fun rec => by
  show (match al[n]? with
    | some (some (.int x)) => rec d k (pc + 3) (mm_st al n (.int (x + Int32.ofInt c))) st M
    | _ => none) = _
  rw [hl])
theorem WP_get {idx ci j a : Nat} (hd : decode (mm_b k) pc = .ok (.getfield idx, 3)) (hf : mm_fld (mm_own k) idx = some (ci, j)) : WP X d k pc al (.ref a :: r) M Q = mm_fg (M.2.2 a) ci j (fun v => WP X d k (pc + 3) al (v :: r) M Q) := by
  have e1 : ∀ rec, mm_step rec X d k pc (.getfield idx) 3 al (.ref a :: r) M = (match mm_fld (mm_own k) idx, M.2.2 a with
    | some (ci, j), some (.inr (c, fs)) => if c = ci then (match fs[j]? with
      | some v => rec d k (pc + 3) al (v :: r) M
      | none => none) else none
    | _, _ => none) := fun _ => rfl
  rw [hf] at e1
  cases hM : M.2.2 a with
  | none => rw [WP_no hd (fun rec => by rw [e1, hM])]; rfl
  | some o =>
    cases o with
    | inl q => rw [WP_no hd (fun rec => by rw [e1, hM])]; rfl
    | inr q =>
      obtain ⟨c, fs⟩ := q
      by_cases hc : c = ci
      · cases hv : fs[j]? with
        | none => rw [WP_no hd (fun rec => by rw [e1, hM]; dsimp only; rw [if_pos hc, hv])]; simp [mm_fg, hv]
        | some v => rw [WP_to hd (fun rec => by rw [e1, hM]; dsimp only; rw [if_pos hc, hv])]; simp [mm_fg, hv, hc]
      · rw [WP_no hd (fun rec => by rw [e1, hM]; dsimp only; rw [if_neg hc])]; simp [mm_fg, hc]
theorem WP_put {idx ci j a : Nat} {v : Value} (hd : decode (mm_b k) pc = .ok (.putfield idx, 3)) (hf : mm_fld (mm_own k) idx = some (ci, j)) (hv : mm_fits (mF ci j) v = true) (hfin : (mT ci j).2.2.2 = false ∨ (mm_kd k = 2 ∧ ci = mm_own k)) : WP X d k pc al (v :: .ref a :: r) M Q = mm_fp (M.2.2 a) ci j v (fun o => WP X d k (pc + 3) al r (mm_set M a o) Q) := by
  have e1 : ∀ rec, mm_step rec X d k pc (.putfield idx) 3 al (v :: .ref a :: r) M = (match mm_fld (mm_own k) idx, M.2.2 a with
    | some (ci, j), some (.inr (c, fs)) => if c = ci ∧ j < fs.length ∧ mm_fits (mF ci j) v = true ∧ ((mT ci j).2.2.2 = false ∨ (mm_kd k = 2 ∧ ci = mm_own k)) then rec d k (pc + 3) al r (mm_set M a (.inr (c, fs.set j v))) else none
    | _, _ => none) := fun _ => rfl
  rw [hf] at e1
  cases hM : M.2.2 a with
  | none => rw [WP_no hd (fun rec => by rw [e1, hM])]; rfl
  | some o =>
    cases o with
    | inl q => rw [WP_no hd (fun rec => by rw [e1, hM])]; rfl
    | inr q =>
      obtain ⟨c, fs⟩ := q
      by_cases hc : c = ci ∧ j < fs.length
      · rw [WP_to hd (fun rec => by rw [e1, hM]; dsimp only; rw [if_pos ⟨hc.1, hc.2, hv, hfin⟩])]
        simp [mm_fp, hc]
      · rw [WP_no hd (fun rec => by rw [e1, hM]; dsimp only; rw [if_neg (fun z => hc ⟨z.1, z.2.1⟩)])]
        exact propext ⟨False.elim, fun z => hc ⟨z.1, z.2.1⟩⟩
end MR2
end
section
/-! rewriting rules of the abstract machine: arrays, new cells, calls, ends -/
section MR3
variable {X : Nat × Nat × (Nat → Int32)} {d k pc len a : Nat} {i : Instr} {al al2 : List (Option Value)} {st st2 r : List Value} {M M2 : mm_M} {Q Q' : mm_Out → mm_M → Prop} {j : Int32}
theorem WP_ifn {P : Prop} {K : Prop} (h1 : P → WP X d k pc al st M Q = False) (h2 : ¬ P → WP X d k pc al st M Q = K) : WP X d k pc al st M Q = (¬ P ∧ K) := by
  by_cases hp : P
  · rw [h1 hp]; simp [hp]
  · rw [h2 hp]; simp [hp]
theorem WP_baload (hd : decode (mm_b k) pc = .ok (.baload, 1)) : WP X d k pc al (.int j :: .ref a :: r) M Q = mm_az (M.2.2 a) j (fun x => WP X d k (pc + 1) al (.int x :: r) M Q) := by
  have e1 : ∀ rec, mm_step rec X d k pc .baload 1 al (.int j :: .ref a :: r) M = (match M.2.2 a with
    | some (.inl (1, n, .inl f)) => if j < 0 ∨ n ≤ j.toNatClampNeg then none else rec d k (pc + 1) al (.int (f j.toNatClampNeg) :: r) M
    | _ => none) := fun _ => rfl
  unfold mm_az
  split
  · rename_i n f hM
    refine WP_ifn (fun z => WP_no hd (fun rec => by rw [e1, hM]; exact if_pos z)) (fun z => WP_to hd (fun rec => by rw [e1, hM]; exact if_neg z))
  · rename_i hM
    refine WP_no hd (fun rec => ?_)
    rw [e1]
    split
    · rename_i n f h9
      exact absurd h9 (hM n f)
    · rfl
theorem WP_aaload (hd : decode (mm_b k) pc = .ok (.aaload, 1)) : WP X d k pc al (.int j :: .ref a :: r) M Q = mm_aa (M.2.2 a) j (fun x => WP X d k (pc + 1) al (va_rf x :: r) M Q) := by
  have e1 : ∀ rec, mm_step rec X d k pc .aaload 1 al (.int j :: .ref a :: r) M = (match M.2.2 a with
    | some (.inl (2, n, .inr (.inr (.inr (.inr f))))) => if j < 0 ∨ n ≤ j.toNatClampNeg then none else rec d k (pc + 1) al (va_rf (f j.toNatClampNeg) :: r) M
    | _ => none) := fun _ => rfl
  unfold mm_aa
  split
  · rename_i n f hM
    refine WP_ifn (fun z => WP_no hd (fun rec => by rw [e1, hM]; exact if_pos z)) (fun z => WP_to hd (fun rec => by rw [e1, hM]; exact if_neg z))
  · rename_i hM
    refine WP_no hd (fun rec => ?_)
    rw [e1]
    split
    · rename_i n f h9
      exact absurd h9 (hM n f)
    · rfl
theorem WP_laload (hd : decode (mm_b k) pc = .ok (.laload, 1)) : WP X d k pc al (.int j :: .ref a :: r) M Q = mm_al (M.2.2 a) j (fun x => WP X d k (pc + 1) al (.long x :: r) M Q) := by
  have e1 : ∀ rec, mm_step rec X d k pc .laload 1 al (.int j :: .ref a :: r) M = (match M.2.2 a with
    | some (.inl (3, n, .inr (.inl f))) => if j < 0 ∨ n ≤ j.toNatClampNeg then none else rec d k (pc + 1) al (.long (f j.toNatClampNeg) :: r) M
    | _ => none) := fun _ => rfl
  unfold mm_al
  split
  · rename_i n f hM
    refine WP_ifn (fun z => WP_no hd (fun rec => by rw [e1, hM]; exact if_pos z)) (fun z => WP_to hd (fun rec => by rw [e1, hM]; exact if_neg z))
  · rename_i hM
    refine WP_no hd (fun rec => ?_)
    rw [e1]
    split
    · rename_i n f h9
      exact absurd h9 (hM n f)
    · rfl
theorem WP_daload (hd : decode (mm_b k) pc = .ok (.daload, 1)) : WP X d k pc al (.int j :: .ref a :: r) M Q = mm_ad (M.2.2 a) j (fun x => WP X d k (pc + 1) al (.double x :: r) M Q) := by
  have e1 : ∀ rec, mm_step rec X d k pc .daload 1 al (.int j :: .ref a :: r) M = (match M.2.2 a with
    | some (.inl (4, n, .inr (.inr (.inr (.inl f))))) => if j < 0 ∨ n ≤ j.toNatClampNeg then none else rec d k (pc + 1) al (.double (f j.toNatClampNeg) :: r) M
    | _ => none) := fun _ => rfl
  unfold mm_ad
  split
  · rename_i n f hM
    refine WP_ifn (fun z => WP_no hd (fun rec => by rw [e1, hM]; exact if_pos z)) (fun z => WP_to hd (fun rec => by rw [e1, hM]; exact if_neg z))
  · rename_i hM
    refine WP_no hd (fun rec => ?_)
    rw [e1]
    split
    · rename_i n f h9
      exact absurd h9 (hM n f)
    · rfl
theorem WP_iaload (hd : decode (mm_b k) pc = .ok (.iaload, 1)) : WP X d k pc al (.int j :: .ref a :: r) M Q = mm_ai X a (M.2.2 a) j (fun x => WP X d k (pc + 1) al (.int x :: r) M Q) := by
  have e1 : ∀ rec, mm_step rec X d k pc .iaload 1 al (.int j :: .ref a :: r) M = (match M.2.2 a with
    | some (.inl (0, n, .inl f)) => if j < 0 ∨ n ≤ j.toNatClampNeg then none else rec d k (pc + 1) al (.int (f j.toNatClampNeg) :: r) M
    | some _ => none
    | none => if a = X.1 then (if j < 0 ∨ X.2.1 ≤ j.toNatClampNeg then none else rec d k (pc + 1) al (.int (X.2.2 j.toNatClampNeg) :: r) M) else none) := fun _ => rfl
  unfold mm_ai
  split
  · rename_i n f hM
    exact WP_ifn (fun z => WP_no hd (fun rec => by rw [e1, hM]; exact if_pos z)) (fun z => WP_to hd (fun rec => by rw [e1, hM]; exact if_neg z))
  · rename_i q hM h9
    refine WP_no hd (fun rec => ?_)
    rw [e1]
    split
    · rename_i n f h8
      rw [h9] at h8
      exact absurd (Option.some.inj h8) (hM n f)
    · rfl
    · rename_i h8
      rw [h9] at h8
      cases h8
  · rename_i hM
    by_cases hX : a = X.1
    · rw [WP_ifn (P := j < 0 ∨ X.2.1 ≤ j.toNatClampNeg) (fun z => WP_no hd (fun rec => by rw [e1, hM]; dsimp only; rw [if_pos hX]; exact if_pos z)) (fun z => WP_to hd (fun rec => by rw [e1, hM]; dsimp only; rw [if_pos hX]; exact if_neg z))]
      simp [hX, mm_in]
    · rw [WP_no hd (fun rec => by rw [e1, hM]; dsimp only; rw [if_neg hX])]
      simp [hX]
theorem WP_iastore {x : Int32} (hd : decode (mm_b k) pc = .ok (.iastore, 1)) : WP X d k pc al (.int x :: .int j :: .ref a :: r) M Q = mm_si (M.2.2 a) j x (fun o => WP X d k (pc + 1) al r (mm_set M a o) Q) := by
  have e1 : ∀ rec, mm_step rec X d k pc .iastore 1 al (.int x :: .int j :: .ref a :: r) M = (match M.2.2 a with
    | some (.inl (0, n, .inl f)) => if j < 0 ∨ n ≤ j.toNatClampNeg then none else rec d k (pc + 1) al r (mm_set M a (.inl (0, n, .inl (upd f j.toNatClampNeg x))))
    | _ => none) := fun _ => rfl
  unfold mm_si
  split
  · rename_i n f hM
    refine WP_ifn (fun z => WP_no hd (fun rec => by rw [e1, hM]; exact if_pos z)) (fun z => WP_to hd (fun rec => by rw [e1, hM]; exact if_neg z))
  · rename_i hM
    refine WP_no hd (fun rec => ?_)
    rw [e1]
    split
    · rename_i n f h9
      exact absurd h9 (hM n f)
    · rfl
theorem WP_bastore {x : Int32} (hd : decode (mm_b k) pc = .ok (.bastore, 1)) : WP X d k pc al (.int x :: .int j :: .ref a :: r) M Q = mm_sz (M.2.2 a) j x (fun o => WP X d k (pc + 1) al r (mm_set M a o) Q) := by
  have e1 : ∀ rec, mm_step rec X d k pc .bastore 1 al (.int x :: .int j :: .ref a :: r) M = (match M.2.2 a with
    | some (.inl (1, n, .inl f)) => if j < 0 ∨ n ≤ j.toNatClampNeg then none else rec d k (pc + 1) al r (mm_set M a (.inl (1, n, .inl (upd f j.toNatClampNeg (vp_nar .boolean x)))))
    | _ => none) := fun _ => rfl
  unfold mm_sz
  split
  · rename_i n f hM
    refine WP_ifn (fun z => WP_no hd (fun rec => by rw [e1, hM]; exact if_pos z)) (fun z => WP_to hd (fun rec => by rw [e1, hM]; exact if_neg z))
  · rename_i hM
    refine WP_no hd (fun rec => ?_)
    rw [e1]
    split
    · rename_i n f h9
      exact absurd h9 (hM n f)
    · rfl
theorem WP_lastore {x : Int64} (hd : decode (mm_b k) pc = .ok (.lastore, 1)) : WP X d k pc al (.long x :: .int j :: .ref a :: r) M Q = mm_sl (M.2.2 a) j x (fun o => WP X d k (pc + 1) al r (mm_set M a o) Q) := by
  have e1 : ∀ rec, mm_step rec X d k pc .lastore 1 al (.long x :: .int j :: .ref a :: r) M = (match M.2.2 a with
    | some (.inl (3, n, .inr (.inl f))) => if j < 0 ∨ n ≤ j.toNatClampNeg then none else rec d k (pc + 1) al r (mm_set M a (.inl (3, n, .inr (.inl (vp_updL f j.toNatClampNeg x)))))
    | _ => none) := fun _ => rfl
  unfold mm_sl
  split
  · rename_i n f hM
    refine WP_ifn (fun z => WP_no hd (fun rec => by rw [e1, hM]; exact if_pos z)) (fun z => WP_to hd (fun rec => by rw [e1, hM]; exact if_neg z))
  · rename_i hM
    refine WP_no hd (fun rec => ?_)
    rw [e1]
    split
    · rename_i n f h9
      exact absurd h9 (hM n f)
    · rfl
theorem WP_dastore {x : UInt64} (hd : decode (mm_b k) pc = .ok (.dastore, 1)) : WP X d k pc al (.double x :: .int j :: .ref a :: r) M Q = mm_sd (M.2.2 a) j x (fun o => WP X d k (pc + 1) al r (mm_set M a o) Q) := by
  have e1 : ∀ rec, mm_step rec X d k pc .dastore 1 al (.double x :: .int j :: .ref a :: r) M = (match M.2.2 a with
    | some (.inl (4, n, .inr (.inr (.inr (.inl f))))) => if j < 0 ∨ n ≤ j.toNatClampNeg then none else rec d k (pc + 1) al r (mm_set M a (.inl (4, n, .inr (.inr (.inr (.inl (vf_upd f j.toNatClampNeg x)))))))
    | _ => none) := fun _ => rfl
  unfold mm_sd
  split
  · rename_i n f hM
    refine WP_ifn (fun z => WP_no hd (fun rec => by rw [e1, hM]; exact if_pos z)) (fun z => WP_to hd (fun rec => by rw [e1, hM]; exact if_neg z))
  · rename_i hM
    refine WP_no hd (fun rec => ?_)
    rw [e1]
    split
    · rename_i n f h9
      exact absurd h9 (hM n f)
    · rfl
theorem WP_aastoreN (hd : decode (mm_b k) pc = .ok (.aastore, 1)) : WP X d k pc al (.null :: .int j :: .ref a :: r) M Q = mm_sn (M.2.2 a) j (fun o => WP X d k (pc + 1) al r (mm_set M a o) Q) := by
  have e1 : ∀ rec, mm_step rec X d k pc .aastore 1 al (.null :: .int j :: .ref a :: r) M = (match M.2.2 a with
    | some (.inl (2, n, .inr (.inr (.inr (.inr f))))) => if j < 0 ∨ n ≤ j.toNatClampNeg then none else rec d k (pc + 1) al r (mm_set M a (.inl (2, n, .inr (.inr (.inr (.inr (va_up f j.toNatClampNeg none)))))))
    | _ => none) := fun _ => rfl
  unfold mm_sn
  split
  · rename_i n f hM
    refine WP_ifn (fun z => WP_no hd (fun rec => by rw [e1, hM]; exact if_pos z)) (fun z => WP_to hd (fun rec => by rw [e1, hM]; exact if_neg z))
  · rename_i hM
    refine WP_no hd (fun rec => ?_)
    rw [e1]
    split
    · rename_i n f h9
      exact absurd h9 (hM n f)
    · rfl
theorem WP_aastore {v : Nat} (hd : decode (mm_b k) pc = .ok (.aastore, 1)) : WP X d k pc al (.ref v :: .int j :: .ref a :: r) M Q = mm_sa (M.2.2 a) (M.2.2 v) j v (fun o => WP X d k (pc + 1) al r (mm_set M a o) Q) := by
  have e1 : ∀ rec, mm_step rec X d k pc .aastore 1 al (.ref v :: .int j :: .ref a :: r) M = (match M.2.2 a, M.2.2 v with
    | some (.inl (2, n, .inr (.inr (.inr (.inr f))))), some (.inr (0, _)) => if j < 0 ∨ n ≤ j.toNatClampNeg then none else rec d k (pc + 1) al r (mm_set M a (.inl (2, n, .inr (.inr (.inr (.inr (va_up f j.toNatClampNeg (some v))))))))
    | _, _ => none) := fun _ => rfl
  unfold mm_sa
  split
  · rename_i n f vs hM hV
    exact WP_ifn (fun z => WP_no hd (fun rec => by rw [e1, hM, hV]; exact if_pos z)) (fun z => WP_to hd (fun rec => by rw [e1, hM, hV]; exact if_neg z))
  · rename_i hM
    refine WP_no hd (fun rec => ?_)
    rw [e1]
    split
    · rename_i n f vs h8 h9
      exact absurd h9 (hM n f vs h8)
    · rfl
theorem WP_alen (hd : decode (mm_b k) pc = .ok (.arraylength, 1)) : WP X d k pc al (.ref a :: r) M Q = mm_ln X a (M.2.2 a) (fun x => WP X d k (pc + 1) al (.int x :: r) M Q) := by
  have e1 : ∀ rec, mm_step rec X d k pc .arraylength 1 al (.ref a :: r) M = (match M.2.2 a with
    | some (.inl (t, n, _)) => if t < 5 then rec d k (pc + 1) al (.int (Int32.ofNat n) :: r) M else none
    | some _ => none
    | none => if a = X.1 then rec d k (pc + 1) al (.int (Int32.ofNat X.2.1) :: r) M else none) := fun _ => rfl
  unfold mm_ln
  cases hM : M.2.2 a with
  | none =>
    by_cases hX : a = X.1
    · rw [WP_to hd (fun rec => by rw [e1, hM]; exact if_pos hX)]; simp [hX]
    · rw [WP_no hd (fun rec => by rw [e1, hM]; exact if_neg hX)]; simp [hX]
  | some o =>
    cases o with
    | inr q => rw [WP_no hd (fun rec => by rw [e1, hM])]
    | inl q =>
      obtain ⟨t, n, c⟩ := q
      by_cases ht : t < 5
      · rw [WP_to hd (fun rec => by rw [e1, hM]; exact if_pos ht)]; simp [ht]
      · rw [WP_no hd (fun rec => by rw [e1, hM]; exact if_neg ht)]; simp [ht]
theorem WP_new {idx ci n : Nat} {fs : List Value} (hd : decode (mm_b k) pc = .ok (.new idx, 3)) (h : mm_new (mm_own k) idx = some ci) (hn : mN ci = n) (hf : mm_dfl ci = fs) : WP X d k pc al r M Q = WP X d k (pc + 3) al (.ref M.1 :: r) (mm_push M n (.inr (ci, fs))) Q := WP_to hd (fun rec => by
  show (match mm_new (mm_own k) idx with
    | some ci => rec d k (pc + 3) al (.ref M.1 :: r) (mm_push M (mN ci) (.inr (ci, mm_dfl ci)))
    | none => _) = _
  rw [h]
  dsimp only
  rw [hn, hf])
theorem WP_throw {idx x ic : Nat} (hd : decode (mm_b k) pc = .ok (.new idx, 3)) (h0 : mm_new (mm_own k) idx = none) (h : mm_thr (mm_own k) idx = some (x, ic)) (hk : mm_kd k < 2) (h3 : decode (mm_b k) (pc + 3) = .ok (.dup, 1)) (h4 : decode (mm_b k) (pc + 4) = .ok (.invokespecial ic, 3)) (h7 : decode (mm_b k) (pc + 7) = .ok (.athrow, 1)) : WP X (d + 6) k pc al [] M Q = Q (.inr x) (mm_skip M 6) := WP_end hd (fun rec => by
  have e1 : mm_step rec X (d + 6) k pc (.new idx) 3 al [] M = mm_heap rec X (d + 6) k pc (.new idx) 3 al [] M := rfl
  rw [e1]
  unfold mm_heap
  simp only [h0, h]
  exact if_pos ⟨by omega, Nat.zero_le _, hk, h3, h4, h7⟩)
theorem WP_newa {t : ArrayType} {n : Int32} {q w : Nat} {x : vp_A} (hd : decode (mm_b k) pc = .ok (.newarray t, 2)) (ht : mm_aty t = some (q, x, w)) : WP X d k pc al (.int n :: r) M Q = (¬ (n < 0 ∨ 536870912 < n.toNatClampNeg * w) ∧ WP X d k (pc + 2) al (.ref M.1 :: r) (mm_push M n.toNatClampNeg (.inl (q, n.toNatClampNeg, x.2))) Q) := by
  have e1 : ∀ rec, mm_step rec X d k pc (.newarray t) 2 al (.int n :: r) M = (match mm_aty t with
    | some (q, x, w) => if n < 0 ∨ 536870912 < n.toNatClampNeg * w then none else rec d k (pc + 2) al (.ref M.1 :: r) (mm_push M n.toNatClampNeg (.inl (q, n.toNatClampNeg, x.2)))
    | none => none) := fun _ => rfl
  exact WP_ifn (fun z => WP_no hd (fun rec => by rw [e1, ht]; exact if_pos z)) (fun z => WP_to hd (fun rec => by rw [e1, ht]; exact if_neg z))
theorem WP_newq {idx : Nat} {n : Int32} (hd : decode (mm_b k) pc = .ok (.anewarray idx, 3)) (h : mm_new (mm_own k) idx = some 0) : WP X d k pc al (.int n :: r) M Q = (¬ (n < 0 ∨ 536870912 < n.toNatClampNeg * 4) ∧ WP X d k (pc + 3) al (.ref M.1 :: r) (mm_push M n.toNatClampNeg (.inl (2, n.toNatClampNeg, .inr (.inr (.inr (.inr (fun _ => none))))))) Q) := by
  have e1 : ∀ rec, mm_step rec X d k pc (.anewarray idx) 3 al (.int n :: r) M = (if n < 0 ∨ 536870912 < n.toNatClampNeg * 4 ∨ mm_new (mm_own k) idx ≠ some 0 then none else rec d k (pc + 3) al (.ref M.1 :: r) (mm_push M n.toNatClampNeg (.inl (2, n.toNatClampNeg, .inr (.inr (.inr (.inr (fun _ => none)))))))) := fun _ => rfl
  exact WP_ifn (fun z => WP_no hd (fun rec => by rw [e1]; exact if_pos (z.elim Or.inl (fun z => Or.inr (Or.inl z))))) (fun z => WP_to hd (fun rec => by rw [e1]; exact if_neg (fun y => y.elim (fun y => z (Or.inl y)) (fun y => y.elim (fun y => z (Or.inr y)) (fun y => y h)))))
theorem WP_copy {idx a0 : Nat} {n dp sp : Int32} (hd : decode (mm_b k) pc = .ok (.invokestatic idx, 3)) (h0 : mm_mth (mm_own k) idx = none) (hA : mm_isA (mm_own k) idx = true) (hr : mm_sum r ≤ 8) : WP X (d + 1) k pc al (.int n :: .int dp :: .ref a :: .int sp :: .ref a0 :: r) M Q = mm_cp (M.2.2 a0) (M.2.2 a) sp dp n (fun o => WP X (d + 1) k (pc + 3) al r (mm_set M a o) Q) := by
  have e1 : ∀ rec, mm_step rec X (d + 1) k pc (.invokestatic idx) 3 al (.int n :: .int dp :: .ref a :: .int sp :: .ref a0 :: r) M = (match mm_mth (mm_own k) idx with
    | some k' => if mm_kd k' = 0 ∨ mm_kd k' = 3 then mm_call rec (d + 1) k pc k' al (.int n :: .int dp :: .ref a :: .int sp :: .ref a0 :: r) M else none
    | none => if mm_isA (mm_own k) idx = true ∧ 1 ≤ d + 1 ∧ mm_sum r ≤ 8 then (match M.2.2 a0, M.2.2 a with
        | some (.inl (0, n0, .inl f)), some (.inl (0, n1, .inl g)) => if sp < 0 ∨ dp < 0 ∨ n < 0 ∨ n0 < sp.toNatClampNeg + n.toNatClampNeg ∨ n1 < dp.toNatClampNeg + n.toNatClampNeg then none else rec (d + 1) k (pc + 3) al r (mm_set M a (.inl (0, n1, .inl (va_cpy f g sp.toNatClampNeg dp.toNatClampNeg n.toNatClampNeg))))
        | _, _ => none) else none) := fun _ => rfl
  rw [h0] at e1
  have hg : mm_isA (mm_own k) idx = true ∧ 1 ≤ d + 1 ∧ mm_sum r ≤ 8 := ⟨hA, by omega, hr⟩
  simp only [if_pos hg] at e1
  unfold mm_cp
  split
  · rename_i n0 f n1 g hM hV
    exact WP_ifn (fun z => WP_no hd (fun rec => by rw [e1, hM, hV]; exact if_pos z)) (fun z => WP_to hd (fun rec => by rw [e1, hM, hV]; exact if_neg z))
  · rename_i hM
    refine WP_no hd (fun rec => ?_)
    rw [e1]
    split
    · rename_i n0 f n1 g h8 h9
      exact absurd h9 (hM n0 f n1 g h8)
    · rfl
theorem WP_max {idx : Nat} {x y q : Int32} (hd : decode (mm_b k) pc = .ok (.invokestatic idx, 3)) (h0 : mm_mth (mm_own k) idx = none) (hX : mm_isX (mm_own k) idx = true) (hr : mm_sum (.int q :: r) ≤ 8) : WP X (d + 1) k pc al (.int y :: .int x :: .int q :: r) M Q = WP X (d + 1) k (pc + 3) al (.int (if x < y then y else x) :: .int q :: r) M Q := by
  refine WP_to hd (fun rec => ?_)
  have e1 : mm_step rec X (d + 1) k pc (.invokestatic idx) 3 al (.int y :: .int x :: .int q :: r) M = (match mm_mth (mm_own k) idx with
      | some k' => if mm_kd k' = 0 ∨ mm_kd k' = 3 then mm_call rec (d + 1) k pc k' al (.int y :: .int x :: .int q :: r) M else none
      | none => if mm_isX (mm_own k) idx = true ∧ 1 ≤ d + 1 ∧ mm_sum (.int q :: r) ≤ 8 then rec (d + 1) k (pc + 3) al (.int (if x < y then y else x) :: .int q :: r) M else none) := rfl
  rw [e1, h0]
  exact if_pos ⟨hX, by omega, hr⟩
theorem WP_obj {idx : Nat} (hd : decode (mm_b k) pc = .ok (.invokespecial idx, 3)) (h0 : mm_mth (mm_own k) idx = none) (hO : mm_isO (mm_own k) idx = true) (hr : mm_sum r ≤ 8) : WP X (d + 1) k pc al (.ref a :: r) M Q = WP X (d + 1) k (pc + 3) al r M Q := WP_to hd (fun rec => by
  show (match mm_mth (mm_own k) idx with
    | some k' => _
    | none => if mm_isO (mm_own k) idx = true ∧ 1 ≤ d + 1 ∧ mm_sum r ≤ 8 then rec (d + 1) k (pc + 3) al r M else none) = _
  rw [h0]
  exact if_pos ⟨hO, by omega, hr⟩)
theorem WP_iret {v : Int32} (hd : decode (mm_b k) pc = .ok (.ireturn, 1)) (h : mm_rt k = some .int) : WP X d k pc al [.int v] M Q = Q (.inl (some (.int v))) M := WP_end hd (fun rec => if_pos (Or.inl h))
theorem WP_zret {v : Int32} (hd : decode (mm_b k) pc = .ok (.ireturn, 1)) (h : mm_rt k = some .boolean) : WP X d k pc al [.int v] M Q = ((v = 0 ∨ v = 1) ∧ Q (.inl (some (.int v))) M) := by
  have e1 : ∀ rec, mm_step rec X d k pc .ireturn 1 al [.int v] M = (if mm_rt k = some .int ∨ (mm_rt k = some .boolean ∧ (v = 0 ∨ v = 1)) then some (.inl (some (.int v)), M) else none) := fun _ => rfl
  by_cases hv : v = 0 ∨ v = 1
  · rw [WP_end hd (fun rec => by rw [e1]; exact if_pos (Or.inr ⟨h, hv⟩))]; simp [hv]
  · rw [WP_no hd (fun rec => by rw [e1]; exact if_neg (fun z => z.elim (fun z => by rw [h] at z; cases z) (fun z => hv z.2)))]; simp [hv]
theorem WP_aret {v : Value} (hd : decode (mm_b k) pc = .ok (.areturn, 1)) (h : mm_rt k = some (.object (mR 0))) (hv : mm_vk v = 3) : WP X d k pc al [v] M Q = Q (.inl (some v)) M := WP_end hd (fun rec => if_pos ⟨h, hv⟩)
theorem WP_dret {v : UInt64} (hd : decode (mm_b k) pc = .ok (.dreturn, 1)) (h : mm_rt k = some .double) : WP X d k pc al [.double v] M Q = Q (.inl (some (.double v))) M := WP_end hd (fun rec => if_pos h)
theorem WP_vret (hd : decode (mm_b k) pc = .ok (.return_, 1)) (h : mm_rt k = none) : WP X d k pc al [] M Q = Q (.inl none) M := WP_end hd (fun rec => if_pos h)
/-- what a call does behind it with an exception -/
def mm_G (k pc kc : Nat) (Q : mm_Out → mm_M → Prop) (x : Nat) (M : mm_M) : Prop := if mm_kd kc = 2 then False else if mm_kd k = 3 then (match mm_hnd k pc x with
  | some r => Q (.inl (some (.int (Int32.ofInt r)))) M
  | none => False) else if mm_kd k = 4 then False else Q (.inr x) M
theorem WP_call0 {k' : Nat} {vs : List Value} (hs : ∀ rec, mm_step rec X (d + 1) k pc i len al st M = mm_call rec (d + 1) k pc k' al st M) (hd : decode (mm_b k) pc = .ok (i, len)) (hst : st = vs.reverse ++ r) (hn : mm_na k' = vs.length) (hc : vs.all (fun v => v.category == 1) = true) (hr : mm_sum r ≤ 8) :
    WP X (d + 1) k pc al st M Q = WPC X d k' vs M (mm_K (fun v M' => WP X (d + 1) k (pc + 3) al (v.toList ++ r) M' Q) (mm_G k pc k' Q)) := by
  have e1 : ∀ rec, mm_step rec X (d + 1) k pc i len al st M = (match rec d k' 0 (mm_arg k' vs) [] M with
    | some (.inl v, M') => rec (d + 1) k (pc + 3) al (v.toList ++ r) M'
    | some (.inr x, M') => if mm_kd k' = 2 then none else if mm_kd k = 3 then (mm_hnd k pc x).map (fun r => (.inl (some (.int (Int32.ofInt r))), M')) else if mm_kd k = 4 then none else some (.inr x, M')
    | none => none) := by
    intro rec
    rw [hs]
    have t1 : st.take (mm_na k') = vs.reverse := by rw [hst, hn]; simp
    have t2 : st.drop (mm_na k') = r := by rw [hst, hn]; simp
    unfold mm_call
    rw [t1, t2, if_neg, List.reverse_reverse]
    · rfl
    · rintro (z | z | z | z)
      · omega
      · rw [hst, hn] at z; simp at z; omega
      · omega
      · rw [List.all_reverse, hc] at z; cases z
  refine propext ((WP_unfold hd).trans ?_)
  simp only [e1]
  unfold WPC
  constructor
  · rintro ⟨n, o, M', h, hq⟩
    cases hrun : mm_run X n d k' 0 (mm_arg k' vs) [] M with
    | none => rw [hrun] at h; cases h
    | some w =>
      obtain ⟨oc, M1⟩ := w
      rw [hrun] at h
      refine ⟨n, oc, M1, hrun, ?_⟩
      cases oc with
      | inl v => exact ⟨n, o, M', h, hq⟩
      | inr x =>
        show mm_G k pc k' Q x M1
        unfold mm_G
        dsimp only at h
        split at h
        · cases h
        · rename_i h2
          rw [if_neg h2]
          split at h
          · rename_i h3
            rw [if_pos h3]
            cases hh : mm_hnd k pc x with
            | none => rw [hh] at h; cases h
            | some rr => rw [hh] at h; cases h; exact hq
          · rename_i h3
            rw [if_neg h3]
            split at h
            · cases h
            · rename_i h4
              rw [if_neg h4]
              cases h
              exact hq
  · rintro ⟨n, oc, M1, hrun, hq⟩
    cases oc with
    | inl v =>
      obtain ⟨n2, o, M', h, hq⟩ := hq
      refine ⟨max n n2, o, M', ?_, hq⟩
      rw [mm_run_le (Nat.le_max_left n n2) hrun]
      exact mm_run_le (Nat.le_max_right n n2) h
    | inr x =>
      have hq : mm_G k pc k' Q x M1 := hq
      unfold mm_G at hq
      split at hq
      · exact hq.elim
      · rename_i h2
        split at hq
        · rename_i h3
          cases hh : mm_hnd k pc x with
          | none => rw [hh] at hq; exact hq.elim
          | some rr =>
            rw [hh] at hq
            refine ⟨n, _, _, ?_, hq⟩
            rw [hrun]
            dsimp only
            rw [if_neg h2, if_pos h3, hh]
            rfl
        · rename_i h3
          split at hq
          · exact hq.elim
          · rename_i h4
            refine ⟨n, _, _, ?_, hq⟩
            rw [hrun]
            dsimp only
            rw [if_neg h2, if_neg h3, if_neg h4]
theorem WP_callS {k' idx : Nat} {vs : List Value} (hd : decode (mm_b k) pc = .ok (.invokestatic idx, 3)) (hm : mm_mth (mm_own k) idx = some k') (hk : mm_kd k' = 0 ∨ mm_kd k' = 3) (hst : st = vs.reverse ++ r) (hn : mm_na k' = vs.length) (hc : vs.all (fun v => v.category == 1) = true) (hr : mm_sum r ≤ 8) :
    WP X (d + 1) k pc al st M Q = WPC X d k' vs M (mm_K (fun v M' => WP X (d + 1) k (pc + 3) al (v.toList ++ r) M' Q) (mm_G k pc k' Q)) :=
  WP_call0 (fun rec => by
    have e1 : mm_step rec X (d + 1) k pc (.invokestatic idx) 3 al st M = mm_heap rec X (d + 1) k pc (.invokestatic idx) 3 al st M := rfl
    rw [e1]
    unfold mm_heap
    simp only [hm]
    exact if_pos hk) hd hst hn hc hr
theorem WP_callV {k' idx b : Nat} {vs : List Value} (hd : decode (mm_b k) pc = .ok (.invokevirtual idx, 3)) (hm : mm_mth (mm_own k) idx = some k') (hk : mm_kd k' = 1) (hst : st = (.ref b :: vs).reverse ++ r) (hn : mm_na k' = vs.length + 1) (hc : vs.all (fun v => v.category == 1) = true) (hr : mm_sum r ≤ 8) :
    WP X (d + 1) k pc al st M Q = (mm_rc (M.2.2 b) (mm_own k') ∧ WPC X d k' (.ref b :: vs) M (mm_K (fun v M' => WP X (d + 1) k (pc + 3) al (v.toList ++ r) M' Q) (mm_G k pc k' Q))) := by
  have hb : st[mm_na k' - 1]? = some (.ref b) := by rw [hst, hn]; simp
  have e1 : ∀ rec, mm_step rec X (d + 1) k pc (.invokevirtual idx) 3 al st M = (match M.2.2 b with
    | some (.inr (c, _)) => if mm_kd k' = 1 ∧ c = mm_own k' then mm_call rec (d + 1) k pc k' al st M else none
    | _ => none) := by
    intro rec
    have e1 : mm_step rec X (d + 1) k pc (.invokevirtual idx) 3 al st M = mm_heap rec X (d + 1) k pc (.invokevirtual idx) 3 al st M := rfl
    rw [e1]
    unfold mm_heap
    simp only [hm, hb]
    rfl
  cases hM : M.2.2 b with
  | none => rw [WP_no hd (fun rec => by rw [e1, hM])]; simp [mm_rc]
  | some o =>
    cases o with
    | inl q => rw [WP_no hd (fun rec => by rw [e1, hM])]; simp [mm_rc]
    | inr q =>
      obtain ⟨c, fs⟩ := q
      by_cases hcc : c = mm_own k'
      · rw [WP_call0 (vs := .ref b :: vs) (fun rec => by rw [e1, hM]; exact if_pos ⟨hk, hcc⟩) hd hst (by rw [hn]; rfl) (by rw [List.all_cons, hc]; rfl) hr]
        simp [mm_rc, hcc]
      · rw [WP_no hd (fun rec => by rw [e1, hM]; exact if_neg (fun z => hcc z.2))]
        simp [mm_rc, hcc]
theorem WP_callI {k' idx b : Nat} {vs : List Value} (hd : decode (mm_b k) pc = .ok (.invokespecial idx, 3)) (hm : mm_mth (mm_own k) idx = some k') (hk : mm_kd k' = 2) (hst : st = (.ref b :: vs).reverse ++ r) (hn : mm_na k' = vs.length + 1) (hc : vs.all (fun v => v.category == 1) = true) (hr : mm_sum r ≤ 8) :
    WP X (d + 1) k pc al st M Q = WPC X d k' (.ref b :: vs) M (mm_K (fun v M' => WP X (d + 1) k (pc + 3) al (v.toList ++ r) M' Q) (mm_G k pc k' Q)) := by
  have hb : st[mm_na k' - 1]? = some (.ref b) := by rw [hst, hn]; simp
  exact WP_call0 (vs := .ref b :: vs) (fun rec => by
    have e1 : mm_step rec X (d + 1) k pc (.invokespecial idx) 3 al st M = mm_heap rec X (d + 1) k pc (.invokespecial idx) 3 al st M := rfl
    rw [e1]
    unfold mm_heap
    simp only [hm, hb]
    exact if_pos hk) hd hst (by rw [hn]; rfl) (by rw [List.all_cons, hc]; rfl) hr
theorem WP_det {o : mm_Out} {M' : mm_M} (h : WP X d k pc al st M (fun o' M'' => o' = o ∧ M'' = M')) : WP X d k pc al st M Q = Q o M' := by
  obtain ⟨n, o1, M1, h1, rfl, rfl⟩ := h
  refine propext ⟨fun ⟨n2, o2, M2, h2, hq⟩ => ?_, fun hq => ⟨n, _, _, h1, hq⟩⟩
  have e1 := mm_run_le (Nat.le_max_left n n2) h1
  have e2 := mm_run_le (Nat.le_max_right n n2) h2
  rw [e1] at e2
  cases e2
  exact hq
end MR3
end
section
/-! rewriting rules of the abstract machine: constants, comparisons, switches -/
section MR4
variable {X : Nat × Nat × (Nat → Int32)} {d k pc len : Nat} {i : Instr} {al al2 : List (Option Value)} {st st2 r : List Value} {M M2 : mm_M} {Q : mm_Out → mm_M → Prop} {x y v : Int32} {o : Int} {t : Nat}
theorem WP_iconst {n : Int} (hd : decode (mm_b k) pc = .ok (.iconst n, 1)) (hv : Int32.ofInt n = v) : WP X d k pc al r M Q = WP X d k (pc + 1) al (.int v :: r) M Q := by subst hv; exact WP_pu hd rfl
theorem WP_bipush {n : Int} (hd : decode (mm_b k) pc = .ok (.bipush n, 2)) (hv : (Int8.ofInt n).toInt32 = v) : WP X d k pc al r M Q = WP X d k (pc + 2) al (.int v :: r) M Q := by subst hv; exact WP_pu hd rfl
theorem WP_sipush {n : Int} (hd : decode (mm_b k) pc = .ok (.sipush n, 3)) (hv : (Int16.ofInt n).toInt32 = v) : WP X d k pc al r M Q = WP X d k (pc + 3) al (.int v :: r) M Q := by subst hv; exact WP_pu hd rfl
theorem WP_idiv (hd : decode (mm_b k) pc = .ok (.idiv, 1)) : WP X d k pc al (.int y :: .int x :: r) M Q = (¬ y = 0 ∧ WP X d k (pc + 1) al (.int (x / y) :: r) M Q) := by
  by_cases hy : y = 0
  · rw [WP_no hd (fun rec => by show (match (if y = 0 then none else some (.int (x / y) :: r) : Option (List Value)) with | some st' => _ | none => none) = none; rw [if_pos hy])]; simp [hy]
  · rw [WP_pu (st2 := .int (x / y) :: r) hd (by show (if y = 0 then none else some _) = _; rw [if_neg hy])]; simp [hy]
theorem WP_irem (hd : decode (mm_b k) pc = .ok (.irem, 1)) : WP X d k pc al (.int y :: .int x :: r) M Q = (¬ y = 0 ∧ WP X d k (pc + 1) al (.int (x - x / y * y) :: r) M Q) := by
  by_cases hy : y = 0
  · rw [WP_no hd (fun rec => by show (match (if y = 0 then none else some (.int (x - x / y * y) :: r) : Option (List Value)) with | some st' => _ | none => none) = none; rw [if_pos hy])]; simp [hy]
  · rw [WP_pu (st2 := .int (x - x / y * y) :: r) hd (by show (if y = 0 then none else some _) = _; rw [if_neg hy])]; simp [hy]
theorem WP_ddiv {x0 x1 : UInt64} (hd : decode (mm_b k) pc = .ok (.ddiv, 1)) : WP X d k pc al (.double x1 :: .double x0 :: r) M Q = (FP.ddiv x0 x1 &&& 0x7fffffffffffffff ≤ 0x7ff0000000000000 ∧ WP X d k (pc + 1) al (.double (FP.ddiv x0 x1) :: r) M Q) := by
  by_cases hy : FP.ddiv x0 x1 &&& 0x7fffffffffffffff ≤ 0x7ff0000000000000
  · rw [WP_pu (st2 := .double (FP.ddiv x0 x1) :: r) hd (by show (if _ then some _ else none) = _; rw [if_pos hy])]; simp [hy]
  · rw [WP_no hd (fun rec => by show (match (if FP.ddiv x0 x1 &&& 0x7fffffffffffffff ≤ 0x7ff0000000000000 then some (.double (FP.ddiv x0 x1) :: r) else none : Option (List Value)) with | some st' => _ | none => none) = none; rw [if_neg hy])]; simp [hy]
theorem WP_inc2 {n : Nat} {c : Int} (hd : decode (mm_b k) pc = .ok (.iinc n c, 3)) (hv : Int32.ofInt c = v) (hl : al[n]? = some (some (.int x))) (ha : mm_st al n (.int (x + v)) = al2) : WP X d k pc al st M Q = WP X d k (pc + 3) al2 st M Q := by subst hv; subst ha; exact WP_inc hd hl
theorem WP_ts {dflt lo hi : Int} {offs : Array Int} (hd : decode (mm_b k) pc = .ok (.tableswitch dflt lo hi offs, len)) (h : (if x.toInt < lo ∨ hi < x.toInt then mm_tg pc dflt else (match offs[(x.toInt - lo).toNat]? with
    | some o => mm_tg pc o
    | none => none)) = some t) : WP X d k pc al (.int x :: r) M Q = WP X d k t al r M Q := by
  refine WP_brr hd rfl ?_
  show (if x.toInt < lo ∨ hi < x.toInt then (mm_tg pc dflt).map (fun t => (r, t)) else (match offs[(x.toInt - lo).toNat]? with
    | some o => (mm_tg pc o).map (fun t => (r, t))
    | none => none)) = some (r, t)
  split at h
  · rename_i hz
    rw [if_pos hz, h]; rfl
  · rename_i hz
    rw [if_neg hz]
    cases ho : offs[(x.toInt - lo).toNat]? with
    | none => rw [ho] at h; cases h
    | some o => rw [ho] at h; dsimp only at h ⊢; rw [h]; rfl
theorem WP_ls {dflt : Int} {ps : Array (Int × Int)} (hd : decode (mm_b k) pc = .ok (.lookupswitch dflt ps, len)) (hp : (ps.toList.zip (ps.toList.drop 1)).all (fun (a, next) => a.1 < next.1) = true) (h : mm_tg pc (Op.lookupswitch.offset ps.toList dflt x.toInt) = some t) : WP X d k pc al (.int x :: r) M Q = WP X d k t al r M Q := by
  refine WP_brr hd rfl ?_
  show (if (ps.toList.zip (ps.toList.drop 1)).all (fun (a, next) => a.1 < next.1) = true then (mm_tg pc (Op.lookupswitch.offset ps.toList dflt x.toInt)).map (fun t => (r, t)) else none) = some (r, t)
  rw [if_pos hp, h]; rfl
theorem WP_ic_eq (hd : decode (mm_b k) pc = .ok (.if_icmp .eq o, 3)) (ht : mm_tg pc o = some t) : WP X d k pc al (.int y :: .int x :: r) M Q = if x = y then WP X d k t al r M Q else WP X d k (pc + 3) al r M Q := by
  rw [WP_ic hd ht]; simp only [mm_cc, decide_eq_true_eq]
theorem WP_i0_eq (hd : decode (mm_b k) pc = .ok (.ifCond .eq o, 3)) (ht : mm_tg pc o = some t) : WP X d k pc al (.int x :: r) M Q = if x = nI 0 then WP X d k t al r M Q else WP X d k (pc + 3) al r M Q := by
  rw [WP_i0 hd ht]; simp only [mm_cc, decide_eq_true_eq]; rfl
theorem WP_ic_ne (hd : decode (mm_b k) pc = .ok (.if_icmp .ne o, 3)) (ht : mm_tg pc o = some t) : WP X d k pc al (.int y :: .int x :: r) M Q = if ¬ x = y then WP X d k t al r M Q else WP X d k (pc + 3) al r M Q := by
  rw [WP_ic hd ht]; simp only [mm_cc, decide_eq_true_eq]
theorem WP_i0_ne (hd : decode (mm_b k) pc = .ok (.ifCond .ne o, 3)) (ht : mm_tg pc o = some t) : WP X d k pc al (.int x :: r) M Q = if ¬ x = nI 0 then WP X d k t al r M Q else WP X d k (pc + 3) al r M Q := by
  rw [WP_i0 hd ht]; simp only [mm_cc, decide_eq_true_eq]; rfl
theorem WP_ic_lt (hd : decode (mm_b k) pc = .ok (.if_icmp .lt o, 3)) (ht : mm_tg pc o = some t) : WP X d k pc al (.int y :: .int x :: r) M Q = if x < y then WP X d k t al r M Q else WP X d k (pc + 3) al r M Q := by
  rw [WP_ic hd ht]; simp only [mm_cc, decide_eq_true_eq]
theorem WP_i0_lt (hd : decode (mm_b k) pc = .ok (.ifCond .lt o, 3)) (ht : mm_tg pc o = some t) : WP X d k pc al (.int x :: r) M Q = if x < nI 0 then WP X d k t al r M Q else WP X d k (pc + 3) al r M Q := by
  rw [WP_i0 hd ht]; simp only [mm_cc, decide_eq_true_eq]; rfl
theorem WP_ic_ge (hd : decode (mm_b k) pc = .ok (.if_icmp .ge o, 3)) (ht : mm_tg pc o = some t) : WP X d k pc al (.int y :: .int x :: r) M Q = if y ≤ x then WP X d k t al r M Q else WP X d k (pc + 3) al r M Q := by
  rw [WP_ic hd ht]; simp only [mm_cc, decide_eq_true_eq]
theorem WP_i0_ge (hd : decode (mm_b k) pc = .ok (.ifCond .ge o, 3)) (ht : mm_tg pc o = some t) : WP X d k pc al (.int x :: r) M Q = if nI 0 ≤ x then WP X d k t al r M Q else WP X d k (pc + 3) al r M Q := by
  rw [WP_i0 hd ht]; simp only [mm_cc, decide_eq_true_eq]; rfl
theorem WP_ic_gt (hd : decode (mm_b k) pc = .ok (.if_icmp .gt o, 3)) (ht : mm_tg pc o = some t) : WP X d k pc al (.int y :: .int x :: r) M Q = if y < x then WP X d k t al r M Q else WP X d k (pc + 3) al r M Q := by
  rw [WP_ic hd ht]; simp only [mm_cc, decide_eq_true_eq]
theorem WP_i0_gt (hd : decode (mm_b k) pc = .ok (.ifCond .gt o, 3)) (ht : mm_tg pc o = some t) : WP X d k pc al (.int x :: r) M Q = if nI 0 < x then WP X d k t al r M Q else WP X d k (pc + 3) al r M Q := by
  rw [WP_i0 hd ht]; simp only [mm_cc, decide_eq_true_eq]; rfl
theorem WP_ic_le (hd : decode (mm_b k) pc = .ok (.if_icmp .le o, 3)) (ht : mm_tg pc o = some t) : WP X d k pc al (.int y :: .int x :: r) M Q = if x ≤ y then WP X d k t al r M Q else WP X d k (pc + 3) al r M Q := by
  rw [WP_ic hd ht]; simp only [mm_cc, decide_eq_true_eq]
theorem WP_i0_le (hd : decode (mm_b k) pc = .ok (.ifCond .le o, 3)) (ht : mm_tg pc o = some t) : WP X d k pc al (.int x :: r) M Q = if x ≤ nI 0 then WP X d k t al r M Q else WP X d k (pc + 3) al r M Q := by
  rw [WP_i0 hd ht]; simp only [mm_cc, decide_eq_true_eq]; rfl
end MR4
end
section
/-! rewriting rules of each instruction: 20.wNdSt (printed by wip/whole/gen/p17.py) -/
section WR
variable {X : Nat × Nat × (Nat → Int32)} {d : Nat} {al : List (Option Value)} {r : List Value} {M : mm_M} {Q : mm_Out → mm_M → Prop}
-- Nd_initS
theorem w_0_0 {l1 : Option Value} {l2 : Option Value} {l3 : Option Value} {x0 : Nat} : WP X d 0 0 [some (.ref x0), l1, l2, l3] r M Q = WP X d 0 1 [some (.ref x0), l1, l2, l3] (.ref x0 :: r) M Q := WP_ld (by decide +kernel : decode (mm_b 0) 0 = .ok (.aload_n 0, 1)) rfl (fun _ => rfl) (fun _ => rfl) rfl rfl
theorem w_0_1 {v0 : Nat} : WP X (d + 1) 0 1 al [.ref v0] M Q = WP X (d + 1) 0 4 al [] M Q := WP_obj (by decide +kernel : decode (mm_b 0) 1 = .ok (.invokespecial 3, 3)) (by decide +kernel) (by decide +kernel) (Nat.le_of_ble_eq_true rfl)
theorem w_0_4 {l1 : Option Value} {l2 : Option Value} {l3 : Option Value} {x0 : Nat} : WP X d 0 4 [some (.ref x0), l1, l2, l3] r M Q = WP X d 0 5 [some (.ref x0), l1, l2, l3] (.ref x0 :: r) M Q := WP_ld (by decide +kernel : decode (mm_b 0) 4 = .ok (.aload_n 0, 1)) rfl (fun _ => rfl) (fun _ => rfl) rfl rfl
theorem w_0_5 {l0 : Option Value} {l2 : Option Value} {l3 : Option Value} {x0 : Int32} : WP X d 0 5 [l0, some (.int x0), l2, l3] r M Q = WP X d 0 6 [l0, some (.int x0), l2, l3] (.int x0 :: r) M Q := WP_ld (by decide +kernel : decode (mm_b 0) 5 = .ok (.iload_n 1, 1)) rfl (fun _ => rfl) (fun _ => rfl) rfl rfl
theorem w_0_6 {a0 : Nat} {x0 : Int32} : WP X d 0 6 al (.int x0 :: .ref a0 :: r) M Q = mm_fp (M.2.2 a0) 0 0 (.int x0) (fun o => WP X d 0 9 al r (mm_set M a0 o) Q) := WP_put (by decide +kernel : decode (mm_b 0) 6 = .ok (.putfield 9, 3)) (by decide +kernel) rfl (by decide +kernel)
theorem w_0_9 {l1 : Option Value} {l2 : Option Value} {l3 : Option Value} {x0 : Nat} : WP X d 0 9 [some (.ref x0), l1, l2, l3] r M Q = WP X d 0 10 [some (.ref x0), l1, l2, l3] (.ref x0 :: r) M Q := WP_ld (by decide +kernel : decode (mm_b 0) 9 = .ok (.aload_n 0, 1)) rfl (fun _ => rfl) (fun _ => rfl) rfl rfl
theorem w_0_10 {l0 : Option Value} {l1 : Option Value} {l3 : Option Value} {x0 : Nat} : WP X d 0 10 [l0, l1, some (.ref x0), l3] r M Q = WP X d 0 11 [l0, l1, some (.ref x0), l3] (.ref x0 :: r) M Q := WP_ld (by decide +kernel : decode (mm_b 0) 10 = .ok (.aload_n 2, 1)) rfl (fun _ => rfl) (fun _ => rfl) rfl rfl
theorem w_0_11 {a0 : Nat} {x0 : Nat} : WP X d 0 11 al (.ref x0 :: .ref a0 :: r) M Q = mm_fp (M.2.2 a0) 0 3 (.ref x0) (fun o => WP X d 0 14 al r (mm_set M a0 o) Q) := WP_put (by decide +kernel : decode (mm_b 0) 11 = .ok (.putfield 15, 3)) (by decide +kernel) rfl (by decide +kernel)
theorem w_0_14 {l1 : Option Value} {l2 : Option Value} {l3 : Option Value} {x0 : Nat} : WP X d 0 14 [some (.ref x0), l1, l2, l3] r M Q = WP X d 0 15 [some (.ref x0), l1, l2, l3] (.ref x0 :: r) M Q := WP_ld (by decide +kernel : decode (mm_b 0) 14 = .ok (.aload_n 0, 1)) rfl (fun _ => rfl) (fun _ => rfl) rfl rfl
theorem w_0_15 {l0 : Option Value} {l1 : Option Value} {l2 : Option Value} {x0 : Int32} : WP X d 0 15 [l0, l1, l2, some (.int x0)] r M Q = WP X d 0 16 [l0, l1, l2, some (.int x0)] (.int x0 :: r) M Q := WP_ld (by decide +kernel : decode (mm_b 0) 15 = .ok (.iload_n 3, 1)) rfl (fun _ => rfl) (fun _ => rfl) rfl rfl
theorem w_0_16 {a0 : Nat} {x0 : Int32} : WP X d 0 16 al (.int x0 :: .ref a0 :: r) M Q = mm_fp (M.2.2 a0) 0 4 (.int x0) (fun o => WP X d 0 19 al r (mm_set M a0 o) Q) := WP_put (by decide +kernel : decode (mm_b 0) 16 = .ok (.putfield 19, 3)) (by decide +kernel) rfl (by decide +kernel)
theorem w_0_19 {l1 : Option Value} {l2 : Option Value} {l3 : Option Value} {x0 : Nat} : WP X d 0 19 [some (.ref x0), l1, l2, l3] r M Q = WP X d 0 20 [some (.ref x0), l1, l2, l3] (.ref x0 :: r) M Q := WP_ld (by decide +kernel : decode (mm_b 0) 19 = .ok (.aload_n 0, 1)) rfl (fun _ => rfl) (fun _ => rfl) rfl rfl
theorem w_0_20  : WP X d 0 20 al r M Q = WP X d 0 21 al (.int (nI 1) :: r) M Q := WP_iconst (v := nI 1) (by decide +kernel : decode (mm_b 0) 20 = .ok (.iconst 1, 1)) (by decide +kernel)
theorem w_0_21 {a0 : Nat} {x0 : Int32} : WP X d 0 21 al (.int x0 :: .ref a0 :: r) M Q = mm_fp (M.2.2 a0) 0 1 (.int x0) (fun o => WP X d 0 24 al r (mm_set M a0 o) Q) := WP_put (by decide +kernel : decode (mm_b 0) 21 = .ok (.putfield 22, 3)) (by decide +kernel) rfl (by decide +kernel)
theorem w_0_24 {l1 : Option Value} {l2 : Option Value} {l3 : Option Value} {x0 : Nat} : WP X d 0 24 [some (.ref x0), l1, l2, l3] r M Q = WP X d 0 25 [some (.ref x0), l1, l2, l3] (.ref x0 :: r) M Q := WP_ld (by decide +kernel : decode (mm_b 0) 24 = .ok (.aload_n 0, 1)) rfl (fun _ => rfl) (fun _ => rfl) rfl rfl
theorem w_0_25  : WP X d 0 25 al r M Q = WP X d 0 26 al (.int (nI 1) :: r) M Q := WP_iconst (v := nI 1) (by decide +kernel : decode (mm_b 0) 25 = .ok (.iconst 1, 1)) (by decide +kernel)
theorem w_0_26 {a0 : Nat} {x0 : Int32} : WP X d 0 26 al (.int x0 :: .ref a0 :: r) M Q = mm_fp (M.2.2 a0) 0 2 (.int x0) (fun o => WP X d 0 29 al r (mm_set M a0 o) Q) := WP_put (by decide +kernel : decode (mm_b 0) 26 = .ok (.putfield 25, 3)) (by decide +kernel) rfl (by decide +kernel)
theorem w_0_29 {l1 : Option Value} {l2 : Option Value} {l3 : Option Value} {x0 : Nat} : WP X d 0 29 [some (.ref x0), l1, l2, l3] r M Q = WP X d 0 30 [some (.ref x0), l1, l2, l3] (.ref x0 :: r) M Q := WP_ld (by decide +kernel : decode (mm_b 0) 29 = .ok (.aload_n 0, 1)) rfl (fun _ => rfl) (fun _ => rfl) rfl rfl
theorem w_0_30  : WP X d 0 30 al r M Q = WP X d 0 31 al (.null :: r) M Q := WP_pu (by decide +kernel : decode (mm_b 0) 30 = .ok (.aconst_null, 1)) rfl
theorem w_0_31n {a0 : Nat} : WP X d 0 31 al (.null :: .ref a0 :: r) M Q = mm_fp (M.2.2 a0) 0 5 (.null) (fun o => WP X d 0 34 al r (mm_set M a0 o) Q) := WP_put (by decide +kernel : decode (mm_b 0) 31 = .ok (.putfield 28, 3)) (by decide +kernel) rfl (by decide +kernel)
theorem w_0_34 {l1 : Option Value} {l2 : Option Value} {l3 : Option Value} {x0 : Nat} : WP X d 0 34 [some (.ref x0), l1, l2, l3] r M Q = WP X d 0 35 [some (.ref x0), l1, l2, l3] (.ref x0 :: r) M Q := WP_ld (by decide +kernel : decode (mm_b 0) 34 = .ok (.aload_n 0, 1)) rfl (fun _ => rfl) (fun _ => rfl) rfl rfl
theorem w_0_35  : WP X d 0 35 al r M Q = WP X d 0 36 al (.null :: r) M Q := WP_pu (by decide +kernel : decode (mm_b 0) 35 = .ok (.aconst_null, 1)) rfl
theorem w_0_36n {a0 : Nat} : WP X d 0 36 al (.null :: .ref a0 :: r) M Q = mm_fp (M.2.2 a0) 0 6 (.null) (fun o => WP X d 0 39 al r (mm_set M a0 o) Q) := WP_put (by decide +kernel : decode (mm_b 0) 36 = .ok (.putfield 32, 3)) (by decide +kernel) rfl (by decide +kernel)
theorem w_0_39 {l1 : Option Value} {l2 : Option Value} {l3 : Option Value} {x0 : Nat} : WP X d 0 39 [some (.ref x0), l1, l2, l3] r M Q = WP X d 0 40 [some (.ref x0), l1, l2, l3] (.ref x0 :: r) M Q := WP_ld (by decide +kernel : decode (mm_b 0) 39 = .ok (.aload_n 0, 1)) rfl (fun _ => rfl) (fun _ => rfl) rfl rfl
theorem w_0_40  : WP X d 0 40 al r M Q = WP X d 0 41 al (.null :: r) M Q := WP_pu (by decide +kernel : decode (mm_b 0) 40 = .ok (.aconst_null, 1)) rfl
theorem w_0_41n {a0 : Nat} : WP X d 0 41 al (.null :: .ref a0 :: r) M Q = mm_fp (M.2.2 a0) 0 7 (.null) (fun o => WP X d 0 44 al r (mm_set M a0 o) Q) := WP_put (by decide +kernel : decode (mm_b 0) 41 = .ok (.putfield 35, 3)) (by decide +kernel) rfl (by decide +kernel)
theorem w_0_44 {l1 : Option Value} {l2 : Option Value} {l3 : Option Value} {x0 : Nat} : WP X d 0 44 [some (.ref x0), l1, l2, l3] r M Q = WP X d 0 45 [some (.ref x0), l1, l2, l3] (.ref x0 :: r) M Q := WP_ld (by decide +kernel : decode (mm_b 0) 44 = .ok (.aload_n 0, 1)) rfl (fun _ => rfl) (fun _ => rfl) rfl rfl
theorem w_0_45  : WP X d 0 45 al r M Q = WP X d 0 46 al (.null :: r) M Q := WP_pu (by decide +kernel : decode (mm_b 0) 45 = .ok (.aconst_null, 1)) rfl
theorem w_0_46n {a0 : Nat} : WP X d 0 46 al (.null :: .ref a0 :: r) M Q = mm_fp (M.2.2 a0) 0 8 (.null) (fun o => WP X d 0 49 al r (mm_set M a0 o) Q) := WP_put (by decide +kernel : decode (mm_b 0) 46 = .ok (.putfield 39, 3)) (by decide +kernel) rfl (by decide +kernel)
theorem w_0_49  : WP X d 0 49 al [] M Q = Q (.inl none) M := WP_vret (by decide +kernel : decode (mm_b 0) 49 = .ok (.return_, 1)) (by decide +kernel)
-- Nd_initB
theorem w_1_0 {l1 : Option Value} {l2 : Option Value} {l3 : Option Value} {x0 : Nat} : WP X d 1 0 [some (.ref x0), l1, l2, l3] r M Q = WP X d 1 1 [some (.ref x0), l1, l2, l3] (.ref x0 :: r) M Q := WP_ld (by decide +kernel : decode (mm_b 1) 0 = .ok (.aload_n 0, 1)) rfl (fun _ => rfl) (fun _ => rfl) rfl rfl
theorem w_1_1 {v0 : Nat} : WP X (d + 1) 1 1 al [.ref v0] M Q = WP X (d + 1) 1 4 al [] M Q := WP_obj (by decide +kernel : decode (mm_b 1) 1 = .ok (.invokespecial 3, 3)) (by decide +kernel) (by decide +kernel) (Nat.le_of_ble_eq_true rfl)
theorem w_1_4 {l1 : Option Value} {l2 : Option Value} {l3 : Option Value} {x0 : Nat} : WP X d 1 4 [some (.ref x0), l1, l2, l3] r M Q = WP X d 1 5 [some (.ref x0), l1, l2, l3] (.ref x0 :: r) M Q := WP_ld (by decide +kernel : decode (mm_b 1) 4 = .ok (.aload_n 0, 1)) rfl (fun _ => rfl) (fun _ => rfl) rfl rfl
theorem w_1_5 {l0 : Option Value} {l2 : Option Value} {l3 : Option Value} {x0 : Int32} : WP X d 1 5 [l0, some (.int x0), l2, l3] r M Q = WP X d 1 6 [l0, some (.int x0), l2, l3] (.int x0 :: r) M Q := WP_ld (by decide +kernel : decode (mm_b 1) 5 = .ok (.iload_n 1, 1)) rfl (fun _ => rfl) (fun _ => rfl) rfl rfl
theorem w_1_6 {a0 : Nat} {x0 : Int32} : WP X d 1 6 al (.int x0 :: .ref a0 :: r) M Q = mm_fp (M.2.2 a0) 0 0 (.int x0) (fun o => WP X d 1 9 al r (mm_set M a0 o) Q) := WP_put (by decide +kernel : decode (mm_b 1) 6 = .ok (.putfield 9, 3)) (by decide +kernel) rfl (by decide +kernel)
theorem w_1_9 {l1 : Option Value} {l2 : Option Value} {l3 : Option Value} {x0 : Nat} : WP X d 1 9 [some (.ref x0), l1, l2, l3] r M Q = WP X d 1 10 [some (.ref x0), l1, l2, l3] (.ref x0 :: r) M Q := WP_ld (by decide +kernel : decode (mm_b 1) 9 = .ok (.aload_n 0, 1)) rfl (fun _ => rfl) (fun _ => rfl) rfl rfl
theorem w_1_10 {l0 : Option Value} {l1 : Option Value} {l3 : Option Value} {x0 : Nat} : WP X d 1 10 [l0, l1, some (.ref x0), l3] r M Q = WP X d 1 11 [l0, l1, some (.ref x0), l3] (.ref x0 :: r) M Q := WP_ld (by decide +kernel : decode (mm_b 1) 10 = .ok (.aload_n 2, 1)) rfl (fun _ => rfl) (fun _ => rfl) rfl rfl
theorem w_1_11 {a0 : Nat} {x0 : Nat} : WP X d 1 11 al (.ref x0 :: .ref a0 :: r) M Q = mm_fp (M.2.2 a0) 0 5 (.ref x0) (fun o => WP X d 1 14 al r (mm_set M a0 o) Q) := WP_put (by decide +kernel : decode (mm_b 1) 11 = .ok (.putfield 28, 3)) (by decide +kernel) rfl (by decide +kernel)
theorem w_1_14 {l1 : Option Value} {l2 : Option Value} {l3 : Option Value} {x0 : Nat} : WP X d 1 14 [some (.ref x0), l1, l2, l3] r M Q = WP X d 1 15 [some (.ref x0), l1, l2, l3] (.ref x0 :: r) M Q := WP_ld (by decide +kernel : decode (mm_b 1) 14 = .ok (.aload_n 0, 1)) rfl (fun _ => rfl) (fun _ => rfl) rfl rfl
theorem w_1_15 {l0 : Option Value} {l1 : Option Value} {l2 : Option Value} {x0 : Nat} : WP X d 1 15 [l0, l1, l2, some (.ref x0)] r M Q = WP X d 1 16 [l0, l1, l2, some (.ref x0)] (.ref x0 :: r) M Q := WP_ld (by decide +kernel : decode (mm_b 1) 15 = .ok (.aload_n 3, 1)) rfl (fun _ => rfl) (fun _ => rfl) rfl rfl
theorem w_1_15n {l0 : Option Value} {l1 : Option Value} {l2 : Option Value} : WP X d 1 15 [l0, l1, l2, some (.null)] r M Q = WP X d 1 16 [l0, l1, l2, some (.null)] (.null :: r) M Q := WP_ld (by decide +kernel : decode (mm_b 1) 15 = .ok (.aload_n 3, 1)) rfl (fun _ => rfl) (fun _ => rfl) rfl rfl
theorem w_1_16 {a0 : Nat} {x0 : Nat} : WP X d 1 16 al (.ref x0 :: .ref a0 :: r) M Q = mm_fp (M.2.2 a0) 0 6 (.ref x0) (fun o => WP X d 1 19 al r (mm_set M a0 o) Q) := WP_put (by decide +kernel : decode (mm_b 1) 16 = .ok (.putfield 32, 3)) (by decide +kernel) rfl (by decide +kernel)
theorem w_1_16n {a0 : Nat} : WP X d 1 16 al (.null :: .ref a0 :: r) M Q = mm_fp (M.2.2 a0) 0 6 (.null) (fun o => WP X d 1 19 al r (mm_set M a0 o) Q) := WP_put (by decide +kernel : decode (mm_b 1) 16 = .ok (.putfield 32, 3)) (by decide +kernel) rfl (by decide +kernel)
theorem w_1_19 {l1 : Option Value} {l2 : Option Value} {l3 : Option Value} {x0 : Nat} : WP X d 1 19 [some (.ref x0), l1, l2, l3] r M Q = WP X d 1 20 [some (.ref x0), l1, l2, l3] (.ref x0 :: r) M Q := WP_ld (by decide +kernel : decode (mm_b 1) 19 = .ok (.aload_n 0, 1)) rfl (fun _ => rfl) (fun _ => rfl) rfl rfl
theorem w_1_20 {l0 : Option Value} {l1 : Option Value} {l2 : Option Value} {x0 : Nat} : WP X d 1 20 [l0, l1, l2, some (.ref x0)] r M Q = WP X d 1 21 [l0, l1, l2, some (.ref x0)] (.ref x0 :: r) M Q := WP_ld (by decide +kernel : decode (mm_b 1) 20 = .ok (.aload_n 3, 1)) rfl (fun _ => rfl) (fun _ => rfl) rfl rfl
theorem w_1_20n {l0 : Option Value} {l1 : Option Value} {l2 : Option Value} : WP X d 1 20 [l0, l1, l2, some (.null)] r M Q = WP X d 1 21 [l0, l1, l2, some (.null)] (.null :: r) M Q := WP_ld (by decide +kernel : decode (mm_b 1) 20 = .ok (.aload_n 3, 1)) rfl (fun _ => rfl) (fun _ => rfl) rfl rfl
theorem w_1_21 {x0 : Nat} : WP X d 1 21 al (.ref x0 :: r) M Q = WP X d 1 31 al r M Q := WP_brr (by decide +kernel : decode (mm_b 1) 21 = .ok (.ifnonnull 10, 3)) rfl rfl
theorem w_1_21n  : WP X d 1 21 al (.null :: r) M Q = WP X d 1 24 al r M Q := WP_brr (by decide +kernel : decode (mm_b 1) 21 = .ok (.ifnonnull 10, 3)) rfl rfl
theorem w_1_24 {l0 : Option Value} {l1 : Option Value} {l3 : Option Value} {x0 : Nat} : WP X d 1 24 [l0, l1, some (.ref x0), l3] r M Q = WP X d 1 25 [l0, l1, some (.ref x0), l3] (.ref x0 :: r) M Q := WP_ld (by decide +kernel : decode (mm_b 1) 24 = .ok (.aload_n 2, 1)) rfl (fun _ => rfl) (fun _ => rfl) rfl rfl
theorem w_1_25 {x0 : Nat} : WP X d 1 25 al (.ref x0 :: r) M Q = mm_fg (M.2.2 x0) 0 1 (fun v => WP X d 1 28 al (v :: r) M Q) := WP_get (by decide +kernel : decode (mm_b 1) 25 = .ok (.getfield 22, 3)) (by decide +kernel)
theorem w_1_28  : WP X d 1 28 al r M Q = WP X d 1 40 al r M Q := WP_brr (by decide +kernel : decode (mm_b 1) 28 = .ok (.goto 12, 3)) rfl rfl
theorem w_1_31 {l0 : Option Value} {l1 : Option Value} {l3 : Option Value} {x0 : Nat} : WP X d 1 31 [l0, l1, some (.ref x0), l3] r M Q = WP X d 1 32 [l0, l1, some (.ref x0), l3] (.ref x0 :: r) M Q := WP_ld (by decide +kernel : decode (mm_b 1) 31 = .ok (.aload_n 2, 1)) rfl (fun _ => rfl) (fun _ => rfl) rfl rfl
theorem w_1_32 {x0 : Nat} : WP X d 1 32 al (.ref x0 :: r) M Q = mm_fg (M.2.2 x0) 0 1 (fun v => WP X d 1 35 al (v :: r) M Q) := WP_get (by decide +kernel : decode (mm_b 1) 32 = .ok (.getfield 22, 3)) (by decide +kernel)
theorem w_1_35 {l0 : Option Value} {l1 : Option Value} {l2 : Option Value} {x0 : Nat} : WP X d 1 35 [l0, l1, l2, some (.ref x0)] r M Q = WP X d 1 36 [l0, l1, l2, some (.ref x0)] (.ref x0 :: r) M Q := WP_ld (by decide +kernel : decode (mm_b 1) 35 = .ok (.aload_n 3, 1)) rfl (fun _ => rfl) (fun _ => rfl) rfl rfl
theorem w_1_35n {l0 : Option Value} {l1 : Option Value} {l2 : Option Value} : WP X d 1 35 [l0, l1, l2, some (.null)] r M Q = WP X d 1 36 [l0, l1, l2, some (.null)] (.null :: r) M Q := WP_ld (by decide +kernel : decode (mm_b 1) 35 = .ok (.aload_n 3, 1)) rfl (fun _ => rfl) (fun _ => rfl) rfl rfl
theorem w_1_36 {x0 : Nat} : WP X d 1 36 al (.ref x0 :: r) M Q = mm_fg (M.2.2 x0) 0 1 (fun v => WP X d 1 39 al (v :: r) M Q) := WP_get (by decide +kernel : decode (mm_b 1) 36 = .ok (.getfield 22, 3)) (by decide +kernel)
theorem w_1_39 {x0 : Int32} {x1 : Int32} : WP X d 1 39 al (.int x1 :: .int x0 :: r) M Q = WP X d 1 40 al (.int (x0 + x1) :: r) M Q := WP_pu (by decide +kernel : decode (mm_b 1) 39 = .ok (.iadd, 1)) rfl
theorem w_1_40 {a0 : Nat} {x0 : Int32} : WP X d 1 40 al (.int x0 :: .ref a0 :: r) M Q = mm_fp (M.2.2 a0) 0 1 (.int x0) (fun o => WP X d 1 43 al r (mm_set M a0 o) Q) := WP_put (by decide +kernel : decode (mm_b 1) 40 = .ok (.putfield 22, 3)) (by decide +kernel) rfl (by decide +kernel)
theorem w_1_43 {l1 : Option Value} {l2 : Option Value} {l3 : Option Value} {x0 : Nat} : WP X d 1 43 [some (.ref x0), l1, l2, l3] r M Q = WP X d 1 44 [some (.ref x0), l1, l2, l3] (.ref x0 :: r) M Q := WP_ld (by decide +kernel : decode (mm_b 1) 43 = .ok (.aload_n 0, 1)) rfl (fun _ => rfl) (fun _ => rfl) rfl rfl
theorem w_1_44  : WP X d 1 44 al r M Q = WP X d 1 45 al (.int (nI 1) :: r) M Q := WP_iconst (v := nI 1) (by decide +kernel : decode (mm_b 1) 44 = .ok (.iconst 1, 1)) (by decide +kernel)
theorem w_1_45 {l0 : Option Value} {l1 : Option Value} {l2 : Option Value} {x0 : Nat} : WP X d 1 45 [l0, l1, l2, some (.ref x0)] r M Q = WP X d 1 46 [l0, l1, l2, some (.ref x0)] (.ref x0 :: r) M Q := WP_ld (by decide +kernel : decode (mm_b 1) 45 = .ok (.aload_n 3, 1)) rfl (fun _ => rfl) (fun _ => rfl) rfl rfl
theorem w_1_45n {l0 : Option Value} {l1 : Option Value} {l2 : Option Value} : WP X d 1 45 [l0, l1, l2, some (.null)] r M Q = WP X d 1 46 [l0, l1, l2, some (.null)] (.null :: r) M Q := WP_ld (by decide +kernel : decode (mm_b 1) 45 = .ok (.aload_n 3, 1)) rfl (fun _ => rfl) (fun _ => rfl) rfl rfl
theorem w_1_46 {x0 : Nat} : WP X d 1 46 al (.ref x0 :: r) M Q = WP X d 1 56 al r M Q := WP_brr (by decide +kernel : decode (mm_b 1) 46 = .ok (.ifnonnull 10, 3)) rfl rfl
theorem w_1_46n  : WP X d 1 46 al (.null :: r) M Q = WP X d 1 49 al r M Q := WP_brr (by decide +kernel : decode (mm_b 1) 46 = .ok (.ifnonnull 10, 3)) rfl rfl
theorem w_1_49 {l0 : Option Value} {l1 : Option Value} {l3 : Option Value} {x0 : Nat} : WP X d 1 49 [l0, l1, some (.ref x0), l3] r M Q = WP X d 1 50 [l0, l1, some (.ref x0), l3] (.ref x0 :: r) M Q := WP_ld (by decide +kernel : decode (mm_b 1) 49 = .ok (.aload_n 2, 1)) rfl (fun _ => rfl) (fun _ => rfl) rfl rfl
theorem w_1_50 {x0 : Nat} : WP X d 1 50 al (.ref x0 :: r) M Q = mm_fg (M.2.2 x0) 0 2 (fun v => WP X d 1 53 al (v :: r) M Q) := WP_get (by decide +kernel : decode (mm_b 1) 50 = .ok (.getfield 25, 3)) (by decide +kernel)
theorem w_1_53  : WP X d 1 53 al r M Q = WP X d 1 67 al r M Q := WP_brr (by decide +kernel : decode (mm_b 1) 53 = .ok (.goto 14, 3)) rfl rfl
theorem w_1_56 {l0 : Option Value} {l1 : Option Value} {l3 : Option Value} {x0 : Nat} : WP X d 1 56 [l0, l1, some (.ref x0), l3] r M Q = WP X d 1 57 [l0, l1, some (.ref x0), l3] (.ref x0 :: r) M Q := WP_ld (by decide +kernel : decode (mm_b 1) 56 = .ok (.aload_n 2, 1)) rfl (fun _ => rfl) (fun _ => rfl) rfl rfl
theorem w_1_57 {x0 : Nat} : WP X d 1 57 al (.ref x0 :: r) M Q = mm_fg (M.2.2 x0) 0 2 (fun v => WP X d 1 60 al (v :: r) M Q) := WP_get (by decide +kernel : decode (mm_b 1) 57 = .ok (.getfield 25, 3)) (by decide +kernel)
theorem w_1_60 {l0 : Option Value} {l1 : Option Value} {l2 : Option Value} {x0 : Nat} : WP X d 1 60 [l0, l1, l2, some (.ref x0)] r M Q = WP X d 1 61 [l0, l1, l2, some (.ref x0)] (.ref x0 :: r) M Q := WP_ld (by decide +kernel : decode (mm_b 1) 60 = .ok (.aload_n 3, 1)) rfl (fun _ => rfl) (fun _ => rfl) rfl rfl
theorem w_1_60n {l0 : Option Value} {l1 : Option Value} {l2 : Option Value} : WP X d 1 60 [l0, l1, l2, some (.null)] r M Q = WP X d 1 61 [l0, l1, l2, some (.null)] (.null :: r) M Q := WP_ld (by decide +kernel : decode (mm_b 1) 60 = .ok (.aload_n 3, 1)) rfl (fun _ => rfl) (fun _ => rfl) rfl rfl
theorem w_1_61 {x0 : Nat} : WP X d 1 61 al (.ref x0 :: r) M Q = mm_fg (M.2.2 x0) 0 2 (fun v => WP X d 1 64 al (v :: r) M Q) := WP_get (by decide +kernel : decode (mm_b 1) 61 = .ok (.getfield 25, 3)) (by decide +kernel)
theorem w_1_64 {v0 : Nat} {v1 : Int32} {v2 : Int32} {v3 : Int32} : WP X (d + 1) 1 64 al [.int v3, .int v2, .int v1, .ref v0] M Q = WP X (d + 1) 1 67 al (.int (if v2 < v3 then v3 else v2) :: [.int v1, .ref v0]) M Q := WP_max (by decide +kernel : decode (mm_b 1) 64 = .ok (.invokestatic 42, 3)) (by decide +kernel) (by decide +kernel) (Nat.le_of_ble_eq_true rfl)
theorem w_1_67 {x0 : Int32} {x1 : Int32} : WP X d 1 67 al (.int x1 :: .int x0 :: r) M Q = WP X d 1 68 al (.int (x0 + x1) :: r) M Q := WP_pu (by decide +kernel : decode (mm_b 1) 67 = .ok (.iadd, 1)) rfl
theorem w_1_68 {a0 : Nat} {x0 : Int32} : WP X d 1 68 al (.int x0 :: .ref a0 :: r) M Q = mm_fp (M.2.2 a0) 0 2 (.int x0) (fun o => WP X d 1 71 al r (mm_set M a0 o) Q) := WP_put (by decide +kernel : decode (mm_b 1) 68 = .ok (.putfield 25, 3)) (by decide +kernel) rfl (by decide +kernel)
theorem w_1_71 {l1 : Option Value} {l2 : Option Value} {l3 : Option Value} {x0 : Nat} : WP X d 1 71 [some (.ref x0), l1, l2, l3] r M Q = WP X d 1 72 [some (.ref x0), l1, l2, l3] (.ref x0 :: r) M Q := WP_ld (by decide +kernel : decode (mm_b 1) 71 = .ok (.aload_n 0, 1)) rfl (fun _ => rfl) (fun _ => rfl) rfl rfl
theorem w_1_72 {l0 : Option Value} {l1 : Option Value} {l2 : Option Value} {x0 : Nat} : WP X d 1 72 [l0, l1, l2, some (.ref x0)] r M Q = WP X d 1 73 [l0, l1, l2, some (.ref x0)] (.ref x0 :: r) M Q := WP_ld (by decide +kernel : decode (mm_b 1) 72 = .ok (.aload_n 3, 1)) rfl (fun _ => rfl) (fun _ => rfl) rfl rfl
theorem w_1_72n {l0 : Option Value} {l1 : Option Value} {l2 : Option Value} : WP X d 1 72 [l0, l1, l2, some (.null)] r M Q = WP X d 1 73 [l0, l1, l2, some (.null)] (.null :: r) M Q := WP_ld (by decide +kernel : decode (mm_b 1) 72 = .ok (.aload_n 3, 1)) rfl (fun _ => rfl) (fun _ => rfl) rfl rfl
theorem w_1_73 {x0 : Nat} : WP X d 1 73 al (.ref x0 :: r) M Q = WP X d 1 80 al r M Q := WP_brr (by decide +kernel : decode (mm_b 1) 73 = .ok (.ifnonnull 7, 3)) rfl rfl
theorem w_1_73n  : WP X d 1 73 al (.null :: r) M Q = WP X d 1 76 al r M Q := WP_brr (by decide +kernel : decode (mm_b 1) 73 = .ok (.ifnonnull 7, 3)) rfl rfl
theorem w_1_76  : WP X d 1 76 al r M Q = WP X d 1 77 al (.null :: r) M Q := WP_pu (by decide +kernel : decode (mm_b 1) 76 = .ok (.aconst_null, 1)) rfl
theorem w_1_77  : WP X d 1 77 al r M Q = WP X d 1 89 al r M Q := WP_brr (by decide +kernel : decode (mm_b 1) 77 = .ok (.goto 12, 3)) rfl rfl
theorem w_1_80 {l0 : Option Value} {l1 : Option Value} {l3 : Option Value} {x0 : Nat} : WP X d 1 80 [l0, l1, some (.ref x0), l3] r M Q = WP X d 1 81 [l0, l1, some (.ref x0), l3] (.ref x0 :: r) M Q := WP_ld (by decide +kernel : decode (mm_b 1) 80 = .ok (.aload_n 2, 1)) rfl (fun _ => rfl) (fun _ => rfl) rfl rfl
theorem w_1_81 {x0 : Nat} : WP X d 1 81 al (.ref x0 :: r) M Q = mm_fg (M.2.2 x0) 0 1 (fun v => WP X d 1 84 al (v :: r) M Q) := WP_get (by decide +kernel : decode (mm_b 1) 81 = .ok (.getfield 22, 3)) (by decide +kernel)
theorem w_1_84  : WP X d 1 84 al r M Q = WP X d 1 86 al (.int (nI 24) :: r) M Q := WP_bipush (v := nI 24) (by decide +kernel : decode (mm_b 1) 84 = .ok (.bipush 24, 2)) (by decide +kernel)
theorem w_1_86 {x0 : Int32} {x1 : Int32} : WP X d 1 86 al (.int x1 :: .int x0 :: r) M Q = WP X d 1 87 al (.int (x0 * x1) :: r) M Q := WP_pu (by decide +kernel : decode (mm_b 1) 86 = .ok (.imul, 1)) rfl
theorem w_1_87 {x0 : Int32} : WP X d 1 87 al (.int x0 :: r) M Q = (¬ (x0 < 0 ∨ 536870912 < x0.toNatClampNeg * 4) ∧ WP X d 1 89 al (.ref M.1 :: r) (mm_push M x0.toNatClampNeg (.inl (0, x0.toNatClampNeg, .inl (fun _ => 0)))) Q) := WP_newa (by decide +kernel : decode (mm_b 1) 87 = .ok (.newarray .int, 2)) rfl
theorem w_1_89 {a0 : Nat} {x0 : Nat} : WP X d 1 89 al (.ref x0 :: .ref a0 :: r) M Q = mm_fp (M.2.2 a0) 0 7 (.ref x0) (fun o => WP X d 1 92 al r (mm_set M a0 o) Q) := WP_put (by decide +kernel : decode (mm_b 1) 89 = .ok (.putfield 35, 3)) (by decide +kernel) rfl (by decide +kernel)
theorem w_1_89n {a0 : Nat} : WP X d 1 89 al (.null :: .ref a0 :: r) M Q = mm_fp (M.2.2 a0) 0 7 (.null) (fun o => WP X d 1 92 al r (mm_set M a0 o) Q) := WP_put (by decide +kernel : decode (mm_b 1) 89 = .ok (.putfield 35, 3)) (by decide +kernel) rfl (by decide +kernel)
theorem w_1_92 {l1 : Option Value} {l2 : Option Value} {l3 : Option Value} {x0 : Nat} : WP X d 1 92 [some (.ref x0), l1, l2, l3] r M Q = WP X d 1 93 [some (.ref x0), l1, l2, l3] (.ref x0 :: r) M Q := WP_ld (by decide +kernel : decode (mm_b 1) 92 = .ok (.aload_n 0, 1)) rfl (fun _ => rfl) (fun _ => rfl) rfl rfl
theorem w_1_93 {l0 : Option Value} {l1 : Option Value} {l2 : Option Value} {x0 : Nat} : WP X d 1 93 [l0, l1, l2, some (.ref x0)] r M Q = WP X d 1 94 [l0, l1, l2, some (.ref x0)] (.ref x0 :: r) M Q := WP_ld (by decide +kernel : decode (mm_b 1) 93 = .ok (.aload_n 3, 1)) rfl (fun _ => rfl) (fun _ => rfl) rfl rfl
theorem w_1_93n {l0 : Option Value} {l1 : Option Value} {l2 : Option Value} : WP X d 1 93 [l0, l1, l2, some (.null)] r M Q = WP X d 1 94 [l0, l1, l2, some (.null)] (.null :: r) M Q := WP_ld (by decide +kernel : decode (mm_b 1) 93 = .ok (.aload_n 3, 1)) rfl (fun _ => rfl) (fun _ => rfl) rfl rfl
theorem w_1_94 {x0 : Nat} : WP X d 1 94 al (.ref x0 :: r) M Q = WP X d 1 101 al r M Q := WP_brr (by decide +kernel : decode (mm_b 1) 94 = .ok (.ifnonnull 7, 3)) rfl rfl
theorem w_1_94n  : WP X d 1 94 al (.null :: r) M Q = WP X d 1 97 al r M Q := WP_brr (by decide +kernel : decode (mm_b 1) 94 = .ok (.ifnonnull 7, 3)) rfl rfl
theorem w_1_97  : WP X d 1 97 al r M Q = WP X d 1 98 al (.null :: r) M Q := WP_pu (by decide +kernel : decode (mm_b 1) 97 = .ok (.aconst_null, 1)) rfl
theorem w_1_98  : WP X d 1 98 al r M Q = WP X d 1 110 al r M Q := WP_brr (by decide +kernel : decode (mm_b 1) 98 = .ok (.goto 12, 3)) rfl rfl
theorem w_1_101 {l0 : Option Value} {l1 : Option Value} {l2 : Option Value} {x0 : Nat} : WP X d 1 101 [l0, l1, l2, some (.ref x0)] r M Q = WP X d 1 102 [l0, l1, l2, some (.ref x0)] (.ref x0 :: r) M Q := WP_ld (by decide +kernel : decode (mm_b 1) 101 = .ok (.aload_n 3, 1)) rfl (fun _ => rfl) (fun _ => rfl) rfl rfl
theorem w_1_101n {l0 : Option Value} {l1 : Option Value} {l2 : Option Value} : WP X d 1 101 [l0, l1, l2, some (.null)] r M Q = WP X d 1 102 [l0, l1, l2, some (.null)] (.null :: r) M Q := WP_ld (by decide +kernel : decode (mm_b 1) 101 = .ok (.aload_n 3, 1)) rfl (fun _ => rfl) (fun _ => rfl) rfl rfl
theorem w_1_102 {x0 : Nat} : WP X d 1 102 al (.ref x0 :: r) M Q = mm_fg (M.2.2 x0) 0 1 (fun v => WP X d 1 105 al (v :: r) M Q) := WP_get (by decide +kernel : decode (mm_b 1) 102 = .ok (.getfield 22, 3)) (by decide +kernel)
theorem w_1_105  : WP X d 1 105 al r M Q = WP X d 1 107 al (.int (nI 24) :: r) M Q := WP_bipush (v := nI 24) (by decide +kernel : decode (mm_b 1) 105 = .ok (.bipush 24, 2)) (by decide +kernel)
theorem w_1_107 {x0 : Int32} {x1 : Int32} : WP X d 1 107 al (.int x1 :: .int x0 :: r) M Q = WP X d 1 108 al (.int (x0 * x1) :: r) M Q := WP_pu (by decide +kernel : decode (mm_b 1) 107 = .ok (.imul, 1)) rfl
theorem w_1_108 {x0 : Int32} : WP X d 1 108 al (.int x0 :: r) M Q = (¬ (x0 < 0 ∨ 536870912 < x0.toNatClampNeg * 4) ∧ WP X d 1 110 al (.ref M.1 :: r) (mm_push M x0.toNatClampNeg (.inl (0, x0.toNatClampNeg, .inl (fun _ => 0)))) Q) := WP_newa (by decide +kernel : decode (mm_b 1) 108 = .ok (.newarray .int, 2)) rfl
theorem w_1_110 {a0 : Nat} {x0 : Nat} : WP X d 1 110 al (.ref x0 :: .ref a0 :: r) M Q = mm_fp (M.2.2 a0) 0 8 (.ref x0) (fun o => WP X d 1 113 al r (mm_set M a0 o) Q) := WP_put (by decide +kernel : decode (mm_b 1) 110 = .ok (.putfield 39, 3)) (by decide +kernel) rfl (by decide +kernel)
theorem w_1_110n {a0 : Nat} : WP X d 1 110 al (.null :: .ref a0 :: r) M Q = mm_fp (M.2.2 a0) 0 8 (.null) (fun o => WP X d 1 113 al r (mm_set M a0 o) Q) := WP_put (by decide +kernel : decode (mm_b 1) 110 = .ok (.putfield 39, 3)) (by decide +kernel) rfl (by decide +kernel)
theorem w_1_113 {l1 : Option Value} {l2 : Option Value} {l3 : Option Value} {x0 : Nat} : WP X d 1 113 [some (.ref x0), l1, l2, l3] r M Q = WP X d 1 114 [some (.ref x0), l1, l2, l3] (.ref x0 :: r) M Q := WP_ld (by decide +kernel : decode (mm_b 1) 113 = .ok (.aload_n 0, 1)) rfl (fun _ => rfl) (fun _ => rfl) rfl rfl
theorem w_1_114  : WP X d 1 114 al r M Q = WP X d 1 115 al (.null :: r) M Q := WP_pu (by decide +kernel : decode (mm_b 1) 114 = .ok (.aconst_null, 1)) rfl
theorem w_1_115n {a0 : Nat} : WP X d 1 115 al (.null :: .ref a0 :: r) M Q = mm_fp (M.2.2 a0) 0 3 (.null) (fun o => WP X d 1 118 al r (mm_set M a0 o) Q) := WP_put (by decide +kernel : decode (mm_b 1) 115 = .ok (.putfield 15, 3)) (by decide +kernel) rfl (by decide +kernel)
theorem w_1_118 {l1 : Option Value} {l2 : Option Value} {l3 : Option Value} {x0 : Nat} : WP X d 1 118 [some (.ref x0), l1, l2, l3] r M Q = WP X d 1 119 [some (.ref x0), l1, l2, l3] (.ref x0 :: r) M Q := WP_ld (by decide +kernel : decode (mm_b 1) 118 = .ok (.aload_n 0, 1)) rfl (fun _ => rfl) (fun _ => rfl) rfl rfl
theorem w_1_119  : WP X d 1 119 al r M Q = WP X d 1 120 al (.int (nI 0) :: r) M Q := WP_iconst (v := nI 0) (by decide +kernel : decode (mm_b 1) 119 = .ok (.iconst 0, 1)) (by decide +kernel)
theorem w_1_120 {a0 : Nat} {x0 : Int32} : WP X d 1 120 al (.int x0 :: .ref a0 :: r) M Q = mm_fp (M.2.2 a0) 0 4 (.int x0) (fun o => WP X d 1 123 al r (mm_set M a0 o) Q) := WP_put (by decide +kernel : decode (mm_b 1) 120 = .ok (.putfield 19, 3)) (by decide +kernel) rfl (by decide +kernel)
theorem w_1_123  : WP X d 1 123 al [] M Q = Q (.inl none) M := WP_vret (by decide +kernel : decode (mm_b 1) 123 = .ok (.return_, 1)) (by decide +kernel)
-- St_init
theorem w_2_0 {l1 : Option Value} {l2 : Option Value} {x0 : Nat} : WP X d 2 0 [some (.ref x0), l1, l2] r M Q = WP X d 2 1 [some (.ref x0), l1, l2] (.ref x0 :: r) M Q := WP_ld (by decide +kernel : decode (mm_b 2) 0 = .ok (.aload_n 0, 1)) rfl (fun _ => rfl) (fun _ => rfl) rfl rfl
theorem w_2_1 {v0 : Nat} : WP X (d + 1) 2 1 al [.ref v0] M Q = WP X (d + 1) 2 4 al [] M Q := WP_obj (by decide +kernel : decode (mm_b 2) 1 = .ok (.invokespecial 1, 3)) (by decide +kernel) (by decide +kernel) (Nat.le_of_ble_eq_true rfl)
theorem w_2_4 {l1 : Option Value} {l2 : Option Value} {x0 : Nat} : WP X d 2 4 [some (.ref x0), l1, l2] r M Q = WP X d 2 5 [some (.ref x0), l1, l2] (.ref x0 :: r) M Q := WP_ld (by decide +kernel : decode (mm_b 2) 4 = .ok (.aload_n 0, 1)) rfl (fun _ => rfl) (fun _ => rfl) rfl rfl
theorem w_2_5 {l0 : Option Value} {l2 : Option Value} {x0 : Int32} : WP X d 2 5 [l0, some (.int x0), l2] r M Q = WP X d 2 6 [l0, some (.int x0), l2] (.int x0 :: r) M Q := WP_ld (by decide +kernel : decode (mm_b 2) 5 = .ok (.iload_n 1, 1)) rfl (fun _ => rfl) (fun _ => rfl) rfl rfl
theorem w_2_6 {x0 : Int32} : WP X d 2 6 al (.int x0 :: r) M Q = (¬ (x0 < 0 ∨ 536870912 < x0.toNatClampNeg * 4) ∧ WP X d 2 8 al (.ref M.1 :: r) (mm_push M x0.toNatClampNeg (.inl (0, x0.toNatClampNeg, .inl (fun _ => 0)))) Q) := WP_newa (by decide +kernel : decode (mm_b 2) 6 = .ok (.newarray .int, 2)) rfl
theorem w_2_8 {a0 : Nat} {x0 : Nat} : WP X d 2 8 al (.ref x0 :: .ref a0 :: r) M Q = mm_fp (M.2.2 a0) 1 0 (.ref x0) (fun o => WP X d 2 11 al r (mm_set M a0 o) Q) := WP_put (by decide +kernel : decode (mm_b 2) 8 = .ok (.putfield 7, 3)) (by decide +kernel) rfl (by decide +kernel)
theorem w_2_11 {l1 : Option Value} {l2 : Option Value} {x0 : Nat} : WP X d 2 11 [some (.ref x0), l1, l2] r M Q = WP X d 2 12 [some (.ref x0), l1, l2] (.ref x0 :: r) M Q := WP_ld (by decide +kernel : decode (mm_b 2) 11 = .ok (.aload_n 0, 1)) rfl (fun _ => rfl) (fun _ => rfl) rfl rfl
theorem w_2_12 {l0 : Option Value} {l2 : Option Value} {x0 : Int32} : WP X d 2 12 [l0, some (.int x0), l2] r M Q = WP X d 2 13 [l0, some (.int x0), l2] (.int x0 :: r) M Q := WP_ld (by decide +kernel : decode (mm_b 2) 12 = .ok (.iload_n 1, 1)) rfl (fun _ => rfl) (fun _ => rfl) rfl rfl
theorem w_2_13 {x0 : Int32} : WP X d 2 13 al (.int x0 :: r) M Q = (¬ (x0 < 0 ∨ 536870912 < x0.toNatClampNeg * 4) ∧ WP X d 2 15 al (.ref M.1 :: r) (mm_push M x0.toNatClampNeg (.inl (0, x0.toNatClampNeg, .inl (fun _ => 0)))) Q) := WP_newa (by decide +kernel : decode (mm_b 2) 13 = .ok (.newarray .int, 2)) rfl
theorem w_2_15 {a0 : Nat} {x0 : Nat} : WP X d 2 15 al (.ref x0 :: .ref a0 :: r) M Q = mm_fp (M.2.2 a0) 1 1 (.ref x0) (fun o => WP X d 2 18 al r (mm_set M a0 o) Q) := WP_put (by decide +kernel : decode (mm_b 2) 15 = .ok (.putfield 13, 3)) (by decide +kernel) rfl (by decide +kernel)
theorem w_2_18 {l1 : Option Value} {l2 : Option Value} {x0 : Nat} : WP X d 2 18 [some (.ref x0), l1, l2] r M Q = WP X d 2 19 [some (.ref x0), l1, l2] (.ref x0 :: r) M Q := WP_ld (by decide +kernel : decode (mm_b 2) 18 = .ok (.aload_n 0, 1)) rfl (fun _ => rfl) (fun _ => rfl) rfl rfl
theorem w_2_19 {l0 : Option Value} {l1 : Option Value} {x0 : Int32} : WP X d 2 19 [l0, l1, some (.int x0)] r M Q = WP X d 2 20 [l0, l1, some (.int x0)] (.int x0 :: r) M Q := WP_ld (by decide +kernel : decode (mm_b 2) 19 = .ok (.iload_n 2, 1)) rfl (fun _ => rfl) (fun _ => rfl) rfl rfl
theorem w_2_20 {x0 : Int32} : WP X d 2 20 al (.int x0 :: r) M Q = (¬ (x0 < 0 ∨ 536870912 < x0.toNatClampNeg * 4) ∧ WP X d 2 22 al (.ref M.1 :: r) (mm_push M x0.toNatClampNeg (.inl (0, x0.toNatClampNeg, .inl (fun _ => 0)))) Q) := WP_newa (by decide +kernel : decode (mm_b 2) 20 = .ok (.newarray .int, 2)) rfl
theorem w_2_22 {a0 : Nat} {x0 : Nat} : WP X d 2 22 al (.ref x0 :: .ref a0 :: r) M Q = mm_fp (M.2.2 a0) 1 2 (.ref x0) (fun o => WP X d 2 25 al r (mm_set M a0 o) Q) := WP_put (by decide +kernel : decode (mm_b 2) 22 = .ok (.putfield 16, 3)) (by decide +kernel) rfl (by decide +kernel)
theorem w_2_25  : WP X d 2 25 al [] M Q = Q (.inl none) M := WP_vret (by decide +kernel : decode (mm_b 2) 25 = .ok (.return_, 1)) (by decide +kernel)
-- St_fillAll
theorem w_3_0 {l1 : Option Value} {x0 : Nat} : WP X d 3 0 [some (.ref x0), l1] r M Q = WP X d 3 1 [some (.ref x0), l1] (.ref x0 :: r) M Q := WP_ld (by decide +kernel : decode (mm_b 3) 0 = .ok (.aload_n 0, 1)) rfl (fun _ => rfl) (fun _ => rfl) rfl rfl
theorem w_3_1 {x0 : Nat} : WP X d 3 1 al (.ref x0 :: r) M Q = mm_fg (M.2.2 x0) 1 0 (fun v => WP X d 3 4 al (v :: r) M Q) := WP_get (by decide +kernel : decode (mm_b 3) 1 = .ok (.getfield 7, 3)) (by decide +kernel)
theorem w_3_4  : WP X d 3 4 al r M Q = WP X d 3 5 al (.int (nI 0) :: r) M Q := WP_iconst (v := nI 0) (by decide +kernel : decode (mm_b 3) 4 = .ok (.iconst 0, 1)) (by decide +kernel)
theorem w_3_5 {l0 : Option Value} {x0 : Nat} : WP X d 3 5 [l0, some (.ref x0)] r M Q = WP X d 3 6 [l0, some (.ref x0)] (.ref x0 :: r) M Q := WP_ld (by decide +kernel : decode (mm_b 3) 5 = .ok (.aload_n 1, 1)) rfl (fun _ => rfl) (fun _ => rfl) rfl rfl
theorem w_3_6  : WP X d 3 6 al r M Q = WP X d 3 7 al (.int (nI 0) :: r) M Q := WP_iconst (v := nI 0) (by decide +kernel : decode (mm_b 3) 6 = .ok (.iconst 0, 1)) (by decide +kernel)
theorem w_3_7 {l1 : Option Value} {x0 : Nat} : WP X d 3 7 [some (.ref x0), l1] r M Q = WP X d 3 8 [some (.ref x0), l1] (.ref x0 :: r) M Q := WP_ld (by decide +kernel : decode (mm_b 3) 7 = .ok (.aload_n 0, 1)) rfl (fun _ => rfl) (fun _ => rfl) rfl rfl
theorem w_3_8 {x0 : Nat} : WP X d 3 8 al (.ref x0 :: r) M Q = mm_fg (M.2.2 x0) 1 3 (fun v => WP X d 3 11 al (v :: r) M Q) := WP_get (by decide +kernel : decode (mm_b 3) 8 = .ok (.getfield 25, 3)) (by decide +kernel)
theorem w_3_11 {v0 : Nat} {v1 : Int32} {v2 : Nat} {v3 : Int32} {v4 : Int32} : WP X (d + 1) 3 11 al [.int v4, .int v3, .ref v2, .int v1, .ref v0] M Q = mm_cp (M.2.2 v0) (M.2.2 v2) v1 v3 v4 (fun o => WP X (d + 1) 3 14 al [] (mm_set M v2 o) Q) := WP_copy (by decide +kernel : decode (mm_b 3) 11 = .ok (.invokestatic 19, 3)) (by decide +kernel) (by decide +kernel) (Nat.le_of_ble_eq_true rfl)
theorem w_3_14 {l1 : Option Value} {x0 : Nat} : WP X d 3 14 [some (.ref x0), l1] r M Q = WP X d 3 15 [some (.ref x0), l1] (.ref x0 :: r) M Q := WP_ld (by decide +kernel : decode (mm_b 3) 14 = .ok (.aload_n 0, 1)) rfl (fun _ => rfl) (fun _ => rfl) rfl rfl
theorem w_3_15 {x0 : Nat} : WP X d 3 15 al (.ref x0 :: r) M Q = mm_fg (M.2.2 x0) 1 3 (fun v => WP X d 3 18 al (v :: r) M Q) := WP_get (by decide +kernel : decode (mm_b 3) 15 = .ok (.getfield 25, 3)) (by decide +kernel)
theorem w_3_18 {x0 : Int32} : WP X d 3 18 al [.int x0] M Q = Q (.inl (some (.int x0))) M := WP_iret (by decide +kernel : decode (mm_b 3) 18 = .ok (.ireturn, 1)) (by decide +kernel)
-- St_fillKeys
theorem w_4_0  : WP X d 4 0 al r M Q = WP X d 4 1 al (.int (nI 0) :: r) M Q := WP_iconst (v := nI 0) (by decide +kernel : decode (mm_b 4) 0 = .ok (.iconst 0, 1)) (by decide +kernel)
theorem w_4_1 {l0 : Option Value} {l1 : Option Value} {l2 : Option Value} {l3 : Option Value} {x0 : Int32} : WP X d 4 1 [l0, l1, l2, l3] (.int x0 :: r) M Q = WP X d 4 2 [l0, mm_k l1, some (.int x0), l3] r M Q := WP_so (by decide +kernel : decode (mm_b 4) 1 = .ok (.istore_n 2, 1)) rfl (fun _ => rfl) (fun _ => rfl) rfl rfl (Nat.le_of_ble_eq_true rfl)
theorem w_4_2  : WP X d 4 2 al r M Q = WP X d 4 3 al (.int (nI 0) :: r) M Q := WP_iconst (v := nI 0) (by decide +kernel : decode (mm_b 4) 2 = .ok (.iconst 0, 1)) (by decide +kernel)
theorem w_4_3 {l0 : Option Value} {l1 : Option Value} {l2 : Option Value} {l3 : Option Value} {x0 : Int32} : WP X d 4 3 [l0, l1, l2, l3] (.int x0 :: r) M Q = WP X d 4 4 [l0, l1, mm_k l2, some (.int x0)] r M Q := WP_so (by decide +kernel : decode (mm_b 4) 3 = .ok (.istore_n 3, 1)) rfl (fun _ => rfl) (fun _ => rfl) rfl rfl (Nat.le_of_ble_eq_true rfl)
theorem w_4_4 {l0 : Option Value} {l1 : Option Value} {l2 : Option Value} {x0 : Int32} : WP X d 4 4 [l0, l1, l2, some (.int x0)] r M Q = WP X d 4 5 [l0, l1, l2, some (.int x0)] (.int x0 :: r) M Q := WP_ld (by decide +kernel : decode (mm_b 4) 4 = .ok (.iload_n 3, 1)) rfl (fun _ => rfl) (fun _ => rfl) rfl rfl
theorem w_4_5 {l1 : Option Value} {l2 : Option Value} {l3 : Option Value} {x0 : Nat} : WP X d 4 5 [some (.ref x0), l1, l2, l3] r M Q = WP X d 4 6 [some (.ref x0), l1, l2, l3] (.ref x0 :: r) M Q := WP_ld (by decide +kernel : decode (mm_b 4) 5 = .ok (.aload_n 0, 1)) rfl (fun _ => rfl) (fun _ => rfl) rfl rfl
theorem w_4_6 {x0 : Nat} : WP X d 4 6 al (.ref x0 :: r) M Q = mm_fg (M.2.2 x0) 1 3 (fun v => WP X d 4 9 al (v :: r) M Q) := WP_get (by decide +kernel : decode (mm_b 4) 6 = .ok (.getfield 25, 3)) (by decide +kernel)
theorem w_4_9 {x0 : Int32} {x1 : Int32} : WP X d 4 9 al (.int x1 :: .int x0 :: r) M Q = if x1 ≤ x0 then WP X d 4 51 al r M Q else WP X d 4 12 al r M Q := WP_ic_ge (t := 51) (by decide +kernel : decode (mm_b 4) 9 = .ok (.if_icmp .ge 42, 3)) rfl
theorem w_4_12 {l0 : Option Value} {l1 : Option Value} {l2 : Option Value} {x0 : Int32} : WP X d 4 12 [l0, l1, l2, some (.int x0)] r M Q = WP X d 4 13 [l0, l1, l2, some (.int x0)] (.int x0 :: r) M Q := WP_ld (by decide +kernel : decode (mm_b 4) 12 = .ok (.iload_n 3, 1)) rfl (fun _ => rfl) (fun _ => rfl) rfl rfl
theorem w_4_13 {x0 : Int32} : WP X d 4 13 al (.int x0 :: r) M Q = if x0 = nI 0 then WP X d 4 33 al r M Q else WP X d 4 16 al r M Q := WP_i0_eq (t := 33) (by decide +kernel : decode (mm_b 4) 13 = .ok (.ifCond .eq 20, 3)) rfl
theorem w_4_16 {l1 : Option Value} {l2 : Option Value} {l3 : Option Value} {x0 : Nat} : WP X d 4 16 [some (.ref x0), l1, l2, l3] r M Q = WP X d 4 17 [some (.ref x0), l1, l2, l3] (.ref x0 :: r) M Q := WP_ld (by decide +kernel : decode (mm_b 4) 16 = .ok (.aload_n 0, 1)) rfl (fun _ => rfl) (fun _ => rfl) rfl rfl
theorem w_4_17 {x0 : Nat} : WP X d 4 17 al (.ref x0 :: r) M Q = mm_fg (M.2.2 x0) 1 1 (fun v => WP X d 4 20 al (v :: r) M Q) := WP_get (by decide +kernel : decode (mm_b 4) 17 = .ok (.getfield 13, 3)) (by decide +kernel)
theorem w_4_20 {l0 : Option Value} {l1 : Option Value} {l2 : Option Value} {x0 : Int32} : WP X d 4 20 [l0, l1, l2, some (.int x0)] r M Q = WP X d 4 21 [l0, l1, l2, some (.int x0)] (.int x0 :: r) M Q := WP_ld (by decide +kernel : decode (mm_b 4) 20 = .ok (.iload_n 3, 1)) rfl (fun _ => rfl) (fun _ => rfl) rfl rfl
theorem w_4_21 {a0 : Nat} {x0 : Int32} : WP X d 4 21 al (.int x0 :: .ref a0 :: r) M Q = mm_ai X a0 (M.2.2 a0) x0 (fun x => WP X d 4 22 al (.int x :: r) M Q) := WP_iaload (by decide +kernel : decode (mm_b 4) 21 = .ok (.iaload, 1))
theorem w_4_22 {l1 : Option Value} {l2 : Option Value} {l3 : Option Value} {x0 : Nat} : WP X d 4 22 [some (.ref x0), l1, l2, l3] r M Q = WP X d 4 23 [some (.ref x0), l1, l2, l3] (.ref x0 :: r) M Q := WP_ld (by decide +kernel : decode (mm_b 4) 22 = .ok (.aload_n 0, 1)) rfl (fun _ => rfl) (fun _ => rfl) rfl rfl
theorem w_4_23 {x0 : Nat} : WP X d 4 23 al (.ref x0 :: r) M Q = mm_fg (M.2.2 x0) 1 1 (fun v => WP X d 4 26 al (v :: r) M Q) := WP_get (by decide +kernel : decode (mm_b 4) 23 = .ok (.getfield 13, 3)) (by decide +kernel)
theorem w_4_26 {l0 : Option Value} {l1 : Option Value} {l2 : Option Value} {x0 : Int32} : WP X d 4 26 [l0, l1, l2, some (.int x0)] r M Q = WP X d 4 27 [l0, l1, l2, some (.int x0)] (.int x0 :: r) M Q := WP_ld (by decide +kernel : decode (mm_b 4) 26 = .ok (.iload_n 3, 1)) rfl (fun _ => rfl) (fun _ => rfl) rfl rfl
theorem w_4_27  : WP X d 4 27 al r M Q = WP X d 4 28 al (.int (nI 1) :: r) M Q := WP_iconst (v := nI 1) (by decide +kernel : decode (mm_b 4) 27 = .ok (.iconst 1, 1)) (by decide +kernel)
theorem w_4_28 {x0 : Int32} {x1 : Int32} : WP X d 4 28 al (.int x1 :: .int x0 :: r) M Q = WP X d 4 29 al (.int (x0 - x1) :: r) M Q := WP_pu (by decide +kernel : decode (mm_b 4) 28 = .ok (.isub, 1)) rfl
theorem w_4_29 {a0 : Nat} {x0 : Int32} : WP X d 4 29 al (.int x0 :: .ref a0 :: r) M Q = mm_ai X a0 (M.2.2 a0) x0 (fun x => WP X d 4 30 al (.int x :: r) M Q) := WP_iaload (by decide +kernel : decode (mm_b 4) 29 = .ok (.iaload, 1))
theorem w_4_30 {x0 : Int32} {x1 : Int32} : WP X d 4 30 al (.int x1 :: .int x0 :: r) M Q = if x0 = x1 then WP X d 4 45 al r M Q else WP X d 4 33 al r M Q := WP_ic_eq (t := 45) (by decide +kernel : decode (mm_b 4) 30 = .ok (.if_icmp .eq 15, 3)) rfl
theorem w_4_33 {l0 : Option Value} {l2 : Option Value} {l3 : Option Value} {x0 : Nat} : WP X d 4 33 [l0, some (.ref x0), l2, l3] r M Q = WP X d 4 34 [l0, some (.ref x0), l2, l3] (.ref x0 :: r) M Q := WP_ld (by decide +kernel : decode (mm_b 4) 33 = .ok (.aload_n 1, 1)) rfl (fun _ => rfl) (fun _ => rfl) rfl rfl
theorem w_4_34 {l0 : Option Value} {l1 : Option Value} {l3 : Option Value} {x0 : Int32} : WP X d 4 34 [l0, l1, some (.int x0), l3] r M Q = WP X d 4 35 [l0, l1, some (.int x0), l3] (.int x0 :: r) M Q := WP_ld (by decide +kernel : decode (mm_b 4) 34 = .ok (.iload_n 2, 1)) rfl (fun _ => rfl) (fun _ => rfl) rfl rfl
theorem w_4_35 {l1 : Option Value} {l2 : Option Value} {l3 : Option Value} {x0 : Nat} : WP X d 4 35 [some (.ref x0), l1, l2, l3] r M Q = WP X d 4 36 [some (.ref x0), l1, l2, l3] (.ref x0 :: r) M Q := WP_ld (by decide +kernel : decode (mm_b 4) 35 = .ok (.aload_n 0, 1)) rfl (fun _ => rfl) (fun _ => rfl) rfl rfl
theorem w_4_36 {x0 : Nat} : WP X d 4 36 al (.ref x0 :: r) M Q = mm_fg (M.2.2 x0) 1 1 (fun v => WP X d 4 39 al (v :: r) M Q) := WP_get (by decide +kernel : decode (mm_b 4) 36 = .ok (.getfield 13, 3)) (by decide +kernel)
theorem w_4_39 {l0 : Option Value} {l1 : Option Value} {l2 : Option Value} {x0 : Int32} : WP X d 4 39 [l0, l1, l2, some (.int x0)] r M Q = WP X d 4 40 [l0, l1, l2, some (.int x0)] (.int x0 :: r) M Q := WP_ld (by decide +kernel : decode (mm_b 4) 39 = .ok (.iload_n 3, 1)) rfl (fun _ => rfl) (fun _ => rfl) rfl rfl
theorem w_4_40 {a0 : Nat} {x0 : Int32} : WP X d 4 40 al (.int x0 :: .ref a0 :: r) M Q = mm_ai X a0 (M.2.2 a0) x0 (fun x => WP X d 4 41 al (.int x :: r) M Q) := WP_iaload (by decide +kernel : decode (mm_b 4) 40 = .ok (.iaload, 1))
theorem w_4_41 {a0 : Nat} {x0 : Int32} {x1 : Int32} : WP X d 4 41 al (.int x1 :: .int x0 :: .ref a0 :: r) M Q = mm_si (M.2.2 a0) x0 x1 (fun o => WP X d 4 42 al r (mm_set M a0 o) Q) := WP_iastore (by decide +kernel : decode (mm_b 4) 41 = .ok (.iastore, 1))
theorem w_4_42 {l0 : Option Value} {l1 : Option Value} {l3 : Option Value} {x0 : Int32} : WP X d 4 42 [l0, l1, some (.int x0), l3] r M Q = WP X d 4 45 [l0, mm_k l1, some (.int (x0 + nI 1)), l3] r M Q := WP_inc2 (v := nI 1) (by decide +kernel : decode (mm_b 4) 42 = .ok (.iinc 2 1, 3)) (by decide +kernel) rfl rfl
theorem w_4_45 {l0 : Option Value} {l1 : Option Value} {l2 : Option Value} {x0 : Int32} : WP X d 4 45 [l0, l1, l2, some (.int x0)] r M Q = WP X d 4 48 [l0, l1, mm_k l2, some (.int (x0 + nI 1))] r M Q := WP_inc2 (v := nI 1) (by decide +kernel : decode (mm_b 4) 45 = .ok (.iinc 3 1, 3)) (by decide +kernel) rfl rfl
theorem w_4_48  : WP X d 4 48 al r M Q = WP X d 4 4 al r M Q := WP_brr (by decide +kernel : decode (mm_b 4) 48 = .ok (.goto (-44), 3)) rfl rfl
theorem w_4_51 {l0 : Option Value} {l1 : Option Value} {l3 : Option Value} {x0 : Int32} : WP X d 4 51 [l0, l1, some (.int x0), l3] r M Q = WP X d 4 52 [l0, l1, some (.int x0), l3] (.int x0 :: r) M Q := WP_ld (by decide +kernel : decode (mm_b 4) 51 = .ok (.iload_n 2, 1)) rfl (fun _ => rfl) (fun _ => rfl) rfl rfl
theorem w_4_52 {x0 : Int32} : WP X d 4 52 al [.int x0] M Q = Q (.inl (some (.int x0))) M := WP_iret (by decide +kernel : decode (mm_b 4) 52 = .ok (.ireturn, 1)) (by decide +kernel)
-- St_fillOf
theorem w_5_0 {l1 : Option Value} {l2 : Option Value} {l3 : Option Value} {x0 : Nat} : WP X d 5 0 [some (.ref x0), l1, l2, l3] r M Q = WP X d 5 1 [some (.ref x0), l1, l2, l3] (.ref x0 :: r) M Q := WP_ld (by decide +kernel : decode (mm_b 5) 0 = .ok (.aload_n 0, 1)) rfl (fun _ => rfl) (fun _ => rfl) rfl rfl
theorem w_5_1 {l0 : Option Value} {l2 : Option Value} {l3 : Option Value} {x0 : Int32} : WP X d 5 1 [l0, some (.int x0), l2, l3] r M Q = WP X d 5 2 [l0, some (.int x0), l2, l3] (.int x0 :: r) M Q := WP_ld (by decide +kernel : decode (mm_b 5) 1 = .ok (.iload_n 1, 1)) rfl (fun _ => rfl) (fun _ => rfl) rfl rfl
theorem w_5_2 {v0 : Nat} {v1 : Int32} : WP X (d + 1) 5 2 al [.int v1, .ref v0] M Q = (mm_rc (M.2.2 v0) 1 ∧ WPC X d 6 [.ref v0, .int v1] M (mm_K (fun v M => WP X (d + 1) 5 5 al (v.toList ++ []) M Q) (mm_G 5 2 6 Q))) := WP_callV (k' := 6) (r := []) (vs := [.int v1]) (by decide +kernel : decode (mm_b 5) 2 = .ok (.invokevirtual 33, 3)) (by decide +kernel) (by decide +kernel) rfl rfl rfl (Nat.le_of_ble_eq_true rfl)
theorem w_5_5 {l0 : Option Value} {l1 : Option Value} {l2 : Option Value} {l3 : Option Value} {x0 : Int32} : WP X d 5 5 [l0, l1, l2, l3] (.int x0 :: r) M Q = WP X d 5 6 [l0, l1, mm_k l2, some (.int x0)] r M Q := WP_so (by decide +kernel : decode (mm_b 5) 5 = .ok (.istore_n 3, 1)) rfl (fun _ => rfl) (fun _ => rfl) rfl rfl (Nat.le_of_ble_eq_true rfl)
theorem w_5_6 {l1 : Option Value} {l2 : Option Value} {l3 : Option Value} {x0 : Nat} : WP X d 5 6 [some (.ref x0), l1, l2, l3] r M Q = WP X d 5 7 [some (.ref x0), l1, l2, l3] (.ref x0 :: r) M Q := WP_ld (by decide +kernel : decode (mm_b 5) 6 = .ok (.aload_n 0, 1)) rfl (fun _ => rfl) (fun _ => rfl) rfl rfl
theorem w_5_7 {x0 : Nat} : WP X d 5 7 al (.ref x0 :: r) M Q = mm_fg (M.2.2 x0) 1 0 (fun v => WP X d 5 10 al (v :: r) M Q) := WP_get (by decide +kernel : decode (mm_b 5) 7 = .ok (.getfield 7, 3)) (by decide +kernel)
theorem w_5_10 {l1 : Option Value} {l2 : Option Value} {l3 : Option Value} {x0 : Nat} : WP X d 5 10 [some (.ref x0), l1, l2, l3] r M Q = WP X d 5 11 [some (.ref x0), l1, l2, l3] (.ref x0 :: r) M Q := WP_ld (by decide +kernel : decode (mm_b 5) 10 = .ok (.aload_n 0, 1)) rfl (fun _ => rfl) (fun _ => rfl) rfl rfl
theorem w_5_11 {l0 : Option Value} {l2 : Option Value} {l3 : Option Value} {x0 : Int32} : WP X d 5 11 [l0, some (.int x0), l2, l3] r M Q = WP X d 5 12 [l0, some (.int x0), l2, l3] (.int x0 :: r) M Q := WP_ld (by decide +kernel : decode (mm_b 5) 11 = .ok (.iload_n 1, 1)) rfl (fun _ => rfl) (fun _ => rfl) rfl rfl
theorem w_5_12 {v0 : Nat} {v1 : Nat} {v2 : Int32} : WP X (d + 1) 5 12 al [.int v2, .ref v1, .ref v0] M Q = (mm_rc (M.2.2 v1) 1 ∧ WPC X d 7 [.ref v1, .int v2] M (mm_K (fun v M => WP X (d + 1) 5 15 al (v.toList ++ [.ref v0]) M Q) (mm_G 5 12 7 Q))) := WP_callV (k' := 7) (r := [.ref v0]) (vs := [.int v2]) (by decide +kernel : decode (mm_b 5) 12 = .ok (.invokevirtual 29, 3)) (by decide +kernel) (by decide +kernel) rfl rfl rfl (Nat.le_of_ble_eq_true rfl)
theorem w_5_15 {l0 : Option Value} {l1 : Option Value} {l3 : Option Value} {x0 : Nat} : WP X d 5 15 [l0, l1, some (.ref x0), l3] r M Q = WP X d 5 16 [l0, l1, some (.ref x0), l3] (.ref x0 :: r) M Q := WP_ld (by decide +kernel : decode (mm_b 5) 15 = .ok (.aload_n 2, 1)) rfl (fun _ => rfl) (fun _ => rfl) rfl rfl
theorem w_5_16  : WP X d 5 16 al r M Q = WP X d 5 17 al (.int (nI 0) :: r) M Q := WP_iconst (v := nI 0) (by decide +kernel : decode (mm_b 5) 16 = .ok (.iconst 0, 1)) (by decide +kernel)
theorem w_5_17 {l0 : Option Value} {l1 : Option Value} {l2 : Option Value} {x0 : Int32} : WP X d 5 17 [l0, l1, l2, some (.int x0)] r M Q = WP X d 5 18 [l0, l1, l2, some (.int x0)] (.int x0 :: r) M Q := WP_ld (by decide +kernel : decode (mm_b 5) 17 = .ok (.iload_n 3, 1)) rfl (fun _ => rfl) (fun _ => rfl) rfl rfl
theorem w_5_18 {v0 : Nat} {v1 : Int32} {v2 : Nat} {v3 : Int32} {v4 : Int32} : WP X (d + 1) 5 18 al [.int v4, .int v3, .ref v2, .int v1, .ref v0] M Q = mm_cp (M.2.2 v0) (M.2.2 v2) v1 v3 v4 (fun o => WP X (d + 1) 5 21 al [] (mm_set M v2 o) Q) := WP_copy (by decide +kernel : decode (mm_b 5) 18 = .ok (.invokestatic 19, 3)) (by decide +kernel) (by decide +kernel) (Nat.le_of_ble_eq_true rfl)
theorem w_5_21 {l0 : Option Value} {l1 : Option Value} {l2 : Option Value} {x0 : Int32} : WP X d 5 21 [l0, l1, l2, some (.int x0)] r M Q = WP X d 5 22 [l0, l1, l2, some (.int x0)] (.int x0 :: r) M Q := WP_ld (by decide +kernel : decode (mm_b 5) 21 = .ok (.iload_n 3, 1)) rfl (fun _ => rfl) (fun _ => rfl) rfl rfl
theorem w_5_22 {x0 : Int32} : WP X d 5 22 al [.int x0] M Q = Q (.inl (some (.int x0))) M := WP_iret (by decide +kernel : decode (mm_b 5) 22 = .ok (.ireturn, 1)) (by decide +kernel)
-- St_countOf
theorem w_6_0  : WP X d 6 0 al r M Q = WP X d 6 1 al (.int (nI 0) :: r) M Q := WP_iconst (v := nI 0) (by decide +kernel : decode (mm_b 6) 0 = .ok (.iconst 0, 1)) (by decide +kernel)
theorem w_6_1 {l0 : Option Value} {l1 : Option Value} {l2 : Option Value} {l3 : Option Value} {x0 : Int32} : WP X d 6 1 [l0, l1, l2, l3] (.int x0 :: r) M Q = WP X d 6 2 [l0, mm_k l1, some (.int x0), l3] r M Q := WP_so (by decide +kernel : decode (mm_b 6) 1 = .ok (.istore_n 2, 1)) rfl (fun _ => rfl) (fun _ => rfl) rfl rfl (Nat.le_of_ble_eq_true rfl)
theorem w_6_2  : WP X d 6 2 al r M Q = WP X d 6 3 al (.int (nI 0) :: r) M Q := WP_iconst (v := nI 0) (by decide +kernel : decode (mm_b 6) 2 = .ok (.iconst 0, 1)) (by decide +kernel)
theorem w_6_3 {l0 : Option Value} {l1 : Option Value} {l2 : Option Value} {l3 : Option Value} {x0 : Int32} : WP X d 6 3 [l0, l1, l2, l3] (.int x0 :: r) M Q = WP X d 6 4 [l0, l1, mm_k l2, some (.int x0)] r M Q := WP_so (by decide +kernel : decode (mm_b 6) 3 = .ok (.istore_n 3, 1)) rfl (fun _ => rfl) (fun _ => rfl) rfl rfl (Nat.le_of_ble_eq_true rfl)
theorem w_6_4 {l0 : Option Value} {l1 : Option Value} {l2 : Option Value} {x0 : Int32} : WP X d 6 4 [l0, l1, l2, some (.int x0)] r M Q = WP X d 6 5 [l0, l1, l2, some (.int x0)] (.int x0 :: r) M Q := WP_ld (by decide +kernel : decode (mm_b 6) 4 = .ok (.iload_n 3, 1)) rfl (fun _ => rfl) (fun _ => rfl) rfl rfl
theorem w_6_5 {l1 : Option Value} {l2 : Option Value} {l3 : Option Value} {x0 : Nat} : WP X d 6 5 [some (.ref x0), l1, l2, l3] r M Q = WP X d 6 6 [some (.ref x0), l1, l2, l3] (.ref x0 :: r) M Q := WP_ld (by decide +kernel : decode (mm_b 6) 5 = .ok (.aload_n 0, 1)) rfl (fun _ => rfl) (fun _ => rfl) rfl rfl
theorem w_6_6 {x0 : Nat} : WP X d 6 6 al (.ref x0 :: r) M Q = mm_fg (M.2.2 x0) 1 3 (fun v => WP X d 6 9 al (v :: r) M Q) := WP_get (by decide +kernel : decode (mm_b 6) 6 = .ok (.getfield 25, 3)) (by decide +kernel)
theorem w_6_9 {x0 : Int32} {x1 : Int32} : WP X d 6 9 al (.int x1 :: .int x0 :: r) M Q = if x1 ≤ x0 then WP X d 6 31 al r M Q else WP X d 6 12 al r M Q := WP_ic_ge (t := 31) (by decide +kernel : decode (mm_b 6) 9 = .ok (.if_icmp .ge 22, 3)) rfl
theorem w_6_12 {l1 : Option Value} {l2 : Option Value} {l3 : Option Value} {x0 : Nat} : WP X d 6 12 [some (.ref x0), l1, l2, l3] r M Q = WP X d 6 13 [some (.ref x0), l1, l2, l3] (.ref x0 :: r) M Q := WP_ld (by decide +kernel : decode (mm_b 6) 12 = .ok (.aload_n 0, 1)) rfl (fun _ => rfl) (fun _ => rfl) rfl rfl
theorem w_6_13 {x0 : Nat} : WP X d 6 13 al (.ref x0 :: r) M Q = mm_fg (M.2.2 x0) 1 1 (fun v => WP X d 6 16 al (v :: r) M Q) := WP_get (by decide +kernel : decode (mm_b 6) 13 = .ok (.getfield 13, 3)) (by decide +kernel)
theorem w_6_16 {l0 : Option Value} {l1 : Option Value} {l2 : Option Value} {x0 : Int32} : WP X d 6 16 [l0, l1, l2, some (.int x0)] r M Q = WP X d 6 17 [l0, l1, l2, some (.int x0)] (.int x0 :: r) M Q := WP_ld (by decide +kernel : decode (mm_b 6) 16 = .ok (.iload_n 3, 1)) rfl (fun _ => rfl) (fun _ => rfl) rfl rfl
theorem w_6_17 {a0 : Nat} {x0 : Int32} : WP X d 6 17 al (.int x0 :: .ref a0 :: r) M Q = mm_ai X a0 (M.2.2 a0) x0 (fun x => WP X d 6 18 al (.int x :: r) M Q) := WP_iaload (by decide +kernel : decode (mm_b 6) 17 = .ok (.iaload, 1))
theorem w_6_18 {l0 : Option Value} {l2 : Option Value} {l3 : Option Value} {x0 : Int32} : WP X d 6 18 [l0, some (.int x0), l2, l3] r M Q = WP X d 6 19 [l0, some (.int x0), l2, l3] (.int x0 :: r) M Q := WP_ld (by decide +kernel : decode (mm_b 6) 18 = .ok (.iload_n 1, 1)) rfl (fun _ => rfl) (fun _ => rfl) rfl rfl
theorem w_6_19 {x0 : Int32} {x1 : Int32} : WP X d 6 19 al (.int x1 :: .int x0 :: r) M Q = if ¬ x0 = x1 then WP X d 6 25 al r M Q else WP X d 6 22 al r M Q := WP_ic_ne (t := 25) (by decide +kernel : decode (mm_b 6) 19 = .ok (.if_icmp .ne 6, 3)) rfl
theorem w_6_22 {l0 : Option Value} {l1 : Option Value} {l3 : Option Value} {x0 : Int32} : WP X d 6 22 [l0, l1, some (.int x0), l3] r M Q = WP X d 6 25 [l0, mm_k l1, some (.int (x0 + nI 1)), l3] r M Q := WP_inc2 (v := nI 1) (by decide +kernel : decode (mm_b 6) 22 = .ok (.iinc 2 1, 3)) (by decide +kernel) rfl rfl
theorem w_6_25 {l0 : Option Value} {l1 : Option Value} {l2 : Option Value} {x0 : Int32} : WP X d 6 25 [l0, l1, l2, some (.int x0)] r M Q = WP X d 6 28 [l0, l1, mm_k l2, some (.int (x0 + nI 1))] r M Q := WP_inc2 (v := nI 1) (by decide +kernel : decode (mm_b 6) 25 = .ok (.iinc 3 1, 3)) (by decide +kernel) rfl rfl
theorem w_6_28  : WP X d 6 28 al r M Q = WP X d 6 4 al r M Q := WP_brr (by decide +kernel : decode (mm_b 6) 28 = .ok (.goto (-24), 3)) rfl rfl
theorem w_6_31 {l0 : Option Value} {l1 : Option Value} {l3 : Option Value} {x0 : Int32} : WP X d 6 31 [l0, l1, some (.int x0), l3] r M Q = WP X d 6 32 [l0, l1, some (.int x0), l3] (.int x0 :: r) M Q := WP_ld (by decide +kernel : decode (mm_b 6) 31 = .ok (.iload_n 2, 1)) rfl (fun _ => rfl) (fun _ => rfl) rfl rfl
theorem w_6_32 {x0 : Int32} : WP X d 6 32 al [.int x0] M Q = Q (.inl (some (.int x0))) M := WP_iret (by decide +kernel : decode (mm_b 6) 32 = .ok (.ireturn, 1)) (by decide +kernel)
-- St_firstOf
theorem w_7_0  : WP X d 7 0 al r M Q = WP X d 7 1 al (.int (nI 0) :: r) M Q := WP_iconst (v := nI 0) (by decide +kernel : decode (mm_b 7) 0 = .ok (.iconst 0, 1)) (by decide +kernel)
theorem w_7_1 {l0 : Option Value} {l1 : Option Value} {l2 : Option Value} {x0 : Int32} : WP X d 7 1 [l0, l1, l2] (.int x0 :: r) M Q = WP X d 7 2 [l0, mm_k l1, some (.int x0)] r M Q := WP_so (by decide +kernel : decode (mm_b 7) 1 = .ok (.istore_n 2, 1)) rfl (fun _ => rfl) (fun _ => rfl) rfl rfl (Nat.le_of_ble_eq_true rfl)
theorem w_7_2 {l0 : Option Value} {l1 : Option Value} {x0 : Int32} : WP X d 7 2 [l0, l1, some (.int x0)] r M Q = WP X d 7 3 [l0, l1, some (.int x0)] (.int x0 :: r) M Q := WP_ld (by decide +kernel : decode (mm_b 7) 2 = .ok (.iload_n 2, 1)) rfl (fun _ => rfl) (fun _ => rfl) rfl rfl
theorem w_7_3 {l1 : Option Value} {l2 : Option Value} {x0 : Nat} : WP X d 7 3 [some (.ref x0), l1, l2] r M Q = WP X d 7 4 [some (.ref x0), l1, l2] (.ref x0 :: r) M Q := WP_ld (by decide +kernel : decode (mm_b 7) 3 = .ok (.aload_n 0, 1)) rfl (fun _ => rfl) (fun _ => rfl) rfl rfl
theorem w_7_4 {x0 : Nat} : WP X d 7 4 al (.ref x0 :: r) M Q = mm_fg (M.2.2 x0) 1 3 (fun v => WP X d 7 7 al (v :: r) M Q) := WP_get (by decide +kernel : decode (mm_b 7) 4 = .ok (.getfield 25, 3)) (by decide +kernel)
theorem w_7_7 {x0 : Int32} {x1 : Int32} : WP X d 7 7 al (.int x1 :: .int x0 :: r) M Q = if x1 ≤ x0 then WP X d 7 26 al r M Q else WP X d 7 10 al r M Q := WP_ic_ge (t := 26) (by decide +kernel : decode (mm_b 7) 7 = .ok (.if_icmp .ge 19, 3)) rfl
theorem w_7_10 {l1 : Option Value} {l2 : Option Value} {x0 : Nat} : WP X d 7 10 [some (.ref x0), l1, l2] r M Q = WP X d 7 11 [some (.ref x0), l1, l2] (.ref x0 :: r) M Q := WP_ld (by decide +kernel : decode (mm_b 7) 10 = .ok (.aload_n 0, 1)) rfl (fun _ => rfl) (fun _ => rfl) rfl rfl
theorem w_7_11 {x0 : Nat} : WP X d 7 11 al (.ref x0 :: r) M Q = mm_fg (M.2.2 x0) 1 1 (fun v => WP X d 7 14 al (v :: r) M Q) := WP_get (by decide +kernel : decode (mm_b 7) 11 = .ok (.getfield 13, 3)) (by decide +kernel)
theorem w_7_14 {l0 : Option Value} {l1 : Option Value} {x0 : Int32} : WP X d 7 14 [l0, l1, some (.int x0)] r M Q = WP X d 7 15 [l0, l1, some (.int x0)] (.int x0 :: r) M Q := WP_ld (by decide +kernel : decode (mm_b 7) 14 = .ok (.iload_n 2, 1)) rfl (fun _ => rfl) (fun _ => rfl) rfl rfl
theorem w_7_15 {a0 : Nat} {x0 : Int32} : WP X d 7 15 al (.int x0 :: .ref a0 :: r) M Q = mm_ai X a0 (M.2.2 a0) x0 (fun x => WP X d 7 16 al (.int x :: r) M Q) := WP_iaload (by decide +kernel : decode (mm_b 7) 15 = .ok (.iaload, 1))
theorem w_7_16 {l0 : Option Value} {l2 : Option Value} {x0 : Int32} : WP X d 7 16 [l0, some (.int x0), l2] r M Q = WP X d 7 17 [l0, some (.int x0), l2] (.int x0 :: r) M Q := WP_ld (by decide +kernel : decode (mm_b 7) 16 = .ok (.iload_n 1, 1)) rfl (fun _ => rfl) (fun _ => rfl) rfl rfl
theorem w_7_17 {x0 : Int32} {x1 : Int32} : WP X d 7 17 al (.int x1 :: .int x0 :: r) M Q = if x0 = x1 then WP X d 7 26 al r M Q else WP X d 7 20 al r M Q := WP_ic_eq (t := 26) (by decide +kernel : decode (mm_b 7) 17 = .ok (.if_icmp .eq 9, 3)) rfl
theorem w_7_20 {l0 : Option Value} {l1 : Option Value} {x0 : Int32} : WP X d 7 20 [l0, l1, some (.int x0)] r M Q = WP X d 7 23 [l0, mm_k l1, some (.int (x0 + nI 1))] r M Q := WP_inc2 (v := nI 1) (by decide +kernel : decode (mm_b 7) 20 = .ok (.iinc 2 1, 3)) (by decide +kernel) rfl rfl
theorem w_7_23  : WP X d 7 23 al r M Q = WP X d 7 2 al r M Q := WP_brr (by decide +kernel : decode (mm_b 7) 23 = .ok (.goto (-21), 3)) rfl rfl
theorem w_7_26 {l0 : Option Value} {l1 : Option Value} {x0 : Int32} : WP X d 7 26 [l0, l1, some (.int x0)] r M Q = WP X d 7 27 [l0, l1, some (.int x0)] (.int x0 :: r) M Q := WP_ld (by decide +kernel : decode (mm_b 7) 26 = .ok (.iload_n 2, 1)) rfl (fun _ => rfl) (fun _ => rfl) rfl rfl
theorem w_7_27 {x0 : Int32} : WP X d 7 27 al [.int x0] M Q = Q (.inl (some (.int x0))) M := WP_iret (by decide +kernel : decode (mm_b 7) 27 = .ok (.ireturn, 1)) (by decide +kernel)
-- St_startWith
theorem w_8_0 {l0 : Option Value} {l2 : Option Value} {x0 : Nat} : WP X d 8 0 [l0, some (.ref x0), l2] r M Q = WP X d 8 1 [l0, some (.ref x0), l2] (.ref x0 :: r) M Q := WP_ld (by decide +kernel : decode (mm_b 8) 0 = .ok (.aload_n 1, 1)) rfl (fun _ => rfl) (fun _ => rfl) rfl rfl
theorem w_8_1  : WP X d 8 1 al r M Q = WP X d 8 2 al (.int (nI 0) :: r) M Q := WP_iconst (v := nI 0) (by decide +kernel : decode (mm_b 8) 1 = .ok (.iconst 0, 1)) (by decide +kernel)
theorem w_8_2 {l1 : Option Value} {l2 : Option Value} {x0 : Nat} : WP X d 8 2 [some (.ref x0), l1, l2] r M Q = WP X d 8 3 [some (.ref x0), l1, l2] (.ref x0 :: r) M Q := WP_ld (by decide +kernel : decode (mm_b 8) 2 = .ok (.aload_n 0, 1)) rfl (fun _ => rfl) (fun _ => rfl) rfl rfl
theorem w_8_3 {x0 : Nat} : WP X d 8 3 al (.ref x0 :: r) M Q = mm_fg (M.2.2 x0) 1 0 (fun v => WP X d 8 6 al (v :: r) M Q) := WP_get (by decide +kernel : decode (mm_b 8) 3 = .ok (.getfield 7, 3)) (by decide +kernel)
theorem w_8_6  : WP X d 8 6 al r M Q = WP X d 8 7 al (.int (nI 0) :: r) M Q := WP_iconst (v := nI 0) (by decide +kernel : decode (mm_b 8) 6 = .ok (.iconst 0, 1)) (by decide +kernel)
theorem w_8_7 {l0 : Option Value} {l1 : Option Value} {x0 : Int32} : WP X d 8 7 [l0, l1, some (.int x0)] r M Q = WP X d 8 8 [l0, l1, some (.int x0)] (.int x0 :: r) M Q := WP_ld (by decide +kernel : decode (mm_b 8) 7 = .ok (.iload_n 2, 1)) rfl (fun _ => rfl) (fun _ => rfl) rfl rfl
theorem w_8_8 {v0 : Nat} {v1 : Int32} {v2 : Nat} {v3 : Int32} {v4 : Int32} : WP X (d + 1) 8 8 al [.int v4, .int v3, .ref v2, .int v1, .ref v0] M Q = mm_cp (M.2.2 v0) (M.2.2 v2) v1 v3 v4 (fun o => WP X (d + 1) 8 11 al [] (mm_set M v2 o) Q) := WP_copy (by decide +kernel : decode (mm_b 8) 8 = .ok (.invokestatic 19, 3)) (by decide +kernel) (by decide +kernel) (Nat.le_of_ble_eq_true rfl)
theorem w_8_11 {l1 : Option Value} {l2 : Option Value} {x0 : Nat} : WP X d 8 11 [some (.ref x0), l1, l2] r M Q = WP X d 8 12 [some (.ref x0), l1, l2] (.ref x0 :: r) M Q := WP_ld (by decide +kernel : decode (mm_b 8) 11 = .ok (.aload_n 0, 1)) rfl (fun _ => rfl) (fun _ => rfl) rfl rfl
theorem w_8_12 {l0 : Option Value} {l1 : Option Value} {x0 : Int32} : WP X d 8 12 [l0, l1, some (.int x0)] r M Q = WP X d 8 13 [l0, l1, some (.int x0)] (.int x0 :: r) M Q := WP_ld (by decide +kernel : decode (mm_b 8) 12 = .ok (.iload_n 2, 1)) rfl (fun _ => rfl) (fun _ => rfl) rfl rfl
theorem w_8_13 {a0 : Nat} {x0 : Int32} : WP X d 8 13 al (.int x0 :: .ref a0 :: r) M Q = mm_fp (M.2.2 a0) 1 3 (.int x0) (fun o => WP X d 8 16 al r (mm_set M a0 o) Q) := WP_put (by decide +kernel : decode (mm_b 8) 13 = .ok (.putfield 25, 3)) (by decide +kernel) rfl (by decide +kernel)
theorem w_8_16  : WP X d 8 16 al [] M Q = Q (.inl none) M := WP_vret (by decide +kernel : decode (mm_b 8) 16 = .ok (.return_, 1)) (by decide +kernel)
-- St_isFull
theorem w_9_0 {x0 : Nat} : WP X d 9 0 [some (.ref x0)] r M Q = WP X d 9 1 [some (.ref x0)] (.ref x0 :: r) M Q := WP_ld (by decide +kernel : decode (mm_b 9) 0 = .ok (.aload_n 0, 1)) rfl (fun _ => rfl) (fun _ => rfl) rfl rfl
theorem w_9_1 {x0 : Nat} : WP X d 9 1 al (.ref x0 :: r) M Q = mm_fg (M.2.2 x0) 1 3 (fun v => WP X d 9 4 al (v :: r) M Q) := WP_get (by decide +kernel : decode (mm_b 9) 1 = .ok (.getfield 25, 3)) (by decide +kernel)
theorem w_9_4 {x0 : Nat} : WP X d 9 4 [some (.ref x0)] r M Q = WP X d 9 5 [some (.ref x0)] (.ref x0 :: r) M Q := WP_ld (by decide +kernel : decode (mm_b 9) 4 = .ok (.aload_n 0, 1)) rfl (fun _ => rfl) (fun _ => rfl) rfl rfl
theorem w_9_5 {x0 : Nat} : WP X d 9 5 al (.ref x0 :: r) M Q = mm_fg (M.2.2 x0) 1 0 (fun v => WP X d 9 8 al (v :: r) M Q) := WP_get (by decide +kernel : decode (mm_b 9) 5 = .ok (.getfield 7, 3)) (by decide +kernel)
theorem w_9_8 {a0 : Nat} : WP X d 9 8 al (.ref a0 :: r) M Q = mm_ln X a0 (M.2.2 a0) (fun x => WP X d 9 9 al (.int x :: r) M Q) := WP_alen (by decide +kernel : decode (mm_b 9) 8 = .ok (.arraylength, 1))
theorem w_9_9 {x0 : Int32} {x1 : Int32} : WP X d 9 9 al (.int x1 :: .int x0 :: r) M Q = if ¬ x0 = x1 then WP X d 9 16 al r M Q else WP X d 9 12 al r M Q := WP_ic_ne (t := 16) (by decide +kernel : decode (mm_b 9) 9 = .ok (.if_icmp .ne 7, 3)) rfl
theorem w_9_12  : WP X d 9 12 al r M Q = WP X d 9 13 al (.int (nI 1) :: r) M Q := WP_iconst (v := nI 1) (by decide +kernel : decode (mm_b 9) 12 = .ok (.iconst 1, 1)) (by decide +kernel)
theorem w_9_13  : WP X d 9 13 al r M Q = WP X d 9 17 al r M Q := WP_brr (by decide +kernel : decode (mm_b 9) 13 = .ok (.goto 4, 3)) rfl rfl
theorem w_9_16  : WP X d 9 16 al r M Q = WP X d 9 17 al (.int (nI 0) :: r) M Q := WP_iconst (v := nI 0) (by decide +kernel : decode (mm_b 9) 16 = .ok (.iconst 0, 1)) (by decide +kernel)
theorem w_9_17 {x0 : Int32} : WP X d 9 17 al [.int x0] M Q = ((x0 = 0 ∨ x0 = 1) ∧ Q (.inl (some (.int x0))) M) := WP_zret (by decide +kernel : decode (mm_b 9) 17 = .ok (.ireturn, 1)) (by decide +kernel)
-- St_putIn
theorem w_10_0 {l1 : Option Value} {l2 : Option Value} {l3 : Option Value} {l4 : Option Value} {x0 : Nat} : WP X d 10 0 [some (.ref x0), l1, l2, l3, l4] r M Q = WP X d 10 1 [some (.ref x0), l1, l2, l3, l4] (.ref x0 :: r) M Q := WP_ld (by decide +kernel : decode (mm_b 10) 0 = .ok (.aload_n 0, 1)) rfl (fun _ => rfl) (fun _ => rfl) rfl rfl
theorem w_10_1 {l0 : Option Value} {l2 : Option Value} {l3 : Option Value} {l4 : Option Value} {x0 : Int32} : WP X d 10 1 [l0, some (.int x0), l2, l3, l4] r M Q = WP X d 10 2 [l0, some (.int x0), l2, l3, l4] (.int x0 :: r) M Q := WP_ld (by decide +kernel : decode (mm_b 10) 1 = .ok (.iload_n 1, 1)) rfl (fun _ => rfl) (fun _ => rfl) rfl rfl
theorem w_10_2 {v0 : Nat} {v1 : Int32} : WP X (d + 1) 10 2 al [.int v1, .ref v0] M Q = (mm_rc (M.2.2 v0) 1 ∧ WPC X d 7 [.ref v0, .int v1] M (mm_K (fun v M => WP X (d + 1) 10 5 al (v.toList ++ []) M Q) (mm_G 10 2 7 Q))) := WP_callV (k' := 7) (r := []) (vs := [.int v1]) (by decide +kernel : decode (mm_b 10) 2 = .ok (.invokevirtual 29, 3)) (by decide +kernel) (by decide +kernel) rfl rfl rfl (Nat.le_of_ble_eq_true rfl)
theorem w_10_5 {l0 : Option Value} {l1 : Option Value} {l3 : Option Value} {l4 : Option Value} {x0 : Int32} : WP X d 10 5 [l0, l1, some (.int x0), l3, l4] r M Q = WP X d 10 6 [l0, l1, some (.int x0), l3, l4] (.int x0 :: r) M Q := WP_ld (by decide +kernel : decode (mm_b 10) 5 = .ok (.iload_n 2, 1)) rfl (fun _ => rfl) (fun _ => rfl) rfl rfl
theorem w_10_6 {x0 : Int32} {x1 : Int32} : WP X d 10 6 al (.int x1 :: .int x0 :: r) M Q = WP X d 10 7 al (.int (x0 + x1) :: r) M Q := WP_pu (by decide +kernel : decode (mm_b 10) 6 = .ok (.iadd, 1)) rfl
theorem w_10_7 {l0 : Option Value} {l1 : Option Value} {l2 : Option Value} {l3 : Option Value} {l4 : Option Value} {x0 : Int32} : WP X d 10 7 [l0, l1, l2, l3, l4] (.int x0 :: r) M Q = WP X d 10 9 [l0, l1, l2, mm_k l3, some (.int x0)] r M Q := WP_so (by decide +kernel : decode (mm_b 10) 7 = .ok (.istore 4, 2)) rfl (fun _ => rfl) (fun _ => rfl) rfl rfl (Nat.le_of_ble_eq_true rfl)
theorem w_10_9 {l1 : Option Value} {l2 : Option Value} {l3 : Option Value} {l4 : Option Value} {x0 : Nat} : WP X d 10 9 [some (.ref x0), l1, l2, l3, l4] r M Q = WP X d 10 10 [some (.ref x0), l1, l2, l3, l4] (.ref x0 :: r) M Q := WP_ld (by decide +kernel : decode (mm_b 10) 9 = .ok (.aload_n 0, 1)) rfl (fun _ => rfl) (fun _ => rfl) rfl rfl
theorem w_10_10 {x0 : Nat} : WP X d 10 10 al (.ref x0 :: r) M Q = mm_fg (M.2.2 x0) 1 0 (fun v => WP X d 10 13 al (v :: r) M Q) := WP_get (by decide +kernel : decode (mm_b 10) 10 = .ok (.getfield 7, 3)) (by decide +kernel)
theorem w_10_13 {l0 : Option Value} {l1 : Option Value} {l2 : Option Value} {l3 : Option Value} {x0 : Int32} : WP X d 10 13 [l0, l1, l2, l3, some (.int x0)] r M Q = WP X d 10 15 [l0, l1, l2, l3, some (.int x0)] (.int x0 :: r) M Q := WP_ld (by decide +kernel : decode (mm_b 10) 13 = .ok (.iload 4, 2)) rfl (fun _ => rfl) (fun _ => rfl) rfl rfl
theorem w_10_15 {l1 : Option Value} {l2 : Option Value} {l3 : Option Value} {l4 : Option Value} {x0 : Nat} : WP X d 10 15 [some (.ref x0), l1, l2, l3, l4] r M Q = WP X d 10 16 [some (.ref x0), l1, l2, l3, l4] (.ref x0 :: r) M Q := WP_ld (by decide +kernel : decode (mm_b 10) 15 = .ok (.aload_n 0, 1)) rfl (fun _ => rfl) (fun _ => rfl) rfl rfl
theorem w_10_16 {x0 : Nat} : WP X d 10 16 al (.ref x0 :: r) M Q = mm_fg (M.2.2 x0) 1 0 (fun v => WP X d 10 19 al (v :: r) M Q) := WP_get (by decide +kernel : decode (mm_b 10) 16 = .ok (.getfield 7, 3)) (by decide +kernel)
theorem w_10_19 {l0 : Option Value} {l1 : Option Value} {l2 : Option Value} {l3 : Option Value} {x0 : Int32} : WP X d 10 19 [l0, l1, l2, l3, some (.int x0)] r M Q = WP X d 10 21 [l0, l1, l2, l3, some (.int x0)] (.int x0 :: r) M Q := WP_ld (by decide +kernel : decode (mm_b 10) 19 = .ok (.iload 4, 2)) rfl (fun _ => rfl) (fun _ => rfl) rfl rfl
theorem w_10_21  : WP X d 10 21 al r M Q = WP X d 10 22 al (.int (nI 1) :: r) M Q := WP_iconst (v := nI 1) (by decide +kernel : decode (mm_b 10) 21 = .ok (.iconst 1, 1)) (by decide +kernel)
theorem w_10_22 {x0 : Int32} {x1 : Int32} : WP X d 10 22 al (.int x1 :: .int x0 :: r) M Q = WP X d 10 23 al (.int (x0 + x1) :: r) M Q := WP_pu (by decide +kernel : decode (mm_b 10) 22 = .ok (.iadd, 1)) rfl
theorem w_10_23 {l1 : Option Value} {l2 : Option Value} {l3 : Option Value} {l4 : Option Value} {x0 : Nat} : WP X d 10 23 [some (.ref x0), l1, l2, l3, l4] r M Q = WP X d 10 24 [some (.ref x0), l1, l2, l3, l4] (.ref x0 :: r) M Q := WP_ld (by decide +kernel : decode (mm_b 10) 23 = .ok (.aload_n 0, 1)) rfl (fun _ => rfl) (fun _ => rfl) rfl rfl
theorem w_10_24 {x0 : Nat} : WP X d 10 24 al (.ref x0 :: r) M Q = mm_fg (M.2.2 x0) 1 3 (fun v => WP X d 10 27 al (v :: r) M Q) := WP_get (by decide +kernel : decode (mm_b 10) 24 = .ok (.getfield 25, 3)) (by decide +kernel)
theorem w_10_27 {l0 : Option Value} {l1 : Option Value} {l2 : Option Value} {l3 : Option Value} {x0 : Int32} : WP X d 10 27 [l0, l1, l2, l3, some (.int x0)] r M Q = WP X d 10 29 [l0, l1, l2, l3, some (.int x0)] (.int x0 :: r) M Q := WP_ld (by decide +kernel : decode (mm_b 10) 27 = .ok (.iload 4, 2)) rfl (fun _ => rfl) (fun _ => rfl) rfl rfl
theorem w_10_29 {x0 : Int32} {x1 : Int32} : WP X d 10 29 al (.int x1 :: .int x0 :: r) M Q = WP X d 10 30 al (.int (x0 - x1) :: r) M Q := WP_pu (by decide +kernel : decode (mm_b 10) 29 = .ok (.isub, 1)) rfl
theorem w_10_30 {v0 : Nat} {v1 : Int32} {v2 : Nat} {v3 : Int32} {v4 : Int32} : WP X (d + 1) 10 30 al [.int v4, .int v3, .ref v2, .int v1, .ref v0] M Q = mm_cp (M.2.2 v0) (M.2.2 v2) v1 v3 v4 (fun o => WP X (d + 1) 10 33 al [] (mm_set M v2 o) Q) := WP_copy (by decide +kernel : decode (mm_b 10) 30 = .ok (.invokestatic 19, 3)) (by decide +kernel) (by decide +kernel) (Nat.le_of_ble_eq_true rfl)
theorem w_10_33 {l1 : Option Value} {l2 : Option Value} {l3 : Option Value} {l4 : Option Value} {x0 : Nat} : WP X d 10 33 [some (.ref x0), l1, l2, l3, l4] r M Q = WP X d 10 34 [some (.ref x0), l1, l2, l3, l4] (.ref x0 :: r) M Q := WP_ld (by decide +kernel : decode (mm_b 10) 33 = .ok (.aload_n 0, 1)) rfl (fun _ => rfl) (fun _ => rfl) rfl rfl
theorem w_10_34 {x0 : Nat} : WP X d 10 34 al (.ref x0 :: r) M Q = mm_fg (M.2.2 x0) 1 1 (fun v => WP X d 10 37 al (v :: r) M Q) := WP_get (by decide +kernel : decode (mm_b 10) 34 = .ok (.getfield 13, 3)) (by decide +kernel)
theorem w_10_37 {l0 : Option Value} {l1 : Option Value} {l2 : Option Value} {l3 : Option Value} {x0 : Int32} : WP X d 10 37 [l0, l1, l2, l3, some (.int x0)] r M Q = WP X d 10 39 [l0, l1, l2, l3, some (.int x0)] (.int x0 :: r) M Q := WP_ld (by decide +kernel : decode (mm_b 10) 37 = .ok (.iload 4, 2)) rfl (fun _ => rfl) (fun _ => rfl) rfl rfl
theorem w_10_39 {l1 : Option Value} {l2 : Option Value} {l3 : Option Value} {l4 : Option Value} {x0 : Nat} : WP X d 10 39 [some (.ref x0), l1, l2, l3, l4] r M Q = WP X d 10 40 [some (.ref x0), l1, l2, l3, l4] (.ref x0 :: r) M Q := WP_ld (by decide +kernel : decode (mm_b 10) 39 = .ok (.aload_n 0, 1)) rfl (fun _ => rfl) (fun _ => rfl) rfl rfl
theorem w_10_40 {x0 : Nat} : WP X d 10 40 al (.ref x0 :: r) M Q = mm_fg (M.2.2 x0) 1 1 (fun v => WP X d 10 43 al (v :: r) M Q) := WP_get (by decide +kernel : decode (mm_b 10) 40 = .ok (.getfield 13, 3)) (by decide +kernel)
theorem w_10_43 {l0 : Option Value} {l1 : Option Value} {l2 : Option Value} {l3 : Option Value} {x0 : Int32} : WP X d 10 43 [l0, l1, l2, l3, some (.int x0)] r M Q = WP X d 10 45 [l0, l1, l2, l3, some (.int x0)] (.int x0 :: r) M Q := WP_ld (by decide +kernel : decode (mm_b 10) 43 = .ok (.iload 4, 2)) rfl (fun _ => rfl) (fun _ => rfl) rfl rfl
theorem w_10_45  : WP X d 10 45 al r M Q = WP X d 10 46 al (.int (nI 1) :: r) M Q := WP_iconst (v := nI 1) (by decide +kernel : decode (mm_b 10) 45 = .ok (.iconst 1, 1)) (by decide +kernel)
theorem w_10_46 {x0 : Int32} {x1 : Int32} : WP X d 10 46 al (.int x1 :: .int x0 :: r) M Q = WP X d 10 47 al (.int (x0 + x1) :: r) M Q := WP_pu (by decide +kernel : decode (mm_b 10) 46 = .ok (.iadd, 1)) rfl
theorem w_10_47 {l1 : Option Value} {l2 : Option Value} {l3 : Option Value} {l4 : Option Value} {x0 : Nat} : WP X d 10 47 [some (.ref x0), l1, l2, l3, l4] r M Q = WP X d 10 48 [some (.ref x0), l1, l2, l3, l4] (.ref x0 :: r) M Q := WP_ld (by decide +kernel : decode (mm_b 10) 47 = .ok (.aload_n 0, 1)) rfl (fun _ => rfl) (fun _ => rfl) rfl rfl
theorem w_10_48 {x0 : Nat} : WP X d 10 48 al (.ref x0 :: r) M Q = mm_fg (M.2.2 x0) 1 3 (fun v => WP X d 10 51 al (v :: r) M Q) := WP_get (by decide +kernel : decode (mm_b 10) 48 = .ok (.getfield 25, 3)) (by decide +kernel)
theorem w_10_51 {l0 : Option Value} {l1 : Option Value} {l2 : Option Value} {l3 : Option Value} {x0 : Int32} : WP X d 10 51 [l0, l1, l2, l3, some (.int x0)] r M Q = WP X d 10 53 [l0, l1, l2, l3, some (.int x0)] (.int x0 :: r) M Q := WP_ld (by decide +kernel : decode (mm_b 10) 51 = .ok (.iload 4, 2)) rfl (fun _ => rfl) (fun _ => rfl) rfl rfl
theorem w_10_53 {x0 : Int32} {x1 : Int32} : WP X d 10 53 al (.int x1 :: .int x0 :: r) M Q = WP X d 10 54 al (.int (x0 - x1) :: r) M Q := WP_pu (by decide +kernel : decode (mm_b 10) 53 = .ok (.isub, 1)) rfl
theorem w_10_54 {v0 : Nat} {v1 : Int32} {v2 : Nat} {v3 : Int32} {v4 : Int32} : WP X (d + 1) 10 54 al [.int v4, .int v3, .ref v2, .int v1, .ref v0] M Q = mm_cp (M.2.2 v0) (M.2.2 v2) v1 v3 v4 (fun o => WP X (d + 1) 10 57 al [] (mm_set M v2 o) Q) := WP_copy (by decide +kernel : decode (mm_b 10) 54 = .ok (.invokestatic 19, 3)) (by decide +kernel) (by decide +kernel) (Nat.le_of_ble_eq_true rfl)
theorem w_10_57 {l1 : Option Value} {l2 : Option Value} {l3 : Option Value} {l4 : Option Value} {x0 : Nat} : WP X d 10 57 [some (.ref x0), l1, l2, l3, l4] r M Q = WP X d 10 58 [some (.ref x0), l1, l2, l3, l4] (.ref x0 :: r) M Q := WP_ld (by decide +kernel : decode (mm_b 10) 57 = .ok (.aload_n 0, 1)) rfl (fun _ => rfl) (fun _ => rfl) rfl rfl
theorem w_10_58 {x0 : Nat} : WP X d 10 58 al (.ref x0 :: r) M Q = mm_fg (M.2.2 x0) 1 0 (fun v => WP X d 10 61 al (v :: r) M Q) := WP_get (by decide +kernel : decode (mm_b 10) 58 = .ok (.getfield 7, 3)) (by decide +kernel)
theorem w_10_61 {l0 : Option Value} {l1 : Option Value} {l2 : Option Value} {l3 : Option Value} {x0 : Int32} : WP X d 10 61 [l0, l1, l2, l3, some (.int x0)] r M Q = WP X d 10 63 [l0, l1, l2, l3, some (.int x0)] (.int x0 :: r) M Q := WP_ld (by decide +kernel : decode (mm_b 10) 61 = .ok (.iload 4, 2)) rfl (fun _ => rfl) (fun _ => rfl) rfl rfl
theorem w_10_63 {l0 : Option Value} {l1 : Option Value} {l2 : Option Value} {l4 : Option Value} {x0 : Int32} : WP X d 10 63 [l0, l1, l2, some (.int x0), l4] r M Q = WP X d 10 64 [l0, l1, l2, some (.int x0), l4] (.int x0 :: r) M Q := WP_ld (by decide +kernel : decode (mm_b 10) 63 = .ok (.iload_n 3, 1)) rfl (fun _ => rfl) (fun _ => rfl) rfl rfl
theorem w_10_64 {a0 : Nat} {x0 : Int32} {x1 : Int32} : WP X d 10 64 al (.int x1 :: .int x0 :: .ref a0 :: r) M Q = mm_si (M.2.2 a0) x0 x1 (fun o => WP X d 10 65 al r (mm_set M a0 o) Q) := WP_iastore (by decide +kernel : decode (mm_b 10) 64 = .ok (.iastore, 1))
theorem w_10_65 {l1 : Option Value} {l2 : Option Value} {l3 : Option Value} {l4 : Option Value} {x0 : Nat} : WP X d 10 65 [some (.ref x0), l1, l2, l3, l4] r M Q = WP X d 10 66 [some (.ref x0), l1, l2, l3, l4] (.ref x0 :: r) M Q := WP_ld (by decide +kernel : decode (mm_b 10) 65 = .ok (.aload_n 0, 1)) rfl (fun _ => rfl) (fun _ => rfl) rfl rfl
theorem w_10_66 {x0 : Nat} : WP X d 10 66 al (.ref x0 :: r) M Q = mm_fg (M.2.2 x0) 1 1 (fun v => WP X d 10 69 al (v :: r) M Q) := WP_get (by decide +kernel : decode (mm_b 10) 66 = .ok (.getfield 13, 3)) (by decide +kernel)
theorem w_10_69 {l0 : Option Value} {l1 : Option Value} {l2 : Option Value} {l3 : Option Value} {x0 : Int32} : WP X d 10 69 [l0, l1, l2, l3, some (.int x0)] r M Q = WP X d 10 71 [l0, l1, l2, l3, some (.int x0)] (.int x0 :: r) M Q := WP_ld (by decide +kernel : decode (mm_b 10) 69 = .ok (.iload 4, 2)) rfl (fun _ => rfl) (fun _ => rfl) rfl rfl
theorem w_10_71 {l0 : Option Value} {l2 : Option Value} {l3 : Option Value} {l4 : Option Value} {x0 : Int32} : WP X d 10 71 [l0, some (.int x0), l2, l3, l4] r M Q = WP X d 10 72 [l0, some (.int x0), l2, l3, l4] (.int x0 :: r) M Q := WP_ld (by decide +kernel : decode (mm_b 10) 71 = .ok (.iload_n 1, 1)) rfl (fun _ => rfl) (fun _ => rfl) rfl rfl
theorem w_10_72 {a0 : Nat} {x0 : Int32} {x1 : Int32} : WP X d 10 72 al (.int x1 :: .int x0 :: .ref a0 :: r) M Q = mm_si (M.2.2 a0) x0 x1 (fun o => WP X d 10 73 al r (mm_set M a0 o) Q) := WP_iastore (by decide +kernel : decode (mm_b 10) 72 = .ok (.iastore, 1))
theorem w_10_73 {l1 : Option Value} {l2 : Option Value} {l3 : Option Value} {l4 : Option Value} {x0 : Nat} : WP X d 10 73 [some (.ref x0), l1, l2, l3, l4] r M Q = WP X d 10 74 [some (.ref x0), l1, l2, l3, l4] (.ref x0 :: r) M Q := WP_ld (by decide +kernel : decode (mm_b 10) 73 = .ok (.aload_n 0, 1)) rfl (fun _ => rfl) (fun _ => rfl) rfl rfl
theorem w_10_74 {x0 : Nat} : WP X d 10 74 al (.ref x0 :: r) M Q = WP X d 10 75 al (.ref x0 :: .ref x0 :: r) M Q := WP_pu (by decide +kernel : decode (mm_b 10) 74 = .ok (.dup, 1)) rfl
theorem w_10_75 {x0 : Nat} : WP X d 10 75 al (.ref x0 :: r) M Q = mm_fg (M.2.2 x0) 1 3 (fun v => WP X d 10 78 al (v :: r) M Q) := WP_get (by decide +kernel : decode (mm_b 10) 75 = .ok (.getfield 25, 3)) (by decide +kernel)
theorem w_10_78  : WP X d 10 78 al r M Q = WP X d 10 79 al (.int (nI 1) :: r) M Q := WP_iconst (v := nI 1) (by decide +kernel : decode (mm_b 10) 78 = .ok (.iconst 1, 1)) (by decide +kernel)
theorem w_10_79 {x0 : Int32} {x1 : Int32} : WP X d 10 79 al (.int x1 :: .int x0 :: r) M Q = WP X d 10 80 al (.int (x0 + x1) :: r) M Q := WP_pu (by decide +kernel : decode (mm_b 10) 79 = .ok (.iadd, 1)) rfl
theorem w_10_80 {a0 : Nat} {x0 : Int32} : WP X d 10 80 al (.int x0 :: .ref a0 :: r) M Q = mm_fp (M.2.2 a0) 1 3 (.int x0) (fun o => WP X d 10 83 al r (mm_set M a0 o) Q) := WP_put (by decide +kernel : decode (mm_b 10) 80 = .ok (.putfield 25, 3)) (by decide +kernel) rfl (by decide +kernel)
theorem w_10_83 {l1 : Option Value} {l2 : Option Value} {l3 : Option Value} {l4 : Option Value} {x0 : Nat} : WP X d 10 83 [some (.ref x0), l1, l2, l3, l4] r M Q = WP X d 10 84 [some (.ref x0), l1, l2, l3, l4] (.ref x0 :: r) M Q := WP_ld (by decide +kernel : decode (mm_b 10) 83 = .ok (.aload_n 0, 1)) rfl (fun _ => rfl) (fun _ => rfl) rfl rfl
theorem w_10_84 {x0 : Nat} : WP X d 10 84 al (.ref x0 :: r) M Q = mm_fg (M.2.2 x0) 1 2 (fun v => WP X d 10 87 al (v :: r) M Q) := WP_get (by decide +kernel : decode (mm_b 10) 84 = .ok (.getfield 16, 3)) (by decide +kernel)
theorem w_10_87 {l0 : Option Value} {l2 : Option Value} {l3 : Option Value} {l4 : Option Value} {x0 : Int32} : WP X d 10 87 [l0, some (.int x0), l2, l3, l4] r M Q = WP X d 10 88 [l0, some (.int x0), l2, l3, l4] (.int x0 :: r) M Q := WP_ld (by decide +kernel : decode (mm_b 10) 87 = .ok (.iload_n 1, 1)) rfl (fun _ => rfl) (fun _ => rfl) rfl rfl
theorem w_10_88 {x0 : Nat} {x1 : Int32} : WP X d 10 88 al (.int x1 :: .ref x0 :: r) M Q = WP X d 10 89 al (.int x1 :: .ref x0 :: .int x1 :: .ref x0 :: r) M Q := WP_pu (by decide +kernel : decode (mm_b 10) 88 = .ok (.dup2, 1)) rfl
theorem w_10_89 {a0 : Nat} {x0 : Int32} : WP X d 10 89 al (.int x0 :: .ref a0 :: r) M Q = mm_ai X a0 (M.2.2 a0) x0 (fun x => WP X d 10 90 al (.int x :: r) M Q) := WP_iaload (by decide +kernel : decode (mm_b 10) 89 = .ok (.iaload, 1))
theorem w_10_90  : WP X d 10 90 al r M Q = WP X d 10 91 al (.int (nI 1) :: r) M Q := WP_iconst (v := nI 1) (by decide +kernel : decode (mm_b 10) 90 = .ok (.iconst 1, 1)) (by decide +kernel)
theorem w_10_91 {x0 : Int32} {x1 : Int32} : WP X d 10 91 al (.int x1 :: .int x0 :: r) M Q = WP X d 10 92 al (.int (x0 + x1) :: r) M Q := WP_pu (by decide +kernel : decode (mm_b 10) 91 = .ok (.iadd, 1)) rfl
theorem w_10_92 {a0 : Nat} {x0 : Int32} {x1 : Int32} : WP X d 10 92 al (.int x1 :: .int x0 :: .ref a0 :: r) M Q = mm_si (M.2.2 a0) x0 x1 (fun o => WP X d 10 93 al r (mm_set M a0 o) Q) := WP_iastore (by decide +kernel : decode (mm_b 10) 92 = .ok (.iastore, 1))
theorem w_10_93  : WP X d 10 93 al [] M Q = Q (.inl none) M := WP_vret (by decide +kernel : decode (mm_b 10) 93 = .ok (.return_, 1)) (by decide +kernel)
-- St_replace
theorem w_11_0 {l1 : Option Value} {l2 : Option Value} {l3 : Option Value} {l4 : Option Value} {l5 : Option Value} {x0 : Nat} : WP X d 11 0 [some (.ref x0), l1, l2, l3, l4, l5] r M Q = WP X d 11 1 [some (.ref x0), l1, l2, l3, l4, l5] (.ref x0 :: r) M Q := WP_ld (by decide +kernel : decode (mm_b 11) 0 = .ok (.aload_n 0, 1)) rfl (fun _ => rfl) (fun _ => rfl) rfl rfl
theorem w_11_1 {l0 : Option Value} {l2 : Option Value} {l3 : Option Value} {l4 : Option Value} {l5 : Option Value} {x0 : Int32} : WP X d 11 1 [l0, some (.int x0), l2, l3, l4, l5] r M Q = WP X d 11 2 [l0, some (.int x0), l2, l3, l4, l5] (.int x0 :: r) M Q := WP_ld (by decide +kernel : decode (mm_b 11) 1 = .ok (.iload_n 1, 1)) rfl (fun _ => rfl) (fun _ => rfl) rfl rfl
theorem w_11_2 {v0 : Nat} {v1 : Int32} : WP X (d + 1) 11 2 al [.int v1, .ref v0] M Q = (mm_rc (M.2.2 v0) 1 ∧ WPC X d 7 [.ref v0, .int v1] M (mm_K (fun v M => WP X (d + 1) 11 5 al (v.toList ++ []) M Q) (mm_G 11 2 7 Q))) := WP_callV (k' := 7) (r := []) (vs := [.int v1]) (by decide +kernel : decode (mm_b 11) 2 = .ok (.invokevirtual 29, 3)) (by decide +kernel) (by decide +kernel) rfl rfl rfl (Nat.le_of_ble_eq_true rfl)
theorem w_11_5 {l0 : Option Value} {l1 : Option Value} {l3 : Option Value} {l4 : Option Value} {l5 : Option Value} {x0 : Int32} : WP X d 11 5 [l0, l1, some (.int x0), l3, l4, l5] r M Q = WP X d 11 6 [l0, l1, some (.int x0), l3, l4, l5] (.int x0 :: r) M Q := WP_ld (by decide +kernel : decode (mm_b 11) 5 = .ok (.iload_n 2, 1)) rfl (fun _ => rfl) (fun _ => rfl) rfl rfl
theorem w_11_6 {x0 : Int32} {x1 : Int32} : WP X d 11 6 al (.int x1 :: .int x0 :: r) M Q = WP X d 11 7 al (.int (x0 + x1) :: r) M Q := WP_pu (by decide +kernel : decode (mm_b 11) 6 = .ok (.iadd, 1)) rfl
theorem w_11_7 {l0 : Option Value} {l1 : Option Value} {l2 : Option Value} {l3 : Option Value} {l4 : Option Value} {l5 : Option Value} {x0 : Int32} : WP X d 11 7 [l0, l1, l2, l3, l4, l5] (.int x0 :: r) M Q = WP X d 11 9 [l0, l1, l2, mm_k l3, some (.int x0), l5] r M Q := WP_so (by decide +kernel : decode (mm_b 11) 7 = .ok (.istore 4, 2)) rfl (fun _ => rfl) (fun _ => rfl) rfl rfl (Nat.le_of_ble_eq_true rfl)
theorem w_11_9 {l1 : Option Value} {l2 : Option Value} {l3 : Option Value} {l4 : Option Value} {l5 : Option Value} {x0 : Nat} : WP X d 11 9 [some (.ref x0), l1, l2, l3, l4, l5] r M Q = WP X d 11 10 [some (.ref x0), l1, l2, l3, l4, l5] (.ref x0 :: r) M Q := WP_ld (by decide +kernel : decode (mm_b 11) 9 = .ok (.aload_n 0, 1)) rfl (fun _ => rfl) (fun _ => rfl) rfl rfl
theorem w_11_10 {x0 : Nat} : WP X d 11 10 al (.ref x0 :: r) M Q = mm_fg (M.2.2 x0) 1 0 (fun v => WP X d 11 13 al (v :: r) M Q) := WP_get (by decide +kernel : decode (mm_b 11) 10 = .ok (.getfield 7, 3)) (by decide +kernel)
theorem w_11_13 {l0 : Option Value} {l1 : Option Value} {l2 : Option Value} {l3 : Option Value} {l5 : Option Value} {x0 : Int32} : WP X d 11 13 [l0, l1, l2, l3, some (.int x0), l5] r M Q = WP X d 11 15 [l0, l1, l2, l3, some (.int x0), l5] (.int x0 :: r) M Q := WP_ld (by decide +kernel : decode (mm_b 11) 13 = .ok (.iload 4, 2)) rfl (fun _ => rfl) (fun _ => rfl) rfl rfl
theorem w_11_15 {a0 : Nat} {x0 : Int32} : WP X d 11 15 al (.int x0 :: .ref a0 :: r) M Q = mm_ai X a0 (M.2.2 a0) x0 (fun x => WP X d 11 16 al (.int x :: r) M Q) := WP_iaload (by decide +kernel : decode (mm_b 11) 15 = .ok (.iaload, 1))
theorem w_11_16 {l0 : Option Value} {l1 : Option Value} {l2 : Option Value} {l3 : Option Value} {l4 : Option Value} {l5 : Option Value} {x0 : Int32} : WP X d 11 16 [l0, l1, l2, l3, l4, l5] (.int x0 :: r) M Q = WP X d 11 18 [l0, l1, l2, l3, mm_k l4, some (.int x0)] r M Q := WP_so (by decide +kernel : decode (mm_b 11) 16 = .ok (.istore 5, 2)) rfl (fun _ => rfl) (fun _ => rfl) rfl rfl (Nat.le_of_ble_eq_true rfl)
theorem w_11_18 {l1 : Option Value} {l2 : Option Value} {l3 : Option Value} {l4 : Option Value} {l5 : Option Value} {x0 : Nat} : WP X d 11 18 [some (.ref x0), l1, l2, l3, l4, l5] r M Q = WP X d 11 19 [some (.ref x0), l1, l2, l3, l4, l5] (.ref x0 :: r) M Q := WP_ld (by decide +kernel : decode (mm_b 11) 18 = .ok (.aload_n 0, 1)) rfl (fun _ => rfl) (fun _ => rfl) rfl rfl
theorem w_11_19 {x0 : Nat} : WP X d 11 19 al (.ref x0 :: r) M Q = mm_fg (M.2.2 x0) 1 0 (fun v => WP X d 11 22 al (v :: r) M Q) := WP_get (by decide +kernel : decode (mm_b 11) 19 = .ok (.getfield 7, 3)) (by decide +kernel)
theorem w_11_22 {l0 : Option Value} {l1 : Option Value} {l2 : Option Value} {l3 : Option Value} {l5 : Option Value} {x0 : Int32} : WP X d 11 22 [l0, l1, l2, l3, some (.int x0), l5] r M Q = WP X d 11 24 [l0, l1, l2, l3, some (.int x0), l5] (.int x0 :: r) M Q := WP_ld (by decide +kernel : decode (mm_b 11) 22 = .ok (.iload 4, 2)) rfl (fun _ => rfl) (fun _ => rfl) rfl rfl
theorem w_11_24 {l0 : Option Value} {l1 : Option Value} {l2 : Option Value} {l4 : Option Value} {l5 : Option Value} {x0 : Int32} : WP X d 11 24 [l0, l1, l2, some (.int x0), l4, l5] r M Q = WP X d 11 25 [l0, l1, l2, some (.int x0), l4, l5] (.int x0 :: r) M Q := WP_ld (by decide +kernel : decode (mm_b 11) 24 = .ok (.iload_n 3, 1)) rfl (fun _ => rfl) (fun _ => rfl) rfl rfl
theorem w_11_25 {a0 : Nat} {x0 : Int32} {x1 : Int32} : WP X d 11 25 al (.int x1 :: .int x0 :: .ref a0 :: r) M Q = mm_si (M.2.2 a0) x0 x1 (fun o => WP X d 11 26 al r (mm_set M a0 o) Q) := WP_iastore (by decide +kernel : decode (mm_b 11) 25 = .ok (.iastore, 1))
theorem w_11_26 {l0 : Option Value} {l1 : Option Value} {l2 : Option Value} {l3 : Option Value} {l4 : Option Value} {x0 : Int32} : WP X d 11 26 [l0, l1, l2, l3, l4, some (.int x0)] r M Q = WP X d 11 28 [l0, l1, l2, l3, l4, some (.int x0)] (.int x0 :: r) M Q := WP_ld (by decide +kernel : decode (mm_b 11) 26 = .ok (.iload 5, 2)) rfl (fun _ => rfl) (fun _ => rfl) rfl rfl
theorem w_11_28 {x0 : Int32} : WP X d 11 28 al [.int x0] M Q = Q (.inl (some (.int x0))) M := WP_iret (by decide +kernel : decode (mm_b 11) 28 = .ok (.ireturn, 1)) (by decide +kernel)
-- St_takeOut
theorem w_12_0 {l1 : Option Value} {x0 : Nat} : WP X d 12 0 [some (.ref x0), l1] r M Q = WP X d 12 1 [some (.ref x0), l1] (.ref x0 :: r) M Q := WP_ld (by decide +kernel : decode (mm_b 12) 0 = .ok (.aload_n 0, 1)) rfl (fun _ => rfl) (fun _ => rfl) rfl rfl
theorem w_12_1 {x0 : Nat} : WP X d 12 1 al (.ref x0 :: r) M Q = mm_fg (M.2.2 x0) 1 2 (fun v => WP X d 12 4 al (v :: r) M Q) := WP_get (by decide +kernel : decode (mm_b 12) 1 = .ok (.getfield 16, 3)) (by decide +kernel)
theorem w_12_4 {l1 : Option Value} {x0 : Nat} : WP X d 12 4 [some (.ref x0), l1] r M Q = WP X d 12 5 [some (.ref x0), l1] (.ref x0 :: r) M Q := WP_ld (by decide +kernel : decode (mm_b 12) 4 = .ok (.aload_n 0, 1)) rfl (fun _ => rfl) (fun _ => rfl) rfl rfl
theorem w_12_5 {x0 : Nat} : WP X d 12 5 al (.ref x0 :: r) M Q = mm_fg (M.2.2 x0) 1 1 (fun v => WP X d 12 8 al (v :: r) M Q) := WP_get (by decide +kernel : decode (mm_b 12) 5 = .ok (.getfield 13, 3)) (by decide +kernel)
theorem w_12_8 {l0 : Option Value} {x0 : Int32} : WP X d 12 8 [l0, some (.int x0)] r M Q = WP X d 12 9 [l0, some (.int x0)] (.int x0 :: r) M Q := WP_ld (by decide +kernel : decode (mm_b 12) 8 = .ok (.iload_n 1, 1)) rfl (fun _ => rfl) (fun _ => rfl) rfl rfl
theorem w_12_9 {a0 : Nat} {x0 : Int32} : WP X d 12 9 al (.int x0 :: .ref a0 :: r) M Q = mm_ai X a0 (M.2.2 a0) x0 (fun x => WP X d 12 10 al (.int x :: r) M Q) := WP_iaload (by decide +kernel : decode (mm_b 12) 9 = .ok (.iaload, 1))
theorem w_12_10 {x0 : Nat} {x1 : Int32} : WP X d 12 10 al (.int x1 :: .ref x0 :: r) M Q = WP X d 12 11 al (.int x1 :: .ref x0 :: .int x1 :: .ref x0 :: r) M Q := WP_pu (by decide +kernel : decode (mm_b 12) 10 = .ok (.dup2, 1)) rfl
theorem w_12_11 {a0 : Nat} {x0 : Int32} : WP X d 12 11 al (.int x0 :: .ref a0 :: r) M Q = mm_ai X a0 (M.2.2 a0) x0 (fun x => WP X d 12 12 al (.int x :: r) M Q) := WP_iaload (by decide +kernel : decode (mm_b 12) 11 = .ok (.iaload, 1))
theorem w_12_12  : WP X d 12 12 al r M Q = WP X d 12 13 al (.int (nI 1) :: r) M Q := WP_iconst (v := nI 1) (by decide +kernel : decode (mm_b 12) 12 = .ok (.iconst 1, 1)) (by decide +kernel)
theorem w_12_13 {x0 : Int32} {x1 : Int32} : WP X d 12 13 al (.int x1 :: .int x0 :: r) M Q = WP X d 12 14 al (.int (x0 + x1) :: r) M Q := WP_pu (by decide +kernel : decode (mm_b 12) 13 = .ok (.iadd, 1)) rfl
theorem w_12_14 {a0 : Nat} {x0 : Int32} {x1 : Int32} : WP X d 12 14 al (.int x1 :: .int x0 :: .ref a0 :: r) M Q = mm_si (M.2.2 a0) x0 x1 (fun o => WP X d 12 15 al r (mm_set M a0 o) Q) := WP_iastore (by decide +kernel : decode (mm_b 12) 14 = .ok (.iastore, 1))
theorem w_12_15 {l1 : Option Value} {x0 : Nat} : WP X d 12 15 [some (.ref x0), l1] r M Q = WP X d 12 16 [some (.ref x0), l1] (.ref x0 :: r) M Q := WP_ld (by decide +kernel : decode (mm_b 12) 15 = .ok (.aload_n 0, 1)) rfl (fun _ => rfl) (fun _ => rfl) rfl rfl
theorem w_12_16 {x0 : Nat} : WP X d 12 16 al (.ref x0 :: r) M Q = WP X d 12 17 al (.ref x0 :: .ref x0 :: r) M Q := WP_pu (by decide +kernel : decode (mm_b 12) 16 = .ok (.dup, 1)) rfl
theorem w_12_17 {x0 : Nat} : WP X d 12 17 al (.ref x0 :: r) M Q = mm_fg (M.2.2 x0) 1 3 (fun v => WP X d 12 20 al (v :: r) M Q) := WP_get (by decide +kernel : decode (mm_b 12) 17 = .ok (.getfield 25, 3)) (by decide +kernel)
theorem w_12_20  : WP X d 12 20 al r M Q = WP X d 12 21 al (.int (nI 1) :: r) M Q := WP_iconst (v := nI 1) (by decide +kernel : decode (mm_b 12) 20 = .ok (.iconst 1, 1)) (by decide +kernel)
theorem w_12_21 {x0 : Int32} {x1 : Int32} : WP X d 12 21 al (.int x1 :: .int x0 :: r) M Q = WP X d 12 22 al (.int (x0 - x1) :: r) M Q := WP_pu (by decide +kernel : decode (mm_b 12) 21 = .ok (.isub, 1)) rfl
theorem w_12_22 {a0 : Nat} {x0 : Int32} : WP X d 12 22 al (.int x0 :: .ref a0 :: r) M Q = mm_fp (M.2.2 a0) 1 3 (.int x0) (fun o => WP X d 12 25 al r (mm_set M a0 o) Q) := WP_put (by decide +kernel : decode (mm_b 12) 22 = .ok (.putfield 25, 3)) (by decide +kernel) rfl (by decide +kernel)
theorem w_12_25 {l1 : Option Value} {x0 : Nat} : WP X d 12 25 [some (.ref x0), l1] r M Q = WP X d 12 26 [some (.ref x0), l1] (.ref x0 :: r) M Q := WP_ld (by decide +kernel : decode (mm_b 12) 25 = .ok (.aload_n 0, 1)) rfl (fun _ => rfl) (fun _ => rfl) rfl rfl
theorem w_12_26 {x0 : Nat} : WP X d 12 26 al (.ref x0 :: r) M Q = mm_fg (M.2.2 x0) 1 0 (fun v => WP X d 12 29 al (v :: r) M Q) := WP_get (by decide +kernel : decode (mm_b 12) 26 = .ok (.getfield 7, 3)) (by decide +kernel)
theorem w_12_29 {l0 : Option Value} {x0 : Int32} : WP X d 12 29 [l0, some (.int x0)] r M Q = WP X d 12 30 [l0, some (.int x0)] (.int x0 :: r) M Q := WP_ld (by decide +kernel : decode (mm_b 12) 29 = .ok (.iload_n 1, 1)) rfl (fun _ => rfl) (fun _ => rfl) rfl rfl
theorem w_12_30  : WP X d 12 30 al r M Q = WP X d 12 31 al (.int (nI 1) :: r) M Q := WP_iconst (v := nI 1) (by decide +kernel : decode (mm_b 12) 30 = .ok (.iconst 1, 1)) (by decide +kernel)
theorem w_12_31 {x0 : Int32} {x1 : Int32} : WP X d 12 31 al (.int x1 :: .int x0 :: r) M Q = WP X d 12 32 al (.int (x0 + x1) :: r) M Q := WP_pu (by decide +kernel : decode (mm_b 12) 31 = .ok (.iadd, 1)) rfl
theorem w_12_32 {l1 : Option Value} {x0 : Nat} : WP X d 12 32 [some (.ref x0), l1] r M Q = WP X d 12 33 [some (.ref x0), l1] (.ref x0 :: r) M Q := WP_ld (by decide +kernel : decode (mm_b 12) 32 = .ok (.aload_n 0, 1)) rfl (fun _ => rfl) (fun _ => rfl) rfl rfl
theorem w_12_33 {x0 : Nat} : WP X d 12 33 al (.ref x0 :: r) M Q = mm_fg (M.2.2 x0) 1 0 (fun v => WP X d 12 36 al (v :: r) M Q) := WP_get (by decide +kernel : decode (mm_b 12) 33 = .ok (.getfield 7, 3)) (by decide +kernel)
theorem w_12_36 {l0 : Option Value} {x0 : Int32} : WP X d 12 36 [l0, some (.int x0)] r M Q = WP X d 12 37 [l0, some (.int x0)] (.int x0 :: r) M Q := WP_ld (by decide +kernel : decode (mm_b 12) 36 = .ok (.iload_n 1, 1)) rfl (fun _ => rfl) (fun _ => rfl) rfl rfl
theorem w_12_37 {l1 : Option Value} {x0 : Nat} : WP X d 12 37 [some (.ref x0), l1] r M Q = WP X d 12 38 [some (.ref x0), l1] (.ref x0 :: r) M Q := WP_ld (by decide +kernel : decode (mm_b 12) 37 = .ok (.aload_n 0, 1)) rfl (fun _ => rfl) (fun _ => rfl) rfl rfl
theorem w_12_38 {x0 : Nat} : WP X d 12 38 al (.ref x0 :: r) M Q = mm_fg (M.2.2 x0) 1 3 (fun v => WP X d 12 41 al (v :: r) M Q) := WP_get (by decide +kernel : decode (mm_b 12) 38 = .ok (.getfield 25, 3)) (by decide +kernel)
theorem w_12_41 {l0 : Option Value} {x0 : Int32} : WP X d 12 41 [l0, some (.int x0)] r M Q = WP X d 12 42 [l0, some (.int x0)] (.int x0 :: r) M Q := WP_ld (by decide +kernel : decode (mm_b 12) 41 = .ok (.iload_n 1, 1)) rfl (fun _ => rfl) (fun _ => rfl) rfl rfl
theorem w_12_42 {x0 : Int32} {x1 : Int32} : WP X d 12 42 al (.int x1 :: .int x0 :: r) M Q = WP X d 12 43 al (.int (x0 - x1) :: r) M Q := WP_pu (by decide +kernel : decode (mm_b 12) 42 = .ok (.isub, 1)) rfl
theorem w_12_43 {v0 : Nat} {v1 : Int32} {v2 : Nat} {v3 : Int32} {v4 : Int32} : WP X (d + 1) 12 43 al [.int v4, .int v3, .ref v2, .int v1, .ref v0] M Q = mm_cp (M.2.2 v0) (M.2.2 v2) v1 v3 v4 (fun o => WP X (d + 1) 12 46 al [] (mm_set M v2 o) Q) := WP_copy (by decide +kernel : decode (mm_b 12) 43 = .ok (.invokestatic 19, 3)) (by decide +kernel) (by decide +kernel) (Nat.le_of_ble_eq_true rfl)
theorem w_12_46 {l1 : Option Value} {x0 : Nat} : WP X d 12 46 [some (.ref x0), l1] r M Q = WP X d 12 47 [some (.ref x0), l1] (.ref x0 :: r) M Q := WP_ld (by decide +kernel : decode (mm_b 12) 46 = .ok (.aload_n 0, 1)) rfl (fun _ => rfl) (fun _ => rfl) rfl rfl
theorem w_12_47 {x0 : Nat} : WP X d 12 47 al (.ref x0 :: r) M Q = mm_fg (M.2.2 x0) 1 1 (fun v => WP X d 12 50 al (v :: r) M Q) := WP_get (by decide +kernel : decode (mm_b 12) 47 = .ok (.getfield 13, 3)) (by decide +kernel)
theorem w_12_50 {l0 : Option Value} {x0 : Int32} : WP X d 12 50 [l0, some (.int x0)] r M Q = WP X d 12 51 [l0, some (.int x0)] (.int x0 :: r) M Q := WP_ld (by decide +kernel : decode (mm_b 12) 50 = .ok (.iload_n 1, 1)) rfl (fun _ => rfl) (fun _ => rfl) rfl rfl
theorem w_12_51  : WP X d 12 51 al r M Q = WP X d 12 52 al (.int (nI 1) :: r) M Q := WP_iconst (v := nI 1) (by decide +kernel : decode (mm_b 12) 51 = .ok (.iconst 1, 1)) (by decide +kernel)
theorem w_12_52 {x0 : Int32} {x1 : Int32} : WP X d 12 52 al (.int x1 :: .int x0 :: r) M Q = WP X d 12 53 al (.int (x0 + x1) :: r) M Q := WP_pu (by decide +kernel : decode (mm_b 12) 52 = .ok (.iadd, 1)) rfl
theorem w_12_53 {l1 : Option Value} {x0 : Nat} : WP X d 12 53 [some (.ref x0), l1] r M Q = WP X d 12 54 [some (.ref x0), l1] (.ref x0 :: r) M Q := WP_ld (by decide +kernel : decode (mm_b 12) 53 = .ok (.aload_n 0, 1)) rfl (fun _ => rfl) (fun _ => rfl) rfl rfl
theorem w_12_54 {x0 : Nat} : WP X d 12 54 al (.ref x0 :: r) M Q = mm_fg (M.2.2 x0) 1 1 (fun v => WP X d 12 57 al (v :: r) M Q) := WP_get (by decide +kernel : decode (mm_b 12) 54 = .ok (.getfield 13, 3)) (by decide +kernel)
theorem w_12_57 {l0 : Option Value} {x0 : Int32} : WP X d 12 57 [l0, some (.int x0)] r M Q = WP X d 12 58 [l0, some (.int x0)] (.int x0 :: r) M Q := WP_ld (by decide +kernel : decode (mm_b 12) 57 = .ok (.iload_n 1, 1)) rfl (fun _ => rfl) (fun _ => rfl) rfl rfl
theorem w_12_58 {l1 : Option Value} {x0 : Nat} : WP X d 12 58 [some (.ref x0), l1] r M Q = WP X d 12 59 [some (.ref x0), l1] (.ref x0 :: r) M Q := WP_ld (by decide +kernel : decode (mm_b 12) 58 = .ok (.aload_n 0, 1)) rfl (fun _ => rfl) (fun _ => rfl) rfl rfl
theorem w_12_59 {x0 : Nat} : WP X d 12 59 al (.ref x0 :: r) M Q = mm_fg (M.2.2 x0) 1 3 (fun v => WP X d 12 62 al (v :: r) M Q) := WP_get (by decide +kernel : decode (mm_b 12) 59 = .ok (.getfield 25, 3)) (by decide +kernel)
theorem w_12_62 {l0 : Option Value} {x0 : Int32} : WP X d 12 62 [l0, some (.int x0)] r M Q = WP X d 12 63 [l0, some (.int x0)] (.int x0 :: r) M Q := WP_ld (by decide +kernel : decode (mm_b 12) 62 = .ok (.iload_n 1, 1)) rfl (fun _ => rfl) (fun _ => rfl) rfl rfl
theorem w_12_63 {x0 : Int32} {x1 : Int32} : WP X d 12 63 al (.int x1 :: .int x0 :: r) M Q = WP X d 12 64 al (.int (x0 - x1) :: r) M Q := WP_pu (by decide +kernel : decode (mm_b 12) 63 = .ok (.isub, 1)) rfl
theorem w_12_64 {v0 : Nat} {v1 : Int32} {v2 : Nat} {v3 : Int32} {v4 : Int32} : WP X (d + 1) 12 64 al [.int v4, .int v3, .ref v2, .int v1, .ref v0] M Q = mm_cp (M.2.2 v0) (M.2.2 v2) v1 v3 v4 (fun o => WP X (d + 1) 12 67 al [] (mm_set M v2 o) Q) := WP_copy (by decide +kernel : decode (mm_b 12) 64 = .ok (.invokestatic 19, 3)) (by decide +kernel) (by decide +kernel) (Nat.le_of_ble_eq_true rfl)
theorem w_12_67  : WP X d 12 67 al [] M Q = Q (.inl none) M := WP_vret (by decide +kernel : decode (mm_b 12) 67 = .ok (.return_, 1)) (by decide +kernel)
-- St_takeOutKey
theorem w_13_0  : WP X d 13 0 al r M Q = WP X d 13 1 al (.int (nI 0) :: r) M Q := WP_iconst (v := nI 0) (by decide +kernel : decode (mm_b 13) 0 = .ok (.iconst 0, 1)) (by decide +kernel)
theorem w_13_1 {l0 : Option Value} {l1 : Option Value} {l2 : Option Value} {l3 : Option Value} {l4 : Option Value} {x0 : Int32} : WP X d 13 1 [l0, l1, l2, l3, l4] (.int x0 :: r) M Q = WP X d 13 2 [l0, mm_k l1, some (.int x0), l3, l4] r M Q := WP_so (by decide +kernel : decode (mm_b 13) 1 = .ok (.istore_n 2, 1)) rfl (fun _ => rfl) (fun _ => rfl) rfl rfl (Nat.le_of_ble_eq_true rfl)
theorem w_13_2  : WP X d 13 2 al r M Q = WP X d 13 3 al (.int (nI 0) :: r) M Q := WP_iconst (v := nI 0) (by decide +kernel : decode (mm_b 13) 2 = .ok (.iconst 0, 1)) (by decide +kernel)
theorem w_13_3 {l0 : Option Value} {l1 : Option Value} {l2 : Option Value} {l3 : Option Value} {l4 : Option Value} {x0 : Int32} : WP X d 13 3 [l0, l1, l2, l3, l4] (.int x0 :: r) M Q = WP X d 13 4 [l0, l1, mm_k l2, some (.int x0), l4] r M Q := WP_so (by decide +kernel : decode (mm_b 13) 3 = .ok (.istore_n 3, 1)) rfl (fun _ => rfl) (fun _ => rfl) rfl rfl (Nat.le_of_ble_eq_true rfl)
theorem w_13_4 {l0 : Option Value} {l1 : Option Value} {l2 : Option Value} {l4 : Option Value} {x0 : Int32} : WP X d 13 4 [l0, l1, l2, some (.int x0), l4] r M Q = WP X d 13 5 [l0, l1, l2, some (.int x0), l4] (.int x0 :: r) M Q := WP_ld (by decide +kernel : decode (mm_b 13) 4 = .ok (.iload_n 3, 1)) rfl (fun _ => rfl) (fun _ => rfl) rfl rfl
theorem w_13_5 {l0 : Option Value} {l2 : Option Value} {l3 : Option Value} {l4 : Option Value} {x0 : Int32} : WP X d 13 5 [l0, some (.int x0), l2, l3, l4] r M Q = WP X d 13 6 [l0, some (.int x0), l2, l3, l4] (.int x0 :: r) M Q := WP_ld (by decide +kernel : decode (mm_b 13) 5 = .ok (.iload_n 1, 1)) rfl (fun _ => rfl) (fun _ => rfl) rfl rfl
theorem w_13_6 {x0 : Int32} {x1 : Int32} : WP X d 13 6 al (.int x1 :: .int x0 :: r) M Q = if x1 ≤ x0 then WP X d 13 28 al r M Q else WP X d 13 9 al r M Q := WP_ic_ge (t := 28) (by decide +kernel : decode (mm_b 13) 6 = .ok (.if_icmp .ge 22, 3)) rfl
theorem w_13_9 {l0 : Option Value} {l1 : Option Value} {l3 : Option Value} {l4 : Option Value} {x0 : Int32} : WP X d 13 9 [l0, l1, some (.int x0), l3, l4] r M Q = WP X d 13 10 [l0, l1, some (.int x0), l3, l4] (.int x0 :: r) M Q := WP_ld (by decide +kernel : decode (mm_b 13) 9 = .ok (.iload_n 2, 1)) rfl (fun _ => rfl) (fun _ => rfl) rfl rfl
theorem w_13_10 {l1 : Option Value} {l2 : Option Value} {l3 : Option Value} {l4 : Option Value} {x0 : Nat} : WP X d 13 10 [some (.ref x0), l1, l2, l3, l4] r M Q = WP X d 13 11 [some (.ref x0), l1, l2, l3, l4] (.ref x0 :: r) M Q := WP_ld (by decide +kernel : decode (mm_b 13) 10 = .ok (.aload_n 0, 1)) rfl (fun _ => rfl) (fun _ => rfl) rfl rfl
theorem w_13_11 {l1 : Option Value} {l2 : Option Value} {l3 : Option Value} {l4 : Option Value} {x0 : Nat} : WP X d 13 11 [some (.ref x0), l1, l2, l3, l4] r M Q = WP X d 13 12 [some (.ref x0), l1, l2, l3, l4] (.ref x0 :: r) M Q := WP_ld (by decide +kernel : decode (mm_b 13) 11 = .ok (.aload_n 0, 1)) rfl (fun _ => rfl) (fun _ => rfl) rfl rfl
theorem w_13_12 {x0 : Nat} : WP X d 13 12 al (.ref x0 :: r) M Q = mm_fg (M.2.2 x0) 1 1 (fun v => WP X d 13 15 al (v :: r) M Q) := WP_get (by decide +kernel : decode (mm_b 13) 12 = .ok (.getfield 13, 3)) (by decide +kernel)
theorem w_13_15 {l0 : Option Value} {l1 : Option Value} {l3 : Option Value} {l4 : Option Value} {x0 : Int32} : WP X d 13 15 [l0, l1, some (.int x0), l3, l4] r M Q = WP X d 13 16 [l0, l1, some (.int x0), l3, l4] (.int x0 :: r) M Q := WP_ld (by decide +kernel : decode (mm_b 13) 15 = .ok (.iload_n 2, 1)) rfl (fun _ => rfl) (fun _ => rfl) rfl rfl
theorem w_13_16 {a0 : Nat} {x0 : Int32} : WP X d 13 16 al (.int x0 :: .ref a0 :: r) M Q = mm_ai X a0 (M.2.2 a0) x0 (fun x => WP X d 13 17 al (.int x :: r) M Q) := WP_iaload (by decide +kernel : decode (mm_b 13) 16 = .ok (.iaload, 1))
theorem w_13_17 {v0 : Int32} {v1 : Nat} {v2 : Int32} : WP X (d + 1) 13 17 al [.int v2, .ref v1, .int v0] M Q = (mm_rc (M.2.2 v1) 1 ∧ WPC X d 6 [.ref v1, .int v2] M (mm_K (fun v M => WP X (d + 1) 13 20 al (v.toList ++ [.int v0]) M Q) (mm_G 13 17 6 Q))) := WP_callV (k' := 6) (r := [.int v0]) (vs := [.int v2]) (by decide +kernel : decode (mm_b 13) 17 = .ok (.invokevirtual 33, 3)) (by decide +kernel) (by decide +kernel) rfl rfl rfl (Nat.le_of_ble_eq_true rfl)
theorem w_13_20 {x0 : Int32} {x1 : Int32} : WP X d 13 20 al (.int x1 :: .int x0 :: r) M Q = WP X d 13 21 al (.int (x0 + x1) :: r) M Q := WP_pu (by decide +kernel : decode (mm_b 13) 20 = .ok (.iadd, 1)) rfl
theorem w_13_21 {l0 : Option Value} {l1 : Option Value} {l2 : Option Value} {l3 : Option Value} {l4 : Option Value} {x0 : Int32} : WP X d 13 21 [l0, l1, l2, l3, l4] (.int x0 :: r) M Q = WP X d 13 22 [l0, mm_k l1, some (.int x0), l3, l4] r M Q := WP_so (by decide +kernel : decode (mm_b 13) 21 = .ok (.istore_n 2, 1)) rfl (fun _ => rfl) (fun _ => rfl) rfl rfl (Nat.le_of_ble_eq_true rfl)
theorem w_13_22 {l0 : Option Value} {l1 : Option Value} {l2 : Option Value} {l4 : Option Value} {x0 : Int32} : WP X d 13 22 [l0, l1, l2, some (.int x0), l4] r M Q = WP X d 13 25 [l0, l1, mm_k l2, some (.int (x0 + nI 1)), l4] r M Q := WP_inc2 (v := nI 1) (by decide +kernel : decode (mm_b 13) 22 = .ok (.iinc 3 1, 3)) (by decide +kernel) rfl rfl
theorem w_13_25  : WP X d 13 25 al r M Q = WP X d 13 4 al r M Q := WP_brr (by decide +kernel : decode (mm_b 13) 25 = .ok (.goto (-21), 3)) rfl rfl
theorem w_13_28 {l1 : Option Value} {l2 : Option Value} {l3 : Option Value} {l4 : Option Value} {x0 : Nat} : WP X d 13 28 [some (.ref x0), l1, l2, l3, l4] r M Q = WP X d 13 29 [some (.ref x0), l1, l2, l3, l4] (.ref x0 :: r) M Q := WP_ld (by decide +kernel : decode (mm_b 13) 28 = .ok (.aload_n 0, 1)) rfl (fun _ => rfl) (fun _ => rfl) rfl rfl
theorem w_13_29 {l1 : Option Value} {l2 : Option Value} {l3 : Option Value} {l4 : Option Value} {x0 : Nat} : WP X d 13 29 [some (.ref x0), l1, l2, l3, l4] r M Q = WP X d 13 30 [some (.ref x0), l1, l2, l3, l4] (.ref x0 :: r) M Q := WP_ld (by decide +kernel : decode (mm_b 13) 29 = .ok (.aload_n 0, 1)) rfl (fun _ => rfl) (fun _ => rfl) rfl rfl
theorem w_13_30 {x0 : Nat} : WP X d 13 30 al (.ref x0 :: r) M Q = mm_fg (M.2.2 x0) 1 1 (fun v => WP X d 13 33 al (v :: r) M Q) := WP_get (by decide +kernel : decode (mm_b 13) 30 = .ok (.getfield 13, 3)) (by decide +kernel)
theorem w_13_33 {l0 : Option Value} {l1 : Option Value} {l3 : Option Value} {l4 : Option Value} {x0 : Int32} : WP X d 13 33 [l0, l1, some (.int x0), l3, l4] r M Q = WP X d 13 34 [l0, l1, some (.int x0), l3, l4] (.int x0 :: r) M Q := WP_ld (by decide +kernel : decode (mm_b 13) 33 = .ok (.iload_n 2, 1)) rfl (fun _ => rfl) (fun _ => rfl) rfl rfl
theorem w_13_34 {a0 : Nat} {x0 : Int32} : WP X d 13 34 al (.int x0 :: .ref a0 :: r) M Q = mm_ai X a0 (M.2.2 a0) x0 (fun x => WP X d 13 35 al (.int x :: r) M Q) := WP_iaload (by decide +kernel : decode (mm_b 13) 34 = .ok (.iaload, 1))
theorem w_13_35 {v0 : Nat} {v1 : Int32} : WP X (d + 1) 13 35 al [.int v1, .ref v0] M Q = (mm_rc (M.2.2 v0) 1 ∧ WPC X d 6 [.ref v0, .int v1] M (mm_K (fun v M => WP X (d + 1) 13 38 al (v.toList ++ []) M Q) (mm_G 13 35 6 Q))) := WP_callV (k' := 6) (r := []) (vs := [.int v1]) (by decide +kernel : decode (mm_b 13) 35 = .ok (.invokevirtual 33, 3)) (by decide +kernel) (by decide +kernel) rfl rfl rfl (Nat.le_of_ble_eq_true rfl)
theorem w_13_38 {l0 : Option Value} {l1 : Option Value} {l2 : Option Value} {l3 : Option Value} {l4 : Option Value} {x0 : Int32} : WP X d 13 38 [l0, l1, l2, l3, l4] (.int x0 :: r) M Q = WP X d 13 39 [l0, l1, mm_k l2, some (.int x0), l4] r M Q := WP_so (by decide +kernel : decode (mm_b 13) 38 = .ok (.istore_n 3, 1)) rfl (fun _ => rfl) (fun _ => rfl) rfl rfl (Nat.le_of_ble_eq_true rfl)
theorem w_13_39  : WP X d 13 39 al r M Q = WP X d 13 40 al (.int (nI 0) :: r) M Q := WP_iconst (v := nI 0) (by decide +kernel : decode (mm_b 13) 39 = .ok (.iconst 0, 1)) (by decide +kernel)
theorem w_13_40 {l0 : Option Value} {l1 : Option Value} {l2 : Option Value} {l3 : Option Value} {l4 : Option Value} {x0 : Int32} : WP X d 13 40 [l0, l1, l2, l3, l4] (.int x0 :: r) M Q = WP X d 13 42 [l0, l1, l2, mm_k l3, some (.int x0)] r M Q := WP_so (by decide +kernel : decode (mm_b 13) 40 = .ok (.istore 4, 2)) rfl (fun _ => rfl) (fun _ => rfl) rfl rfl (Nat.le_of_ble_eq_true rfl)
theorem w_13_42 {l0 : Option Value} {l1 : Option Value} {l2 : Option Value} {l3 : Option Value} {x0 : Int32} : WP X d 13 42 [l0, l1, l2, l3, some (.int x0)] r M Q = WP X d 13 44 [l0, l1, l2, l3, some (.int x0)] (.int x0 :: r) M Q := WP_ld (by decide +kernel : decode (mm_b 13) 42 = .ok (.iload 4, 2)) rfl (fun _ => rfl) (fun _ => rfl) rfl rfl
theorem w_13_44 {l0 : Option Value} {l1 : Option Value} {l2 : Option Value} {l4 : Option Value} {x0 : Int32} : WP X d 13 44 [l0, l1, l2, some (.int x0), l4] r M Q = WP X d 13 45 [l0, l1, l2, some (.int x0), l4] (.int x0 :: r) M Q := WP_ld (by decide +kernel : decode (mm_b 13) 44 = .ok (.iload_n 3, 1)) rfl (fun _ => rfl) (fun _ => rfl) rfl rfl
theorem w_13_45 {x0 : Int32} {x1 : Int32} : WP X d 13 45 al (.int x1 :: .int x0 :: r) M Q = if x1 ≤ x0 then WP X d 13 59 al r M Q else WP X d 13 48 al r M Q := WP_ic_ge (t := 59) (by decide +kernel : decode (mm_b 13) 45 = .ok (.if_icmp .ge 14, 3)) rfl
theorem w_13_48 {l1 : Option Value} {l2 : Option Value} {l3 : Option Value} {l4 : Option Value} {x0 : Nat} : WP X d 13 48 [some (.ref x0), l1, l2, l3, l4] r M Q = WP X d 13 49 [some (.ref x0), l1, l2, l3, l4] (.ref x0 :: r) M Q := WP_ld (by decide +kernel : decode (mm_b 13) 48 = .ok (.aload_n 0, 1)) rfl (fun _ => rfl) (fun _ => rfl) rfl rfl
theorem w_13_49 {l0 : Option Value} {l1 : Option Value} {l3 : Option Value} {l4 : Option Value} {x0 : Int32} : WP X d 13 49 [l0, l1, some (.int x0), l3, l4] r M Q = WP X d 13 50 [l0, l1, some (.int x0), l3, l4] (.int x0 :: r) M Q := WP_ld (by decide +kernel : decode (mm_b 13) 49 = .ok (.iload_n 2, 1)) rfl (fun _ => rfl) (fun _ => rfl) rfl rfl
theorem w_13_50 {v0 : Nat} {v1 : Int32} : WP X (d + 1) 13 50 al [.int v1, .ref v0] M Q = (mm_rc (M.2.2 v0) 1 ∧ WPC X d 12 [.ref v0, .int v1] M (mm_K (fun v M => WP X (d + 1) 13 53 al (v.toList ++ []) M Q) (mm_G 13 50 12 Q))) := WP_callV (k' := 12) (r := []) (vs := [.int v1]) (by decide +kernel : decode (mm_b 13) 50 = .ok (.invokevirtual 36, 3)) (by decide +kernel) (by decide +kernel) rfl rfl rfl (Nat.le_of_ble_eq_true rfl)
theorem w_13_53 {l0 : Option Value} {l1 : Option Value} {l2 : Option Value} {l3 : Option Value} {x0 : Int32} : WP X d 13 53 [l0, l1, l2, l3, some (.int x0)] r M Q = WP X d 13 56 [l0, l1, l2, mm_k l3, some (.int (x0 + nI 1))] r M Q := WP_inc2 (v := nI 1) (by decide +kernel : decode (mm_b 13) 53 = .ok (.iinc 4 1, 3)) (by decide +kernel) rfl rfl
theorem w_13_56  : WP X d 13 56 al r M Q = WP X d 13 42 al r M Q := WP_brr (by decide +kernel : decode (mm_b 13) 56 = .ok (.goto (-14), 3)) rfl rfl
theorem w_13_59  : WP X d 13 59 al [] M Q = Q (.inl none) M := WP_vret (by decide +kernel : decode (mm_b 13) 59 = .ok (.return_, 1)) (by decide +kernel)
end WR
end
section
theorem zz_end : True := trivial
end
