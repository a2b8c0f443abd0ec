section
-- ===== PART A: goes FIRST, ahead of the names: the tables' words, and 'selects' of the private methods out of them =====
/-- a private method of a class that the tables say can be made, by its rows of tables_1 -/
def lw_okq (q : MethodName × Nat) : Prop := (q.1.cls ≠ "java/lang/invoke/MethodHandle" ∧ q.1.cls ≠ "java/lang/invoke/VarHandle") ∧ Cond.instantiable q.1.cls q.2 ∈ tables_1 ∧ Cond.privateMethod q.1 ∈ tables_1 ∧ Cond.instanceMethod q.1 ∈ tables_1
theorem lw_p0 : lw_okq (⟨"java/lang/Throwable", "fillInStackTrace", "(I)Ljava/lang/Throwable;"⟩, 6) := ⟨⟨by decide +kernel, by decide +kernel⟩, List.mem_of_getElem? (i := 185) (by decide +kernel), List.mem_of_getElem? (i := 183) (by decide +kernel), List.mem_of_getElem? (i := 184) (by decide +kernel)⟩
theorem lw_p1 : lw_okq (⟨"CaseLists", "caseOf", "(II)I"⟩, 7) := ⟨⟨by decide +kernel, by decide +kernel⟩, List.mem_of_getElem? (i := 22) (by decide +kernel), List.mem_of_getElem? (i := 219) (by decide +kernel), List.mem_of_getElem? (i := 220) (by decide +kernel)⟩
theorem lw_p2 : lw_okq (⟨"java/util/ArrayList", "add", "(Ljava/lang/Object;[Ljava/lang/Object;I)V"⟩, 3) := ⟨⟨by decide +kernel, by decide +kernel⟩, List.mem_of_getElem? (i := 36) (by decide +kernel), List.mem_of_getElem? (i := 294) (by decide +kernel), List.mem_of_getElem? (i := 295) (by decide +kernel)⟩
theorem lw_p3 : lw_okq (⟨"java/util/ArrayList", "grow", "()[Ljava/lang/Object;"⟩, 3) := ⟨⟨by decide +kernel, by decide +kernel⟩, List.mem_of_getElem? (i := 36) (by decide +kernel), List.mem_of_getElem? (i := 298) (by decide +kernel), List.mem_of_getElem? (i := 299) (by decide +kernel)⟩
theorem lw_p4 : lw_okq (⟨"java/util/ArrayList", "grow", "(I)[Ljava/lang/Object;"⟩, 3) := ⟨⟨by decide +kernel, by decide +kernel⟩, List.mem_of_getElem? (i := 36) (by decide +kernel), List.mem_of_getElem? (i := 302) (by decide +kernel), List.mem_of_getElem? (i := 303) (by decide +kernel)⟩
theorem lw_p5 : lw_okq (⟨"CaseLists", "casesWith", "(I)I"⟩, 7) := ⟨⟨by decide +kernel, by decide +kernel⟩, List.mem_of_getElem? (i := 22) (by decide +kernel), List.mem_of_getElem? (i := 392) (by decide +kernel), List.mem_of_getElem? (i := 393) (by decide +kernel)⟩
theorem lw_p6 : lw_okq (⟨"CaseLists", "unprovedCases", "(I)I"⟩, 7) := ⟨⟨by decide +kernel, by decide +kernel⟩, List.mem_of_getElem? (i := 22) (by decide +kernel), List.mem_of_getElem? (i := 437) (by decide +kernel), List.mem_of_getElem? (i := 438) (by decide +kernel)⟩
theorem lw_p7 : lw_okq (⟨"CaseLists", "stateOn", "(II)I"⟩, 7) := ⟨⟨by decide +kernel, by decide +kernel⟩, List.mem_of_getElem? (i := 22) (by decide +kernel), List.mem_of_getElem? (i := 441) (by decide +kernel), List.mem_of_getElem? (i := 442) (by decide +kernel)⟩
theorem lw_p8 : lw_okq (⟨"CaseLists", "firstCountingDay", "(II)I"⟩, 7) := ⟨⟨by decide +kernel, by decide +kernel⟩, List.mem_of_getElem? (i := 22) (by decide +kernel), List.mem_of_getElem? (i := 445) (by decide +kernel), List.mem_of_getElem? (i := 446) (by decide +kernel)⟩
theorem lw_p9 : lw_okq (⟨"CaseLists$Tours", "shownBy", "(I)I"⟩, 6) := ⟨⟨by decide +kernel, by decide +kernel⟩, List.mem_of_getElem? (i := 79) (by decide +kernel), List.mem_of_getElem? (i := 462) (by decide +kernel), List.mem_of_getElem? (i := 463) (by decide +kernel)⟩
theorem lw_p10 : lw_okq (⟨"CaseLists$Tours", "weighRests", "(I)V"⟩, 6) := ⟨⟨by decide +kernel, by decide +kernel⟩, List.mem_of_getElem? (i := 79) (by decide +kernel), List.mem_of_getElem? (i := 470) (by decide +kernel), List.mem_of_getElem? (i := 471) (by decide +kernel)⟩
theorem lw_p11 : lw_okq (⟨"CaseLists$Tours", "covers", "(II)Z"⟩, 6) := ⟨⟨by decide +kernel, by decide +kernel⟩, List.mem_of_getElem? (i := 79) (by decide +kernel), List.mem_of_getElem? (i := 474) (by decide +kernel), List.mem_of_getElem? (i := 475) (by decide +kernel)⟩
theorem lw_p12 : lw_okq (⟨"CaseLists$Tours", "leastRest", "(II)I"⟩, 6) := ⟨⟨by decide +kernel, by decide +kernel⟩, List.mem_of_getElem? (i := 79) (by decide +kernel), List.mem_of_getElem? (i := 478) (by decide +kernel), List.mem_of_getElem? (i := 479) (by decide +kernel)⟩
theorem lw_p13 : lw_okq (⟨"CaseLists$Tours", "weightOfNext", "(III)I"⟩, 6) := ⟨⟨by decide +kernel, by decide +kernel⟩, List.mem_of_getElem? (i := 79) (by decide +kernel), List.mem_of_getElem? (i := 483) (by decide +kernel), List.mem_of_getElem? (i := 484) (by decide +kernel)⟩
theorem lw_p14 : lw_okq (⟨"CaseLists$Tours", "wayBetween", "(II)I"⟩, 6) := ⟨⟨by decide +kernel, by decide +kernel⟩, List.mem_of_getElem? (i := 79) (by decide +kernel), List.mem_of_getElem? (i := 487) (by decide +kernel), List.mem_of_getElem? (i := 488) (by decide +kernel)⟩
theorem lw_p15 : lw_okq (⟨"CaseLists$Tours", "bestFirst", "()I"⟩, 6) := ⟨⟨by decide +kernel, by decide +kernel⟩, List.mem_of_getElem? (i := 79) (by decide +kernel), List.mem_of_getElem? (i := 495) (by decide +kernel), List.mem_of_getElem? (i := 496) (by decide +kernel)⟩
def lw_privs_1 : List (MethodName × Nat) := [(⟨"java/lang/Throwable", "fillInStackTrace", "(I)Ljava/lang/Throwable;"⟩, 6), (⟨"CaseLists", "caseOf", "(II)I"⟩, 7), (⟨"java/util/ArrayList", "add", "(Ljava/lang/Object;[Ljava/lang/Object;I)V"⟩, 3), (⟨"java/util/ArrayList", "grow", "()[Ljava/lang/Object;"⟩, 3), (⟨"java/util/ArrayList", "grow", "(I)[Ljava/lang/Object;"⟩, 3), (⟨"CaseLists", "casesWith", "(I)I"⟩, 7), (⟨"CaseLists", "unprovedCases", "(I)I"⟩, 7), (⟨"CaseLists", "stateOn", "(II)I"⟩, 7), (⟨"CaseLists", "firstCountingDay", "(II)I"⟩, 7), (⟨"CaseLists$Tours", "shownBy", "(I)I"⟩, 6), (⟨"CaseLists$Tours", "weighRests", "(I)V"⟩, 6), (⟨"CaseLists$Tours", "covers", "(II)Z"⟩, 6), (⟨"CaseLists$Tours", "leastRest", "(II)I"⟩, 6), (⟨"CaseLists$Tours", "weightOfNext", "(III)I"⟩, 6), (⟨"CaseLists$Tours", "wayBetween", "(II)I"⟩, 6), (⟨"CaseLists$Tours", "bestFirst", "()I"⟩, 6)]
theorem lw_r1 : ∀ q ∈ lw_privs_1, lw_okq q := List.forall_mem_cons.mpr ⟨lw_p0, List.forall_mem_cons.mpr ⟨lw_p1, List.forall_mem_cons.mpr ⟨lw_p2, List.forall_mem_cons.mpr ⟨lw_p3, List.forall_mem_cons.mpr ⟨lw_p4, List.forall_mem_cons.mpr ⟨lw_p5, List.forall_mem_cons.mpr ⟨lw_p6, List.forall_mem_cons.mpr ⟨lw_p7, List.forall_mem_cons.mpr ⟨lw_p8, List.forall_mem_cons.mpr ⟨lw_p9, List.forall_mem_cons.mpr ⟨lw_p10, List.forall_mem_cons.mpr ⟨lw_p11, List.forall_mem_cons.mpr ⟨lw_p12, List.forall_mem_cons.mpr ⟨lw_p13, List.forall_mem_cons.mpr ⟨lw_p14, List.forall_mem_cons.mpr ⟨lw_p15, fun _ h => absurd h List.not_mem_nil⟩⟩⟩⟩⟩⟩⟩⟩⟩⟩⟩⟩⟩⟩⟩⟩
theorem lw_p16 : lw_okq (⟨"CaseLists$Tours", "weightOfFirst", "(I)I"⟩, 6) := ⟨⟨by decide +kernel, by decide +kernel⟩, List.mem_of_getElem? (i := 79) (by decide +kernel), List.mem_of_getElem? (i := 499) (by decide +kernel), List.mem_of_getElem? (i := 500) (by decide +kernel)⟩
theorem lw_p17 : lw_okq (⟨"CaseLists$Tours", "bestNext", "(II)I"⟩, 6) := ⟨⟨by decide +kernel, by decide +kernel⟩, List.mem_of_getElem? (i := 79) (by decide +kernel), List.mem_of_getElem? (i := 503) (by decide +kernel), List.mem_of_getElem? (i := 504) (by decide +kernel)⟩
theorem lw_p18 : lw_okq (⟨"CaseLists", "nextTurn", "(II)I"⟩, 7) := ⟨⟨by decide +kernel, by decide +kernel⟩, List.mem_of_getElem? (i := 22) (by decide +kernel), List.mem_of_getElem? (i := 570) (by decide +kernel), List.mem_of_getElem? (i := 571) (by decide +kernel)⟩
theorem lw_p19 : lw_okq (⟨"CaseListsModel", "goes", "(ZZ)Z"⟩, 20) := ⟨⟨by decide +kernel, by decide +kernel⟩, List.mem_of_getElem? (i := 591) (by decide +kernel), List.mem_of_getElem? (i := 670) (by decide +kernel), List.mem_of_getElem? (i := 671) (by decide +kernel)⟩
theorem lw_p20 : lw_okq (⟨"CaseListsModel", "isCase", "(I)Z"⟩, 20) := ⟨⟨by decide +kernel, by decide +kernel⟩, List.mem_of_getElem? (i := 591) (by decide +kernel), List.mem_of_getElem? (i := 682) (by decide +kernel), List.mem_of_getElem? (i := 683) (by decide +kernel)⟩
theorem lw_p21 : lw_okq (⟨"CaseListsModel", "stateOf", "(II)I"⟩, 20) := ⟨⟨by decide +kernel, by decide +kernel⟩, List.mem_of_getElem? (i := 591) (by decide +kernel), List.mem_of_getElem? (i := 706) (by decide +kernel), List.mem_of_getElem? (i := 707) (by decide +kernel)⟩
theorem lw_p22 : lw_okq (⟨"CaseListsModel", "lastTouch", "(II)I"⟩, 20) := ⟨⟨by decide +kernel, by decide +kernel⟩, List.mem_of_getElem? (i := 591) (by decide +kernel), List.mem_of_getElem? (i := 710) (by decide +kernel), List.mem_of_getElem? (i := 711) (by decide +kernel)⟩
theorem lw_p23 : lw_okq (⟨"CaseListsModel", "isTouched", "(II)Z"⟩, 20) := ⟨⟨by decide +kernel, by decide +kernel⟩, List.mem_of_getElem? (i := 591) (by decide +kernel), List.mem_of_getElem? (i := 714) (by decide +kernel), List.mem_of_getElem? (i := 715) (by decide +kernel)⟩
theorem lw_p24 : lw_okq (⟨"CaseListsModel", "wordOf", "(IIII)I"⟩, 20) := ⟨⟨by decide +kernel, by decide +kernel⟩, List.mem_of_getElem? (i := 591) (by decide +kernel), List.mem_of_getElem? (i := 718) (by decide +kernel), List.mem_of_getElem? (i := 719) (by decide +kernel)⟩
theorem lw_p25 : lw_okq (⟨"CaseListsModel", "allShown", "()I"⟩, 20) := ⟨⟨by decide +kernel, by decide +kernel⟩, List.mem_of_getElem? (i := 591) (by decide +kernel), List.mem_of_getElem? (i := 734) (by decide +kernel), List.mem_of_getElem? (i := 735) (by decide +kernel)⟩
theorem lw_p26 : lw_okq (⟨"CaseListsModel", "nextDay", "(II)I"⟩, 20) := ⟨⟨by decide +kernel, by decide +kernel⟩, List.mem_of_getElem? (i := 591) (by decide +kernel), List.mem_of_getElem? (i := 742) (by decide +kernel), List.mem_of_getElem? (i := 743) (by decide +kernel)⟩
theorem lw_p27 : lw_okq (⟨"CaseListsModel", "reckon", "()V"⟩, 20) := ⟨⟨by decide +kernel, by decide +kernel⟩, List.mem_of_getElem? (i := 591) (by decide +kernel), List.mem_of_getElem? (i := 755) (by decide +kernel), List.mem_of_getElem? (i := 756) (by decide +kernel)⟩
theorem lw_p28 : lw_okq (⟨"CaseListsModel", "between", "(II)I"⟩, 20) := ⟨⟨by decide +kernel, by decide +kernel⟩, List.mem_of_getElem? (i := 591) (by decide +kernel), List.mem_of_getElem? (i := 762) (by decide +kernel), List.mem_of_getElem? (i := 763) (by decide +kernel)⟩
theorem lw_p29 : lw_okq (⟨"CaseListsModel", "shownBy", "(I)I"⟩, 20) := ⟨⟨by decide +kernel, by decide +kernel⟩, List.mem_of_getElem? (i := 591) (by decide +kernel), List.mem_of_getElem? (i := 766) (by decide +kernel), List.mem_of_getElem? (i := 767) (by decide +kernel)⟩
theorem lw_p30 : lw_okq (⟨"CaseListsModel", "leastOf", "(I)I"⟩, 20) := ⟨⟨by decide +kernel, by decide +kernel⟩, List.mem_of_getElem? (i := 591) (by decide +kernel), List.mem_of_getElem? (i := 770) (by decide +kernel), List.mem_of_getElem? (i := 771) (by decide +kernel)⟩
theorem lw_p31 : lw_okq (⟨"CaseListsModel", "order", "()V"⟩, 20) := ⟨⟨by decide +kernel, by decide +kernel⟩, List.mem_of_getElem? (i := 591) (by decide +kernel), List.mem_of_getElem? (i := 777) (by decide +kernel), List.mem_of_getElem? (i := 778) (by decide +kernel)⟩
def lw_privs_2 : List (MethodName × Nat) := [(⟨"CaseLists$Tours", "weightOfFirst", "(I)I"⟩, 6), (⟨"CaseLists$Tours", "bestNext", "(II)I"⟩, 6), (⟨"CaseLists", "nextTurn", "(II)I"⟩, 7), (⟨"CaseListsModel", "goes", "(ZZ)Z"⟩, 20), (⟨"CaseListsModel", "isCase", "(I)Z"⟩, 20), (⟨"CaseListsModel", "stateOf", "(II)I"⟩, 20), (⟨"CaseListsModel", "lastTouch", "(II)I"⟩, 20), (⟨"CaseListsModel", "isTouched", "(II)Z"⟩, 20), (⟨"CaseListsModel", "wordOf", "(IIII)I"⟩, 20), (⟨"CaseListsModel", "allShown", "()I"⟩, 20), (⟨"CaseListsModel", "nextDay", "(II)I"⟩, 20), (⟨"CaseListsModel", "reckon", "()V"⟩, 20), (⟨"CaseListsModel", "between", "(II)I"⟩, 20), (⟨"CaseListsModel", "shownBy", "(I)I"⟩, 20), (⟨"CaseListsModel", "leastOf", "(I)I"⟩, 20), (⟨"CaseListsModel", "order", "()V"⟩, 20)]
theorem lw_r2 : ∀ q ∈ lw_privs_2, lw_okq q := List.forall_mem_cons.mpr ⟨lw_p16, List.forall_mem_cons.mpr ⟨lw_p17, List.forall_mem_cons.mpr ⟨lw_p18, List.forall_mem_cons.mpr ⟨lw_p19, List.forall_mem_cons.mpr ⟨lw_p20, List.forall_mem_cons.mpr ⟨lw_p21, List.forall_mem_cons.mpr ⟨lw_p22, List.forall_mem_cons.mpr ⟨lw_p23, List.forall_mem_cons.mpr ⟨lw_p24, List.forall_mem_cons.mpr ⟨lw_p25, List.forall_mem_cons.mpr ⟨lw_p26, List.forall_mem_cons.mpr ⟨lw_p27, List.forall_mem_cons.mpr ⟨lw_p28, List.forall_mem_cons.mpr ⟨lw_p29, List.forall_mem_cons.mpr ⟨lw_p30, List.forall_mem_cons.mpr ⟨lw_p31, fun _ h => absurd h List.not_mem_nil⟩⟩⟩⟩⟩⟩⟩⟩⟩⟩⟩⟩⟩⟩⟩⟩
def lw_privs : List (MethodName × Nat) := lw_privs_1 ++ (lw_privs_2)
def lw_tbl : List Cond := k2_sels lw_privs ++ tables_1
theorem lw_privs_ok : ∀ q ∈ lw_privs, lw_okq q := by
  show ∀ q ∈ lw_privs_1 ++ (lw_privs_2), lw_okq q
  exact List.forall_mem_append.mpr ⟨lw_r1, lw_r2⟩
end
section
/-! ===== BEGIN words of one list among another's, by their places ===== -/
theorem goodIn_r {big : List Cond} (ws : List Cond) (ps : List Nat) (hp : ws = ps.filterMap (fun i => big[i]?)) (h : ws.all goodWord = true) : GoodIn big ws := by
  intro w hw
  have h1 := List.all_eq_true.mp h w hw
  rw [hp] at hw
  obtain ⟨i, -, hi⟩ := List.mem_filterMap.mp hw
  have hm : w ∈ big := by first | exact List.mem_of_getElem? hi | exact List.getElem?_mem hi
  exact ⟨hm, good_of_word h1⟩
theorem goodIn_app {big a b : List Cond} (ha : GoodIn big a) (hb : GoodIn big b) : GoodIn big (a ++ b) := fun w h => (List.mem_append.mp h).elim (ha w) (hb w)
theorem goodIn_ca {big a b : List Cond} {c : Cond} (ha : GoodIn big (c :: a)) (hb : GoodIn big b) : GoodIn big (c :: (a ++ b)) := fun w h => (List.mem_cons.mp h).elim (fun e => ha w (List.mem_cons.mpr (Or.inl e))) (fun h => (List.mem_append.mp h).elim (fun h => ha w (List.mem_cons.mpr (Or.inr h))) (hb w))
theorem goodIn_sub {big ws : List Cond} (hm : ∀ w ∈ ws, w ∈ big) (h : ws.all goodWord = true) : GoodIn big ws := fun w hw => ⟨hm w hw, good_of_word (List.all_eq_true.mp h w hw)⟩
/-! ===== END ===== -/

/-! ===== BEGIN exceptions that leave a method, and their catching by the caller (launches without stack traces) ===== -/
section VXA
/-! The laws vx_back, vx_callV, vx_callS, vx_callSW, vx_throw0, vx_throwS follow proofs of the library, with one case more: JvmDerived/Free/Laws.lean (Back.of_free), Shelf42/LK1.lean (callV, callS), Shelf/KitTraced.lean (throwNew0V, throwNewS). -/
/-- where a method has thrown q: the class by its name, the cell, what was written, the world -/
def vx_T (XC : String → State → State → Prop) (st : State) (q : Addr) (t : State) (mc ms : Nat) (free : Addr → Prop) : Prop :=
  ∃ (E : String) (ce : Cell) (L : List Loc), XC E st t ∧ t.heap[q]? = some ce ∧ ce.vm = .none ∧ st.vm.findClass E = some ce.cls ∧ st.WarmedH t.vm ∧ st.sameButNew ({ t with vm := st.vm } : State) L mc ms ∧ ∀ z ∈ L, free z.base
def vx_Q (Qc : Array Value → State → Outcome → State → Prop) (XC : String → State → State → Prop) (mc ms : Nat) (free : Addr → Prop) : Array Value → State → Outcome → State → Prop := fun a st o t =>
  (Qc a st o t ∧ ∃ L, FrameEnd st o t L mc ms ∧ ∀ q ∈ L, free q.base) ∨ ∃ q, o = .threw q ∧ vx_T XC st q t mc ms free
/-- a callee that returns or throws -/
def vx_Met (l : Launch) (y : MethodName) (ws : List Cond) (rm : Room) (Pc : Array Value → State → Prop) (Qc : Array Value → State → Outcome → State → Prop) (XC : String → State → State → Prop) (mc ms : Nat) (free : Addr → Prop) : Prop :=
  MetFree l y (headSpec ws rm) Pc (fun _ _ _ _ _ => True) (vx_Q Qc XC mc ms free)
def vx_Post (XC : String → State → State → Prop) (mc ms : Nat) (free : Addr → Prop) : Pt → Array Value → Addr → Pt → Prop := fun A a q B =>
  ∃ (g : JFrame) (mk : MethodId) (t : State) (L : List Loc) (E : String) (ce : Cell), B.U.heap = t.heap ∧ B.U.vm = t.vm ∧ XC E (A.U.calling g mk a) t ∧ t.heap[q]? = some ce ∧ ce.vm = .none ∧ A.U.vm.findClass E = some ce.cls ∧ B.locs = A.locs ++ L ∧ (∀ z ∈ L, free z.base) ∧ B.cells = A.cells + mc ∧ B.slots = A.slots + ms
def vx_Back (l : Launch) (R : Room) (p : Program) (e : Env) (below : List Frame) (s : State) (sargs : Array Value) (y : MethodName) (len W9 : Nat)
    (Pre : Pt → Array Value → Prop) (Post : Pt → Array Value → Option Value → Pt → Prop) (PostX : Pt → Array Value → Addr → Pt → Prop) : Prop :=
  ∀ (m : MethodId) (meth : Method) (c : Code) (A : Pt) (g : JFrame) (ig : Instr) (mk : MethodId) (a : Array Value),
    Stand p l e R s m sargs below meth c A.U A.locs A.cells A.slots → g.method = m → g.locals.size = c.maxLocals → decode c.code g.pc = .ok (ig, len) →
    2 * g.monitorRoom + (g.stack.map fun v => v.category).sum ≤ W9 → A.U.methodNamed? y = some mk → Pre A a →
    (∃ (v : Option Value) (B : Pt), Stand p l e R s m sargs below meth c B.U B.locs B.cells B.slots ∧ Post A a v B ∧
      Steps p.tables e below (doInvoke e (A.U.setTop g) [] mk a).1 (B.U.setTop { g with pc := g.pc + len, stack := v.toList ++ g.stack })) ∨
    (∃ (q : Addr) (B : Pt), Stand p l e R s m sargs below meth c B.U B.locs B.cells B.slots ∧ PostX A a q B ∧
      Steps p.tables e below (doInvoke e (A.U.setTop g) [] mk a).1 ((B.U.setTop g).pushFrame (.throwing q)))
section Payer
variable {l : Launch} {R : Room} {p : Program} {e : Env} {below : List Frame} {s : State} {sargs : Array Value} {y : MethodName} {len W9 : Nat}
theorem vx_back {ws : List Cond} {rm : Room} {Pc : Array Value → State → Prop} {Qc : Array Value → State → Outcome → State → Prop} {XC : String → State → State → Prop} {mc ms : Nat} {free : Addr → Prop} {bytes : ByteArray} {maxL : Nat} {ret : Option FieldType}
    (hM : vx_Met l y ws rm Pc Qc XC mc ms free) (hblind : FrameBlind Pc) (hrc : rm.cells = mc) (hrs : rm.slots = ms)
    (hframes : rm.frames + 1 ≤ R.frames) (hlocals : W9 + (maxL + 11) + rm.locals ≤ R.locals)
    (hws : ∀ w ∈ ws, ∀ a' U, s.WarmedH U.vm → w.before a' U = true) (hcode : Cond.code y bytes maxL ret ∈ ws) (hinit : ∀ a' U, s.WarmedH U.vm → (Cond.initialized y.cls).before a' U = true) :
    vx_Back l R p e below s sargs y len W9 (PreOf R mc ms Pc) (PostOf Qc mc ms free) (vx_Post XC mc ms free) := by
  intro m meth c A g ig mk a X hg hsize hdg hW hn hp
  have h1 : (headSpec ws rm).pre.before a A.U = true := atoms_intro fun w hw => hws w hw _ _ X.warmed
  have h2 : (Cond.code y bytes maxL ret).before a A.U = true := hws _ hcode _ _ X.warmed
  have h3 : (Cond.initialized y.cls).before a A.U = true := hinit _ _ X.warmed
  have h4 : A.cells + (headSpec ws rm).room.cells ≤ R.cells := by rw [show (headSpec ws rm).room.cells = mc from hrc]; exact hp.1
  have h5 : A.slots + (headSpec ws rm).room.slots ≤ R.slots := by rw [show (headSpec ws rm).room.slots = ms from hrs]; exact hp.2.1
  have hPc : Pc a (A.U.calling g mk a) := hblind _ _ _ _ hp.2.2
  obtain ⟨U, Ls, c0, s0⟩ := A
  dsimp only [Pt.U, Pt.locs, Pt.cells, Pt.slots] at h1 h2 h3 h4 h5 X hn hPc ⊢
  obtain ⟨methY, cY, hmY, hcY, -, hlY, -, -, -, -⟩ := Cond.code_spec hn h2
  obtain ⟨kY, hkY, -⟩ := className_of_methodNamed hn
  have hinitY : kY.init = .initialized := Cond.initialized_spec (findClass_of_methodNamed hn) hkY h3
  have h : At U g.method c below := by rw [hg]; exact X.here
  have hlocals9 : W9 + (maxL + 11) + (headSpec ws rm).room.locals ≤ R.locals := hlocals
  have happ : (headSpec ws rm).appliesLoose y e.platform (U.calling g mk a) = true :=
    Spec.appliesLoose_calling (g := g) h hdg hn hkY hinitY
      (X.room_calling (g := g) (R' := (headSpec ws rm).room) hsize hmY hcY hframes (by rw [hlY]; omega) h4 h5) h1
  obtain ⟨mid, hmid⟩ := h.above
  have hfr : (U.setTop g).frames = (.java g :: mid) ++ below := by rw [State.frames_setTop' g h.top, hmid]; rfl
  obtain ⟨o, s₂, hsteps, -, hend, hq⟩ := Steps.callFree hM p X.admits X.cas X.clock (acts := []) hfr happ hPc trivial
  have hq' : vx_Q Qc XC mc ms free a (U.calling g mk a) o s₂ := hq
  rw [State.frames_setTop' g h.top] at hend
  obtain ⟨g₀, hg0⟩ := Option.isSome_iff_exists.mp h.top
  obtain ⟨r, hr⟩ := State.topJava?_eq_some.mp hg0
  have hr' : (({ U with heap := s₂.heap, slotsUsed := s₂.slotsUsed } : State).setVm s₂.vm).frames = .java g₀ :: r := hr
  rcases hq' with ⟨hqc, L, hfe, hL⟩ | ⟨q, rfl, E, ce, L, hx, hce, hcv, hcl, hW₂, hsm, hL⟩
  · obtain ⟨⟨v, rfl⟩, hW₂, e2, q2, q3, q4, q5, q6⟩ := id hfe
    have e3 : s₂ = ({ (U.calling g mk a).setFrames s₂.frames with heap := s₂.heap, slotsUsed := s₂.slotsUsed } : State).setVm s₂.vm := by
      have : s₂ = ({ s₂ with vm := (U.calling g mk a).vm } : State).setVm s₂.vm := rfl
      rw [e2] at this
      exact this
    obtain ⟨c₂, i₂, len₂, hc₂, hd₂, hf₂⟩ := hend
    have hW' : U.WarmedH s₂.vm := hW₂
    have hcc : c₂ = c := by
      have h1 : s₂.code? g.method = U.code? g.method := by
        rw [State.code?_eq, State.code?_eq, hW'.alike.method?]
      exact Option.some.inj (hc₂.symm.trans (h1.trans h.code))
    subst hcc
    have hlen : len₂ = len := by rw [hdg] at hd₂; cases hd₂; rfl
    subst hlen
    have hs₂ : s₂ = (({ U with heap := s₂.heap, slotsUsed := s₂.slotsUsed } : State).setVm s₂.vm).setTop { g with pc := g.pc + len₂, stack := v.toList ++ g.stack } := by
      refine e3.trans ?_
      rw [hf₂, State.calling_eq h.top, State.setFrames_setFrames, State.setTop_of_frames _ hr', hr]
      rfl
    have hsame : U.sameButNew ({ U with heap := s₂.heap, slotsUsed := s₂.slotsUsed } : State) L mc ms := by
      refine ⟨?_, q2, q3, q4, q5, q6⟩
      obtain ⟨t, ht, -⟩ := State.frames_cons hr
      show ({ U with heap := s₂.heap, slotsUsed := s₂.slotsUsed } : State) = { U.setFrames U.frames with heap := s₂.heap, slotsUsed := s₂.slotsUsed }
      rw [State.setFrames_self ht]
    subst hg
    refine Or.inl ⟨v, ⟨(({ U with heap := s₂.heap, slotsUsed := s₂.slotsUsed } : State).setVm s₂.vm), Ls ++ L, c0 + mc, s0 + ms⟩,
      ⟨X.admits, X.cas, X.clock, X.frames, X.room, X.hears, X.method, X.code, (X.here.setHeapUsed s₂.heap s₂.slotsUsed).setVm hW'.alike, X.tail, State.WarmedH.trans X.warmed hW', X.limits, X.bytes, X.same.trans (hsame.setVm s.vm)⟩,
      ⟨g, mk, s₂, L, rfl, rfl, hqc, rfl, hL, rfl, rfl⟩, ?_⟩
    show Steps p.tables e below _ ((({ U with heap := s₂.heap, slotsUsed := s₂.slotsUsed } : State).setVm s₂.vm).setTop { g with pc := g.pc + len₂, stack := v.toList ++ g.stack })
    rw [← hs₂]
    exact hsteps
  · obtain ⟨e2, q2, q3, q4, q5, q6⟩ := id hsm
    have e3 : s₂ = ({ (U.calling g mk a).setFrames s₂.frames with heap := s₂.heap, slotsUsed := s₂.slotsUsed } : State).setVm s₂.vm := by
      have : s₂ = ({ s₂ with vm := (U.calling g mk a).vm } : State).setVm s₂.vm := rfl
      rw [e2] at this
      exact this
    have hf₂ : s₂.frames = .throwing q :: .java g :: U.frames.tail := hend
    have hW' : U.WarmedH s₂.vm := hW₂
    have hs₂ : s₂ = ((({ U with heap := s₂.heap, slotsUsed := s₂.slotsUsed } : State).setVm s₂.vm).setTop g).pushFrame (.throwing q) := by
      refine e3.trans ?_
      rw [hf₂, State.calling_eq h.top, State.setFrames_setFrames, State.pushFrame, State.frames_setTop _ hr', State.setTop_of_frames _ hr', State.setFrames_setFrames, hr]
      rfl
    have hsame : U.sameButNew ({ U with heap := s₂.heap, slotsUsed := s₂.slotsUsed } : State) L mc ms := by
      refine ⟨?_, q2, q3, q4, q5, q6⟩
      obtain ⟨t, ht, -⟩ := State.frames_cons hr
      show ({ U with heap := s₂.heap, slotsUsed := s₂.slotsUsed } : State) = { U.setFrames U.frames with heap := s₂.heap, slotsUsed := s₂.slotsUsed }
      rw [State.setFrames_self ht]
    subst hg
    refine Or.inr ⟨q, ⟨(({ U with heap := s₂.heap, slotsUsed := s₂.slotsUsed } : State).setVm s₂.vm), Ls ++ L, c0 + mc, s0 + ms⟩,
      ⟨X.admits, X.cas, X.clock, X.frames, X.room, X.hears, X.method, X.code, (X.here.setHeapUsed s₂.heap s₂.slotsUsed).setVm hW'.alike, X.tail, State.WarmedH.trans X.warmed hW', X.limits, X.bytes, X.same.trans (hsame.setVm s.vm)⟩,
      ⟨g, mk, s₂, L, E, ce, rfl, rfl, hx, hce, hcv, hcl, rfl, hL, rfl, rfl⟩, ?_⟩
    show Steps p.tables e below _ (((({ U with heap := s₂.heap, slotsUsed := s₂.slotsUsed } : State).setVm s₂.vm).setTop g).pushFrame (.throwing q))
    rw [← hs₂]
    exact hsteps
end Payer
section Calls
variable {p : Program} {l : Launch} {e : Env} {R : Room} {s : State} {m : MethodId} {args : Array Value} {below : List Frame} {meth : Method} {c : Code} {T : State} {locs : List Loc} {cells slots : Nat}
theorem vx_callV (X : Stand p l e R s m args below meth c T locs cells slots) (hexec : p.tables.exec = Jvm.exec) {own C : String} {index : Nat} {y : MethodName} {bytes : ByteArray} {maxL : Nat} {ret : Option FieldType}
    (hown : s.vm.findClass own = some m.cls) (hlink : (Cond.methodLink own index y).before args s = true) (hinst : (Cond.instanceMethod y).before args s = true) (hsel : (Cond.selects C y y).before args s = true)
    (hcode : (Cond.code y bytes maxL ret).before args s = true) (hy : y.cls ≠ "java/lang/invoke/MethodHandle" ∧ y.cls ≠ "java/lang/invoke/VarHandle")
    {W9 : Nat} {Pre : Pt → Array Value → Prop} {Post : Pt → Array Value → Option Value → Pt → Prop} {PostX : Pt → Array Value → Addr → Pt → Prop} (hK : vx_Back l R p e below s args y 3 W9 Pre Post PostX)
    {b : Addr} {cellB : Cell} (hcell : T.heap[b]? = some cellB) (hobj : cellB.vm.isStatics = false) (hcls : s.vm.findClass C = some cellB.cls)
    {g : JFrame} (hg : g.method = m) (hsize : g.locals.size = c.maxLocals) {argsL rest : List Value} (hlen : ∀ sig, parseMethodDescriptor y.desc = some sig → argsL.length = sig.parameters.length)
    (hstack : g.stack = argsL.reverse ++ .ref b :: rest) (hW : 2 * g.monitorRoom + (rest.map fun v => v.category).sum ≤ W9) (hdg : decode c.code g.pc = .ok (.invokevirtual index, 3))
    (hpre : ∀ vm₁, s.WarmedH vm₁ → Pre ⟨T.setVm vm₁, locs, cells, slots⟩ (Value.ref b :: argsL).toArray) :
    (∃ (v : Option Value) (vm₁ : Vm) (B : Pt), s.WarmedH vm₁ ∧ Stand p l e R s m args below meth c B.U B.locs B.cells B.slots ∧ Post ⟨T.setVm vm₁, locs, cells, slots⟩ (Value.ref b :: argsL).toArray v B ∧
      ∀ target, Steps p.tables e below (B.U.setTop { g with pc := g.pc + 3, stack := v.toList ++ rest }) target → Steps p.tables e below (T.setTop g) target) ∨
    (∃ (q : Addr) (vm₁ : Vm) (B : Pt), s.WarmedH vm₁ ∧ Stand p l e R s m args below meth c B.U B.locs B.cells B.slots ∧ PostX ⟨T.setVm vm₁, locs, cells, slots⟩ (Value.ref b :: argsL).toArray q B ∧
      Steps p.tables e below (T.setTop g) ((B.U.setTop { g with stack := rest }).pushFrame (.throwing q))) := by
  obtain ⟨mk, methM, hnamed, hmethM, hstM, habM⟩ := Cond.instanceMethod_spec hinst
  obtain ⟨methM', cM, hmethM', -, -, -, -, -, -, hsigM⟩ := Cond.code_spec hnamed hcode
  cases hmethM.symm.trans hmethM'
  obtain ⟨c2, r2, m2, q1, q2, q3, q4, kP, hkP, hkPi⟩ := Cond.selects_spec hsel
  cases hcls.symm.trans q1
  cases (State.methodFound?_of_named hnamed hy).symm.trans q2
  cases hnamed.symm.trans q3
  have hselP : selectMethod e.platform s.vm cellB.cls mk = .method mk := by rw [Launch.admits_selectMethod X.admits]; exact q4
  obtain ⟨vm₁, X₁, hstep₁⟩ := X.invokevirtual hexec hown hlink hnamed hmethM hstM hkP hkPi hy (a := b) (cell := cellB) hcell
    (fun z h => by rw [h] at hobj; cases hobj) hselP hmethM habM hkP hkPi (g := g) hg (argsL := argsL) (rest := rest) (hlen _ hsigM) hstack hdg
  rcases hK m meth c ⟨T.setVm vm₁, locs, cells, slots⟩ { g with stack := rest } (.invokevirtual index) mk (Value.ref b :: argsL).toArray X₁ hg hsize hdg hW (X₁.named hnamed) (hpre vm₁ X₁.warmed) with ⟨v, B, X', hpost, hsteps⟩ | ⟨q, B, X', hpost, hsteps⟩
  · exact Or.inl ⟨v, vm₁, B, X₁.warmed, X', hpost, fun target h => hstep₁ _ fun acts => by rw [doInvoke_state]; exact hsteps.trans h⟩
  · exact Or.inr ⟨q, vm₁, B, X₁.warmed, X', hpost, hstep₁ _ fun acts => by rw [doInvoke_state]; exact hsteps⟩
theorem vx_callS (X : Stand p l e R s m args below meth c T locs cells slots) (hexec : p.tables.exec = Jvm.exec) {own : String} {index : Nat} {y : MethodName} {bytes : ByteArray} {maxL : Nat} {ret : Option FieldType}
    (hown : s.vm.findClass own = some m.cls) (hlink : (Cond.methodLink own index y).before args s = true) (hstat : (Cond.static y).before args s = true) (hinit : (Cond.initialized y.cls).before args s = true)
    (hcode : (Cond.code y bytes maxL ret).before args s = true) (hy : y.cls ≠ "java/lang/invoke/MethodHandle" ∧ y.cls ≠ "java/lang/invoke/VarHandle")
    {W9 : Nat} {Pre : Pt → Array Value → Prop} {Post : Pt → Array Value → Option Value → Pt → Prop} {PostX : Pt → Array Value → Addr → Pt → Prop} (hK : vx_Back l R p e below s args y 3 W9 Pre Post PostX)
    {g : JFrame} (hg : g.method = m) (hsize : g.locals.size = c.maxLocals) {argsL rest : List Value} (hlen : ∀ sig, parseMethodDescriptor y.desc = some sig → argsL.length = sig.parameters.length)
    (hstack : g.stack = argsL.reverse ++ rest) (hW : 2 * g.monitorRoom + (rest.map fun v => v.category).sum ≤ W9) (hdg : decode c.code g.pc = .ok (.invokestatic index, 3))
    (hpre : ∀ vm₁, s.WarmedH vm₁ → Pre ⟨T.setVm vm₁, locs, cells, slots⟩ argsL.toArray) :
    (∃ (v : Option Value) (vm₁ : Vm) (B : Pt), s.WarmedH vm₁ ∧ Stand p l e R s m args below meth c B.U B.locs B.cells B.slots ∧ Post ⟨T.setVm vm₁, locs, cells, slots⟩ argsL.toArray v B ∧
      ∀ target, Steps p.tables e below (B.U.setTop { g with pc := g.pc + 3, stack := v.toList ++ rest }) target → Steps p.tables e below (T.setTop g) target) ∨
    (∃ (q : Addr) (vm₁ : Vm) (B : Pt), s.WarmedH vm₁ ∧ Stand p l e R s m args below meth c B.U B.locs B.cells B.slots ∧ PostX ⟨T.setVm vm₁, locs, cells, slots⟩ argsL.toArray q B ∧
      Steps p.tables e below (T.setTop g) ((B.U.setTop { g with stack := rest }).pushFrame (.throwing q))) := by
  obtain ⟨mk, hnamed⟩ := Cond.code_named hcode
  obtain ⟨methM, cM, hmethM, -, -, -, -, -, -, hsigM⟩ := Cond.code_spec hnamed hcode
  have hstatic : methM.isStatic = true := Cond.static_spec hnamed hmethM hstat
  obtain ⟨kP, hkP, -⟩ := className_of_methodNamed hnamed
  have hinitP : kP.init = .initialized := Cond.initialized_spec (findClass_of_methodNamed hnamed) hkP hinit
  obtain ⟨vm₁, X₁, hstep₁⟩ := X.invokestatic hexec hown hlink hnamed hmethM hstatic hkP hinitP hy (g := g) hg (argsL := argsL) (rest := rest) (hlen _ hsigM) hstack hdg
  rcases hK m meth c ⟨T.setVm vm₁, locs, cells, slots⟩ { g with stack := rest } (.invokestatic index) mk argsL.toArray X₁ hg hsize hdg hW (X₁.named hnamed) (hpre vm₁ X₁.warmed) with ⟨v, B, X', hpost, hsteps⟩ | ⟨q, B, X', hpost, hsteps⟩
  · exact Or.inl ⟨v, vm₁, B, X₁.warmed, X', hpost, fun target h => hstep₁ _ fun acts => by rw [doInvoke_state]; exact hsteps.trans h⟩
  · exact Or.inr ⟨q, vm₁, B, X₁.warmed, X', hpost, hstep₁ _ fun acts => by rw [doInvoke_state]; exact hsteps⟩
end Calls
theorem vx_cls {s : State} {T : State} {vm₁ : Vm} {E : String} {k : ClassId} (hW : s.WarmedH vm₁) (h : (T.setVm vm₁).vm.findClass E = some k) : s.vm.findClass E = some k := by
  have h1 : vm₁.findClass E = some k := h
  rw [hW.alike.findClass] at h1
  exact h1
/-- the method's frame g, with q thrown over it -/
def vx_W (p : Program) (l : Launch) (e : Env) (R : Room) (s : State) (m : MethodId) (args : Array Value) (below : List Frame) (meth : Method) (c : Code) (H : Heap) (locs : List Loc) (cells slots : Nat) (Q : State → Prop) (g : JFrame) (q : Addr) : Prop :=
  ∀ T : State, T.heap = H → Stand p l e R s m args below meth c T locs cells slots → ∃ t, Steps p.tables e below ((T.setTop g).pushFrame (.throwing q)) t ∧ Q t
def vx_Run (p : Program) (l : Launch) (e : Env) (R : Room) (s : State) (m : MethodId) (args : Array Value) (below : List Frame) (meth : Method) (c : Code) (H : Heap) (locs : List Loc) (cells slots mc ms : Nat) (g : JFrame) (rest : List Value) (Qa : State → Outcome → State → Prop) (XC : String → State → State → Prop) (free : Addr → Prop) : Prop :=
  ∀ T : State, T.heap = H → Stand p l e R s m args below meth c T locs cells slots →
    (∃ (v : Option Value) (st₀ t T' : State) (L : List Loc), st₀.heap = H ∧ Stand p l e R s m args below meth c T' (locs ++ L) (cells + mc) (slots + ms) ∧ (∀ q ∈ L, free q.base) ∧ T'.heap = t.heap ∧ T'.vm = t.vm ∧ Qa st₀ (.returned v) t ∧
      Goes p e below T g T' { g with pc := g.pc + 3, stack := v.toList ++ rest }) ∨
    (∃ (q : Addr) (st₀ t T' : State) (L : List Loc) (E : String) (ce : Cell), st₀.heap = H ∧ Stand p l e R s m args below meth c T' (locs ++ L) (cells + mc) (slots + ms) ∧ (∀ z ∈ L, free z.base) ∧ T'.heap = t.heap ∧ T'.vm = t.vm ∧ XC E st₀ t ∧ t.heap[q]? = some ce ∧ ce.vm = .none ∧ s.vm.findClass E = some ce.cls ∧
      Steps p.tables e below (T.setTop g) ((T'.setTop { g with stack := rest }).pushFrame (.throwing q)))
def vx_X {S : Type} (px : S → Prop) (B : String → S → State → Prop) (A : Nat → Prop) : String → State → State → Prop := fun E st t => ∃ u : S, px u ∧ B E u t ∧ va_F A st t
section Runs
variable {p : Program} {l : Launch} {e : Env} {R : Room} {s : State} {m : MethodId} {args : Array Value} {below : List Frame} {meth : Method} {c : Code} {H : Heap} {locs : List Loc} {cells slots : Nat}
variable {y : MethodName} {bytes cc : ByteArray} {maxL nL mc ms n index : Nat} {ret : Option FieldType} {ws : List Cond} {rm : Room} {Pc : Array Value → State → Prop} {Qc : Array Value → State → Outcome → State → Prop} {XC : String → State → State → Prop} {free : Addr → Prop} {Ts : List Cond} {own C : String} {b : Addr} {As rest : List Value} {g : JFrame}
theorem vx_callBack (cb : CallB R s args own index y bytes maxL ret ws rm mc ms n) (hM : vx_Met l y ws rm Pc Qc XC mc ms free) (hbl : FrameBlind Pc) : vx_Back l R p e below s args y 3 8 (PreOf R mc ms Pc) (PostOf Qc mc ms free) (vx_Post XC mc ms free) := by
  obtain ⟨hrc, hrs, hfr, hlo, hws, hcw, -, hini, -⟩ := cb
  exact vx_back (bytes := bytes) (maxL := maxL) (ret := ret) hM hbl hrc hrs hfr hlo hws hcw (fun a' U hW => word_at hW (Or.inl (by first | rfl | simp [Cond.onTables, Cond.keeps, Cond.steady])) hini)
theorem vx_runV (S : CallFix p m c cc nL s args Ts own) (hM : vx_Met l y ws rm Pc Qc XC mc ms free) (cw : CallW R s args own C index y bytes maxL ret ws rm mc ms n) (hp : PreV s H C b Pc As)
    (hg : g.method = m) (hn : As.length = n) (hsize : g.locals.size = nL) (hstack : g.stack = As.reverse ++ .ref b :: rest) (hW : 2 * g.monitorRoom + (rest.map fun v => v.category).sum ≤ 8) (hdg : decode cc g.pc = .ok (.invokevirtual index, 3)) (hf : cells + mc ≤ R.cells ∧ slots + ms ≤ R.slots) :
    vx_Run p l e R s m args below meth c H locs cells slots mc ms g rest (Qc (Value.ref b :: As).toArray) XC free := by
  have hK : vx_Back l R p e below s args y 3 8 (PreOf R mc ms Pc) (PostOf Qc mc ms free) (vx_Post XC mc ms free) := vx_callBack cw.1 hM hp.1
  obtain ⟨⟨-, -, -, -, -, -, hcode, -, hy, hlen, hl⟩, hin, hse⟩ := cw
  obtain ⟨hx, hb, hml, ho, -⟩ := S
  obtain ⟨-, ⟨cellB, hcB, hoB, hclB⟩, hPc⟩ := hp
  intro T hT X
  rcases vx_callV X hx (C := C) (bytes := bytes) (maxL := maxL) (ret := ret) ho hl hin hse hcode hy hK (by rw [hT]; exact hcB) hoB hclB hg (hsize.trans hml.symm) (argsL := As) (rest := rest) (fun sig h => hn.trans (hlen sig h)) hstack hW (by rw [hb]; exact hdg)
    (fun vm₁ hW₁ => ⟨hf.1, hf.2, hPc (T.setVm vm₁) hT hW₁⟩) with ⟨v, vm₁, ⟨U', l2, c2, s2⟩, hW₁, X', ⟨g', mk, t, L, e1, e2, hq, h1, hL, h2, h3⟩, st⟩ | ⟨q, vm₁, ⟨U', l2, c2, s2⟩, hW₁, X', ⟨g', mk, t, L, E, ce, e1, e2, hq, hce, hcv, hcl, h1, hL, h2, h3⟩, st⟩
  · dsimp only [Pt.U, Pt.locs, Pt.cells, Pt.slots] at X' e1 e2 h1 h2 h3 st
    subst h1; subst h2; subst h3
    exact Or.inl ⟨v, (T.setVm vm₁).calling g' mk (Value.ref b :: As).toArray, t, U', L, hT, X', hL, e1, e2, hq, st⟩
  · dsimp only [Pt.U, Pt.locs, Pt.cells, Pt.slots] at X' e1 e2 h1 h2 h3 st hcl
    subst h1; subst h2; subst h3
    exact Or.inr ⟨q, (T.setVm vm₁).calling g' mk (Value.ref b :: As).toArray, t, U', L, E, ce, hT, X', hL, e1, e2, hq, hce, hcv, vx_cls hW₁ hcl, st⟩
theorem vx_runS (S : CallFix p m c cc nL s args Ts own) (hM : vx_Met l y ws rm Pc Qc XC mc ms free) (cw : CallB R s args own index y bytes maxL ret ws rm mc ms n ∧ (Cond.static y).before args s = true) (hp : PreS s H Pc As)
    (hg : g.method = m) (hn : As.length = n) (hsize : g.locals.size = nL) (hstack : g.stack = As.reverse ++ rest) (hW : 2 * g.monitorRoom + (rest.map fun v => v.category).sum ≤ 8) (hdg : decode cc g.pc = .ok (.invokestatic index, 3)) (hf : cells + mc ≤ R.cells ∧ slots + ms ≤ R.slots) :
    vx_Run p l e R s m args below meth c H locs cells slots mc ms g rest (Qc As.toArray) XC free := by
  have hK : vx_Back l R p e below s args y 3 8 (PreOf R mc ms Pc) (PostOf Qc mc ms free) (vx_Post XC mc ms free) := vx_callBack cw.1 hM hp.1
  obtain ⟨⟨-, -, -, -, -, -, hcode, hini, hy, hlen, hl⟩, hstt⟩ := cw
  obtain ⟨hx, hb, hml, ho, -⟩ := S
  intro T hT X
  rcases vx_callS X hx (bytes := bytes) (maxL := maxL) (ret := ret) ho hl hstt hini hcode hy hK hg (hsize.trans hml.symm) (argsL := As) (rest := rest) (fun sig h => hn.trans (hlen sig h)) hstack hW (by rw [hb]; exact hdg)
    (fun vm₁ hW₁ => ⟨hf.1, hf.2, hp.2 (T.setVm vm₁) hT hW₁⟩) with ⟨v, vm₁, ⟨U', l2, c2, s2⟩, hW₁, X', ⟨g', mk, t, L, e1, e2, hq, h1, hL, h2, h3⟩, st⟩ | ⟨q, vm₁, ⟨U', l2, c2, s2⟩, hW₁, X', ⟨g', mk, t, L, E, ce, e1, e2, hq, hce, hcv, hcl, h1, hL, h2, h3⟩, st⟩
  · dsimp only [Pt.U, Pt.locs, Pt.cells, Pt.slots] at X' e1 e2 h1 h2 h3 st
    subst h1; subst h2; subst h3
    exact Or.inl ⟨v, (T.setVm vm₁).calling g' mk As.toArray, t, U', L, hT, X', hL, e1, e2, hq, st⟩
  · dsimp only [Pt.U, Pt.locs, Pt.cells, Pt.slots] at X' e1 e2 h1 h2 h3 st hcl
    subst h1; subst h2; subst h3
    exact Or.inr ⟨q, (T.setVm vm₁).calling g' mk As.toArray, t, U', L, E, ce, hT, X', hL, e1, e2, hq, hce, hcv, vx_cls hW₁ hcl, st⟩
end Runs
section Rows
variable {p : Program} {l : Launch} {e : Env} {R : Room} {s : State} {m : MethodId} {args : Array Value} {below : List Frame} {meth : Method} {c : Code} {H : Heap} {locs : List Loc} {cells slots : Nat} {Q : State → Prop}
variable {mc ms : Nat} {free : Addr → Prop} {A0 A1 : Nat → Prop} {H0 : Heap} {a : Array Value} {pc : Nat} {ls : Array Slot} {st0 rest : List Value}
theorem vx_keep {st₀ t T' : State} {L : List Loc} (h0 : st₀.heap = H) (e1 : T'.heap = t.heap) (hS : va_S A0 H0 H locs) (hA : ∀ q, q < H.size → A1 q → A0 q) (hf : ∀ q, free q → A0 q) (hL : ∀ q ∈ L, free q.base) (hF : va_F A1 st₀ t) :
    H.size ≤ T'.heap.size ∧ (∀ q : Nat, q < H.size → ¬ A1 q → T'.heap[q]? = H[q]?) ∧ va_S A0 H0 T'.heap (locs ++ L) := by
  obtain ⟨hz, hk⟩ := hF
  rw [h0] at hz hk
  exact ⟨by rw [e1]; exact hz, fun q h1 h2 => by rw [e1]; exact hk q h1 h2,
    ⟨Nat.le_trans hS.1 (by rw [e1]; exact hz), fun q h1 h2 => by rw [e1, hk q (Nat.lt_of_lt_of_le h1 hS.1) (fun z => h2 (hA q (Nat.lt_of_lt_of_le h1 hS.1) z))]; exact hS.2.1 q h1 h2, fun q hq => by
      rcases List.mem_append.mp hq with h | h
      · exact hS.2.2 q h
      · exact hf _ (hL q h)⟩⟩
theorem vx_calli {S SX : Type} {post : Int32 → S → Prop} {px : SX → Prop} {B : S → State → Prop} {BX : String → SX → State → Prop} {AX : Nat → Prop} (hr : vx_Run p l e R s m args below meth c H locs cells slots mc ms (F0 m pc ls st0) rest (va_Qi post B A1 a) (vx_X px BX AX) free) (hS : va_S A0 H0 H locs) (hA : ∀ q, q < H.size → A1 q → A0 q) (hf : ∀ q, free q → A0 q) (hAX : ∀ q, q < H.size → AX q → A0 q)
    (kx : ∀ (E : String) (ce : Cell) (q9 : Addr) (u : SX) (t : State) (H1 : Heap) (locs1 : List Loc), t.heap = H1 → s.vm.Alike t.vm → px u → BX E u t → H.size ≤ H1.size → (∀ q : Nat, q < H.size → ¬ AX q → H1[q]? = H[q]?) → va_S A0 H0 H1 locs1 → H1[q9]? = some ce → ce.vm = .none → s.vm.findClass E = some ce.cls → vx_W p l e R s m args below meth c H1 locs1 (cells + mc) (slots + ms) Q (F0 m pc ls rest) q9)
    (kk : ∀ (r : Int32) (u : S) (t : State) (H1 : Heap) (locs1 : List Loc), t.heap = H1 → s.vm.Alike t.vm → post r u → B u t → H.size ≤ H1.size → (∀ q : Nat, q < H.size → ¬ A1 q → H1[q]? = H[q]?) → va_S A0 H0 H1 locs1 → W p l e R s m args below meth c H1 locs1 (cells + mc) (slots + ms) Q (F0 m (pc + 3) ls (.int r :: rest))) : W p l e R s m args below meth c H locs cells slots Q (F0 m pc ls st0) := by
  intro T hT X
  rcases hr T hT X with ⟨v, st₀, t, T', L, h0, X', hL, e1, e2, ⟨⟨r, u, hv, hp, hb⟩, hF⟩, st⟩ | ⟨q, st₀, t, T', L, E, ce, h0, X', hL, e1, e2, ⟨u, hp, hb, hF⟩, hce, hcv, hcl, st⟩
  · cases hv
    obtain ⟨k1, k2, k3⟩ := vx_keep h0 e1 hS hA hf hL hF
    obtain ⟨t2, a1, b1⟩ := kk r u t T'.heap (locs ++ L) e1.symm (by rw [← e2]; exact X'.warmed.alike) hp hb k1 k2 k3 T' rfl X'
    exact ⟨t2, st t2 a1, b1⟩
  · obtain ⟨k1, k2, k3⟩ := vx_keep h0 e1 hS hAX hf hL hF
    obtain ⟨t2, a1, b1⟩ := kx E ce q u t T'.heap (locs ++ L) e1.symm (by rw [← e2]; exact X'.warmed.alike) hp hb k1 k2 k3 (by rw [e1]; exact hce) hcv hcl T' rfl X'
    exact ⟨t2, st.trans a1, b1⟩
theorem vx_calll {S SX : Type} {post : Int64 → S → Prop} {px : SX → Prop} {B : S → State → Prop} {BX : String → SX → State → Prop} {AX : Nat → Prop} (hr : vx_Run p l e R s m args below meth c H locs cells slots mc ms (F0 m pc ls st0) rest (va_Ql post B A1 a) (vx_X px BX AX) free) (hS : va_S A0 H0 H locs) (hA : ∀ q, q < H.size → A1 q → A0 q) (hf : ∀ q, free q → A0 q) (hAX : ∀ q, q < H.size → AX q → A0 q)
    (kx : ∀ (E : String) (ce : Cell) (q9 : Addr) (u : SX) (t : State) (H1 : Heap) (locs1 : List Loc), t.heap = H1 → s.vm.Alike t.vm → px u → BX E u t → H.size ≤ H1.size → (∀ q : Nat, q < H.size → ¬ AX q → H1[q]? = H[q]?) → va_S A0 H0 H1 locs1 → H1[q9]? = some ce → ce.vm = .none → s.vm.findClass E = some ce.cls → vx_W p l e R s m args below meth c H1 locs1 (cells + mc) (slots + ms) Q (F0 m pc ls rest) q9)
    (kk : ∀ (r : Int64) (u : S) (t : State) (H1 : Heap) (locs1 : List Loc), t.heap = H1 → s.vm.Alike t.vm → post r u → B u t → H.size ≤ H1.size → (∀ q : Nat, q < H.size → ¬ A1 q → H1[q]? = H[q]?) → va_S A0 H0 H1 locs1 → W p l e R s m args below meth c H1 locs1 (cells + mc) (slots + ms) Q (F0 m (pc + 3) ls (.long r :: rest))) : W p l e R s m args below meth c H locs cells slots Q (F0 m pc ls st0) := by
  intro T hT X
  rcases hr T hT X with ⟨v, st₀, t, T', L, h0, X', hL, e1, e2, ⟨⟨r, u, hv, hp, hb⟩, hF⟩, st⟩ | ⟨q, st₀, t, T', L, E, ce, h0, X', hL, e1, e2, ⟨u, hp, hb, hF⟩, hce, hcv, hcl, st⟩
  · cases hv
    obtain ⟨k1, k2, k3⟩ := vx_keep h0 e1 hS hA hf hL hF
    obtain ⟨t2, a1, b1⟩ := kk r u t T'.heap (locs ++ L) e1.symm (by rw [← e2]; exact X'.warmed.alike) hp hb k1 k2 k3 T' rfl X'
    exact ⟨t2, st t2 a1, b1⟩
  · obtain ⟨k1, k2, k3⟩ := vx_keep h0 e1 hS hAX hf hL hF
    obtain ⟨t2, a1, b1⟩ := kx E ce q u t T'.heap (locs ++ L) e1.symm (by rw [← e2]; exact X'.warmed.alike) hp hb k1 k2 k3 (by rw [e1]; exact hce) hcv hcl T' rfl X'
    exact ⟨t2, st.trans a1, b1⟩
theorem vx_callf {S SX : Type} {post : UInt32 → S → Prop} {px : SX → Prop} {B : S → State → Prop} {BX : String → SX → State → Prop} {AX : Nat → Prop} (hr : vx_Run p l e R s m args below meth c H locs cells slots mc ms (F0 m pc ls st0) rest (va_Qf post B A1 a) (vx_X px BX AX) free) (hS : va_S A0 H0 H locs) (hA : ∀ q, q < H.size → A1 q → A0 q) (hf : ∀ q, free q → A0 q) (hAX : ∀ q, q < H.size → AX q → A0 q)
    (kx : ∀ (E : String) (ce : Cell) (q9 : Addr) (u : SX) (t : State) (H1 : Heap) (locs1 : List Loc), t.heap = H1 → s.vm.Alike t.vm → px u → BX E u t → H.size ≤ H1.size → (∀ q : Nat, q < H.size → ¬ AX q → H1[q]? = H[q]?) → va_S A0 H0 H1 locs1 → H1[q9]? = some ce → ce.vm = .none → s.vm.findClass E = some ce.cls → vx_W p l e R s m args below meth c H1 locs1 (cells + mc) (slots + ms) Q (F0 m pc ls rest) q9)
    (kk : ∀ (r : UInt32) (u : S) (t : State) (H1 : Heap) (locs1 : List Loc), t.heap = H1 → s.vm.Alike t.vm → post r u → B u t → H.size ≤ H1.size → (∀ q : Nat, q < H.size → ¬ A1 q → H1[q]? = H[q]?) → va_S A0 H0 H1 locs1 → W p l e R s m args below meth c H1 locs1 (cells + mc) (slots + ms) Q (F0 m (pc + 3) ls (.float r :: rest))) : W p l e R s m args below meth c H locs cells slots Q (F0 m pc ls st0) := by
  intro T hT X
  rcases hr T hT X with ⟨v, st₀, t, T', L, h0, X', hL, e1, e2, ⟨⟨r, u, hv, hp, hb⟩, hF⟩, st⟩ | ⟨q, st₀, t, T', L, E, ce, h0, X', hL, e1, e2, ⟨u, hp, hb, hF⟩, hce, hcv, hcl, st⟩
  · cases hv
    obtain ⟨k1, k2, k3⟩ := vx_keep h0 e1 hS hA hf hL hF
    obtain ⟨t2, a1, b1⟩ := kk r u t T'.heap (locs ++ L) e1.symm (by rw [← e2]; exact X'.warmed.alike) hp hb k1 k2 k3 T' rfl X'
    exact ⟨t2, st t2 a1, b1⟩
  · obtain ⟨k1, k2, k3⟩ := vx_keep h0 e1 hS hAX hf hL hF
    obtain ⟨t2, a1, b1⟩ := kx E ce q u t T'.heap (locs ++ L) e1.symm (by rw [← e2]; exact X'.warmed.alike) hp hb k1 k2 k3 (by rw [e1]; exact hce) hcv hcl T' rfl X'
    exact ⟨t2, st.trans a1, b1⟩
theorem vx_calld {S SX : Type} {post : UInt64 → S → Prop} {px : SX → Prop} {B : S → State → Prop} {BX : String → SX → State → Prop} {AX : Nat → Prop} (hr : vx_Run p l e R s m args below meth c H locs cells slots mc ms (F0 m pc ls st0) rest (va_Qd post B A1 a) (vx_X px BX AX) free) (hS : va_S A0 H0 H locs) (hA : ∀ q, q < H.size → A1 q → A0 q) (hf : ∀ q, free q → A0 q) (hAX : ∀ q, q < H.size → AX q → A0 q)
    (kx : ∀ (E : String) (ce : Cell) (q9 : Addr) (u : SX) (t : State) (H1 : Heap) (locs1 : List Loc), t.heap = H1 → s.vm.Alike t.vm → px u → BX E u t → H.size ≤ H1.size → (∀ q : Nat, q < H.size → ¬ AX q → H1[q]? = H[q]?) → va_S A0 H0 H1 locs1 → H1[q9]? = some ce → ce.vm = .none → s.vm.findClass E = some ce.cls → vx_W p l e R s m args below meth c H1 locs1 (cells + mc) (slots + ms) Q (F0 m pc ls rest) q9)
    (kk : ∀ (r : UInt64) (u : S) (t : State) (H1 : Heap) (locs1 : List Loc), t.heap = H1 → s.vm.Alike t.vm → post r u → B u t → H.size ≤ H1.size → (∀ q : Nat, q < H.size → ¬ A1 q → H1[q]? = H[q]?) → va_S A0 H0 H1 locs1 → W p l e R s m args below meth c H1 locs1 (cells + mc) (slots + ms) Q (F0 m (pc + 3) ls (.double r :: rest))) : W p l e R s m args below meth c H locs cells slots Q (F0 m pc ls st0) := by
  intro T hT X
  rcases hr T hT X with ⟨v, st₀, t, T', L, h0, X', hL, e1, e2, ⟨⟨r, u, hv, hp, hb⟩, hF⟩, st⟩ | ⟨q, st₀, t, T', L, E, ce, h0, X', hL, e1, e2, ⟨u, hp, hb, hF⟩, hce, hcv, hcl, st⟩
  · cases hv
    obtain ⟨k1, k2, k3⟩ := vx_keep h0 e1 hS hA hf hL hF
    obtain ⟨t2, a1, b1⟩ := kk r u t T'.heap (locs ++ L) e1.symm (by rw [← e2]; exact X'.warmed.alike) hp hb k1 k2 k3 T' rfl X'
    exact ⟨t2, st t2 a1, b1⟩
  · obtain ⟨k1, k2, k3⟩ := vx_keep h0 e1 hS hAX hf hL hF
    obtain ⟨t2, a1, b1⟩ := kx E ce q u t T'.heap (locs ++ L) e1.symm (by rw [← e2]; exact X'.warmed.alike) hp hb k1 k2 k3 (by rw [e1]; exact hce) hcv hcl T' rfl X'
    exact ⟨t2, st.trans a1, b1⟩
theorem vx_callv {S SX : Type} {post : S → Prop} {px : SX → Prop} {B : S → State → Prop} {BX : String → SX → State → Prop} {AX : Nat → Prop} (hr : vx_Run p l e R s m args below meth c H locs cells slots mc ms (F0 m pc ls st0) rest (va_Qv post B A1 a) (vx_X px BX AX) free) (hS : va_S A0 H0 H locs) (hA : ∀ q, q < H.size → A1 q → A0 q) (hf : ∀ q, free q → A0 q) (hAX : ∀ q, q < H.size → AX q → A0 q)
    (kx : ∀ (E : String) (ce : Cell) (q9 : Addr) (u : SX) (t : State) (H1 : Heap) (locs1 : List Loc), t.heap = H1 → s.vm.Alike t.vm → px u → BX E u t → H.size ≤ H1.size → (∀ q : Nat, q < H.size → ¬ AX q → H1[q]? = H[q]?) → va_S A0 H0 H1 locs1 → H1[q9]? = some ce → ce.vm = .none → s.vm.findClass E = some ce.cls → vx_W p l e R s m args below meth c H1 locs1 (cells + mc) (slots + ms) Q (F0 m pc ls rest) q9)
    (kk : ∀ (u : S) (t : State) (H1 : Heap) (locs1 : List Loc), t.heap = H1 → s.vm.Alike t.vm → post u → B u t → H.size ≤ H1.size → (∀ q : Nat, q < H.size → ¬ A1 q → H1[q]? = H[q]?) → va_S A0 H0 H1 locs1 → W p l e R s m args below meth c H1 locs1 (cells + mc) (slots + ms) Q (F0 m (pc + 3) ls (rest))) : W p l e R s m args below meth c H locs cells slots Q (F0 m pc ls st0) := by
  intro T hT X
  rcases hr T hT X with ⟨v, st₀, t, T', L, h0, X', hL, e1, e2, ⟨⟨u, hv, hp, hb⟩, hF⟩, st⟩ | ⟨q, st₀, t, T', L, E, ce, h0, X', hL, e1, e2, ⟨u, hp, hb, hF⟩, hce, hcv, hcl, st⟩
  · cases hv
    obtain ⟨k1, k2, k3⟩ := vx_keep h0 e1 hS hA hf hL hF
    obtain ⟨t2, a1, b1⟩ := kk u t T'.heap (locs ++ L) e1.symm (by rw [← e2]; exact X'.warmed.alike) hp hb k1 k2 k3 T' rfl X'
    exact ⟨t2, st t2 a1, b1⟩
  · obtain ⟨k1, k2, k3⟩ := vx_keep h0 e1 hS hAX hf hL hF
    obtain ⟨t2, a1, b1⟩ := kx E ce q u t T'.heap (locs ++ L) e1.symm (by rw [← e2]; exact X'.warmed.alike) hp hb k1 k2 k3 (by rw [e1]; exact hce) hcv hcl T' rfl X'
    exact ⟨t2, st.trans a1, b1⟩
/-- caught by the row x of this method's table; the rows ahead don't take it -/
theorem vx_catch {own name : String} {E : String} {ce : Cell} {q : Addr} (hown : s.vm.findClass own = some m.cls) (pre : List ExceptionTableEntry) (x : ExceptionTableEntry) (suf : List ExceptionTableEntry) (hsplit : c.exceptionTable.toList = pre ++ x :: suf)
    (hpass : ∀ z ∈ pre, covers z pc = false ∨ (z.catchType ≠ 0 ∧ ∃ nm : String, (Cond.classLink own z.catchType nm).before args s = true ∧ va_Nc E nm s)) (hx : covers x pc = true) (h0 : x.catchType ≠ 0)
    (hlink : (Cond.classLink own x.catchType name).before args s = true) (hcast : (Cond.castable E name).before args s = true) (hcell : H[q]? = some ce) (hv : ce.vm = .none) (hcl : s.vm.findClass E = some ce.cls)
    (kk : W p l e R s m args below meth c H locs cells slots Q (F0 m x.handlerPc ls [.ref q])) : vx_W p l e R s m args below meth c H locs cells slots Q (F0 m pc ls rest) q := by
  intro T hT X
  have hpl : e.platform.magicAccessors = ({} : Platform).magicAccessors := by rw [X.admits.platform]
  obtain ⟨c3, c4, hc3, hc4, hasg⟩ := Cond.castable_spec hcast
  cases Option.some.inj (hc3.symm.trans hcl)
  obtain ⟨c5, hc5, hcl5⟩ := Cond.classLink_spec hown hlink e.platform hpl
  cases Option.some.inj (hc4.symm.trans hc5)
  obtain ⟨vm', X', st⟩ := X.thenCaughtThrough q (g := F0 m pc ls rest) rfl (Steps.refl _) (by rw [hT]; exact hcell) (by rw [hv]; rfl) (by obtain ⟨k9, h9, -⟩ := Vm.findClass_spec hcl; exact ⟨k9, h9⟩) pre x suf hsplit
    (fun z hz => by
      rcases hpass z hz with h | ⟨hz0, nm, hl1, hn1⟩
      · exact Or.inl h
      · obtain ⟨c6, hc6, hcl6⟩ := Cond.classLink_spec hown hl1 e.platform hpl
        obtain ⟨a8, b8, h1, h2, h3⟩ := hn1
        cases Option.some.inj (h1.symm.trans hcl)
        cases Option.some.inj (h2.symm.trans hc6)
        exact Or.inr ⟨hz0, _, hcl6, h3⟩) hx (Or.inr ⟨h0, c4, hcl5, hasg⟩)
  obtain ⟨t, a1, b1⟩ := kk (T.setVm vm') hT X'
  exact ⟨t, st.trans a1, b1⟩
end Rows
section Ends
variable {p : Program} {l : Launch} {e : Env} {R : Room} {s : State} {m : MethodId} {args : Array Value} {below : List Frame} {meth : Method} {c : Code} {H : Heap} {locs : List Loc} {cells slots : Nat} {Q : State → Prop}
variable {mc ms : Nat} {free : Addr → Prop} {A0 A1 : Nat → Prop} {H0 : Heap} {a : Array Value} {ls : Array Slot} {st0 rest : List Value}
variable {Qc : Array Value → State → Outcome → State → Prop} {XC : String → State → State → Prop}
/-- what a body that may throw owes at its end -/
def vx_MQ (below : List Frame) (Qc : Array Value → State → Outcome → State → Prop) (XC : String → State → State → Prop) (a : Array Value) (s : State) (mc ms : Nat) (free : Addr → Prop) : State → Prop := fun t =>
  ∃ o, t.status = .running ∧ Ended t below o ∧ vx_Q Qc XC mc ms free a s o t
theorem vx_ret {g : JFrame} {mc ms : Nat} (k : W p l e R s m args below meth c H locs cells slots (MQ below Qc args s mc ms free) g) : W p l e R s m args below meth c H locs cells slots (vx_MQ below Qc XC args s mc ms free) g := by
  intro T hT X
  obtain ⟨t, a1, o, b1, b2, b3, b4⟩ := k T hT X
  exact ⟨t, a1, o, b1, b2, Or.inl ⟨b3, b4⟩⟩
/-- not caught here: it goes on to the caller -/
theorem vx_widen {g : JFrame} {q : Addr} {k n : Nat} (h1 : cells ≤ k) (h2 : slots ≤ n) (kk : vx_W p l e R s m args below meth c H locs k n Q g q) : vx_W p l e R s m args below meth c H locs cells slots Q g q := fun T hT X => kk T hT (stand_widen X h1 h2)
theorem vx_out {pc : Nat} {E : String} {ce : Cell} {q : Addr} {mc ms : Nat} (hout : ∀ x ∈ c.exceptionTable.toList, covers x pc = false) (hlocks : meth.locks = false) (hcell : H[q]? = some ce) (hv : ce.vm = .none) (hcl : s.vm.findClass E = some ce.cls)
    (hx : ∀ t : State, t.heap = H → s.vm.Alike t.vm → XC E s t) (hf : ∀ z ∈ locs, free z.base) (hc : cells ≤ mc) (hs : slots ≤ ms) :
    vx_W p l e R s m args below meth c H locs cells slots (vx_MQ below Qc XC args s mc ms free) (F0 m pc ls rest) q := by
  intro T hT X
  obtain ⟨st1, hrun, hend, hW, hsm⟩ := X.leaveThrown q (g := F0 m pc ls rest) rfl rfl rfl hout hlocks
  have hcell9 : (T.setFrames (.throwing q :: below)).heap[q]? = some ce := by
    show T.heap[q]? = some ce
    rw [hT]; exact hcell
  exact ⟨_, st1, .threw q, hrun, hend, Or.inr ⟨q, rfl, E, ce, locs, hx _ hT hW.alike, hcell9, hv, hcl, hW, hsm.mono hc hs, hf⟩⟩
theorem vx_frame {U : State} {k n : Nat} (h : s.sameButNew ({ U with vm := s.vm } : State) locs k n) : s.heap.size ≤ U.heap.size ∧ ∀ q : Nat, q < s.heap.size → (∀ z ∈ locs, z.base ≠ q) → U.heap[q]? = s.heap[q]? := by
  obtain ⟨-, h2, -, -, -, h6⟩ := h
  refine ⟨h2, fun q hq hz => ?_⟩
  obtain ⟨c9, e1, e2, e3, e4⟩ := h6 q _ (Array.getElem?_eq_getElem hq)
  have hs : c9.slots = (s.heap[q]).slots := Array.ext_getElem? fun i => e4 i fun hm => hz _ hm rfl
  have h9 : c9 = s.heap[q] := by
    rw [hs] at e2
    exact e2
  have e5 : U.heap[q]? = some c9 := e1
  rw [e5, h9, Array.getElem?_eq_getElem hq]
/-- the words of a throw but the four that speak of the heap -/
def vx_no (w : Cond) : Bool := decide (w ≠ .isRef (.static Bundle.tN "UNASSIGNED_STACK" Bundle.steD)) && decide (w ≠ .isRef (.static Bundle.tN "SUPPRESSED_SENTINEL" Bundle.listD)) && decide (w ≠ .laysStatic Bundle.tN "UNASSIGNED_STACK" Bundle.steD) && decide (w ≠ .laysStatic Bundle.tN "SUPPRESSED_SENTINEL" Bundle.listD)
def vx_at0 (own : String) (ic : Nat) (X : String) (names : List String) : List Cond := (Bundle.ownAtoms0 own ic X names).filter vx_no
def vx_atS (own : String) (ic : Nat) (X : String) (names : List String) : List Cond := (Bundle.ownAtoms own ic X names).filter vx_no
/-- a word that the tables alone decide, or a good one -/
def vx_ot (w : Cond) : Bool := w.onTables || goodWord w
theorem vx_ot_at {args a' : Array Value} {s U : State} {w : Cond} (hW : s.WarmedH U.vm) (hvm : s.vm = U.vm) (hg : vx_ot w = true) (h : w.before args s = true) : w.before a' U = true := by
  simp only [vx_ot, Bool.or_eq_true] at hg
  rcases hg with hg | hg
  · exact va_tabs hg hvm h
  · exact word_at hW (good_of_word hg) h
/-- a list's words: the good ones out of the method's own list, the others by premises of their own -/
theorem vx_hat {args : Array Value} {s : State} {L B : List Cond} (h1 : ∀ w ∈ L.filter goodWord, w.before args s = true) (h2 : ∀ w ∈ L.filter (fun w => !goodWord w), w ∈ B) (h3 : ∀ w ∈ B, w.before args s = true) : ∀ w ∈ L, w.before args s = true := by
  intro w hw
  by_cases g : goodWord w = true
  · exact h1 w (List.mem_filter.mpr ⟨hw, g⟩)
  · refine h3 w (h2 w (List.mem_filter.mpr ⟨hw, ?_⟩))
    show (!goodWord w) = true
    cases hgw : goodWord w
    · rfl
    · exact absurd hgw g
theorem vx_c {args : Array Value} {s : State} {w : Cond} {B : List Cond} (h : w.before args s = true) (t : ∀ w ∈ B, w.before args s = true) : ∀ w' ∈ w :: B, w'.before args s = true := fun w' h' => (List.mem_cons.mp h').elim (fun e => by rw [e]; exact h) (t w')
theorem vx_n {args : Array Value} {s : State} : ∀ w ∈ ([] : List Cond), w.before args s = true := fun _ h => nomatch h
theorem vx_own {args : Array Value} {s : State} {L : List Cond} (h1 : ∀ w ∈ L.filter vx_no, w.before args s = true)
    (hU : (Cond.isRef (.static Bundle.tN "UNASSIGNED_STACK" Bundle.steD)).before args s = true) (hN : (Cond.isRef (.static Bundle.tN "SUPPRESSED_SENTINEL" Bundle.listD)).before args s = true)
    (lU : (Cond.laysStatic Bundle.tN "UNASSIGNED_STACK" Bundle.steD).before args s = true) (lN : (Cond.laysStatic Bundle.tN "SUPPRESSED_SENTINEL" Bundle.listD).before args s = true) : ∀ w ∈ L, w.before args s = true := by
  intro w hw
  by_cases e1 : w = .isRef (.static Bundle.tN "UNASSIGNED_STACK" Bundle.steD)
  · rw [e1]; exact hU
  · by_cases e2 : w = .isRef (.static Bundle.tN "SUPPRESSED_SENTINEL" Bundle.listD)
    · rw [e2]; exact hN
    · by_cases e3 : w = .laysStatic Bundle.tN "UNASSIGNED_STACK" Bundle.steD
      · rw [e3]; exact lU
      · by_cases e4 : w = .laysStatic Bundle.tN "SUPPRESSED_SENTINEL" Bundle.listD
        · rw [e4]; exact lN
        · exact h1 w (List.mem_filter.mpr ⟨hw, by unfold vx_no; rw [decide_eq_true e1, decide_eq_true e2, decide_eq_true e3, decide_eq_true e4]; rfl⟩)
/-- where a static field lies, its class's statics cell in H -/
def vx_L (C n d : String) (A : Nat → Prop) (U : State) (H : Heap) : Prop := ∃ (c : ClassId) (k : Class) (i : Nat) (f : Field) (a : Nat) (cell : Cell), U.vm.findClass C = some c ∧ U.fieldFound? C n d = some (c, k, i, f) ∧ f.isStatic = true ∧ k.statics = some a ∧ H[a]? = some cell ∧ cell.vm.isStatics = true ∧ cell.cls = c ∧ f.slot < cell.slots.size ∧ k.staticTypes[f.slot]? = some f.type ∧ ¬ A a
theorem vx_L.moved {C n d : String} {A : Nat → Prop} {u U : State} {H : Heap} (hvm : u.vm.Alike U.vm) (h : vx_L C n d A u H) : vx_L C n d A U H := by
  obtain ⟨c, k, i, f, a, cell, h1, h2, h3, h4, h5, h6, h7, h8, h9, h10⟩ := h
  obtain ⟨k', hi', he⟩ := State.fieldFound?_setVm hvm h2
  exact ⟨c, k', i, f, a, cell, by rw [hvm.findClass]; exact h1, hi', h3, by rw [he]; exact h4, h5, h6, h7, h8, by rw [he]; exact h9, h10⟩
theorem vx_L.kept {C n d : String} {A : Nat → Prop} {U : State} {H H1 : Heap} (h : vx_L C n d A U H) (hq : ∀ a : Nat, a < H.size → ¬ A a → H1[a]? = H[a]?) : vx_L C n d A U H1 := by
  obtain ⟨c, k, i, f, a, cell, h1, h2, h3, h4, h5, h6, h7, h8, h9, h10⟩ := h
  exact ⟨c, k, i, f, a, cell, h1, h2, h3, h4, by rw [hq a (Array.getElem?_eq_some_iff.mp h5).1 h10]; exact h5, h6, h7, h8, h9, h10⟩
theorem vx_L.narrow {C n d : String} {A B : Nat → Prop} {U : State} {H : Heap} (h : vx_L C n d A U H) (hAB : ∀ q, B q → A q) : vx_L C n d B U H := by
  obtain ⟨c, k, i, f, a, cell, h1, h2, h3, h4, h5, h6, h7, h8, h9, h10⟩ := h
  exact ⟨c, k, i, f, a, cell, h1, h2, h3, h4, h5, h6, h7, h8, h9, fun z => h10 (hAB _ z)⟩
theorem vx_L.word {C n d : String} {A : Nat → Prop} {s : State} {args : Array Value} (h : vx_L C n d A s s.heap) : (Cond.laysStatic C n d).before args s = true := by
  obtain ⟨c, k, i, f, a, cell, h1, h2, h3, h4, h5, h6, h7, h8, h9, -⟩ := h
  show (Cond.laysStatic C n d).holds args s none s [] = true
  exact Cond.laysStatic_of h1 h2 h3 h4 h5 h6 h7 h8 h9
/-- .. and what it holds: null or some reference -/
def vx_Zq (C n d : String) (A : Nat → Prop) (U : State) (H : Heap) : Prop := va_Zq C n d A U H ∧ vx_L C n d A U H
theorem vx_Zq.moved {C n d : String} {A : Nat → Prop} {u U : State} {H : Heap} (hvm : u.vm.Alike U.vm) (h : vx_Zq C n d A u H) : vx_Zq C n d A U H := ⟨va_Zq.moved hvm h.1, vx_L.moved hvm h.2⟩
theorem vx_Zq.kept {C n d : String} {A : Nat → Prop} {U : State} {H H1 : Heap} (h : vx_Zq C n d A U H) (hq : ∀ a : Nat, a < H.size → ¬ A a → H1[a]? = H[a]?) : vx_Zq C n d A U H1 := ⟨va_Zq.kept h.1 hq, vx_L.kept h.2 hq⟩
theorem vx_Zq.narrow {C n d : String} {A B : Nat → Prop} {U : State} {H : Heap} (h : vx_Zq C n d A U H) (hAB : ∀ q, B q → A q) : vx_Zq C n d B U H := ⟨va_Zq.narrow h.1 hAB, vx_L.narrow h.2 hAB⟩
theorem vx_Zqof {args : Array Value} {s : State} {C n d : String} {A : Nat → Prop} (hl : (Cond.laysStatic C n d).before args s = true) (hini : (Cond.initialized C).before args s = true) (h : (Cond.isRef (.static C n d)).before args s = true) (hA : ∀ a : Nat, a < s.heap.size → ¬ A a) : vx_Zq C n d A s s.heap := by
  refine ⟨va_Zqof hl hini h hA, ?_⟩
  obtain ⟨c, k, i, f, a, cell, h1, h2, h3, h4, h5, h6, h7, h8, h9⟩ := Cond.laysStatic_spec hl
  exact ⟨c, k, i, f, a, cell, h1, h2, h3, h4, h5, h6, h7, h8, h9, hA a (Array.getElem?_eq_some_iff.mp h5).1⟩
theorem vx_isRef {C n d : String} {v : Value} {A : Nat → Prop} {s : State} {args : Array Value} (h : va_Z C n d v A s s.heap) (hv : v.isRef = true) : (Cond.isRef (.static C n d)).before args s = true := by
  obtain ⟨cf, kf, fi, f, a, cell, h1, h2, h3, h4, h5, h6, h7, -⟩ := h
  have he : (Term.static C n d).eval args s none [] s = some v := by
    simp [Term.eval, State.fieldNamed?, h1, h2, h4, h5, h6, h7]
  simp only [Cond.before, Cond.holds, Cond.value, he]
  cases v <;> simp_all [Value.isRef]
theorem vx_isRefq {C n d : String} {A : Nat → Prop} {s : State} {args : Array Value} (h : va_Zq C n d A s s.heap) : (Cond.isRef (.static C n d)).before args s = true := by
  rcases h with h | ⟨t, h⟩
  · exact vx_isRef h rfl
  · exact vx_isRef h rfl
/-- the same frame, seen from here: as if the method were called anew in this heap -/
theorem vx_rebase {T : State} (X : Stand p l e R s m args below meth c T locs cells slots) {R' : Room} (hf : R'.frames ≤ R.frames) (hl : R'.locals ≤ R.locals) (hc : cells + R'.cells ≤ R.cells) (hs : slots + R'.slots ≤ R.slots) :
    Stand p l e R' ((T.setVm s.vm).setFrames (.invoking m args :: below)) m args below meth c T [] 0 0 := by
  have htop : (T.setVm s.vm).topJava?.isSome := X.here.top
  have hF : ((T.setVm s.vm).setFrames (.invoking m args :: below)).frames = .invoking m args :: below := State.frames_setFrames _ (State.cur_lt_of_top htop)
  obtain ⟨g₀, hg0⟩ := Option.isSome_iff_exists.mp htop
  obtain ⟨r, hr⟩ := State.topJava?_eq_some.mp hg0
  have hl9 : e.platform.stackLimits (T.setVm s.vm).me = e.platform.stackLimits s.me := X.limits
  have hb9 : (T.setVm s.vm).me.stackBytes = s.me.stackBytes := X.bytes
  refine ⟨X.admits, X.cas, X.clock, hF, ?_, X.hears, X.method, X.code, X.here, X.tail, X.warmed, ?_, ?_, ?_⟩
  · have h := X.room
    have hU : ((T.setVm s.vm).setFrames (.invoking m args :: below)).localsInUse = s.localsInUse := by
      rw [State.localsInUse_invoking hF (meth := meth) (c := c) X.method X.code, State.localsInUse_invoking X.frames X.method X.code]
    simp only [State.hasRoom, Bool.and_eq_true, decide_eq_true_eq] at h ⊢
    obtain ⟨⟨⟨⟨h1, h2, h3, h4, h5, h6⟩, h7⟩, h8⟩, h9⟩ := h
    rw [X.frames, List.length_cons] at h2 h3
    have q1 := X.heapSize
    have q2 := X.used
    simp only [hF, hU, List.length_cons, State.stackLimits_setFrames, State.stackBytes_setFrames, hl9, hb9]
    refine ⟨⟨⟨⟨by omega, by omega, by omega, by omega, by omega, h6⟩, ?_⟩, ?_⟩, X.book⟩
    · show T.heap.size + R'.cells ≤ e.platform.maxCells
      omega
    · show T.slotsUsed + R'.slots ≤ e.platform.maxSlots
      omega
  · rw [State.stackLimits_setFrames]; rfl
  · rw [State.stackBytes_setFrames]; rfl
  · refine ⟨?_, Nat.le_refl _, Nat.le_refl _, ?_, ?_, fun a c9 h9 => ⟨c9, h9, rfl, rfl, fun _ _ => rfl⟩⟩
    · obtain ⟨t, ht, -⟩ := State.frames_cons hr
      show T.setVm s.vm = { ((T.setVm s.vm).setFrames (.invoking m args :: below)).setFrames (T.setVm s.vm).frames with heap := T.heap, slotsUsed := T.slotsUsed }
      rw [State.setFrames_setFrames, State.setFrames_self ht]
      rfl
    · show T.slotsUsed = T.slotsUsed + ((T.heap.toList.drop T.heap.size).map (·.slots.size)).sum
      rw [List.drop_eq_nil_of_le (Nat.le_of_eq Array.length_toList)]
      rfl
    · show ((T.heap.toList.drop T.heap.size).map (·.slots.size)).sum ≤ 0
      rw [List.drop_eq_nil_of_le (Nat.le_of_eq Array.length_toList)]
      exact Nat.le_refl _
/-- 'throw new E()': new; dup; invokespecial; athrow -/
theorem vx_throw0 {cc : ByteArray} {pc : Nat} (hexec : p.tables.exec = Jvm.exec) (hb : c.code = cc) (hl : l.stackTraces = false) {own cls : String} {names : List String} {ik ic mc ms : Nat} {A : Nat → Prop}
    (hown : s.vm.findClass own = some m.cls) (hcls : Bundle.fit cls = true) (hnames : ∀ n ∈ names, Bundle.fit n = true)
    (hk : (Cond.classLink own ik cls).before args s = true) (hini : (Cond.initialized cls).before args s = true) (hat : ∀ w ∈ vx_at0 own ic cls names, w.before args s = true)
    (hgood : ∀ w ∈ Cond.classLink own ik cls :: Cond.initialized cls :: vx_at0 own ic cls names, vx_ot w = true)
    (hU : vx_Zq Bundle.tN "UNASSIGNED_STACK" Bundle.steD A s s.heap) (hN : vx_Zq Bundle.tN "SUPPRESSED_SENTINEL" Bundle.listD A s s.heap) (hS : va_S A s.heap H locs) (hsize : ls.size = c.maxLocals)
    (d0 : decode cc pc = .ok (.new ik, 3)) (d3 : decode cc (pc + 3) = .ok (.dup, 1)) (d4 : decode cc (pc + 4) = .ok (.invokespecial ic, 3)) (d7 : decode cc (pc + 7) = .ok (.athrow, 1))
    (hout : ∀ x ∈ c.exceptionTable.toList, covers x (pc + 7) = false)
    (hRframes : names.length + 3 < R.frames) (hRlocals : (rest.map fun v => v.category).sum + (13 * (names.length + 1) + 42) ≤ R.locals) (hRcells : cells + 1 ≤ R.cells) (hRslots : slots + 6 ≤ R.slots) (hlocks : meth.locks = false)
    (hx : ∀ t : State, s.vm.Alike t.vm → H.size ≤ t.heap.size → (∀ q : Nat, q < H.size → t.heap[q]? = H[q]?) → XC cls s t)
    (hf : ∀ z ∈ locs, free z.base) (hc : cells + 1 ≤ mc) (hs : slots + 6 ≤ ms) :
    W p l e R s m args below meth c H locs cells slots (vx_MQ below Qc XC args s mc ms free) (F0 m pc ls rest) := by
  intro T hT X
  have htr : e.platform.stackTraces = false := (show e.platform.stackTraces = l.stackTraces by rw [X.admits.platform]).trans hl
  have Y := vx_rebase X (R' := { frames := R.frames, locals := R.locals, cells := 1, slots := 6 }) (Nat.le_refl _) (Nat.le_refl _) hRcells hRslots
  obtain ⟨s', hA⟩ : ∃ z, z = (T.setVm s.vm).setFrames (.invoking m args :: below) := ⟨_, rfl⟩
  rw [← hA] at Y
  have hvm : s'.vm = s.vm := by rw [hA]; rfl
  have hhp : s'.heap = H := by rw [hA]; exact hT
  have hW0 : s.WarmedH s'.vm := by rw [hvm]; exact State.WarmedH.refl s
  have hat' : ∀ w ∈ vx_at0 own ic cls names, w.before args s' = true := fun w hw => vx_ot_at hW0 hvm.symm (hgood w (List.mem_cons_of_mem _ (List.mem_cons_of_mem _ hw))) (hat w hw)
  have hk' : (Cond.classLink own ik cls).before args s' = true := vx_ot_at hW0 hvm.symm (hgood _ List.mem_cons_self) hk
  have hini' : (Cond.initialized cls).before args s' = true := vx_ot_at hW0 hvm.symm (hgood _ (List.mem_cons_of_mem _ List.mem_cons_self)) hini
  have hU' : vx_Zq Bundle.tN "UNASSIGNED_STACK" Bundle.steD A s' s'.heap := by rw [hhp]; exact vx_Zq.moved hW0.alike (hU.kept hS.2.1)
  have hN' : vx_Zq Bundle.tN "SUPPRESSED_SENTINEL" Bundle.listD A s' s'.heap := by rw [hhp]; exact vx_Zq.moved hW0.alike (hN.kept hS.2.1)
  have h : ∀ w ∈ Bundle.ownAtoms0 own ic cls names, w.before args s' = true := vx_own hat' (vx_isRefq hU'.1) (vx_isRefq hN'.1) hU'.2.word hN'.2.word
  have hown' : s'.vm.findClass own = some m.cls := by rw [hvm]; exact hown
  have hins : (Cond.instantiable cls 6).before args s' = true := h _ (by simp [Bundle.ownAtoms0])
  obtain ⟨vm₁, cX, kX, hfX, hkX, -, -, X₁, st1⟩ := Y.newCold hexec (own := own) (C := cls) (index := ik) (n := 6) hown' hk' hins hini'
    (g := F0 m pc ls rest) rfl (by rw [hb]; exact d0) (Nat.le_refl _) (Nat.le_refl _)
  generalize hT1 : (T.setVm vm₁).pushCell { cls := cX, slots := kX.instanceTypes.map defaultValue, vm := .none } = T1 at X₁ st1
  have hcat : (Value.ref T.heap.size).category = 1 := rfl
  have hcellA : T1.heap[T.heap.size]? = some (freshCell cX kX) := by rw [← hT1]; exact State.heap_pushCell_size _ _
  have d3' : decode c.code (pc + 3) = .ok (.dup, 1) := by rw [hb]; exact d3
  obtain ⟨U, hsteps, hrun, hend, hW, hsame, ce, hce, hO⟩ := X₁.ctorThrow0 hexec htr (own := own) (cls := cls) (names := names) (ic := ic) hown' hcls hnames h (fun x hx => nomatch hx) hfX hkX hcellA (by rw [hhp, hT]; exact Nat.le_refl _)
    (g := { method := m, pc := pc + 4, locals := ls, stack := .ref T.heap.size :: .ref T.heap.size :: rest, locked := none }) rfl hsize rfl rfl (rest := rest) rfl
    (by rw [hb]; exact d4) (by rw [hb]; exact d7) hout hRframes (by simp only [List.map_cons, List.sum_cons, hcat]; omega) hlocks
  obtain ⟨f1, f2⟩ := vx_frame hsame
  rw [hhp] at f1 f2
  have hWs : s.WarmedH U.vm := State.WarmedH.trans hW0 hW
  have hcl : s.vm.findClass cls = some ce.cls := by
    have h9 := hO.cls
    rw [hvm] at h9
    exact h9
  have hall : s.sameButNew ({ U with vm := s.vm } : State) locs mc ms := by
    subst hA
    obtain ⟨e1, e2⟩ := hsame
    rw [State.setFrames_setFrames] at e1
    have h2 : (T.setVm s.vm).sameButNew ({ U with vm := s.vm } : State) [] (0 + 1) (0 + 6) := ⟨e1, e2⟩
    have h3 := X.same.trans h2
    rw [List.append_nil] at h3
    exact h3.mono hc hs
  refine ⟨U, ?_, .threw T.heap.size, hrun, hend, Or.inr ⟨T.heap.size, rfl, cls, ce, locs, hx U hWs.alike f1 (fun q hq => f2 q hq (fun z hz => nomatch hz)), hce, hO.vm, hcl, hWs, hall, hf⟩⟩
  refine st1 _ ?_
  show Steps p.tables e below (T1.setTop { method := m, pc := pc + 3, locals := ls, stack := .ref T.heap.size :: rest, locked := none }) _
  jvm_step X₁.here [X₁.here.top, hexec, d3', Value.category]
  exact hsteps
/-- 'throw new E("text")': new; dup; ldc; invokespecial; athrow -/
theorem vx_throwS {cc : ByteArray} {pc : Nat} (hexec : p.tables.exec = Jvm.exec) (hb : c.code = cc) (hl : l.stackTraces = false) {own cls text : String} {names : List String} {ik is ic mc ms sa : Nat} {A : Nat → Prop}
    (hown : s.vm.findClass own = some m.cls) (hcls : Bundle.fit cls = true) (hnames : ∀ n ∈ names, Bundle.fit n = true)
    (hk : (Cond.classLink own ik cls).before args s = true) (hini : (Cond.initialized cls).before args s = true) (hstr : vk_R own is text sa s) (hat : ∀ w ∈ vx_atS own ic cls names, w.before args s = true)
    (hgood : ∀ w ∈ Cond.classLink own ik cls :: Cond.initialized cls :: vx_atS own ic cls names, vx_ot w = true)
    (hU : vx_Zq Bundle.tN "UNASSIGNED_STACK" Bundle.steD A s s.heap) (hN : vx_Zq Bundle.tN "SUPPRESSED_SENTINEL" Bundle.listD A s s.heap) (hS : va_S A s.heap H locs) (hsize : ls.size = c.maxLocals)
    (d0 : decode cc pc = .ok (.new ik, 3)) (d3 : decode cc (pc + 3) = .ok (.dup, 1)) (d4 : decode cc (pc + 4) = .ok (.ldc is, 2)) (d6 : decode cc (pc + 6) = .ok (.invokespecial ic, 3)) (d9 : decode cc (pc + 9) = .ok (.athrow, 1))
    (hout : ∀ x ∈ c.exceptionTable.toList, covers x (pc + 9) = false)
    (hRframes : names.length + 3 < R.frames) (hRlocals : (rest.map fun v => v.category).sum + (13 * (names.length + 1) + 43) ≤ R.locals) (hRcells : cells + 1 ≤ R.cells) (hRslots : slots + 6 ≤ R.slots) (hlocks : meth.locks = false)
    (hx : ∀ t : State, s.vm.Alike t.vm → H.size ≤ t.heap.size → (∀ q : Nat, q < H.size → t.heap[q]? = H[q]?) → XC cls s t)
    (hf : ∀ z ∈ locs, free z.base) (hc : cells + 1 ≤ mc) (hs : slots + 6 ≤ ms) :
    W p l e R s m args below meth c H locs cells slots (vx_MQ below Qc XC args s mc ms free) (F0 m pc ls rest) := by
  intro T hT X
  have htr : e.platform.stackTraces = false := (show e.platform.stackTraces = l.stackTraces by rw [X.admits.platform]).trans hl
  have Y := vx_rebase X (R' := { frames := R.frames, locals := R.locals, cells := 1, slots := 6 }) (Nat.le_refl _) (Nat.le_refl _) hRcells hRslots
  obtain ⟨s', hA⟩ : ∃ z, z = (T.setVm s.vm).setFrames (.invoking m args :: below) := ⟨_, rfl⟩
  rw [← hA] at Y
  have hvm : s'.vm = s.vm := by rw [hA]; rfl
  have hhp : s'.heap = H := by rw [hA]; exact hT
  have hW0 : s.WarmedH s'.vm := by rw [hvm]; exact State.WarmedH.refl s
  have hat' : ∀ w ∈ vx_atS own ic cls names, w.before args s' = true := fun w hw => vx_ot_at hW0 hvm.symm (hgood w (List.mem_cons_of_mem _ (List.mem_cons_of_mem _ hw))) (hat w hw)
  have hk' : (Cond.classLink own ik cls).before args s' = true := vx_ot_at hW0 hvm.symm (hgood _ List.mem_cons_self) hk
  have hini' : (Cond.initialized cls).before args s' = true := vx_ot_at hW0 hvm.symm (hgood _ (List.mem_cons_of_mem _ List.mem_cons_self)) hini
  have hU' : vx_Zq Bundle.tN "UNASSIGNED_STACK" Bundle.steD A s' s'.heap := by rw [hhp]; exact vx_Zq.moved hW0.alike (hU.kept hS.2.1)
  have hN' : vx_Zq Bundle.tN "SUPPRESSED_SENTINEL" Bundle.listD A s' s'.heap := by rw [hhp]; exact vx_Zq.moved hW0.alike (hN.kept hS.2.1)
  have h : ∀ w ∈ Bundle.ownAtoms own ic cls names, w.before args s' = true := vx_own hat' (vx_isRefq hU'.1) (vx_isRefq hN'.1) hU'.2.word hN'.2.word
  have hown' : s'.vm.findClass own = some m.cls := by rw [hvm]; exact hown
  have hins : (Cond.instantiable cls 6).before args s' = true := h _ (by simp [Bundle.ownAtoms])
  obtain ⟨vm₁, cX, kX, hfX, hkX, -, -, X₁, st1⟩ := Y.newCold hexec (own := own) (C := cls) (index := ik) (n := 6) hown' hk' hins hini'
    (g := F0 m pc ls rest) rfl (by rw [hb]; exact d0) (Nat.le_refl _) (Nat.le_refl _)
  generalize hT1 : (T.setVm vm₁).pushCell { cls := cX, slots := kX.instanceTypes.map defaultValue, vm := .none } = T1 at X₁ st1
  have hcat : (Value.ref T.heap.size).category = 1 := rfl
  have hcellA : T1.heap[T.heap.size]? = some (freshCell cX kX) := by rw [← hT1]; exact State.heap_pushCell_size _ _
  have d3' : decode c.code (pc + 3) = .ok (.dup, 1) := by rw [hb]; exact d3
  have d4' : decode c.code (pc + 4) = .ok (.ldc is, 2) := by rw [hb]; exact d4
  have hstr' : vk_R own is text sa s' := vk_R.warm hW0 hstr
  obtain ⟨U, hsteps, hrun, hend, hW, hsame, ce, hce, hO⟩ := X₁.ctorThrowS hexec htr (own := own) (cls := cls) (names := names) (ic := ic) hown' hcls hnames h (fun x hx => nomatch hx) hfX hkX hcellA (by rw [hhp, hT]; exact Nat.le_refl _) (msg := .ref sa) rfl
    (g := { method := m, pc := pc + 6, locals := ls, stack := .ref sa :: .ref T.heap.size :: .ref T.heap.size :: rest, locked := none }) rfl hsize rfl rfl (rest := rest) rfl
    (by rw [hb]; exact d6) (by rw [hb]; exact d9) hout hRframes (by simp only [List.map_cons, List.sum_cons, hcat]; omega) hlocks
  obtain ⟨f1, f2⟩ := vx_frame hsame
  rw [hhp] at f1 f2
  have hWs : s.WarmedH U.vm := State.WarmedH.trans hW0 hW
  have hcl : s.vm.findClass cls = some ce.cls := by
    have h9 := hO.cls
    rw [hvm] at h9
    exact h9
  have hall : s.sameButNew ({ U with vm := s.vm } : State) locs mc ms := by
    subst hA
    obtain ⟨e1, e2⟩ := hsame
    rw [State.setFrames_setFrames] at e1
    have h2 : (T.setVm s.vm).sameButNew ({ U with vm := s.vm } : State) [] (0 + 1) (0 + 6) := ⟨e1, e2⟩
    have h3 := X.same.trans h2
    rw [List.append_nil] at h3
    exact h3.mono hc hs
  refine ⟨U, ?_, .threw T.heap.size, hrun, hend, Or.inr ⟨T.heap.size, rfl, cls, ce, locs, hx U hWs.alike f1 (fun q hq => f2 q hq (fun z hz => nomatch hz)), hce, hO.vm, hcl, hWs, hall, hf⟩⟩
  refine st1 _ ?_
  show Steps p.tables e below (T1.setTop { method := m, pc := pc + 3, locals := ls, stack := .ref T.heap.size :: rest, locked := none }) _
  jvm_step X₁.here [X₁.here.top, hexec, d3', Value.category]
  exact X₁.ldcString hexec (own := own) (text := text) (index := is) (a := sa) hown' hstr'.1 hstr'.2
    (g := { method := m, pc := pc + 4, locals := ls, stack := .ref T.heap.size :: .ref T.heap.size :: rest, locked := none }) rfl d4' _ hsteps
/-- 'throw new E("text")', the text by a wide index -/
theorem vx_throwSW {cc : ByteArray} {pc : Nat} (hexec : p.tables.exec = Jvm.exec) (hb : c.code = cc) (hl : l.stackTraces = false) {own cls text : String} {names : List String} {ik is ic mc ms sa : Nat} {A : Nat → Prop}
    (hown : s.vm.findClass own = some m.cls) (hcls : Bundle.fit cls = true) (hnames : ∀ n ∈ names, Bundle.fit n = true)
    (hk : (Cond.classLink own ik cls).before args s = true) (hini : (Cond.initialized cls).before args s = true) (hstr : vk_R own is text sa s) (hat : ∀ w ∈ vx_atS own ic cls names, w.before args s = true)
    (hgood : ∀ w ∈ Cond.classLink own ik cls :: Cond.initialized cls :: vx_atS own ic cls names, vx_ot w = true)
    (hU : vx_Zq Bundle.tN "UNASSIGNED_STACK" Bundle.steD A s s.heap) (hN : vx_Zq Bundle.tN "SUPPRESSED_SENTINEL" Bundle.listD A s s.heap) (hS : va_S A s.heap H locs) (hsize : ls.size = c.maxLocals)
    (d0 : decode cc pc = .ok (.new ik, 3)) (d3 : decode cc (pc + 3) = .ok (.dup, 1)) (d4 : decode cc (pc + 4) = .ok (.ldc_w is, 3)) (d7 : decode cc (pc + 7) = .ok (.invokespecial ic, 3)) (d10 : decode cc (pc + 10) = .ok (.athrow, 1))
    (hout : ∀ x ∈ c.exceptionTable.toList, covers x (pc + 10) = false)
    (hRframes : names.length + 3 < R.frames) (hRlocals : (rest.map fun v => v.category).sum + (13 * (names.length + 1) + 43) ≤ R.locals) (hRcells : cells + 1 ≤ R.cells) (hRslots : slots + 6 ≤ R.slots) (hlocks : meth.locks = false)
    (hx : ∀ t : State, s.vm.Alike t.vm → H.size ≤ t.heap.size → (∀ q : Nat, q < H.size → t.heap[q]? = H[q]?) → XC cls s t)
    (hf : ∀ z ∈ locs, free z.base) (hc : cells + 1 ≤ mc) (hs : slots + 6 ≤ ms) :
    W p l e R s m args below meth c H locs cells slots (vx_MQ below Qc XC args s mc ms free) (F0 m pc ls rest) := by
  intro T hT X
  have htr : e.platform.stackTraces = false := (show e.platform.stackTraces = l.stackTraces by rw [X.admits.platform]).trans hl
  have Y := vx_rebase X (R' := { frames := R.frames, locals := R.locals, cells := 1, slots := 6 }) (Nat.le_refl _) (Nat.le_refl _) hRcells hRslots
  obtain ⟨s', hA⟩ : ∃ z, z = (T.setVm s.vm).setFrames (.invoking m args :: below) := ⟨_, rfl⟩
  rw [← hA] at Y
  have hvm : s'.vm = s.vm := by rw [hA]; rfl
  have hhp : s'.heap = H := by rw [hA]; exact hT
  have hW0 : s.WarmedH s'.vm := by rw [hvm]; exact State.WarmedH.refl s
  have hat' : ∀ w ∈ vx_atS own ic cls names, w.before args s' = true := fun w hw => vx_ot_at hW0 hvm.symm (hgood w (List.mem_cons_of_mem _ (List.mem_cons_of_mem _ hw))) (hat w hw)
  have hk' : (Cond.classLink own ik cls).before args s' = true := vx_ot_at hW0 hvm.symm (hgood _ List.mem_cons_self) hk
  have hini' : (Cond.initialized cls).before args s' = true := vx_ot_at hW0 hvm.symm (hgood _ (List.mem_cons_of_mem _ List.mem_cons_self)) hini
  have hU' : vx_Zq Bundle.tN "UNASSIGNED_STACK" Bundle.steD A s' s'.heap := by rw [hhp]; exact vx_Zq.moved hW0.alike (hU.kept hS.2.1)
  have hN' : vx_Zq Bundle.tN "SUPPRESSED_SENTINEL" Bundle.listD A s' s'.heap := by rw [hhp]; exact vx_Zq.moved hW0.alike (hN.kept hS.2.1)
  have h : ∀ w ∈ Bundle.ownAtoms own ic cls names, w.before args s' = true := vx_own hat' (vx_isRefq hU'.1) (vx_isRefq hN'.1) hU'.2.word hN'.2.word
  have hown' : s'.vm.findClass own = some m.cls := by rw [hvm]; exact hown
  have hins : (Cond.instantiable cls 6).before args s' = true := h _ (by simp [Bundle.ownAtoms])
  obtain ⟨vm₁, cX, kX, hfX, hkX, -, -, X₁, st1⟩ := Y.newCold hexec (own := own) (C := cls) (index := ik) (n := 6) hown' hk' hins hini'
    (g := F0 m pc ls rest) rfl (by rw [hb]; exact d0) (Nat.le_refl _) (Nat.le_refl _)
  generalize hT1 : (T.setVm vm₁).pushCell { cls := cX, slots := kX.instanceTypes.map defaultValue, vm := .none } = T1 at X₁ st1
  have hcat : (Value.ref T.heap.size).category = 1 := rfl
  have hcellA : T1.heap[T.heap.size]? = some (freshCell cX kX) := by rw [← hT1]; exact State.heap_pushCell_size _ _
  have d3' : decode c.code (pc + 3) = .ok (.dup, 1) := by rw [hb]; exact d3
  have d4' : decode c.code (pc + 4) = .ok (.ldc_w is, 3) := by rw [hb]; exact d4
  have hstr' : vk_R own is text sa s' := vk_R.warm hW0 hstr
  obtain ⟨U, hsteps, hrun, hend, hW, hsame, ce, hce, hO⟩ := X₁.ctorThrowS hexec htr (own := own) (cls := cls) (names := names) (ic := ic) hown' hcls hnames h (fun x hx => nomatch hx) hfX hkX hcellA (by rw [hhp, hT]; exact Nat.le_refl _) (msg := .ref sa) rfl
    (g := { method := m, pc := pc + 7, locals := ls, stack := .ref sa :: .ref T.heap.size :: .ref T.heap.size :: rest, locked := none }) rfl hsize rfl rfl (rest := rest) rfl
    (by rw [hb]; exact d7) (by rw [hb]; exact d10) hout hRframes (by simp only [List.map_cons, List.sum_cons, hcat]; omega) hlocks
  obtain ⟨f1, f2⟩ := vx_frame hsame
  rw [hhp] at f1 f2
  have hWs : s.WarmedH U.vm := State.WarmedH.trans hW0 hW
  have hcl : s.vm.findClass cls = some ce.cls := by
    have h9 := hO.cls
    rw [hvm] at h9
    exact h9
  have hall : s.sameButNew ({ U with vm := s.vm } : State) locs mc ms := by
    subst hA
    obtain ⟨e1, e2⟩ := hsame
    rw [State.setFrames_setFrames] at e1
    have h2 : (T.setVm s.vm).sameButNew ({ U with vm := s.vm } : State) [] (0 + 1) (0 + 6) := ⟨e1, e2⟩
    have h3 := X.same.trans h2
    rw [List.append_nil] at h3
    exact h3.mono hc hs
  refine ⟨U, ?_, .threw T.heap.size, hrun, hend, Or.inr ⟨T.heap.size, rfl, cls, ce, locs, hx U hWs.alike f1 (fun q hq => f2 q hq (fun z hz => nomatch hz)), hce, hO.vm, hcl, hWs, hall, hf⟩⟩
  refine st1 _ ?_
  show Steps p.tables e below (T1.setTop { method := m, pc := pc + 3, locals := ls, stack := .ref T.heap.size :: rest, locked := none }) _
  jvm_step X₁.here [X₁.here.top, hexec, d3', Value.category]
  exact X₁.ldcStringW hexec (own := own) (text := text) (index := is) (a := sa) hown' hstr'.1 hstr'.2
    (g := { method := m, pc := pc + 4, locals := ls, stack := .ref T.heap.size :: .ref T.heap.size :: rest, locked := none }) rfl d4' _ hsteps
end Ends
section Bodies
variable {l : Launch}
theorem vx_ofW {y : MethodName} {ws ws' : List Cond} {rm : Room} {Pc : Array Value → State → Prop} {Qc : Array Value → State → Outcome → State → Prop} {XC : String → State → State → Prop} {mc ms : Nat} {free : Addr → Prop} {cc : ByteArray} {maxL : Nat} {ret : Option FieldType}
    (hy : plainName y.cls = true) (hw : ws = Cond.code y cc maxL ret :: ws')
    (body : ∀ p e s m args below meth c s₁, BodyLoose p l y (headSpec ws rm) cc maxL ret e s m args below meth c s₁ → c.maxLocals = maxL → (∀ x ∈ c.exceptionTable.toList, False) → Pc args s →
      W p l e (headSpec ws rm).room s m args below meth c s.heap [] 0 0 (vx_MQ below Qc XC args s mc ms free) (entryFrame m args maxL)) : vx_Met l y ws rm Pc Qc XC mc ms free := by
  refine MetFree.of_bodyS (code := cc) (maxLocals := maxL) (ret := ret) hy ?_ ?_
  · intro args s m h hn
    obtain ⟨meth, c, h1, h2, h3, h4, h5, h6, -, -⟩ := Cond.code_spec hn (atoms_spec (ws := ws) h _ (by rw [hw]; exact List.mem_cons_self))
    exact ⟨meth, c, h1, h2, h3, h4, h5, h6⟩
  · intro p e s m args below meth c s₁ B hml hP _
    have hh0 : s₁.heap = s.heap := by rw [B.state]; rfl
    have ht : ∀ x ∈ c.exceptionTable.toList, False := by
      obtain ⟨meth9, c9, h1, h2, -, -, -, -, h7, -⟩ := Cond.code_spec B.named (atoms_spec (ws := ws) B.pre _ (by rw [hw]; exact List.mem_cons_self))
      cases Option.some.inj (h1.symm.trans B.method)
      cases Option.some.inj (h2.symm.trans (Stand.of_body B).code)
      intro x hx
      rw [Array.isEmpty_iff.mp h7] at hx
      cases hx
    obtain ⟨t, a1, o, b1, b2, b3⟩ := body p e s m args below meth c s₁ B hml ht hP s₁ hh0 (Stand.of_body B)
    exact ⟨t, o, a1, b1, b2, b3⟩
/-- the table of a body with handlers -/
theorem vx_table {p : Program} {x y : MethodName} {S : Spec} {cc bytes : ByteArray} {maxL maxL' : Nat} {ret ret' : Option FieldType} {e : Env} {s s₁ : State} {m : MethodId} {args : Array Value} {below : List Frame} {meth : Method} {c : Code} {hh : List (Nat × Nat × Nat × Nat)}
    (B : BodyLoose p l y S cc maxL ret e s m args below meth c s₁) (h : (Cond.codeWith y bytes maxL' ret' hh).before args s = true) : c.exceptionTable.toList = tableOf hh := by
  obtain ⟨m9, meth9, c9, hn9, h1, h2, -, -, h6, -⟩ := Cond.codeWith_spec h
  cases Option.some.inj (hn9.symm.trans B.named)
  cases Option.some.inj (h1.symm.trans B.method)
  cases Option.some.inj (h2.symm.trans (Stand.of_body B).code)
  rw [← h6, table_eq]
end Bodies
end VXA
/-! ===== END ===== -/
/-! ===== BEGIN a static call of a method with an exception table ===== -/
section VXS
variable {p : Program} {l : Launch} {e : Env} {R : Room} {s : State} {m : MethodId} {args : Array Value} {below : List Frame} {meth : Method} {c : Code} {T : State} {H : Heap} {locs : List Loc} {cells slots : Nat}
abbrev vx_CSW (R : Room) (s : State) (args : Array Value) (own : String) (index : Nat) (y : MethodName) (bytes : ByteArray) (maxL : Nat) (ret : Option FieldType) (hh : List (Nat × Nat × Nat × Nat)) (ws : List Cond) (rm : Room) (mc ms n : Nat) : Prop :=
  (rm.cells = mc ∧ rm.slots = ms ∧ rm.frames + 1 ≤ R.frames ∧ 8 + (maxL + 11) + rm.locals ≤ R.locals ∧ (∀ w ∈ ws, ∀ (a' : Array Value) (U : State), s.WarmedH U.vm → w.before a' U = true) ∧ Cond.codeWith y bytes maxL ret hh ∈ ws) ∧
  (Cond.codeWith y bytes maxL ret hh).before args s = true ∧ (Cond.initialized y.cls).before args s = true ∧ (y.cls ≠ "java/lang/invoke/MethodHandle" ∧ y.cls ≠ "java/lang/invoke/VarHandle") ∧
  (∀ sig, parseMethodDescriptor y.desc = some sig → n = sig.parameters.length) ∧ (Cond.methodLink own index y).before args s = true ∧ (Cond.static y).before args s = true
theorem vx_cwSW {own : String} {index maxL mc ms : Nat} {y : MethodName} {bytes : ByteArray} {ret : Option FieldType} {hh : List (Nat × Nat × Nat × Nat)} {Ts ws ws' : List Cond} {rm : Room} (n : Nat) (ht : ∀ w ∈ Ts, w.before args s = true) (hT : GoodIn Ts (va_wsS own index y ws)) (hw : ws = Cond.codeWith y bytes maxL ret hh :: ws') (hrc : rm.cells = mc) (hrs : rm.slots = ms)
    (hd : y.cls ≠ "java/lang/invoke/MethodHandle" ∧ y.cls ≠ "java/lang/invoke/VarHandle" ∧ (parseMethodDescriptor y.desc).map (fun d => d.parameters.length) = some n) (hR : rm.frames + 1 ≤ R.frames ∧ 8 + (maxL + 11) + rm.locals ≤ R.locals) :
    vx_CSW R s args own index y bytes maxL ret hh ws rm mc ms n := by
  have ok : ∀ w ∈ va_wsS own index y ws, w.before args s = true := fun w h => ht w (hT w h).1
  have hG : GoodIn Ts ws := fun w h => hT w (by unfold va_wsS; exact List.mem_append_right _ h)
  have hc : Cond.codeWith y bytes maxL ret hh ∈ ws := by rw [hw]; exact List.mem_cons_self
  refine ⟨⟨hrc, hrs, hR.1, hR.2, pay_in ht hG, hc⟩, ht _ (hG _ hc).1, ok _ (by simp [va_wsS]), ⟨hd.1, hd.2.1⟩, fun sig h => ?_, ok _ (by simp [va_wsS]), ok _ (by simp [va_wsS])⟩
  have h2 := hd.2.2
  rw [h] at h2
  exact (Option.some.inj h2).symm
theorem vx_callSW (X : Stand p l e R s m args below meth c T locs cells slots) (hexec : p.tables.exec = Jvm.exec) {own : String} {index : Nat} {y : MethodName} {bytes : ByteArray} {maxL : Nat} {ret : Option FieldType} {hh : List (Nat × Nat × Nat × Nat)}
    (hown : s.vm.findClass own = some m.cls) (hlink : (Cond.methodLink own index y).before args s = true) (hstat : (Cond.static y).before args s = true) (hinit : (Cond.initialized y.cls).before args s = true)
    (hcode : (Cond.codeWith y bytes maxL ret hh).before args s = true) (hy : y.cls ≠ "java/lang/invoke/MethodHandle" ∧ y.cls ≠ "java/lang/invoke/VarHandle")
    {W9 : Nat} {Pre : Pt → Array Value → Prop} {Post : Pt → Array Value → Option Value → Pt → Prop} (hK : Back l R p e below s args y 3 W9 Pre Post)
    {g : JFrame} (hg : g.method = m) (hsize : g.locals.size = c.maxLocals) {argsL rest : List Value} (hlen : ∀ sig, parseMethodDescriptor y.desc = some sig → argsL.length = sig.parameters.length)
    (hstack : g.stack = argsL.reverse ++ rest) (hW : 2 * g.monitorRoom + (rest.map fun v => v.category).sum ≤ W9) (hdg : decode c.code g.pc = .ok (.invokestatic index, 3))
    (hpre : ∀ vm₁, s.WarmedH vm₁ → Pre ⟨T.setVm vm₁, locs, cells, slots⟩ argsL.toArray) :
    ∃ (v : Option Value) (vm₁ : Vm) (B : Pt), s.WarmedH vm₁ ∧ Stand p l e R s m args below meth c B.U B.locs B.cells B.slots ∧ Post ⟨T.setVm vm₁, locs, cells, slots⟩ argsL.toArray v B ∧
      ∀ target, Steps p.tables e below (B.U.setTop { g with pc := g.pc + 3, stack := v.toList ++ rest }) target → Steps p.tables e below (T.setTop g) target := by
  obtain ⟨mk, methM, cM, hnamed, hmethM, -, -, -, -, -, -, hsigM⟩ := Cond.codeWith_spec hcode
  have hstatic : methM.isStatic = true := Cond.static_spec hnamed hmethM hstat
  obtain ⟨kP, hkP, -⟩ := className_of_methodNamed hnamed
  have hinitP : kP.init = .initialized := Cond.initialized_spec (findClass_of_methodNamed hnamed) hkP hinit
  obtain ⟨vm₁, X₁, hstep₁⟩ := X.invokestatic hexec hown hlink hnamed hmethM hstatic hkP hinitP hy (g := g) hg (argsL := argsL) (rest := rest) (hlen _ hsigM) hstack hdg
  obtain ⟨v, B, X', hpost, hsteps⟩ := hK m meth c ⟨T.setVm vm₁, locs, cells, slots⟩ { g with stack := rest } (.invokestatic index) mk argsL.toArray X₁ hg hsize hdg hW (X₁.named hnamed) (hpre vm₁ X₁.warmed)
  exact ⟨v, vm₁, B, X₁.warmed, X', hpost, fun target h => hstep₁ _ fun acts => by rw [doInvoke_state]; exact hsteps.trans h⟩
theorem vx_runSW {y : MethodName} {bytes cc : ByteArray} {maxL nL mc ms n index : Nat} {ret : Option FieldType} {hh : List (Nat × Nat × Nat × Nat)} {ws : List Cond} {rm : Room} {Pc : Array Value → State → Prop} {Qc : Array Value → State → Outcome → State → Prop} {free : Addr → Prop} {Ts : List Cond} {own : String} {As rest : List Value} {g : JFrame}
    (S : CallFix p m c cc nL s args Ts own) (hM : Met l y ws rm Pc Qc mc ms free) (cw : vx_CSW R s args own index y bytes maxL ret hh ws rm mc ms n) (hp : PreS s H Pc As)
    (hg : g.method = m) (hn : As.length = n) (hsize : g.locals.size = nL) (hstack : g.stack = As.reverse ++ rest) (hW : 2 * g.monitorRoom + (rest.map fun v => v.category).sum ≤ 8) (hdg : decode cc g.pc = .ok (.invokestatic index, 3)) (hf : cells + mc ≤ R.cells ∧ slots + ms ≤ R.slots) :
    va_Run p l e R s m args below meth c H locs cells slots mc ms g rest (Qc As.toArray) (free) := by
  obtain ⟨⟨hrc, hrs, hfr, hlo, hws, hcw⟩, hcode, hini, hy, hlen, hl, hstt⟩ := cw
  have hK : Back l R p e below s args y 3 8 (PreOf R mc ms Pc) (PostOf Qc mc ms free) := va_backW (hh := hh) (bytes := bytes) (maxL := maxL) (ret := ret) hM hp.1 hrc hrs hfr hlo hws hcw (fun a' U hW => word_at hW (Or.inl (by first | rfl | simp [Cond.onTables, Cond.keeps, Cond.steady])) hini)
  obtain ⟨hx, hb, hml, ho, -⟩ := S
  intro T hT X
  obtain ⟨v, vm₁, ⟨U', l2, c2, s2⟩, hW₁, X', ⟨g', mk, t, L, e1, e2, hq, h1, hL, h2, h3⟩, st⟩ := vx_callSW X hx (hh := hh) (bytes := bytes) (maxL := maxL) (ret := ret) ho hl hstt hini hcode hy hK hg (hsize.trans hml.symm) (argsL := As) (rest := rest) (fun sig h => hn.trans (hlen sig h)) hstack hW (by rw [hb]; exact hdg)
    (fun vm₁ hW₁ => ⟨hf.1, hf.2, hp.2 (T.setVm vm₁) hT hW₁⟩)
  dsimp only [Pt.U, Pt.locs, Pt.cells, Pt.slots] at X' e1 e2 h1 h2 h3 st
  subst h1; subst h2; subst h3
  exact ⟨v, (T.setVm vm₁).calling g' mk As.toArray, t, U', L, hT, X', hL, e1, e2, hq, st⟩
/-- not caught here, past rows that name other classes: it goes on to the caller -/
theorem vx_outP {p : Program} {l : Launch} {e : Env} {R : Room} {s : State} {m : MethodId} {args : Array Value} {below : List Frame} {meth : Method} {c : Code} {H : Heap} {locs : List Loc} {cells slots : Nat} {free : Addr → Prop} {ls : Array Slot} {rest : List Value} {Qc : Array Value → State → Outcome → State → Prop} {XC : String → State → State → Prop}
    {pc : Nat} {own E : String} {ce : Cell} {q : Addr} {mc ms : Nat} (hown : s.vm.findClass own = some m.cls) (hlocks : meth.locks = false)
    (hpass : ∀ z ∈ c.exceptionTable.toList, covers z pc = false ∨ (z.catchType ≠ 0 ∧ ∃ nm : String, (Cond.classLink own z.catchType nm).before args s = true ∧ va_Nc E nm s)) (hcell : H[q]? = some ce) (hv : ce.vm = .none) (hcl : s.vm.findClass E = some ce.cls)
    (hx : ∀ t : State, t.heap = H → s.vm.Alike t.vm → XC E s t) (hf : ∀ z ∈ locs, free z.base) (hc : cells ≤ mc) (hs : slots ≤ ms) :
    vx_W p l e R s m args below meth c H locs cells slots (vx_MQ below Qc XC args s mc ms free) (F0 m pc ls rest) q := by
  intro T hT X
  have hpl : e.platform.magicAccessors = ({} : Platform).magicAccessors := by rw [X.admits.platform]
  obtain ⟨vm', hW', X', st⟩ := X.outThrough hlocks q (g := F0 m pc ls rest) rfl rfl rfl (cell := ce) (by rw [hT]; exact hcell) (by rw [hv]; rfl)
    (by obtain ⟨k9, h9, -⟩ := Vm.findClass_spec hcl; exact ⟨k9, h9⟩) (fun z hz => by
      rcases hpass z hz with h | ⟨hz0, nm, hl1, hn1⟩
      · exact Or.inl h
      · obtain ⟨c6, hc6, hcl6⟩ := Cond.classLink_spec hown hl1 e.platform hpl
        obtain ⟨a8, b8, h1, h2, h3⟩ := hn1
        cases Option.some.inj (h1.symm.trans hcl)
        cases Option.some.inj (h2.symm.trans hc6)
        exact Or.inr ⟨hz0, _, hcl6, h3⟩)
  obtain ⟨g₀, hfr⟩ := X'.frames_eq
  have hcell9 : ((T.setVm vm').setFrames (.throwing q :: below)).heap[q]? = some ce := by
    show T.heap[q]? = some ce
    rw [hT]; exact hcell
  have hend : Ended ((T.setVm vm').setFrames (.throwing q :: below)) below (.threw q) := State.frames_setFrames _ (State.cur_lt_of_frames hfr)
  refine ⟨(T.setVm vm').setFrames (.throwing q :: below), ?_, .threw q, X'.here.running, hend, Or.inr ⟨q, rfl, E, ce, locs, hx _ hT (X'.ends _).1.alike, hcell9, hv, hcl, (X'.ends _).1, (X'.ends _).2.mono hc hs, hf⟩⟩
  rw [X.pushThrowing_eq]
  exact st
/-- a thing of a world lies in the heap -/
theorem vx_lt {D : va_G} {cl : List vw_C} {ws : va_W} {H1 : Heap} (h : va_P D cl ws H1) {k : Nat} {q : Nat × va_E} (hk : ws[k]? = some q) : q.1 < H1.size := (h k q hk).lt
end VXS
/-! ===== END ===== -/
/-! ===== BEGIN methods with a table of their own: called by a name, returning or throwing ===== -/
section VXH
/-! vx_backW, vx_callVX, vx_callSX, vx_callVW, vx_runVW, vx_runVX, vx_runSX, vx_ofWH follow the same proofs as their sisters above (Free/Laws.lean, Shelf42/LK1.lean); vx_outP calls Shelf42/NT130.lean (outThrough). -/
section
variable {l : Launch} {R : Room} {p : Program} {e : Env} {below : List Frame} {s : State} {sargs : Array Value} {y : MethodName} {len W9 : Nat}
theorem vx_backW {ws : List Cond} {rm : Room} {Pc : Array Value → State → Prop} {Qc : Array Value → State → Outcome → State → Prop} {XC : String → State → State → Prop} {mc ms : Nat} {free : Addr → Prop} {bytes : ByteArray} {maxL : Nat} {ret : Option FieldType} {hh : List (Nat × Nat × Nat × Nat)}
    (hM : vx_Met l y ws rm Pc Qc XC mc ms free) (hblind : FrameBlind Pc) (hrc : rm.cells = mc) (hrs : rm.slots = ms)
    (hframes : rm.frames + 1 ≤ R.frames) (hlocals : W9 + (maxL + 11) + rm.locals ≤ R.locals)
    (hws : ∀ w ∈ ws, ∀ a' U, s.WarmedH U.vm → w.before a' U = true) (hcode : Cond.codeWith y bytes maxL ret hh ∈ ws) (hinit : ∀ a' U, s.WarmedH U.vm → (Cond.initialized y.cls).before a' U = true) :
    vx_Back l R p e below s sargs y len W9 (PreOf R mc ms Pc) (PostOf Qc mc ms free) (vx_Post XC mc ms free) := by
  intro m meth c A g ig mk a X hg hsize hdg hW hn hp
  have h1 : (headSpec ws rm).pre.before a A.U = true := atoms_intro fun w hw => hws w hw _ _ X.warmed
  have h2 : (Cond.codeWith y bytes maxL ret hh).before a A.U = true := hws _ hcode _ _ X.warmed
  have h3 : (Cond.initialized y.cls).before a A.U = true := hinit _ _ X.warmed
  have h4 : A.cells + (headSpec ws rm).room.cells ≤ R.cells := by rw [show (headSpec ws rm).room.cells = mc from hrc]; exact hp.1
  have h5 : A.slots + (headSpec ws rm).room.slots ≤ R.slots := by rw [show (headSpec ws rm).room.slots = ms from hrs]; exact hp.2.1
  have hPc : Pc a (A.U.calling g mk a) := hblind _ _ _ _ hp.2.2
  obtain ⟨U, Ls, c0, s0⟩ := A
  dsimp only [Pt.U, Pt.locs, Pt.cells, Pt.slots] at h1 h2 h3 h4 h5 X hn hPc ⊢
  obtain ⟨m9, methY, cY, hn9, hmY, hcY, -, hlY, -⟩ := Cond.codeWith_spec h2
  cases Option.some.inj (hn9.symm.trans hn)
  obtain ⟨kY, hkY, -⟩ := className_of_methodNamed hn
  have hinitY : kY.init = .initialized := Cond.initialized_spec (findClass_of_methodNamed hn) hkY h3
  have h : At U g.method c below := by rw [hg]; exact X.here
  have hlocals9 : W9 + (maxL + 11) + (headSpec ws rm).room.locals ≤ R.locals := hlocals
  have happ : (headSpec ws rm).appliesLoose y e.platform (U.calling g mk a) = true :=
    Spec.appliesLoose_calling (g := g) h hdg hn hkY hinitY
      (X.room_calling (g := g) (R' := (headSpec ws rm).room) hsize hmY hcY hframes (by rw [hlY]; omega) h4 h5) h1
  obtain ⟨mid, hmid⟩ := h.above
  have hfr : (U.setTop g).frames = (.java g :: mid) ++ below := by rw [State.frames_setTop' g h.top, hmid]; rfl
  obtain ⟨o, s₂, hsteps, -, hend, hq⟩ := Steps.callFree hM p X.admits X.cas X.clock (acts := []) hfr happ hPc trivial
  have hq' : vx_Q Qc XC mc ms free a (U.calling g mk a) o s₂ := hq
  rw [State.frames_setTop' g h.top] at hend
  obtain ⟨g₀, hg0⟩ := Option.isSome_iff_exists.mp h.top
  obtain ⟨r, hr⟩ := State.topJava?_eq_some.mp hg0
  have hr' : (({ U with heap := s₂.heap, slotsUsed := s₂.slotsUsed } : State).setVm s₂.vm).frames = .java g₀ :: r := hr
  rcases hq' with ⟨hqc, L, hfe, hL⟩ | ⟨q, rfl, E, ce, L, hx, hce, hcv, hcl, hW₂, hsm, hL⟩
  · obtain ⟨⟨v, rfl⟩, hW₂, e2, q2, q3, q4, q5, q6⟩ := id hfe
    have e3 : s₂ = ({ (U.calling g mk a).setFrames s₂.frames with heap := s₂.heap, slotsUsed := s₂.slotsUsed } : State).setVm s₂.vm := by
      have : s₂ = ({ s₂ with vm := (U.calling g mk a).vm } : State).setVm s₂.vm := rfl
      rw [e2] at this
      exact this
    obtain ⟨c₂, i₂, len₂, hc₂, hd₂, hf₂⟩ := hend
    have hW' : U.WarmedH s₂.vm := hW₂
    have hcc : c₂ = c := by
      have h1 : s₂.code? g.method = U.code? g.method := by
        rw [State.code?_eq, State.code?_eq, hW'.alike.method?]
      exact Option.some.inj (hc₂.symm.trans (h1.trans h.code))
    subst hcc
    have hlen : len₂ = len := by rw [hdg] at hd₂; cases hd₂; rfl
    subst hlen
    have hs₂ : s₂ = (({ U with heap := s₂.heap, slotsUsed := s₂.slotsUsed } : State).setVm s₂.vm).setTop { g with pc := g.pc + len₂, stack := v.toList ++ g.stack } := by
      refine e3.trans ?_
      rw [hf₂, State.calling_eq h.top, State.setFrames_setFrames, State.setTop_of_frames _ hr', hr]
      rfl
    have hsame : U.sameButNew ({ U with heap := s₂.heap, slotsUsed := s₂.slotsUsed } : State) L mc ms := by
      refine ⟨?_, q2, q3, q4, q5, q6⟩
      obtain ⟨t, ht, -⟩ := State.frames_cons hr
      show ({ U with heap := s₂.heap, slotsUsed := s₂.slotsUsed } : State) = { U.setFrames U.frames with heap := s₂.heap, slotsUsed := s₂.slotsUsed }
      rw [State.setFrames_self ht]
    subst hg
    refine Or.inl ⟨v, ⟨(({ U with heap := s₂.heap, slotsUsed := s₂.slotsUsed } : State).setVm s₂.vm), Ls ++ L, c0 + mc, s0 + ms⟩,
      ⟨X.admits, X.cas, X.clock, X.frames, X.room, X.hears, X.method, X.code, (X.here.setHeapUsed s₂.heap s₂.slotsUsed).setVm hW'.alike, X.tail, State.WarmedH.trans X.warmed hW', X.limits, X.bytes, X.same.trans (hsame.setVm s.vm)⟩,
      ⟨g, mk, s₂, L, rfl, rfl, hqc, rfl, hL, rfl, rfl⟩, ?_⟩
    show Steps p.tables e below _ ((({ U with heap := s₂.heap, slotsUsed := s₂.slotsUsed } : State).setVm s₂.vm).setTop { g with pc := g.pc + len₂, stack := v.toList ++ g.stack })
    rw [← hs₂]
    exact hsteps
  · obtain ⟨e2, q2, q3, q4, q5, q6⟩ := id hsm
    have e3 : s₂ = ({ (U.calling g mk a).setFrames s₂.frames with heap := s₂.heap, slotsUsed := s₂.slotsUsed } : State).setVm s₂.vm := by
      have : s₂ = ({ s₂ with vm := (U.calling g mk a).vm } : State).setVm s₂.vm := rfl
      rw [e2] at this
      exact this
    have hf₂ : s₂.frames = .throwing q :: .java g :: U.frames.tail := hend
    have hW' : U.WarmedH s₂.vm := hW₂
    have hs₂ : s₂ = ((({ U with heap := s₂.heap, slotsUsed := s₂.slotsUsed } : State).setVm s₂.vm).setTop g).pushFrame (.throwing q) := by
      refine e3.trans ?_
      rw [hf₂, State.calling_eq h.top, State.setFrames_setFrames, State.pushFrame, State.frames_setTop _ hr', State.setTop_of_frames _ hr', State.setFrames_setFrames, hr]
      rfl
    have hsame : U.sameButNew ({ U with heap := s₂.heap, slotsUsed := s₂.slotsUsed } : State) L mc ms := by
      refine ⟨?_, q2, q3, q4, q5, q6⟩
      obtain ⟨t, ht, -⟩ := State.frames_cons hr
      show ({ U with heap := s₂.heap, slotsUsed := s₂.slotsUsed } : State) = { U.setFrames U.frames with heap := s₂.heap, slotsUsed := s₂.slotsUsed }
      rw [State.setFrames_self ht]
    subst hg
    refine Or.inr ⟨q, ⟨(({ U with heap := s₂.heap, slotsUsed := s₂.slotsUsed } : State).setVm s₂.vm), Ls ++ L, c0 + mc, s0 + ms⟩,
      ⟨X.admits, X.cas, X.clock, X.frames, X.room, X.hears, X.method, X.code, (X.here.setHeapUsed s₂.heap s₂.slotsUsed).setVm hW'.alike, X.tail, State.WarmedH.trans X.warmed hW', X.limits, X.bytes, X.same.trans (hsame.setVm s.vm)⟩,
      ⟨g, mk, s₂, L, E, ce, rfl, rfl, hx, hce, hcv, hcl, rfl, hL, rfl, rfl⟩, ?_⟩
    show Steps p.tables e below _ (((({ U with heap := s₂.heap, slotsUsed := s₂.slotsUsed } : State).setVm s₂.vm).setTop g).pushFrame (.throwing q))
    rw [← hs₂]
    exact hsteps
end
variable {p : Program} {l : Launch} {e : Env} {R : Room} {s : State} {m : MethodId} {args : Array Value} {below : List Frame} {meth : Method} {c : Code} {T : State} {H : Heap} {locs : List Loc} {cells slots : Nat}
theorem vx_callVX (X : Stand p l e R s m args below meth c T locs cells slots) (hexec : p.tables.exec = Jvm.exec) {own C : String} {index : Nat} {y : MethodName} {bytes : ByteArray} {maxL : Nat} {ret : Option FieldType} {hh : List (Nat × Nat × Nat × Nat)}
    (hown : s.vm.findClass own = some m.cls) (hlink : (Cond.methodLink own index y).before args s = true) (hinst : (Cond.instanceMethod y).before args s = true) (hsel : (Cond.selects C y y).before args s = true)
    (hcode : (Cond.codeWith y bytes maxL ret hh).before args s = true) (hy : y.cls ≠ "java/lang/invoke/MethodHandle" ∧ y.cls ≠ "java/lang/invoke/VarHandle")
    {W9 : Nat} {Pre : Pt → Array Value → Prop} {Post : Pt → Array Value → Option Value → Pt → Prop} {PostX : Pt → Array Value → Addr → Pt → Prop} (hK : vx_Back l R p e below s args y 3 W9 Pre Post PostX)
    {b : Addr} {cellB : Cell} (hcell : T.heap[b]? = some cellB) (hobj : cellB.vm.isStatics = false) (hcls : s.vm.findClass C = some cellB.cls)
    {g : JFrame} (hg : g.method = m) (hsize : g.locals.size = c.maxLocals) {argsL rest : List Value} (hlen : ∀ sig, parseMethodDescriptor y.desc = some sig → argsL.length = sig.parameters.length)
    (hstack : g.stack = argsL.reverse ++ .ref b :: rest) (hW : 2 * g.monitorRoom + (rest.map fun v => v.category).sum ≤ W9) (hdg : decode c.code g.pc = .ok (.invokevirtual index, 3))
    (hpre : ∀ vm₁, s.WarmedH vm₁ → Pre ⟨T.setVm vm₁, locs, cells, slots⟩ (Value.ref b :: argsL).toArray) :
    (∃ (v : Option Value) (vm₁ : Vm) (B : Pt), s.WarmedH vm₁ ∧ Stand p l e R s m args below meth c B.U B.locs B.cells B.slots ∧ Post ⟨T.setVm vm₁, locs, cells, slots⟩ (Value.ref b :: argsL).toArray v B ∧
      ∀ target, Steps p.tables e below (B.U.setTop { g with pc := g.pc + 3, stack := v.toList ++ rest }) target → Steps p.tables e below (T.setTop g) target) ∨
    (∃ (q : Addr) (vm₁ : Vm) (B : Pt), s.WarmedH vm₁ ∧ Stand p l e R s m args below meth c B.U B.locs B.cells B.slots ∧ PostX ⟨T.setVm vm₁, locs, cells, slots⟩ (Value.ref b :: argsL).toArray q B ∧
      Steps p.tables e below (T.setTop g) ((B.U.setTop { g with stack := rest }).pushFrame (.throwing q))) := by
  obtain ⟨mk, methM, hnamed, hmethM, hstM, habM⟩ := Cond.instanceMethod_spec hinst
  obtain ⟨m8, methM', cM, hn8, hmethM', -, -, -, -, -, -, hsigM⟩ := Cond.codeWith_spec hcode
  cases Option.some.inj (hn8.symm.trans hnamed)
  cases hmethM.symm.trans hmethM'
  obtain ⟨c2, r2, m2, q1, q2, q3, q4, kP, hkP, hkPi⟩ := Cond.selects_spec hsel
  cases hcls.symm.trans q1
  cases (State.methodFound?_of_named hnamed hy).symm.trans q2
  cases hnamed.symm.trans q3
  have hselP : selectMethod e.platform s.vm cellB.cls mk = .method mk := by rw [Launch.admits_selectMethod X.admits]; exact q4
  obtain ⟨vm₁, X₁, hstep₁⟩ := X.invokevirtual hexec hown hlink hnamed hmethM hstM hkP hkPi hy (a := b) (cell := cellB) hcell
    (fun z h => by rw [h] at hobj; cases hobj) hselP hmethM habM hkP hkPi (g := g) hg (argsL := argsL) (rest := rest) (hlen _ hsigM) hstack hdg
  rcases hK m meth c ⟨T.setVm vm₁, locs, cells, slots⟩ { g with stack := rest } (.invokevirtual index) mk (Value.ref b :: argsL).toArray X₁ hg hsize hdg hW (X₁.named hnamed) (hpre vm₁ X₁.warmed) with ⟨v, B, X', hpost, hsteps⟩ | ⟨q, B, X', hpost, hsteps⟩
  · exact Or.inl ⟨v, vm₁, B, X₁.warmed, X', hpost, fun target h => hstep₁ _ fun acts => by rw [doInvoke_state]; exact hsteps.trans h⟩
  · exact Or.inr ⟨q, vm₁, B, X₁.warmed, X', hpost, hstep₁ _ fun acts => by rw [doInvoke_state]; exact hsteps⟩
theorem vx_callSX (X : Stand p l e R s m args below meth c T locs cells slots) (hexec : p.tables.exec = Jvm.exec) {own : String} {index : Nat} {y : MethodName} {bytes : ByteArray} {maxL : Nat} {ret : Option FieldType} {hh : List (Nat × Nat × Nat × Nat)}
    (hown : s.vm.findClass own = some m.cls) (hlink : (Cond.methodLink own index y).before args s = true) (hstat : (Cond.static y).before args s = true) (hinit : (Cond.initialized y.cls).before args s = true)
    (hcode : (Cond.codeWith y bytes maxL ret hh).before args s = true) (hy : y.cls ≠ "java/lang/invoke/MethodHandle" ∧ y.cls ≠ "java/lang/invoke/VarHandle")
    {W9 : Nat} {Pre : Pt → Array Value → Prop} {Post : Pt → Array Value → Option Value → Pt → Prop} {PostX : Pt → Array Value → Addr → Pt → Prop} (hK : vx_Back l R p e below s args y 3 W9 Pre Post PostX)
    {g : JFrame} (hg : g.method = m) (hsize : g.locals.size = c.maxLocals) {argsL rest : List Value} (hlen : ∀ sig, parseMethodDescriptor y.desc = some sig → argsL.length = sig.parameters.length)
    (hstack : g.stack = argsL.reverse ++ rest) (hW : 2 * g.monitorRoom + (rest.map fun v => v.category).sum ≤ W9) (hdg : decode c.code g.pc = .ok (.invokestatic index, 3))
    (hpre : ∀ vm₁, s.WarmedH vm₁ → Pre ⟨T.setVm vm₁, locs, cells, slots⟩ argsL.toArray) :
    (∃ (v : Option Value) (vm₁ : Vm) (B : Pt), s.WarmedH vm₁ ∧ Stand p l e R s m args below meth c B.U B.locs B.cells B.slots ∧ Post ⟨T.setVm vm₁, locs, cells, slots⟩ argsL.toArray v B ∧
      ∀ target, Steps p.tables e below (B.U.setTop { g with pc := g.pc + 3, stack := v.toList ++ rest }) target → Steps p.tables e below (T.setTop g) target) ∨
    (∃ (q : Addr) (vm₁ : Vm) (B : Pt), s.WarmedH vm₁ ∧ Stand p l e R s m args below meth c B.U B.locs B.cells B.slots ∧ PostX ⟨T.setVm vm₁, locs, cells, slots⟩ argsL.toArray q B ∧
      Steps p.tables e below (T.setTop g) ((B.U.setTop { g with stack := rest }).pushFrame (.throwing q))) := by
  obtain ⟨mk, methM, cM, hnamed, hmethM, -, -, -, -, -, -, hsigM⟩ := Cond.codeWith_spec hcode
  have hstatic : methM.isStatic = true := Cond.static_spec hnamed hmethM hstat
  obtain ⟨kP, hkP, -⟩ := className_of_methodNamed hnamed
  have hinitP : kP.init = .initialized := Cond.initialized_spec (findClass_of_methodNamed hnamed) hkP hinit
  obtain ⟨vm₁, X₁, hstep₁⟩ := X.invokestatic hexec hown hlink hnamed hmethM hstatic hkP hinitP hy (g := g) hg (argsL := argsL) (rest := rest) (hlen _ hsigM) hstack hdg
  rcases hK m meth c ⟨T.setVm vm₁, locs, cells, slots⟩ { g with stack := rest } (.invokestatic index) mk argsL.toArray X₁ hg hsize hdg hW (X₁.named hnamed) (hpre vm₁ X₁.warmed) with ⟨v, B, X', hpost, hsteps⟩ | ⟨q, B, X', hpost, hsteps⟩
  · exact Or.inl ⟨v, vm₁, B, X₁.warmed, X', hpost, fun target h => hstep₁ _ fun acts => by rw [doInvoke_state]; exact hsteps.trans h⟩
  · exact Or.inr ⟨q, vm₁, B, X₁.warmed, X', hpost, hstep₁ _ fun acts => by rw [doInvoke_state]; exact hsteps⟩
theorem vx_callVW (X : Stand p l e R s m args below meth c T locs cells slots) (hexec : p.tables.exec = Jvm.exec) {own C : String} {index : Nat} {y : MethodName} {bytes : ByteArray} {maxL : Nat} {ret : Option FieldType} {hh : List (Nat × Nat × Nat × Nat)}
    (hown : s.vm.findClass own = some m.cls) (hlink : (Cond.methodLink own index y).before args s = true) (hinst : (Cond.instanceMethod y).before args s = true) (hsel : (Cond.selects C y y).before args s = true)
    (hcode : (Cond.codeWith y bytes maxL ret hh).before args s = true) (hy : y.cls ≠ "java/lang/invoke/MethodHandle" ∧ y.cls ≠ "java/lang/invoke/VarHandle")
    {W9 : Nat} {Pre : Pt → Array Value → Prop} {Post : Pt → Array Value → Option Value → Pt → Prop} (hK : Back l R p e below s args y 3 W9 Pre Post)
    {b : Addr} {cellB : Cell} (hcell : T.heap[b]? = some cellB) (hobj : cellB.vm.isStatics = false) (hcls : s.vm.findClass C = some cellB.cls)
    {g : JFrame} (hg : g.method = m) (hsize : g.locals.size = c.maxLocals) {argsL rest : List Value} (hlen : ∀ sig, parseMethodDescriptor y.desc = some sig → argsL.length = sig.parameters.length)
    (hstack : g.stack = argsL.reverse ++ .ref b :: rest) (hW : 2 * g.monitorRoom + (rest.map fun v => v.category).sum ≤ W9) (hdg : decode c.code g.pc = .ok (.invokevirtual index, 3))
    (hpre : ∀ vm₁, s.WarmedH vm₁ → Pre ⟨T.setVm vm₁, locs, cells, slots⟩ (Value.ref b :: argsL).toArray) :
    ∃ (v : Option Value) (vm₁ : Vm) (B : Pt), s.WarmedH vm₁ ∧ Stand p l e R s m args below meth c B.U B.locs B.cells B.slots ∧ Post ⟨T.setVm vm₁, locs, cells, slots⟩ (Value.ref b :: argsL).toArray v B ∧
      ∀ target, Steps p.tables e below (B.U.setTop { g with pc := g.pc + 3, stack := v.toList ++ rest }) target → Steps p.tables e below (T.setTop g) target := by
  obtain ⟨mk, methM, hnamed, hmethM, hstM, habM⟩ := Cond.instanceMethod_spec hinst
  obtain ⟨m8, methM', cM, hn8, hmethM', -, -, -, -, -, -, hsigM⟩ := Cond.codeWith_spec hcode
  cases Option.some.inj (hn8.symm.trans hnamed)
  cases hmethM.symm.trans hmethM'
  obtain ⟨c2, r2, m2, q1, q2, q3, q4, kP, hkP, hkPi⟩ := Cond.selects_spec hsel
  cases hcls.symm.trans q1
  cases (State.methodFound?_of_named hnamed hy).symm.trans q2
  cases hnamed.symm.trans q3
  have hselP : selectMethod e.platform s.vm cellB.cls mk = .method mk := by rw [Launch.admits_selectMethod X.admits]; exact q4
  obtain ⟨vm₁, X₁, hstep₁⟩ := X.invokevirtual hexec hown hlink hnamed hmethM hstM hkP hkPi hy (a := b) (cell := cellB) hcell
    (fun z h => by rw [h] at hobj; cases hobj) hselP hmethM habM hkP hkPi (g := g) hg (argsL := argsL) (rest := rest) (hlen _ hsigM) hstack hdg
  obtain ⟨v, B, X', hpost, hsteps⟩ := hK m meth c ⟨T.setVm vm₁, locs, cells, slots⟩ { g with stack := rest } (.invokevirtual index) mk (Value.ref b :: argsL).toArray X₁ hg hsize hdg hW (X₁.named hnamed) (hpre vm₁ X₁.warmed)
  exact ⟨v, vm₁, B, X₁.warmed, X', hpost, fun target h => hstep₁ _ fun acts => by rw [doInvoke_state]; exact hsteps.trans h⟩
abbrev vx_CVW (R : Room) (s : State) (args : Array Value) (own C : String) (index : Nat) (y : MethodName) (bytes : ByteArray) (maxL : Nat) (ret : Option FieldType) (hh : List (Nat × Nat × Nat × Nat)) (ws : List Cond) (rm : Room) (mc ms n : Nat) : Prop :=
  (rm.cells = mc ∧ rm.slots = ms ∧ rm.frames + 1 ≤ R.frames ∧ 8 + (maxL + 11) + rm.locals ≤ R.locals ∧ (∀ w ∈ ws, ∀ (a' : Array Value) (U : State), s.WarmedH U.vm → w.before a' U = true) ∧ Cond.codeWith y bytes maxL ret hh ∈ ws) ∧
  (Cond.codeWith y bytes maxL ret hh).before args s = true ∧ (Cond.initialized y.cls).before args s = true ∧ (y.cls ≠ "java/lang/invoke/MethodHandle" ∧ y.cls ≠ "java/lang/invoke/VarHandle") ∧
  (∀ sig, parseMethodDescriptor y.desc = some sig → n = sig.parameters.length) ∧ (Cond.methodLink own index y).before args s = true ∧ (Cond.instanceMethod y).before args s = true ∧ (Cond.selects C y y).before args s = true
theorem vx_cwVW {own C : String} {index maxL mc ms : Nat} {y : MethodName} {bytes : ByteArray} {ret : Option FieldType} {hh : List (Nat × Nat × Nat × Nat)} {Ts ws ws' : List Cond} {rm : Room} (n : Nat) (ht : ∀ w ∈ Ts, w.before args s = true) (hT : GoodIn Ts (wsV own index C y ws)) (hw : ws = Cond.codeWith y bytes maxL ret hh :: ws') (hrc : rm.cells = mc) (hrs : rm.slots = ms)
    (hd : y.cls = C ∧ y.cls ≠ "java/lang/invoke/MethodHandle" ∧ y.cls ≠ "java/lang/invoke/VarHandle" ∧ (parseMethodDescriptor y.desc).map (fun d => d.parameters.length) = some n) (hR : rm.frames + 1 ≤ R.frames ∧ 8 + (maxL + 11) + rm.locals ≤ R.locals) :
    vx_CVW R s args own C index y bytes maxL ret hh ws rm mc ms n := by
  obtain ⟨hC, hd⟩ := hd
  subst hC
  have ok : ∀ w ∈ wsV own index y.cls y ws, w.before args s = true := fun w h => ht w (hT w h).1
  have hG : GoodIn Ts ws := fun w h => hT w (by unfold wsV; exact List.mem_append_right _ h)
  have hc : Cond.codeWith y bytes maxL ret hh ∈ ws := by rw [hw]; exact List.mem_cons_self
  refine ⟨⟨hrc, hrs, hR.1, hR.2, pay_in ht hG, hc⟩, ht _ (hG _ hc).1, ok _ (by simp [wsV]), ⟨hd.1, hd.2.1⟩, fun sig h => ?_, ok _ (by simp [wsV]), ok _ (by simp [wsV]), ok _ (by simp [wsV])⟩
  have h2 := hd.2.2
  rw [h] at h2
  exact (Option.some.inj h2).symm
theorem vx_runVW {y : MethodName} {bytes cc : ByteArray} {maxL nL mc ms n index : Nat} {ret : Option FieldType} {hh : List (Nat × Nat × Nat × Nat)} {ws : List Cond} {rm : Room} {Pc : Array Value → State → Prop} {Qc : Array Value → State → Outcome → State → Prop} {free : Addr → Prop} {Ts : List Cond} {own C : String} {b : Addr} {As rest : List Value} {g : JFrame}
    (S : CallFix p m c cc nL s args Ts own) (hM : Met l y ws rm Pc Qc mc ms free) (cw : vx_CVW R s args own C index y bytes maxL ret hh ws rm mc ms n) (hp : PreV s H C b Pc As)
    (hg : g.method = m) (hn : As.length = n) (hsize : g.locals.size = nL) (hstack : g.stack = As.reverse ++ .ref b :: rest) (hW : 2 * g.monitorRoom + (rest.map fun v => v.category).sum ≤ 8) (hdg : decode cc g.pc = .ok (.invokevirtual index, 3)) (hf : cells + mc ≤ R.cells ∧ slots + ms ≤ R.slots) :
    va_Run p l e R s m args below meth c H locs cells slots mc ms g rest (Qc (Value.ref b :: As).toArray) free := by
  obtain ⟨⟨hrc, hrs, hfr, hlo, hws, hcw⟩, hcode, hini, hy, hlen, hl, hin, hse⟩ := cw
  have hK : Back l R p e below s args y 3 8 (PreOf R mc ms Pc) (PostOf Qc mc ms free) := va_backW (hh := hh) (bytes := bytes) (maxL := maxL) (ret := ret) hM hp.1 hrc hrs hfr hlo hws hcw (fun a' U hW => word_at hW (Or.inl (by first | rfl | simp [Cond.onTables, Cond.keeps, Cond.steady])) hini)
  obtain ⟨hx, hb, hml, ho, -⟩ := S
  obtain ⟨-, ⟨cellB, hcB, hoB, hclB⟩, hPc⟩ := hp
  intro T hT X
  obtain ⟨v, vm₁, ⟨U', l2, c2, s2⟩, hW₁, X', ⟨g', mk, t, L, e1, e2, hq, h1, hL, h2, h3⟩, st⟩ := vx_callVW X hx (C := C) (hh := hh) (bytes := bytes) (maxL := maxL) (ret := ret) ho hl hin hse hcode hy hK (by rw [hT]; exact hcB) hoB hclB hg (hsize.trans hml.symm) (argsL := As) (rest := rest) (fun sig h => hn.trans (hlen sig h)) hstack hW (by rw [hb]; exact hdg)
    (fun vm₁ hW₁ => ⟨hf.1, hf.2, hPc (T.setVm vm₁) hT hW₁⟩)
  dsimp only [Pt.U, Pt.locs, Pt.cells, Pt.slots] at X' e1 e2 h1 h2 h3 st
  subst h1; subst h2; subst h3
  exact ⟨v, (T.setVm vm₁).calling g' mk (Value.ref b :: As).toArray, t, U', L, hT, X', hL, e1, e2, hq, st⟩
section
variable {y : MethodName} {bytes cc : ByteArray} {maxL nL mc ms n index : Nat} {ret : Option FieldType} {ws : List Cond} {rm : Room} {Pc : Array Value → State → Prop} {Qc : Array Value → State → Outcome → State → Prop} {XC : String → State → State → Prop} {free : Addr → Prop} {Ts : List Cond} {own C : String} {b : Addr} {As rest : List Value} {g : JFrame}
theorem vx_runVX {hh : List (Nat × Nat × Nat × Nat)} (S : CallFix p m c cc nL s args Ts own) (hM : vx_Met l y ws rm Pc Qc XC mc ms free) (cw : vx_CVW R s args own C index y bytes maxL ret hh ws rm mc ms n) (hp : PreV s H C b Pc As)
    (hg : g.method = m) (hn : As.length = n) (hsize : g.locals.size = nL) (hstack : g.stack = As.reverse ++ .ref b :: rest) (hW : 2 * g.monitorRoom + (rest.map fun v => v.category).sum ≤ 8) (hdg : decode cc g.pc = .ok (.invokevirtual index, 3)) (hf : cells + mc ≤ R.cells ∧ slots + ms ≤ R.slots) :
    vx_Run p l e R s m args below meth c H locs cells slots mc ms g rest (Qc (Value.ref b :: As).toArray) XC free := by
  obtain ⟨⟨hrc, hrs, hfr, hlo, hws, hcw⟩, hcode, hini, hy, hlen, hl, hin, hse⟩ := cw
  have hK : vx_Back l R p e below s args y 3 8 (PreOf R mc ms Pc) (PostOf Qc mc ms free) (vx_Post XC mc ms free) := vx_backW (hh := hh) (bytes := bytes) (maxL := maxL) (ret := ret) hM hp.1 hrc hrs hfr hlo hws hcw (fun a' U hW => word_at hW (Or.inl (by first | rfl | simp [Cond.onTables, Cond.keeps, Cond.steady])) hini)
  obtain ⟨hx, hb, hml, ho, -⟩ := S
  obtain ⟨-, ⟨cellB, hcB, hoB, hclB⟩, hPc⟩ := hp
  intro T hT X
  rcases vx_callVX X hx (C := C) (hh := hh) (bytes := bytes) (maxL := maxL) (ret := ret) ho hl hin hse hcode hy hK (by rw [hT]; exact hcB) hoB hclB hg (hsize.trans hml.symm) (argsL := As) (rest := rest) (fun sig h => hn.trans (hlen sig h)) hstack hW (by rw [hb]; exact hdg)
    (fun vm₁ hW₁ => ⟨hf.1, hf.2, hPc (T.setVm vm₁) hT hW₁⟩) with ⟨v, vm₁, ⟨U', l2, c2, s2⟩, hW₁, X', ⟨g', mk, t, L, e1, e2, hq, h1, hL, h2, h3⟩, st⟩ | ⟨q, vm₁, ⟨U', l2, c2, s2⟩, hW₁, X', ⟨g', mk, t, L, E, ce, e1, e2, hq, hce, hcv, hcl, h1, hL, h2, h3⟩, st⟩
  · dsimp only [Pt.U, Pt.locs, Pt.cells, Pt.slots] at X' e1 e2 h1 h2 h3 st
    subst h1; subst h2; subst h3
    exact Or.inl ⟨v, (T.setVm vm₁).calling g' mk (Value.ref b :: As).toArray, t, U', L, hT, X', hL, e1, e2, hq, st⟩
  · dsimp only [Pt.U, Pt.locs, Pt.cells, Pt.slots] at X' e1 e2 h1 h2 h3 st hcl
    subst h1; subst h2; subst h3
    exact Or.inr ⟨q, (T.setVm vm₁).calling g' mk (Value.ref b :: As).toArray, t, U', L, E, ce, hT, X', hL, e1, e2, hq, hce, hcv, vx_cls hW₁ hcl, st⟩
theorem vx_runSX {hh : List (Nat × Nat × Nat × Nat)} (S : CallFix p m c cc nL s args Ts own) (hM : vx_Met l y ws rm Pc Qc XC mc ms free) (cw : vx_CSW R s args own index y bytes maxL ret hh ws rm mc ms n) (hp : PreS s H Pc As)
    (hg : g.method = m) (hn : As.length = n) (hsize : g.locals.size = nL) (hstack : g.stack = As.reverse ++ rest) (hW : 2 * g.monitorRoom + (rest.map fun v => v.category).sum ≤ 8) (hdg : decode cc g.pc = .ok (.invokestatic index, 3)) (hf : cells + mc ≤ R.cells ∧ slots + ms ≤ R.slots) :
    vx_Run p l e R s m args below meth c H locs cells slots mc ms g rest (Qc As.toArray) XC free := by
  obtain ⟨⟨hrc, hrs, hfr, hlo, hws, hcw⟩, hcode, hini, hy, hlen, hl, hstt⟩ := cw
  have hK : vx_Back l R p e below s args y 3 8 (PreOf R mc ms Pc) (PostOf Qc mc ms free) (vx_Post XC mc ms free) := vx_backW (hh := hh) (bytes := bytes) (maxL := maxL) (ret := ret) hM hp.1 hrc hrs hfr hlo hws hcw (fun a' U hW => word_at hW (Or.inl (by first | rfl | simp [Cond.onTables, Cond.keeps, Cond.steady])) hini)
  obtain ⟨hx, hb, hml, ho, -⟩ := S
  intro T hT X
  rcases vx_callSX X hx (hh := hh) (bytes := bytes) (maxL := maxL) (ret := ret) ho hl hstt hini hcode hy hK hg (hsize.trans hml.symm) (argsL := As) (rest := rest) (fun sig h => hn.trans (hlen sig h)) hstack hW (by rw [hb]; exact hdg)
    (fun vm₁ hW₁ => ⟨hf.1, hf.2, hp.2 (T.setVm vm₁) hT hW₁⟩) with ⟨v, vm₁, ⟨U', l2, c2, s2⟩, hW₁, X', ⟨g', mk, t, L, e1, e2, hq, h1, hL, h2, h3⟩, st⟩ | ⟨q, vm₁, ⟨U', l2, c2, s2⟩, hW₁, X', ⟨g', mk, t, L, E, ce, e1, e2, hq, hce, hcv, hcl, h1, hL, h2, h3⟩, st⟩
  · dsimp only [Pt.U, Pt.locs, Pt.cells, Pt.slots] at X' e1 e2 h1 h2 h3 st
    subst h1; subst h2; subst h3
    exact Or.inl ⟨v, (T.setVm vm₁).calling g' mk As.toArray, t, U', L, hT, X', hL, e1, e2, hq, st⟩
  · dsimp only [Pt.U, Pt.locs, Pt.cells, Pt.slots] at X' e1 e2 h1 h2 h3 st hcl
    subst h1; subst h2; subst h3
    exact Or.inr ⟨q, (T.setVm vm₁).calling g' mk As.toArray, t, U', L, E, ce, hT, X', hL, e1, e2, hq, hce, hcv, vx_cls hW₁ hcl, st⟩
end
end VXH
theorem vx_ofWH {l : Launch} {y : MethodName} {ws ws' : List Cond} {rm : Room} {Pc : Array Value → State → Prop} {Qc : Array Value → State → Outcome → State → Prop} {XC : String → State → State → Prop} {mc ms : Nat} {free : Addr → Prop} {cc : ByteArray} {maxL : Nat} {ret : Option FieldType} {hh : List (Nat × Nat × Nat × Nat)}
    (hy : plainName y.cls = true) (hw : ws = Cond.codeWith y cc maxL ret hh :: ws')
    (body : ∀ p e s m args below meth c s₁, BodyLoose p l y (headSpec ws rm) cc maxL ret e s m args below meth c s₁ → c.maxLocals = maxL → Pc args s →
      W p l e (headSpec ws rm).room s m args below meth c s.heap [] 0 0 (vx_MQ below Qc XC args s mc ms free) (entryFrame m args maxL)) : vx_Met l y ws rm Pc Qc XC mc ms free := by
  refine MetFree.of_bodyS (code := cc) (maxLocals := maxL) (ret := ret) hy ?_ ?_
  · intro args s m h hn
    obtain ⟨m9, meth, c, hn9, h1, h2, h3, h4, -, h5, h6, -⟩ := Cond.codeWith_spec (atoms_spec (ws := ws) h _ (by rw [hw]; exact List.mem_cons_self))
    cases hn.symm.trans hn9
    exact ⟨meth, c, h1, h2, h3, h4, h5, h6⟩
  · intro p e s m args below meth c s₁ B hml hP _
    have hh0 : s₁.heap = s.heap := by rw [B.state]; rfl
    obtain ⟨t, a1, o, b1, b2, b3⟩ := body p e s m args below meth c s₁ B hml hP s₁ hh0 (Stand.of_body B)
    exact ⟨t, o, a1, b1, b2, b3⟩
/-! ===== END ===== -/
end
section
/-! Worlds as functions: what cell lies at an address, if the world knows it. -/
abbrev g_F : Type := Nat → Option va_E
/-- the heap holds the world -/
def g_P (D : va_G) (cl : List vw_C) (f : g_F) (H : Heap) : Prop := ∀ (a : Nat) (x : va_E), f a = some x → va_at D cl (a, x) H
/-- one cell more, or another content -/
def g_u (f : g_F) (a : Nat) (x : va_E) : g_F := fun q => if q = a then some x else f q
theorem g_u_s {f : g_F} {a : Nat} {x : va_E} : g_u f a x a = some x := if_pos rfl
theorem g_u_n {f : g_F} {a q : Nat} {x : va_E} (h : q ≠ a) : g_u f a x q = f q := if_neg h
theorem g_u_u {f : g_F} {a : Nat} {x y : va_E} : g_u (g_u f a x) a y = g_u f a y := by
  funext q
  by_cases h : q = a
  · subst h; rw [g_u_s, g_u_s]
  · rw [g_u_n h, g_u_n h, g_u_n h]
theorem g_u_c {f : g_F} {a b : Nat} {x y : va_E} (h : a ≠ b) : g_u (g_u f a x) b y = g_u (g_u f b y) a x := by
  funext q
  by_cases h1 : q = a
  · subst h1; rw [g_u_n h, g_u_s, g_u_s]
  · by_cases h2 : q = b
    · subst h2; rw [g_u_s, g_u_n h1, g_u_s]
    · rw [g_u_n h2, g_u_n h1, g_u_n h1, g_u_n h2]
theorem g_ne {f : g_F} {a b : Nat} {x y : va_E} (h1 : f a = some x) (h2 : f b = some y) (h : x ≠ y) : a ≠ b := by
  intro e
  subst e
  rw [h1] at h2
  exact h (Option.some.inj h2)
theorem g_P.one {D : va_G} {cl : List vw_C} {f : g_F} {H : Heap} {a : Nat} {x : va_E} (h : g_P D cl f H) (he : f a = some x) : va_P D cl [(a, x)] H := by
  intro k q hk
  have hz : k < 1 := (List.getElem?_eq_some_iff.mp hk).1
  rw [show k = 0 by omega] at hk
  cases hk
  exact h a x he
theorem g_P.lt {D : va_G} {cl : List vw_C} {f : g_F} {H : Heap} {a : Nat} (h : g_P D cl f H) (he : f a ≠ none) : a < H.size := by
  cases hf : f a with
  | none => exact absurd hf he
  | some x => exact (h a x hf).lt
theorem g_P.set {D : va_G} {cl : List vw_C} {f : g_F} {H H1 : Heap} {a : Nat} {x : va_E} (h : g_P D cl f H) (he : va_at D cl (a, x) H1) (oq : ∀ q : Nat, q ≠ a → H1[q]? = H[q]?) : g_P D cl (g_u f a x) H1 := by
  intro q y hq
  by_cases hqa : q = a
  · subst hqa
    rw [g_u_s] at hq
    cases hq
    exact he
  · rw [g_u_n hqa] at hq
    exact (h q y hq).kept (oq q hqa)
theorem g_P.new {D : va_G} {cl : List vw_C} {f : g_F} {H H1 : Heap} {x : va_E} (h : g_P D cl f H) (he : va_at D cl (H.size, x) H1) (oq : ∀ q : Nat, q < H.size → H1[q]? = H[q]?) : g_P D cl (g_u f H.size x) H1 := by
  intro q y hq
  by_cases hqa : q = H.size
  · subst hqa
    rw [g_u_s] at hq
    cases hq
    exact he
  · rw [g_u_n hqa] at hq
    exact (h q y hq).kept (oq q (h q y hq).lt)
theorem g_P.non {D : va_G} {cl : List vw_C} {f : g_F} {H : Heap} (h : g_P D cl f H) : f H.size = none := by
  cases hf : f H.size with
  | none => rfl
  | some x => exact absurd (h _ _ hf).lt (Nat.lt_irrefl _)
theorem g_D.set {f : g_F} {A : Nat → Prop} {a : Nat} {x : va_E} (h : ∀ q : Nat, f q ≠ none → A q) (ha : A a) : ∀ q : Nat, g_u f a x q ≠ none → A q := by
  intro q hq
  by_cases hqa : q = a
  · rw [hqa]; exact ha
  · rw [g_u_n hqa] at hq; exact h q hq
/-- which cells a method may write: the world's, and those that it makes -/
def g_A (f : g_F) (sz : Nat) : Nat → Prop := fun q => f q ≠ none ∨ sz ≤ q
theorem va_S.new {A : Nat → Prop} {H0 H H1 : Heap} {locs : List Loc} (h : va_S A H0 H locs) (z : H1.size = H.size + 1) (oq : ∀ q : Nat, q < H.size → H1[q]? = H[q]?) : va_S A H0 H1 locs :=
  ⟨Nat.le_trans h.1 (by omega), fun q h1 h2 => (oq q (Nat.lt_of_lt_of_le h1 h.1)).trans (h.2.1 q h1 h2), h.2.2⟩
/-- what stays the same in a method's body -/
def g_X (p : Program) (s : State) (m : MethodId) (args : Array Value) (meth : Method) (c : Code) (cc : ByteArray) (nL : Nat) (ret : Option FieldType) (Ts : List Cond) (own : String) (D : va_G) (cl : List vw_C) (tys : List (ClassId × FieldType)) (A : Nat → Prop) (Z : (Nat → Prop) → State → Heap → Prop) : Prop :=
  CallFix p m c cc nL s args Ts own ∧ va_K D cl tys s ∧ (∀ q : Nat, s.heap.size ≤ q → A q) ∧ meth.sig.returnType = ret ∧ meth.locks = false ∧ Z A s s.heap
/-- the machine at pc, with locals lv and operands st, in the world f, comes to Q -/
def g_W (p : Program) (l : Launch) (e : Env) (R : Room) (s : State) (m : MethodId) (args : Array Value) (below : List Frame) (meth : Method) (c : Code) (nL : Nat) (D : va_G) (cl : List vw_C) (A : Nat → Prop) (f : g_F) (cells slots : Nat) (Q : State → Prop) (pc : Nat) (lv : List (Nat × Value)) (st : List Value) : Prop :=
  ∀ (H : Heap) (locs : List Loc) (ls : Array Slot), g_P D cl f H → (∀ q : Nat, f q ≠ none → A q) → va_S A s.heap H locs → lv_has ls nL lv → W p l e R s m args below meth c H locs cells slots Q (F0 m pc ls st)
def g_T : List Cond := lw_tbl.filter goodWord
theorem g_in {w : Cond} (i : Nat) (h : lw_tbl[i]? = some w) (hg : goodWord w = true) : w ∈ g_T := List.mem_filter.mpr ⟨List.mem_of_getElem? h, hg⟩
theorem g_good : GoodIn g_T g_T := fun w h => ⟨h, good_of_word (List.mem_filter.mp h).2⟩
theorem g_goodc {w : Cond} (h : w ∈ g_T) : GoodIn g_T (w :: g_T) := fun v hv => (List.mem_cons.mp hv).elim (fun e => by rw [e]; exact g_good w h) (g_good v)
section GR
variable {p : Program} {l : Launch} {e : Env} {R : Room} {s : State} {m : MethodId} {args : Array Value} {below : List Frame} {meth : Method} {c : Code} {cells slots : Nat} {Q : State → Prop}
variable {cc : ByteArray} {pc nL : Nat} {D : va_G} {cl : List vw_C} {tys : List (ClassId × FieldType)} {A : Nat → Prop} {f : g_F} {lv lv' : List (Nat × Value)} {st : List Value} {Ts : List Cond} {own : String} {ret : Option FieldType} {Z : (Nat → Prop) → State → Heap → Prop}
theorem g_lv (ks : List Nat) (h : lv_pick lv ks = lv') (kk : g_W p l e R s m args below meth c nL D cl A f cells slots Q pc lv' st) : g_W p l e R s m args below meth c nL D cl A f cells slots Q pc lv st := fun H locs ls hP hD hS hl => kk H locs ls hP hD hS (lv_sub hl ks h)
theorem g_eqi {x y : Int32} (h : x = y) (kk : g_W p l e R s m args below meth c nL D cl A f cells slots Q pc lv (.int y :: st)) : g_W p l e R s m args below meth c nL D cl A f cells slots Q pc lv (.int x :: st) := by rw [h]; exact kk
theorem g_eqf {f2 : g_F} (h : f = f2) (kk : g_W p l e R s m args below meth c nL D cl A f2 cells slots Q pc lv st) : g_W p l e R s m args below meth c nL D cl A f cells slots Q pc lv st := by rw [h]; exact kk
theorem g_st {st2 : List Value} (h : st = st2) (kk : g_W p l e R s m args below meth c nL D cl A f cells slots Q pc lv st2) : g_W p l e R s m args below meth c nL D cl A f cells slots Q pc lv st := by rw [h]; exact kk
theorem g_wid {k n : Nat} (h1 : cells ≤ k) (h2 : slots ≤ n) (kk : g_W p l e R s m args below meth c nL D cl A f k n Q pc lv st) : g_W p l e R s m args below meth c nL D cl A f cells slots Q pc lv st := fun H locs ls hP hD hS hl => W.widen h1 h2 (kk H locs ls hP hD hS hl)
theorem g_iconst (X : g_X p s m args meth c cc nL ret Ts own D cl tys A Z) {n : Int} {v : Int32} (d : decode cc pc = .ok (.iconst n, 1)) (hv : Int32.ofInt n = v) (kk : g_W p l e R s m args below meth c nL D cl A f cells slots Q (pc + 1) lv (.int v :: st)) : g_W p l e R s m args below meth c nL D cl A f cells slots Q pc lv st := fun H locs ls hP hD hS hl => lv_iconst X.1.1 X.1.2.1 d hv (kk H locs ls hP hD hS hl)
theorem g_bipush (X : g_X p s m args meth c cc nL ret Ts own D cl tys A Z) {n : Int} {v : Int32} (d : decode cc pc = .ok (.bipush n, 2)) (hv : (Int8.ofInt n).toInt32 = v) (kk : g_W p l e R s m args below meth c nL D cl A f cells slots Q (pc + 2) lv (.int v :: st)) : g_W p l e R s m args below meth c nL D cl A f cells slots Q pc lv st := fun H locs ls hP hD hS hl => lv_bipush X.1.1 X.1.2.1 d hv (kk H locs ls hP hD hS hl)
theorem g_sipush (X : g_X p s m args meth c cc nL ret Ts own D cl tys A Z) {n : Int} {v : Int32} (d : decode cc pc = .ok (.sipush n, 3)) (hv : (Int16.ofInt n).toInt32 = v) (kk : g_W p l e R s m args below meth c nL D cl A f cells slots Q (pc + 3) lv (.int v :: st)) : g_W p l e R s m args below meth c nL D cl A f cells slots Q pc lv st := fun H locs ls hP hD hS hl => lv_sipush X.1.1 X.1.2.1 d hv (kk H locs ls hP hD hS hl)
theorem g_ldc (X : g_X p s m args meth c cc nL ret Ts own D cl tys A Z) {index : Nat} {v : Int32} (hc : Jvm.Cond.constant own index v ∈ Ts) (d : decode cc pc = .ok (.ldc index, 2)) (kk : g_W p l e R s m args below meth c nL D cl A f cells slots Q (pc + 2) lv (.int v :: st)) : g_W p l e R s m args below meth c nL D cl A f cells slots Q pc lv st := fun H locs ls hP hD hS hl => lv_ldc X.1.1 X.1.2.1 X.1.2.2.2.1 (X.1.2.2.2.2 _ hc) d (kk H locs ls hP hD hS hl)
theorem g_null (X : g_X p s m args meth c cc nL ret Ts own D cl tys A Z) (d : decode cc pc = .ok (.aconst_null, 1)) (kk : g_W p l e R s m args below meth c nL D cl A f cells slots Q (pc + 1) lv (.null :: st)) : g_W p l e R s m args below meth c nL D cl A f cells slots Q pc lv st := fun H locs ls hP hD hS hl => lv_null X.1.1 X.1.2.1 d (kk H locs ls hP hD hS hl)
theorem g_iload_n (X : g_X p s m args meth c cc nL ret Ts own D cl tys A Z) {k : Fin 4} {x : Int32} (d : decode cc pc = .ok (.iload_n k, 1)) (j : Nat) (h : lv[j]? = some ((k : Nat), (.int x))) (kk : g_W p l e R s m args below meth c nL D cl A f cells slots Q (pc + 1) lv ((.int x) :: st)) : g_W p l e R s m args below meth c nL D cl A f cells slots Q pc lv st := fun H locs ls hP hD hS hl => lv_iload_n X.1.1 X.1.2.1 d rfl (lv_at hl j h) (kk H locs ls hP hD hS hl)
theorem g_iload (X : g_X p s m args meth c cc nL ret Ts own D cl tys A Z) {i : Nat} {x : Int32} (d : decode cc pc = .ok (.iload i, 2)) (j : Nat) (h : lv[j]? = some (i, (.int x))) (kk : g_W p l e R s m args below meth c nL D cl A f cells slots Q (pc + 2) lv ((.int x) :: st)) : g_W p l e R s m args below meth c nL D cl A f cells slots Q pc lv st := fun H locs ls hP hD hS hl => lv_iload X.1.1 X.1.2.1 d (lv_at hl j h) (kk H locs ls hP hD hS hl)
theorem g_istore_n (X : g_X p s m args meth c cc nL ret Ts own D cl tys A Z) {k : Fin 4} {i : Nat} {x : Int32} (d : decode cc pc = .ok (.istore_n k, 1)) (hi : (k : Nat) = i) (hn : i < nL) (h : (i, (Value.int x)) :: lv.filter (fun q => !(q.1 == i) && !(q.1 + 1 == i && q.2.category == 2)) = lv') (kk : g_W p l e R s m args below meth c nL D cl A f cells slots Q (pc + 1) lv' st) : g_W p l e R s m args below meth c nL D cl A f cells slots Q pc lv ((.int x) :: st) := fun H locs ls hP hD hS hl => lv_istore_n X.1.1 X.1.2.1 d hi hl hn h (fun ls2 hl2 => kk H locs ls2 hP hD hS hl2)
theorem g_istore (X : g_X p s m args meth c cc nL ret Ts own D cl tys A Z) {i : Nat} {x : Int32} (d : decode cc pc = .ok (.istore i, 2)) (hn : i < nL) (h : (i, (Value.int x)) :: lv.filter (fun q => !(q.1 == i) && !(q.1 + 1 == i && q.2.category == 2)) = lv') (kk : g_W p l e R s m args below meth c nL D cl A f cells slots Q (pc + 2) lv' st) : g_W p l e R s m args below meth c nL D cl A f cells slots Q pc lv ((.int x) :: st) := fun H locs ls hP hD hS hl => lv_istore X.1.1 X.1.2.1 d hl hn h (fun ls2 hl2 => kk H locs ls2 hP hD hS hl2)
theorem g_aload_n (X : g_X p s m args meth c cc nL ret Ts own D cl tys A Z) {k : Fin 4} {x : Nat} (d : decode cc pc = .ok (.aload_n k, 1)) (j : Nat) (h : lv[j]? = some ((k : Nat), (.ref x))) (kk : g_W p l e R s m args below meth c nL D cl A f cells slots Q (pc + 1) lv ((.ref x) :: st)) : g_W p l e R s m args below meth c nL D cl A f cells slots Q pc lv st := fun H locs ls hP hD hS hl => lv_aload_n X.1.1 X.1.2.1 d rfl (lv_at hl j h) (kk H locs ls hP hD hS hl)
theorem g_aload (X : g_X p s m args meth c cc nL ret Ts own D cl tys A Z) {i : Nat} {x : Nat} (d : decode cc pc = .ok (.aload i, 2)) (j : Nat) (h : lv[j]? = some (i, (.ref x))) (kk : g_W p l e R s m args below meth c nL D cl A f cells slots Q (pc + 2) lv ((.ref x) :: st)) : g_W p l e R s m args below meth c nL D cl A f cells slots Q pc lv st := fun H locs ls hP hD hS hl => lv_aload X.1.1 X.1.2.1 d (lv_at hl j h) (kk H locs ls hP hD hS hl)
theorem g_astore_n (X : g_X p s m args meth c cc nL ret Ts own D cl tys A Z) {k : Fin 4} {i : Nat} {x : Nat} (d : decode cc pc = .ok (.astore_n k, 1)) (hi : (k : Nat) = i) (hn : i < nL) (h : (i, (Value.ref x)) :: lv.filter (fun q => !(q.1 == i) && !(q.1 + 1 == i && q.2.category == 2)) = lv') (kk : g_W p l e R s m args below meth c nL D cl A f cells slots Q (pc + 1) lv' st) : g_W p l e R s m args below meth c nL D cl A f cells slots Q pc lv ((.ref x) :: st) := fun H locs ls hP hD hS hl => lv_astore_n X.1.1 X.1.2.1 d hi hl hn h (fun ls2 hl2 => kk H locs ls2 hP hD hS hl2)
theorem g_astore (X : g_X p s m args meth c cc nL ret Ts own D cl tys A Z) {i : Nat} {x : Nat} (d : decode cc pc = .ok (.astore i, 2)) (hn : i < nL) (h : (i, (Value.ref x)) :: lv.filter (fun q => !(q.1 == i) && !(q.1 + 1 == i && q.2.category == 2)) = lv') (kk : g_W p l e R s m args below meth c nL D cl A f cells slots Q (pc + 2) lv' st) : g_W p l e R s m args below meth c nL D cl A f cells slots Q pc lv ((.ref x) :: st) := fun H locs ls hP hD hS hl => lv_astore X.1.1 X.1.2.1 d hl hn h (fun ls2 hl2 => kk H locs ls2 hP hD hS hl2)
theorem g_iinc (X : g_X p s m args meth c cc nL ret Ts own D cl tys A Z) {i : Nat} {n : Int} {x v : Int32} (d : decode cc pc = .ok (.iinc i n, 3)) (j : Nat) (hj : lv[j]? = some (i, .int x)) (hv : x + Int32.ofInt n = v) (hn : i < nL) (h : (i, Value.int v) :: lv.filter (fun q => !(q.1 == i) && !(q.1 + 1 == i && q.2.category == 2)) = lv') (kk : g_W p l e R s m args below meth c nL D cl A f cells slots Q (pc + 3) lv' st) : g_W p l e R s m args below meth c nL D cl A f cells slots Q pc lv st := fun H locs ls hP hD hS hl => lv_iinc X.1.1 X.1.2.1 d hl hj hv hn h (fun ls2 hl2 => kk H locs ls2 hP hD hS hl2)
theorem g_iadd (X : g_X p s m args meth c cc nL ret Ts own D cl tys A Z) {x y : Int32} (d : decode cc pc = .ok (.iadd, 1)) (kk : g_W p l e R s m args below meth c nL D cl A f cells slots Q (pc + 1) lv (.int (x + y) :: st)) : g_W p l e R s m args below meth c nL D cl A f cells slots Q pc lv (.int y :: .int x :: st) := fun H locs ls hP hD hS hl => lv_iadd X.1.1 X.1.2.1 d (kk H locs ls hP hD hS hl)
theorem g_isub (X : g_X p s m args meth c cc nL ret Ts own D cl tys A Z) {x y : Int32} (d : decode cc pc = .ok (.isub, 1)) (kk : g_W p l e R s m args below meth c nL D cl A f cells slots Q (pc + 1) lv (.int (x - y) :: st)) : g_W p l e R s m args below meth c nL D cl A f cells slots Q pc lv (.int y :: .int x :: st) := fun H locs ls hP hD hS hl => lv_isub X.1.1 X.1.2.1 d (kk H locs ls hP hD hS hl)
theorem g_imul (X : g_X p s m args meth c cc nL ret Ts own D cl tys A Z) {x y : Int32} (d : decode cc pc = .ok (.imul, 1)) (kk : g_W p l e R s m args below meth c nL D cl A f cells slots Q (pc + 1) lv (.int (x * y) :: st)) : g_W p l e R s m args below meth c nL D cl A f cells slots Q pc lv (.int y :: .int x :: st) := fun H locs ls hP hD hS hl => lv_imul X.1.1 X.1.2.1 d (kk H locs ls hP hD hS hl)
theorem g_iand (X : g_X p s m args meth c cc nL ret Ts own D cl tys A Z) {x y : Int32} (d : decode cc pc = .ok (.iand, 1)) (kk : g_W p l e R s m args below meth c nL D cl A f cells slots Q (pc + 1) lv (.int (x &&& y) :: st)) : g_W p l e R s m args below meth c nL D cl A f cells slots Q pc lv (.int y :: .int x :: st) := fun H locs ls hP hD hS hl => lv_iand X.1.1 X.1.2.1 d (kk H locs ls hP hD hS hl)
theorem g_ior (X : g_X p s m args meth c cc nL ret Ts own D cl tys A Z) {x y : Int32} (d : decode cc pc = .ok (.ior, 1)) (kk : g_W p l e R s m args below meth c nL D cl A f cells slots Q (pc + 1) lv (.int (x ||| y) :: st)) : g_W p l e R s m args below meth c nL D cl A f cells slots Q pc lv (.int y :: .int x :: st) := fun H locs ls hP hD hS hl => lv_ior X.1.1 X.1.2.1 d (kk H locs ls hP hD hS hl)
theorem g_ixor (X : g_X p s m args meth c cc nL ret Ts own D cl tys A Z) {x y : Int32} (d : decode cc pc = .ok (.ixor, 1)) (kk : g_W p l e R s m args below meth c nL D cl A f cells slots Q (pc + 1) lv (.int (x ^^^ y) :: st)) : g_W p l e R s m args below meth c nL D cl A f cells slots Q pc lv (.int y :: .int x :: st) := fun H locs ls hP hD hS hl => lv_ixor X.1.1 X.1.2.1 d (kk H locs ls hP hD hS hl)
theorem g_ishl (X : g_X p s m args meth c cc nL ret Ts own D cl tys A Z) {x y : Int32} (d : decode cc pc = .ok (.ishl, 1)) (kk : g_W p l e R s m args below meth c nL D cl A f cells slots Q (pc + 1) lv (.int (x <<< (y &&& 31)) :: st)) : g_W p l e R s m args below meth c nL D cl A f cells slots Q pc lv (.int y :: .int x :: st) := fun H locs ls hP hD hS hl => lv_ishl X.1.1 X.1.2.1 d (kk H locs ls hP hD hS hl)
theorem g_ishr (X : g_X p s m args meth c cc nL ret Ts own D cl tys A Z) {x y : Int32} (d : decode cc pc = .ok (.ishr, 1)) (kk : g_W p l e R s m args below meth c nL D cl A f cells slots Q (pc + 1) lv (.int (x >>> (y &&& 31)) :: st)) : g_W p l e R s m args below meth c nL D cl A f cells slots Q pc lv (.int y :: .int x :: st) := fun H locs ls hP hD hS hl => lv_ishr X.1.1 X.1.2.1 d (kk H locs ls hP hD hS hl)
theorem g_iushr (X : g_X p s m args meth c cc nL ret Ts own D cl tys A Z) {x y v : Int32} (d : decode cc pc = .ok (.iushr, 1)) (hv : (x.toUInt32 >>> (y.toUInt32 &&& Int32.toUInt32 31)).toInt32 = v) (kk : g_W p l e R s m args below meth c nL D cl A f cells slots Q (pc + 1) lv (.int v :: st)) : g_W p l e R s m args below meth c nL D cl A f cells slots Q pc lv (.int y :: .int x :: st) := fun H locs ls hP hD hS hl => lv_iushr X.1.1 X.1.2.1 d hv (kk H locs ls hP hD hS hl)
theorem g_idiv (X : g_X p s m args meth c cc nL ret Ts own D cl tys A Z) {x y : Int32} (d : decode cc pc = .ok (.idiv, 1)) (h0 : ¬ y = 0) (kk : g_W p l e R s m args below meth c nL D cl A f cells slots Q (pc + 1) lv (.int (x / y) :: st)) : g_W p l e R s m args below meth c nL D cl A f cells slots Q pc lv (.int y :: .int x :: st) := fun H locs ls hP hD hS hl => lv_idiv X.1.1 X.1.2.1 d h0 (kk H locs ls hP hD hS hl)
theorem g_irem (X : g_X p s m args meth c cc nL ret Ts own D cl tys A Z) {x y : Int32} (d : decode cc pc = .ok (.irem, 1)) (h0 : ¬ y = 0) (kk : g_W p l e R s m args below meth c nL D cl A f cells slots Q (pc + 1) lv (.int (x - x / y * y) :: st)) : g_W p l e R s m args below meth c nL D cl A f cells slots Q pc lv (.int y :: .int x :: st) := fun H locs ls hP hD hS hl => lv_irem X.1.1 X.1.2.1 d h0 (kk H locs ls hP hD hS hl)
theorem g_ineg (X : g_X p s m args meth c cc nL ret Ts own D cl tys A Z) {x : Int32} (d : decode cc pc = .ok (.ineg, 1)) (kk : g_W p l e R s m args below meth c nL D cl A f cells slots Q (pc + 1) lv (.int (-x) :: st)) : g_W p l e R s m args below meth c nL D cl A f cells slots Q pc lv (.int x :: st) := fun H locs ls hP hD hS hl => lv_ineg X.1.1 X.1.2.1 d (kk H locs ls hP hD hS hl)
theorem g_dup (X : g_X p s m args meth c cc nL ret Ts own D cl tys A Z) {v : Value} (d : decode cc pc = .ok (.dup, 1)) (hv : v.category = 1) (kk : g_W p l e R s m args below meth c nL D cl A f cells slots Q (pc + 1) lv (v :: v :: st)) : g_W p l e R s m args below meth c nL D cl A f cells slots Q pc lv (v :: st) := fun H locs ls hP hD hS hl => lv_dup X.1.1 X.1.2.1 d hv (kk H locs ls hP hD hS hl)
theorem g_pop (X : g_X p s m args meth c cc nL ret Ts own D cl tys A Z) {v : Value} (d : decode cc pc = .ok (.pop, 1)) (hv : v.category = 1) (kk : g_W p l e R s m args below meth c nL D cl A f cells slots Q (pc + 1) lv st) : g_W p l e R s m args below meth c nL D cl A f cells slots Q pc lv (v :: st) := fun H locs ls hP hD hS hl => lv_pop X.1.1 X.1.2.1 d hv (kk H locs ls hP hD hS hl)
theorem g_dup_x1 (X : g_X p s m args meth c cc nL ret Ts own D cl tys A Z) {v w : Value} (d : decode cc pc = .ok (.dup_x1, 1)) (hv : v.category = 1) (hw : w.category = 1) (kk : g_W p l e R s m args below meth c nL D cl A f cells slots Q (pc + 1) lv (v :: w :: v :: st)) : g_W p l e R s m args below meth c nL D cl A f cells slots Q pc lv (v :: w :: st) := fun H locs ls hP hD hS hl => lv_dup_x1 X.1.1 X.1.2.1 d hv hw (kk H locs ls hP hD hS hl)
theorem g_dup2 (X : g_X p s m args meth c cc nL ret Ts own D cl tys A Z) {v w : Value} (d : decode cc pc = .ok (.dup2, 1)) (hv : v.category = 1) (hw : w.category = 1) (kk : g_W p l e R s m args below meth c nL D cl A f cells slots Q (pc + 1) lv (v :: w :: v :: w :: st)) : g_W p l e R s m args below meth c nL D cl A f cells slots Q pc lv (v :: w :: st) := fun H locs ls hP hD hS hl => lv_dup2_11 X.1.1 X.1.2.1 d hv hw (kk H locs ls hP hD hS hl)
theorem g_if_eq (X : g_X p s m args meth c cc nL ret Ts own D cl tys A Z) {x : Int32} {off : Int} (tgt : Nat) (d : decode cc pc = .ok (.ifCond .eq off, 3)) (ht : (pc : Int) + off = (tgt : Int)) (kt : x = 0 → g_W p l e R s m args below meth c nL D cl A f cells slots Q tgt lv st) (kf : ¬ (x = 0) → g_W p l e R s m args below meth c nL D cl A f cells slots Q (pc + 3) lv st) : g_W p l e R s m args below meth c nL D cl A f cells slots Q pc lv (.int x :: st) := fun H locs ls hP hD hS hl => lv_if_eq X.1.1 X.1.2.1 d ht (fun h => kt h H locs ls hP hD hS hl) (fun h => kf h H locs ls hP hD hS hl)
theorem g_icmp_eq (X : g_X p s m args meth c cc nL ret Ts own D cl tys A Z) {x y : Int32} {off : Int} (tgt : Nat) (d : decode cc pc = .ok (.if_icmp .eq off, 3)) (ht : (pc : Int) + off = (tgt : Int)) (kt : x = y → g_W p l e R s m args below meth c nL D cl A f cells slots Q tgt lv st) (kf : ¬ (x = y) → g_W p l e R s m args below meth c nL D cl A f cells slots Q (pc + 3) lv st) : g_W p l e R s m args below meth c nL D cl A f cells slots Q pc lv (.int y :: .int x :: st) := fun H locs ls hP hD hS hl => lv_icmp_eq X.1.1 X.1.2.1 d ht (fun h => kt h H locs ls hP hD hS hl) (fun h => kf h H locs ls hP hD hS hl)
theorem g_if_ne (X : g_X p s m args meth c cc nL ret Ts own D cl tys A Z) {x : Int32} {off : Int} (tgt : Nat) (d : decode cc pc = .ok (.ifCond .ne off, 3)) (ht : (pc : Int) + off = (tgt : Int)) (kt : ¬ x = 0 → g_W p l e R s m args below meth c nL D cl A f cells slots Q tgt lv st) (kf : x = 0 → g_W p l e R s m args below meth c nL D cl A f cells slots Q (pc + 3) lv st) : g_W p l e R s m args below meth c nL D cl A f cells slots Q pc lv (.int x :: st) := fun H locs ls hP hD hS hl => lv_if_ne X.1.1 X.1.2.1 d ht (fun h => kt h H locs ls hP hD hS hl) (fun h => kf h H locs ls hP hD hS hl)
theorem g_icmp_ne (X : g_X p s m args meth c cc nL ret Ts own D cl tys A Z) {x y : Int32} {off : Int} (tgt : Nat) (d : decode cc pc = .ok (.if_icmp .ne off, 3)) (ht : (pc : Int) + off = (tgt : Int)) (kt : ¬ x = y → g_W p l e R s m args below meth c nL D cl A f cells slots Q tgt lv st) (kf : x = y → g_W p l e R s m args below meth c nL D cl A f cells slots Q (pc + 3) lv st) : g_W p l e R s m args below meth c nL D cl A f cells slots Q pc lv (.int y :: .int x :: st) := fun H locs ls hP hD hS hl => lv_icmp_ne X.1.1 X.1.2.1 d ht (fun h => kt h H locs ls hP hD hS hl) (fun h => kf h H locs ls hP hD hS hl)
theorem g_if_lt (X : g_X p s m args meth c cc nL ret Ts own D cl tys A Z) {x : Int32} {off : Int} (tgt : Nat) (d : decode cc pc = .ok (.ifCond .lt off, 3)) (ht : (pc : Int) + off = (tgt : Int)) (kt : x < 0 → g_W p l e R s m args below meth c nL D cl A f cells slots Q tgt lv st) (kf : ¬ (x < 0) → g_W p l e R s m args below meth c nL D cl A f cells slots Q (pc + 3) lv st) : g_W p l e R s m args below meth c nL D cl A f cells slots Q pc lv (.int x :: st) := fun H locs ls hP hD hS hl => lv_if_lt X.1.1 X.1.2.1 d ht (fun h => kt h H locs ls hP hD hS hl) (fun h => kf h H locs ls hP hD hS hl)
theorem g_icmp_lt (X : g_X p s m args meth c cc nL ret Ts own D cl tys A Z) {x y : Int32} {off : Int} (tgt : Nat) (d : decode cc pc = .ok (.if_icmp .lt off, 3)) (ht : (pc : Int) + off = (tgt : Int)) (kt : x < y → g_W p l e R s m args below meth c nL D cl A f cells slots Q tgt lv st) (kf : ¬ (x < y) → g_W p l e R s m args below meth c nL D cl A f cells slots Q (pc + 3) lv st) : g_W p l e R s m args below meth c nL D cl A f cells slots Q pc lv (.int y :: .int x :: st) := fun H locs ls hP hD hS hl => lv_icmp_lt X.1.1 X.1.2.1 d ht (fun h => kt h H locs ls hP hD hS hl) (fun h => kf h H locs ls hP hD hS hl)
theorem g_if_ge (X : g_X p s m args meth c cc nL ret Ts own D cl tys A Z) {x : Int32} {off : Int} (tgt : Nat) (d : decode cc pc = .ok (.ifCond .ge off, 3)) (ht : (pc : Int) + off = (tgt : Int)) (kt : 0 ≤ x → g_W p l e R s m args below meth c nL D cl A f cells slots Q tgt lv st) (kf : ¬ (0 ≤ x) → g_W p l e R s m args below meth c nL D cl A f cells slots Q (pc + 3) lv st) : g_W p l e R s m args below meth c nL D cl A f cells slots Q pc lv (.int x :: st) := fun H locs ls hP hD hS hl => lv_if_ge X.1.1 X.1.2.1 d ht (fun h => kt h H locs ls hP hD hS hl) (fun h => kf h H locs ls hP hD hS hl)
theorem g_icmp_ge (X : g_X p s m args meth c cc nL ret Ts own D cl tys A Z) {x y : Int32} {off : Int} (tgt : Nat) (d : decode cc pc = .ok (.if_icmp .ge off, 3)) (ht : (pc : Int) + off = (tgt : Int)) (kt : y ≤ x → g_W p l e R s m args below meth c nL D cl A f cells slots Q tgt lv st) (kf : ¬ (y ≤ x) → g_W p l e R s m args below meth c nL D cl A f cells slots Q (pc + 3) lv st) : g_W p l e R s m args below meth c nL D cl A f cells slots Q pc lv (.int y :: .int x :: st) := fun H locs ls hP hD hS hl => lv_icmp_ge X.1.1 X.1.2.1 d ht (fun h => kt h H locs ls hP hD hS hl) (fun h => kf h H locs ls hP hD hS hl)
theorem g_if_gt (X : g_X p s m args meth c cc nL ret Ts own D cl tys A Z) {x : Int32} {off : Int} (tgt : Nat) (d : decode cc pc = .ok (.ifCond .gt off, 3)) (ht : (pc : Int) + off = (tgt : Int)) (kt : 0 < x → g_W p l e R s m args below meth c nL D cl A f cells slots Q tgt lv st) (kf : ¬ (0 < x) → g_W p l e R s m args below meth c nL D cl A f cells slots Q (pc + 3) lv st) : g_W p l e R s m args below meth c nL D cl A f cells slots Q pc lv (.int x :: st) := fun H locs ls hP hD hS hl => lv_if_gt X.1.1 X.1.2.1 d ht (fun h => kt h H locs ls hP hD hS hl) (fun h => kf h H locs ls hP hD hS hl)
theorem g_icmp_gt (X : g_X p s m args meth c cc nL ret Ts own D cl tys A Z) {x y : Int32} {off : Int} (tgt : Nat) (d : decode cc pc = .ok (.if_icmp .gt off, 3)) (ht : (pc : Int) + off = (tgt : Int)) (kt : y < x → g_W p l e R s m args below meth c nL D cl A f cells slots Q tgt lv st) (kf : ¬ (y < x) → g_W p l e R s m args below meth c nL D cl A f cells slots Q (pc + 3) lv st) : g_W p l e R s m args below meth c nL D cl A f cells slots Q pc lv (.int y :: .int x :: st) := fun H locs ls hP hD hS hl => lv_icmp_gt X.1.1 X.1.2.1 d ht (fun h => kt h H locs ls hP hD hS hl) (fun h => kf h H locs ls hP hD hS hl)
theorem g_if_le (X : g_X p s m args meth c cc nL ret Ts own D cl tys A Z) {x : Int32} {off : Int} (tgt : Nat) (d : decode cc pc = .ok (.ifCond .le off, 3)) (ht : (pc : Int) + off = (tgt : Int)) (kt : x ≤ 0 → g_W p l e R s m args below meth c nL D cl A f cells slots Q tgt lv st) (kf : ¬ (x ≤ 0) → g_W p l e R s m args below meth c nL D cl A f cells slots Q (pc + 3) lv st) : g_W p l e R s m args below meth c nL D cl A f cells slots Q pc lv (.int x :: st) := fun H locs ls hP hD hS hl => lv_if_le X.1.1 X.1.2.1 d ht (fun h => kt h H locs ls hP hD hS hl) (fun h => kf h H locs ls hP hD hS hl)
theorem g_icmp_le (X : g_X p s m args meth c cc nL ret Ts own D cl tys A Z) {x y : Int32} {off : Int} (tgt : Nat) (d : decode cc pc = .ok (.if_icmp .le off, 3)) (ht : (pc : Int) + off = (tgt : Int)) (kt : x ≤ y → g_W p l e R s m args below meth c nL D cl A f cells slots Q tgt lv st) (kf : ¬ (x ≤ y) → g_W p l e R s m args below meth c nL D cl A f cells slots Q (pc + 3) lv st) : g_W p l e R s m args below meth c nL D cl A f cells slots Q pc lv (.int y :: .int x :: st) := fun H locs ls hP hD hS hl => lv_icmp_le X.1.1 X.1.2.1 d ht (fun h => kt h H locs ls hP hD hS hl) (fun h => kf h H locs ls hP hD hS hl)
theorem g_goto (X : g_X p s m args meth c cc nL ret Ts own D cl tys A Z) {off : Int} (tgt : Nat) (d : decode cc pc = .ok (.goto off, 3)) (ht : (pc : Int) + off = (tgt : Int)) (kk : g_W p l e R s m args below meth c nL D cl A f cells slots Q tgt lv st) : g_W p l e R s m args below meth c nL D cl A f cells slots Q pc lv st := fun H locs ls hP hD hS hl => lv_goto X.1.1 X.1.2.1 d ht (kk H locs ls hP hD hS hl)
theorem g_ifnull (X : g_X p s m args meth c cc nL ret Ts own D cl tys A Z) {x : Nat} {off : Int} (d : decode cc pc = .ok (.ifnull off, 3)) (kk : g_W p l e R s m args below meth c nL D cl A f cells slots Q (pc + 3) lv st) : g_W p l e R s m args below meth c nL D cl A f cells slots Q pc lv (.ref x :: st) := fun H locs ls hP hD hS hl => lv_ifnull X.1.1 X.1.2.1 d (kk H locs ls hP hD hS hl)
theorem g_ifnonnull (X : g_X p s m args meth c cc nL ret Ts own D cl tys A Z) {x : Nat} {off : Int} (tgt : Nat) (d : decode cc pc = .ok (.ifnonnull off, 3)) (ht : (pc : Int) + off = (tgt : Int)) (kk : g_W p l e R s m args below meth c nL D cl A f cells slots Q tgt lv st) : g_W p l e R s m args below meth c nL D cl A f cells slots Q pc lv (.ref x :: st) := fun H locs ls hP hD hS hl => lv_ifnonnull X.1.1 X.1.2.1 d ht (kk H locs ls hP hD hS hl)
theorem g_acmp_eq (X : g_X p s m args meth c cc nL ret Ts own D cl tys A Z) {x y : Nat} {off : Int} (tgt : Nat) (d : decode cc pc = .ok (.if_acmp .eq off, 3)) (ht : (pc : Int) + off = (tgt : Int)) (kt : x = y → g_W p l e R s m args below meth c nL D cl A f cells slots Q tgt lv st) (kf : ¬ x = y → g_W p l e R s m args below meth c nL D cl A f cells slots Q (pc + 3) lv st) : g_W p l e R s m args below meth c nL D cl A f cells slots Q pc lv (.ref y :: .ref x :: st) := fun H locs ls hP hD hS hl => lv_acmp_eq (rx := some x) (ry := some y) X.1.1 X.1.2.1 d ht (fun h => kt (Option.some.inj h) H locs ls hP hD hS hl) (fun h => kf (fun z => h (congrArg some z)) H locs ls hP hD hS hl)
theorem g_acmp_ne (X : g_X p s m args meth c cc nL ret Ts own D cl tys A Z) {x y : Nat} {off : Int} (tgt : Nat) (d : decode cc pc = .ok (.if_acmp .ne off, 3)) (ht : (pc : Int) + off = (tgt : Int)) (kt : ¬ x = y → g_W p l e R s m args below meth c nL D cl A f cells slots Q tgt lv st) (kf : x = y → g_W p l e R s m args below meth c nL D cl A f cells slots Q (pc + 3) lv st) : g_W p l e R s m args below meth c nL D cl A f cells slots Q pc lv (.ref y :: .ref x :: st) := fun H locs ls hP hD hS hl => lv_acmp_ne (rx := some x) (ry := some y) X.1.1 X.1.2.1 d ht (fun h => kt (fun z => h (congrArg some z)) H locs ls hP hD hS hl) (fun h => kf (Option.some.inj h) H locs ls hP hD hS hl)
theorem g_get (X : g_X p s m args meth c cc nL ret Ts own D cl tys A Z) {ref C : String} {T : u_T} {N ci index a : Nat} {fs : List Value} {v : Value} (hin : ∀ w ∈ u_ws C T N, w ∈ Ts) (hc : cl[ci]? = some (C, T, N)) (he : f a = some (.inr (ci, fs))) (k : Nat) (hk : k < N) (hlink : Cond.fieldLink own index ref (T k).2.1 (T k).2.2.1 ∈ Ts) (hsame : ∀ x, s.fieldFound? (T k).1 (T k).2.1 (T k).2.2.1 = some x → s.fieldFound? ref (T k).2.1 (T k).2.2.1 = some x) (hv : fs[k]? = some v) (d : decode cc pc = .ok (.getfield index, 3)) (kk : g_W p l e R s m args below meth c nL D cl A f cells slots Q (pc + 3) lv (v :: st)) : g_W p l e R s m args below meth c nL D cl A f cells slots Q pc lv (.ref a :: st) := fun H locs ls hP hD hS hl => va_get X.1.1 X.1.2.1 X.1.2.2.2.2 hin X.1.2.2.2.1 X.2.1 (hP.one he) 0 rfl hc k hk (X.1.2.2.2.2 _ hlink) hsame hv d (kk H locs ls hP hD hS hl)
theorem g_getN (X : g_X p s m args meth c cc nL ret Ts own D cl tys A Z) {ref C host : String} {T : u_T} {N ci index a : Nat} {fs : List Value} {v : Value} (hin : ∀ w ∈ u_ws C T N, w ∈ Ts) (hc : cl[ci]? = some (C, T, N)) (he : f a = some (.inr (ci, fs))) (k : Nat) (hk : k < N) (hlink : (Cond.fieldLinkNest own index ref (T k).2.1 (T k).2.2.1 host).before args s = true) (hsame : ∀ x, s.fieldFound? (T k).1 (T k).2.1 (T k).2.2.1 = some x → s.fieldFound? ref (T k).2.1 (T k).2.2.1 = some x) (hv : fs[k]? = some v) (d : decode cc pc = .ok (.getfield index, 3)) (kk : g_W p l e R s m args below meth c nL D cl A f cells slots Q (pc + 3) lv (v :: st)) : g_W p l e R s m args below meth c nL D cl A f cells slots Q pc lv (.ref a :: st) := fun H locs ls hP hD hS hl => va_getN X.1.1 X.1.2.1 X.1.2.2.2.2 hin X.1.2.2.2.1 X.2.1 (hP.one he) 0 rfl hc k hk hlink hsame hv d (kk H locs ls hP hD hS hl)
theorem g_put (X : g_X p s m args meth c cc nL ret Ts own D cl tys A Z) {ref C : String} {T : u_T} {N ci index a : Nat} {fs fs2 : List Value} {v : Value} (hin : ∀ w ∈ u_ws C T N, w ∈ Ts) (ty0 : Nat → FieldType) (hty : ∀ k, k < N → parseFieldDescriptor (T k).2.2.1 = some (ty0 k)) (hnm : ∀ a, a < N → ∀ b, b < N → a ≠ b → (T a).2.1 ≠ (T b).2.1) (hc : cl[ci]? = some (C, T, N)) (he : f a = some (.inr (ci, fs))) (k : Nat) (hk : k < N) (hlink : Cond.fieldLink own index ref (T k).2.1 (T k).2.2.1 ∈ Ts) (hsame : ∀ x, s.fieldFound? (T k).1 (T k).2.1 (T k).2.2.1 = some x → s.fieldFound? ref (T k).2.1 (T k).2.2.1 = some x) (hfin : (T k).2.2.2 = false) {ty : FieldType} (hd : parseFieldDescriptor (T k).2.2.1 = some ty) (hn : narrow ty v = v) (hfit : fits ty v = true) (hlen : k < fs.length) (hfs : fs.set k v = fs2) (d : decode cc pc = .ok (.putfield index, 3)) (kk : g_W p l e R s m args below meth c nL D cl A (g_u f a (.inr (ci, fs2))) cells slots Q (pc + 3) lv st) : g_W p l e R s m args below meth c nL D cl A f cells slots Q pc lv (v :: .ref a :: st) := by
  subst hfs
  intro H locs ls hP hD hS hl
  have hap := va_apart (own := own) X.1.2.2.2.2 hin ty0 hty hnm X.2.1 hc
  obtain ⟨r, h1, cell, q1, q2, q3, q4⟩ := hP a _ he
  have hr : r = (C, T, N) := Option.some.inj (h1.symm.trans hc)
  subst hr
  obtain ⟨hSl, hfc, kC, hkC, hkind⟩ := X.2.1.1 ci _ hc
  obtain ⟨cf, kf, fi, fd, hi, hsl⟩ := hSl k hk
  have hlay := X.1.2.2.2.2 _ (hin _ (u_in_lay hk))
  unfold u_lay at hlay
  rw [if_neg (by rw [hfin]; decide)] at hlay
  have hst := (u_facts hfc hkC (u_lays X.1.2.2.2.2 hin hk) hi).1
  have h6 := u_store hfc hkC hkind hlay hi hd hn hfit
  refine W.putK X.1.1 X.1.2.1 (f := fd) ⟨X.1.2.2.2.1, X.1.2.2.2.2 _ hlink, ⟨_, _, _, hsame _ hi⟩, hst⟩ (by rw [q2]; exact h6) q1 q3 (by rw [hsl]; exact k2_hasslot (q4 k hk)) rfl rfl d fun H2 e1 e2 e3 => ?_
  rw [hsl] at e1 ⊢
  have ha : A a := hD a (by rw [he]; exact fun h => by cases h)
  exact kk H2 _ ls (hP.set ⟨_, hc, t_OB.to (V := updV (vp_V fs) k v) ⟨_, e1, q2, q3, t_set q4 hap hk v⟩ (fun j _ => vp_updV_set hlen v j)⟩ e3) (g_D.set hD ha) (hS.put e2 e3 ha) hl
theorem g_putF (X : g_X p s m args meth c cc nL ret Ts own D cl tys A Z) {ref C : String} {T : u_T} {N ci index a : Nat} {fs fs2 : List Value} {v : Value} (hin : ∀ w ∈ u_ws C T N, w ∈ Ts) (ty0 : Nat → FieldType) (hty : ∀ k, k < N → parseFieldDescriptor (T k).2.2.1 = some (ty0 k)) (hnm : ∀ a, a < N → ∀ b, b < N → a ≠ b → (T a).2.1 ≠ (T b).2.1) (hc : cl[ci]? = some (C, T, N)) (he : f a = some (.inr (ci, fs))) (k : Nat) (hk : k < N) (hlink : Cond.fieldLink own index ref (T k).2.1 (T k).2.2.1 ∈ Ts) (hsame : ∀ x, s.fieldFound? (T k).1 (T k).2.1 (T k).2.2.1 = some x → s.fieldFound? ref (T k).2.1 (T k).2.2.1 = some x) (hfin : (T k).2.2.2 = true) (hin2 : meth.name = "<init>") (hdecl : (T k).1 = own) {ty : FieldType} (hd : parseFieldDescriptor (T k).2.2.1 = some ty) (hn : narrow ty v = v) (hfit : fits ty v = true) (hlen : k < fs.length) (hfs : fs.set k v = fs2) (d : decode cc pc = .ok (.putfield index, 3)) (kk : g_W p l e R s m args below meth c nL D cl A (g_u f a (.inr (ci, fs2))) cells slots Q (pc + 3) lv st) : g_W p l e R s m args below meth c nL D cl A f cells slots Q pc lv (v :: .ref a :: st) := by
  subst hfs
  intro H locs ls hP hD hS hl
  have hap := va_apart (own := own) X.1.2.2.2.2 hin ty0 hty hnm X.2.1 hc
  obtain ⟨r, h1, cell, q1, q2, q3, q4⟩ := hP a _ he
  have hr : r = (C, T, N) := Option.some.inj (h1.symm.trans hc)
  subst hr
  obtain ⟨hSl, hfc, kC, hkC, hkind⟩ := X.2.1.1 ci _ hc
  obtain ⟨cf, kf, fi, fd, hi, hsl⟩ := hSl k hk
  have hlay := X.1.2.2.2.2 _ (hin _ (u_in_lay hk))
  unfold u_lay at hlay
  rw [if_pos hfin] at hlay
  have hst := (u_facts hfc hkC (u_lays X.1.2.2.2.2 hin hk) hi).1
  have hcf : m.cls = cf := by
    obtain ⟨_, _, c2, _, _, _, -, -, hf2, -, -, -, hown2, -⟩ := Cond.laysFinal_spec hlay
    have e1 : c2 = cf := by have := hi.symm.trans hf2; simp at this; exact this.1.symm
    rw [hdecl] at hown2
    rw [← e1]; exact Option.some.inj (X.1.2.2.2.1.symm.trans hown2)
  have h6 := u_fits hfc hkC hkind (Or.inr hlay) hi hd hn hfit
  refine W.putFinK X.1.1 X.1.2.1 X.1.2.2.2.1 (X.1.2.2.2.2 _ hlink) (hsame _ hi) hst hcf hin2 (by rw [q2]; exact h6) q1 q3 (by rw [hsl]; exact k2_hasslot (q4 k hk)) rfl rfl d fun H2 e1 e2 e3 => ?_
  rw [hsl] at e1 ⊢
  have ha : A a := hD a (by rw [he]; exact fun h => by cases h)
  exact kk H2 _ ls (hP.set ⟨_, hc, t_OB.to (V := updV (vp_V fs) k v) ⟨_, e1, q2, q3, t_set q4 hap hk v⟩ (fun j _ => vp_updV_set hlen v j)⟩ e3) (g_D.set hD ha) (hS.put e2 e3 ha) hl
theorem g_iald (X : g_X p s m args meth c cc nL ret Ts own D cl tys A Z) {a n t0 : Nat} {cA : ClassId} {g : Nat → Int32} {i v : Int32} (he : f a = some (.inl (cA, n, .inl g))) (ht : tys[t0]? = some (cA, .int)) (hi : vp_in i n) (hv : g i.toNatClampNeg = v) (d : decode cc pc = .ok (.iaload, 1)) (kk : g_W p l e R s m args below meth c nL D cl A f cells slots Q (pc + 1) lv (.int v :: st)) : g_W p l e R s m args below meth c nL D cl A f cells slots Q pc lv (.int i :: .ref a :: st) := by
  subst hv
  exact fun H locs ls hP hD hS hl => va_iald X.1.1 X.1.2.1 X.2.1 (hP.one he) 0 t0 rfl ht hi d (kk H locs ls hP hD hS hl)
theorem g_zald (X : g_X p s m args meth c cc nL ret Ts own D cl tys A Z) {a n t0 : Nat} {cA : ClassId} {g : Nat → Int32} {i v : Int32} (he : f a = some (.inl (cA, n, .inl g))) (ht : tys[t0]? = some (cA, .boolean)) (hi : vp_in i n) (hv : g i.toNatClampNeg = v) (d : decode cc pc = .ok (.baload, 1)) (kk : g_W p l e R s m args below meth c nL D cl A f cells slots Q (pc + 1) lv (.int v :: st)) : g_W p l e R s m args below meth c nL D cl A f cells slots Q pc lv (.int i :: .ref a :: st) := by
  subst hv
  exact fun H locs ls hP hD hS hl => va_zald X.1.1 X.1.2.1 X.2.1 (hP.one he) 0 t0 rfl ht hi d (kk H locs ls hP hD hS hl)
theorem g_aldq (X : g_X p s m args meth c cc nL ret Ts own D cl tys A Z) {a n t0 : Nat} {cA : ClassId} {C : String} {g : Nat → Option Nat} {i : Int32} {v : Value} (he : f a = some (.inl (cA, n, .inr (.inr (.inr (.inr g)))))) (ht : tys[t0]? = some (cA, .object C)) (hi : vp_in i n) (hv : va_rf (g i.toNatClampNeg) = v) (d : decode cc pc = .ok (.aaload, 1)) (kk : g_W p l e R s m args below meth c nL D cl A f cells slots Q (pc + 1) lv (v :: st)) : g_W p l e R s m args below meth c nL D cl A f cells slots Q pc lv (.int i :: .ref a :: st) := by
  subst hv
  exact fun H locs ls hP hD hS hl => va_aldq X.1.1 X.1.2.1 X.2.1 (hP.one he) 0 t0 rfl ht hi d (kk H locs ls hP hD hS hl)
theorem g_alen (X : g_X p s m args meth c cc nL ret Ts own D cl tys A Z) {a t0 : Nat} {cA : ClassId} {x : vp_A} {ty : FieldType} {v : Int32} (he : f a = some (.inl (cA, x))) (ht : tys[t0]? = some (cA, ty)) (hv : Int32.ofNat x.1 = v) (d : decode cc pc = .ok (.arraylength, 1)) (kk : g_W p l e R s m args below meth c nL D cl A f cells slots Q (pc + 1) lv (.int v :: st)) : g_W p l e R s m args below meth c nL D cl A f cells slots Q pc lv (.ref a :: st) := fun H locs ls hP hD hS hl => va_alen X.1.1 X.1.2.1 X.2.1 (hP.one he) 0 t0 rfl ht hv d (kk H locs ls hP hD hS hl)
theorem g_iast (X : g_X p s m args meth c cc nL ret Ts own D cl tys A Z) {a n t0 : Nat} {cA : ClassId} {g g2 : Nat → Int32} {i x : Int32} (he : f a = some (.inl (cA, n, .inl g))) (ht : tys[t0]? = some (cA, .int)) (hi : vp_in i n) (hg : upd g i.toNatClampNeg x = g2) (d : decode cc pc = .ok (.iastore, 1)) (kk : g_W p l e R s m args below meth c nL D cl A (g_u f a (.inl (cA, n, .inl g2))) cells slots Q (pc + 1) lv st) : g_W p l e R s m args below meth c nL D cl A f cells slots Q pc lv (.int x :: .int i :: .ref a :: st) := by
  subst hg
  intro H locs ls hP hD hS hl
  have ha : A a := hD a (by rw [he]; exact fun h => by cases h)
  refine W.iast X.1.1 X.1.2.1 (hP a _ he) ((X.2.1.2 t0 _ ht).1 n (fun j => .int (g j))) (fun q => by cases q) (by show ¬ (i < 0 ∨ (arrV _ _ _).slots.size ≤ _); rw [arrV_size]; exact hi) rfl rfl d fun H1 e1 z oq => ?_
  refine kk H1 _ ls (hP.set ?_ oq) (g_D.set hD ha) (hS.put z oq ha) hl
  show H1[a]? = some (vp_cell _ _)
  rw [e1]
  show some ((vp_cell _ _).setSlot _ _) = _
  rw [vp_cell_i, vp_cell_i, arrV_store]
  congr 2
  funext q
  by_cases hq : q = i.toNatClampNeg
  · subst hq
    simp [updV, upd]
  · simp [updV, upd, hq]
theorem g_zast (X : g_X p s m args meth c cc nL ret Ts own D cl tys A Z) {a n t0 : Nat} {cA : ClassId} {g g2 : Nat → Int32} {i x : Int32} (he : f a = some (.inl (cA, n, .inl g))) (ht : tys[t0]? = some (cA, .boolean)) (hi : vp_in i n) (hg : upd g i.toNatClampNeg (vp_nar .boolean x) = g2) (d : decode cc pc = .ok (.bastore, 1)) (kk : g_W p l e R s m args below meth c nL D cl A (g_u f a (.inl (cA, n, .inl g2))) cells slots Q (pc + 1) lv st) : g_W p l e R s m args below meth c nL D cl A f cells slots Q pc lv (.int x :: .int i :: .ref a :: st) := by
  subst hg
  intro H locs ls hP hD hS hl
  have ha : A a := hD a (by rw [he]; exact fun h => by cases h)
  refine W.zast X.1.1 X.1.2.1 (hP a _ he) ((X.2.1.2 t0 _ ht).1 n (fun j => .int (g j))) (fun q => by cases q) (by show ¬ (i < 0 ∨ (arrV _ _ _).slots.size ≤ _); rw [arrV_size]; exact hi) rfl rfl d fun H1 e1 z oq => ?_
  refine kk H1 _ ls (hP.set ?_ oq) (g_D.set hD ha) (hS.put z oq ha) hl
  show H1[a]? = some (vp_cell _ _)
  rw [e1]
  show some ((vp_cell _ _).setSlot _ _) = _
  rw [vp_cell_i, vp_cell_i, arrV_store]
  congr 2
  funext q
  by_cases hq : q = i.toNatClampNeg
  · subst hq
    (simp [updV, upd, vp_nar]; try rfl)
  · simp [updV, upd, hq]
theorem g_new (X : g_X p s m args meth c cc nL ret Ts own D cl tys A Z) {C : String} {T : u_T} {N ci index : Nat} {fs : List Value} (hin : ∀ w ∈ u_ws C T N, w ∈ Ts) (ty : Nat → FieldType) (hty : ∀ k, k < N → parseFieldDescriptor (T k).2.2.1 = some (ty k)) (hcl : Cond.classLink own index C ∈ Ts) (hinst : Cond.instantiable C N ∈ Ts) (hini : Cond.initialized C ∈ Ts) (hc : cl[ci]? = some (C, T, N)) (hfs : ∀ j, j < N → defaultValue (ty j) = vp_V fs j) (hcells : cells + 1 ≤ R.cells) (hslots : slots + N ≤ R.slots) (d : decode cc pc = .ok (.new index, 3)) (kk : ∀ q : Nat, f q = none → g_W p l e R s m args below meth c nL D cl A (g_u f q (.inr (ci, fs))) (cells + 1) (slots + N) Q (pc + 3) lv (.ref q :: st)) : g_W p l e R s m args below meth c nL D cl A f cells slots Q pc lv st := by
  intro H locs ls hP hD hS hl
  have hKn := X.2.1.1 ci _ hc
  refine W.newcK X.1.1 X.1.2.1 X.1.2.2.2.1 (X.1.2.2.2.2 _ hcl) (X.1.2.2.2.2 _ hinst) (X.1.2.2.2.2 _ hini) rfl d hcells hslots hKn.2.1 rfl fun H1 kC hkC e1 z1 o1 => ?_
  exact kk H.size hP.non H1 locs ls (hP.new ⟨_, hc, (u_born ty X.1.2.2.2.2 hin hKn hkC e1 hty).to hfs⟩ o1) (g_D.set hD (X.2.2.1 _ hS.1)) (hS.new z1 o1) hl
theorem g_newi (X : g_X p s m args meth c cc nL ret Ts own D cl tys A Z) {t0 : Nat} {cA : ClassId} {n : Int32} {N : Nat} (harr : Cond.arrayClass .int ∈ Ts) (ht : tys[t0]? = some (cA, .int)) (hn : ¬ n < 0) (hN : n.toNatClampNeg = N) (hb : N * componentBytes .int ≤ 536870912) (hcells : cells + 1 ≤ R.cells) (hslots : slots + N ≤ R.slots) (d : decode cc pc = .ok (.newarray .int, 2)) (kk : ∀ q : Nat, f q = none → g_W p l e R s m args below meth c nL D cl A (g_u f q (.inl (cA, N, .inl (fun _ => 0)))) (cells + 1) (slots + N) Q (pc + 2) lv (.ref q :: st)) : g_W p l e R s m args below meth c nL D cl A f cells slots Q pc lv (.int n :: st) := by
  intro H locs ls hP hD hS hl
  refine va_newaK (atype := .int) X.1.1 X.1.2.1 (X.1.2.2.2.2 _ harr) rfl d rfl hn hN hb hcells hslots rfl fun H1 cB e1 z1 o1 hAr hNm => ?_
  have hcc : cB = cA := by
    have h9 : s.vm.findClass ("[" ++ (FieldType.toString .int)) = some cA := (X.2.1.2 t0 _ ht).2
    exact Option.some.inj (hNm.symm.trans h9)
  subst hcc
  exact kk H.size hP.non H1 locs ls (hP.new (show H1[H.size]? = some (vp_cell _ _) from e1) o1) (g_D.set hD (X.2.2.1 _ hS.1)) (hS.new z1 o1) hl
theorem g_newz (X : g_X p s m args meth c cc nL ret Ts own D cl tys A Z) {t0 : Nat} {cA : ClassId} {n : Int32} {N : Nat} (harr : Cond.arrayClass .boolean ∈ Ts) (ht : tys[t0]? = some (cA, .boolean)) (hn : ¬ n < 0) (hN : n.toNatClampNeg = N) (hb : N * componentBytes .boolean ≤ 536870912) (hcells : cells + 1 ≤ R.cells) (hslots : slots + N ≤ R.slots) (d : decode cc pc = .ok (.newarray .boolean, 2)) (kk : ∀ q : Nat, f q = none → g_W p l e R s m args below meth c nL D cl A (g_u f q (.inl (cA, N, .inl (fun _ => 0)))) (cells + 1) (slots + N) Q (pc + 2) lv (.ref q :: st)) : g_W p l e R s m args below meth c nL D cl A f cells slots Q pc lv (.int n :: st) := by
  intro H locs ls hP hD hS hl
  refine va_newaK (atype := .boolean) X.1.1 X.1.2.1 (X.1.2.2.2.2 _ harr) rfl d rfl hn hN hb hcells hslots rfl fun H1 cB e1 z1 o1 hAr hNm => ?_
  have hcc : cB = cA := by
    have h9 : s.vm.findClass ("[" ++ (FieldType.toString .boolean)) = some cA := (X.2.1.2 t0 _ ht).2
    exact Option.some.inj (hNm.symm.trans h9)
  subst hcc
  exact kk H.size hP.non H1 locs ls (hP.new (show H1[H.size]? = some (vp_cell _ _) from e1) o1) (g_D.set hD (X.2.2.1 _ hS.1)) (hS.new z1 o1) hl
end GR
end
section
/-! Contracts over worlds as functions. -/
/-- what is known of the statics: it stays as the machine warms, as cells of A change, for a smaller A -/
def g_ZC (Z : (Nat → Prop) → State → Heap → Prop) : Prop :=
  (∀ (A : Nat → Prop) (u U : State) (H : Heap), u.WarmedH U.vm → Z A u H → Z A U H) ∧ (∀ (A : Nat → Prop) (U : State) (H H1 : Heap), Z A U H → (∀ a : Nat, a < H.size → ¬ A a → H1[a]? = H[a]?) → Z A U H1) ∧ ∀ (A B : Nat → Prop) (U : State) (H : Heap), Z A U H → (∀ q, B q → A q) → Z B U H
def g_Pc (D : va_G) (cl : List vw_C) (tys : List (ClassId × FieldType)) (Z : (Nat → Prop) → State → Heap → Prop) (f : g_F) (sz : Nat) (av : List Value) : Array Value → State → Prop :=
  va_Pc av (fun U => U.heap.size = sz ∧ g_P D cl f U.heap ∧ va_K D cl tys U ∧ Z (g_A f sz) U U.heap)
def g_Qc (D : va_G) (cl : List vw_C) (f : g_F) (sz : Nat) (post : Option Value → g_F → Prop) : Array Value → State → Outcome → State → Prop := fun _ st oc t =>
  (∃ (r : Option Value) (f2 : g_F), oc = .returned r ∧ post r f2 ∧ g_P D cl f2 t.heap ∧ ∀ q : Nat, f2 q ≠ none → g_A f sz q) ∧ va_F (g_A f sz) st t
def g_XC (D : va_G) (cl : List vw_C) (f : g_F) (sz : Nat) (px : String → Prop) : String → State → State → Prop := fun E st t => px E ∧ g_P D cl f t.heap ∧ va_F (g_A f sz) st t
abbrev g_ws (y : MethodName) (bytes : ByteArray) (maxL : Nat) (ret : Option FieldType) : List Cond := Cond.code y bytes maxL ret :: g_T
/-- a method's contract: from the world f, with the arguments av, it answers by 'post', or throws an E with 'px E' and leaves the world -/
def g_C (l : Launch) (y : MethodName) (bytes : ByteArray) (maxL : Nat) (ret : Option FieldType) (rm : Room) (D : va_G) (cl : List vw_C) (tys : List (ClassId × FieldType)) (Z : (Nat → Prop) → State → Heap → Prop) (av : List Value) (f : g_F) (post : Option Value → g_F → Prop) (px : String → Prop) : Prop :=
  ∀ sz : Nat, vx_Met l y (g_ws y bytes maxL ret) rm (g_Pc D cl tys Z f sz av) (g_Qc D cl f sz post) (g_XC D cl f sz px) rm.cells rm.slots (g_A f sz)
/-- what a body owes at its end -/
def g_End (below : List Frame) (D : va_G) (cl : List vw_C) (f0 : g_F) (post : Option Value → g_F → Prop) (px : String → Prop) (args : Array Value) (s : State) (rm : Room) : State → Prop :=
  vx_MQ below (g_Qc D cl f0 s.heap.size post) (g_XC D cl f0 s.heap.size px) args s rm.cells rm.slots (g_A f0 s.heap.size)
theorem g_ofW {l : Launch} {y : MethodName} {rm : Room} {D : va_G} {cl : List vw_C} {tys : List (ClassId × FieldType)} {Z : (Nat → Prop) → State → Heap → Prop} {av : List Value} {f : g_F} {post : Option Value → g_F → Prop} {px : String → Prop} {cc : ByteArray} {maxL : Nat} {ret : Option FieldType} (lv : List (Nat × Value))
    (hy : plainName y.cls = true) (hlen : (lg_sl av).length ≤ maxL) (hlv : lv_args 0 av = lv)
    (body : ∀ (p : Program) (e : Env) (s : State) (m : MethodId) (args : Array Value) (below : List Frame) (meth : Method) (c : Code), g_X p s m args meth c cc maxL ret g_T y.cls D cl tys (g_A f s.heap.size) Z → (∀ x ∈ c.exceptionTable.toList, False) → meth.name = y.name →
      g_W p l e rm s m args below meth c maxL D cl (g_A f s.heap.size) f 0 0 (g_End below D cl f post px args s rm) 0 lv []) : g_C l y cc maxL ret rm D cl tys Z av f post px := by
  intro sz
  refine vx_ofW (cc := cc) (maxL := maxL) (ret := ret) hy rfl ?_
  intro p e s m args below meth c s₁ B hml ht hv
  obtain ⟨rfl, hsz, hP, hK, hZ⟩ := hv
  subst hsz
  have hx := B.exec
  have hb := B.bytes
  have hts := atoms_spec (ws := g_ws y cc maxL ret) B.pre
  have hown : s.vm.findClass y.cls = some m.cls := findClass_of_methodNamed B.named
  have hl := lv_entry av (n := maxL) hlen
  rw [lg_entry_eq]
  rw [hlv] at hl
  exact body p e s m _ below meth c ⟨⟨hx, hb, hml, hown, fun w h => hts w (List.mem_cons_of_mem _ h)⟩, hK, fun q h => Or.inr h, B.returns, B.notSynchronized, hZ⟩ ht (name_of_methodNamed B.named B.method).1 s.heap [] _ hP (fun q h => Or.inl h) va_S.rf hl
/-- a contract that says less -/
theorem g_C.weaken {l : Launch} {y : MethodName} {bytes : ByteArray} {maxL : Nat} {ret : Option FieldType} {rm : Room} {D : va_G} {cl : List vw_C} {tys : List (ClassId × FieldType)} {Z : (Nat → Prop) → State → Heap → Prop} {av : List Value} {f : g_F} {post post2 : Option Value → g_F → Prop} {px px2 : String → Prop} (h : g_C l y bytes maxL ret rm D cl tys Z av f post px) (h1 : ∀ r f2, post r f2 → post2 r f2) (h2 : ∀ E, px E → px2 E) : g_C l y bytes maxL ret rm D cl tys Z av f post2 px2 := by
  intro sz p e a1 a2 a3 s m args below a4 a5 a6 a7
  obtain ⟨n, o, b1, b2, b3, b4⟩ := h sz p e a1 a2 a3 s m args below a4 a5 a6 a7
  refine ⟨n, o, b1, b2, b3, ?_⟩
  rcases b4 with ⟨⟨⟨r, f2, c1, c2, c3⟩, c4⟩, c5⟩ | ⟨q, c1, E, ce, L, ⟨c2, c3⟩, c4⟩
  · exact Or.inl ⟨⟨⟨r, f2, c1, h1 r f2 c2, c3⟩, c4⟩, c5⟩
  · exact Or.inr ⟨q, c1, E, ce, L, ⟨h2 E c2, c3⟩, c4⟩
/-- a contract of a method that never throws, as the calls without that case take it -/
theorem g_C.met {l : Launch} {y : MethodName} {bytes : ByteArray} {maxL : Nat} {ret : Option FieldType} {rm : Room} {D : va_G} {cl : List vw_C} {tys : List (ClassId × FieldType)} {Z : (Nat → Prop) → State → Heap → Prop} {av : List Value} {f : g_F} {post : Option Value → g_F → Prop} {px : String → Prop} (h : g_C l y bytes maxL ret rm D cl tys Z av f post px) (hx : ∀ E, ¬ px E) (sz : Nat) :
    Met l y (g_ws y bytes maxL ret) rm (g_Pc D cl tys Z f sz av) (g_Qc D cl f sz post) rm.cells rm.slots (g_A f sz) := by
  intro p e a1 a2 a3 s m args below a4 a5 a6 a7
  obtain ⟨n, o, b1, b2, b3, b4⟩ := h sz p e a1 a2 a3 s m args below a4 a5 a6 a7
  refine ⟨n, o, b1, b2, b3, ?_⟩
  rcases b4 with b4 | ⟨q, c1, E, ce, L, ⟨c2, c3⟩, c4⟩
  · exact b4
  · exact absurd c2 (hx E)
/-- what the tables say of a callee -/
def g_y (y : MethodName) (bytes : ByteArray) (maxL : Nat) (ret : Option FieldType) (n : Nat) : Prop :=
  Cond.code y bytes maxL ret ∈ g_T ∧ Cond.initialized y.cls ∈ g_T ∧ y.cls ≠ "java/lang/invoke/MethodHandle" ∧ y.cls ≠ "java/lang/invoke/VarHandle" ∧ (parseMethodDescriptor y.desc).map (fun d => d.parameters.length) = some n
section GE
variable {p : Program} {l : Launch} {e : Env} {R rm : Room} {s : State} {m : MethodId} {args : Array Value} {below : List Frame} {meth : Method} {c : Code} {cells slots : Nat} {Q : State → Prop}
variable {cc : ByteArray} {pc nL : Nat} {D : va_G} {cl : List vw_C} {tys : List (ClassId × FieldType)} {A : Nat → Prop} {f f0 : g_F} {lv lv' : List (Nat × Value)} {st : List Value} {own : String} {ret : Option FieldType} {Z : (Nat → Prop) → State → Heap → Prop} {post : Option Value → g_F → Prop} {px : String → Prop}
theorem g_iret (X : g_X p s m args meth c cc nL ret g_T own D cl tys (g_A f0 s.heap.size) Z) {v : Int32} (hr : ret = some .int) (hp : post (some (.int v)) f) (hc : cells ≤ rm.cells) (hs : slots ≤ rm.slots) (d : decode cc pc = .ok (.ireturn, 1)) : g_W p l e R s m args below meth c nL D cl (g_A f0 s.heap.size) f cells slots (g_End below D cl f0 post px args s rm) pc lv [.int v] := by
  intro H locs ls hP hD hS hl
  refine W.widen hc hs (vx_ret ?_)
  exact W.iret X.1.1 X.1.2.1 (X.2.2.2.1.trans hr) (fun t ht hW => ⟨⟨_, f, rfl, hp, by rw [ht]; exact hP, hD⟩, hS.F ht⟩) hS.2.2 d X.2.2.2.2.1
theorem g_zret (X : g_X p s m args meth c cc nL ret g_T own D cl tys (g_A f0 s.heap.size) Z) {v : Int32} (hr : ret = some .boolean) (hn : narrow .boolean (.int v) = .int v) (hp : post (some (.int v)) f) (hc : cells ≤ rm.cells) (hs : slots ≤ rm.slots) (d : decode cc pc = .ok (.ireturn, 1)) : g_W p l e R s m args below meth c nL D cl (g_A f0 s.heap.size) f cells slots (g_End below D cl f0 post px args s rm) pc lv [.int v] := by
  intro H locs ls hP hD hS hl
  refine W.widen hc hs (vx_ret ?_)
  exact W.zret X.1.1 X.1.2.1 (X.2.2.2.1.trans hr) hn (fun t ht hW => ⟨⟨_, f, rfl, hp, by rw [ht]; exact hP, hD⟩, hS.F ht⟩) hS.2.2 d X.2.2.2.2.1
theorem g_vret (X : g_X p s m args meth c cc nL ret g_T own D cl tys (g_A f0 s.heap.size) Z) (hr : ret = none) (hp : post none f) (hc : cells ≤ rm.cells) (hs : slots ≤ rm.slots) (d : decode cc pc = .ok (.return_, 1)) : g_W p l e R s m args below meth c nL D cl (g_A f0 s.heap.size) f cells slots (g_End below D cl f0 post px args s rm) pc lv [] := by
  intro H locs ls hP hD hS hl
  refine W.widen hc hs (vx_ret ?_)
  exact W.vret X.1.1 X.1.2.1 (X.2.2.2.1.trans hr) (fun t ht hW => ⟨⟨_, f, rfl, hp, by rw [ht]; exact hP, hD⟩, hS.F ht⟩) hS.2.2 d X.2.2.2.2.1
theorem g_aret (X : g_X p s m args meth c cc nL ret g_T own D cl tys (g_A f0 s.heap.size) Z) {v : Value} {rt : FieldType} (hr : ret = some rt) (hrt : (∃ n, rt = .object n) ∨ ∃ t, rt = .array t) (hv : v = .null ∨ ∃ a, v = .ref a) (hp : post (some v) f) (hc : cells ≤ rm.cells) (hs : slots ≤ rm.slots) (d : decode cc pc = .ok (.areturn, 1)) : g_W p l e R s m args below meth c nL D cl (g_A f0 s.heap.size) f cells slots (g_End below D cl f0 post px args s rm) pc lv [v] := by
  intro H locs ls hP hD hS hl
  refine W.widen hc hs (vx_ret ?_)
  exact W.aret X.1.1 X.1.2.1 (X.2.2.2.1.trans hr) hrt hv (fun t ht hW => ⟨⟨_, f, rfl, hp, by rw [ht]; exact hP, hD⟩, hS.F ht⟩) hS.2.2 d X.2.2.2.2.1
/-- what is owed where a callee has thrown -/
def g_K (p : Program) (l : Launch) (e : Env) (R : Room) (s : State) (m : MethodId) (args : Array Value) (below : List Frame) (meth : Method) (c : Code) (nL : Nat) (D : va_G) (cl : List vw_C) (A : Nat → Prop) (f : g_F) (cells slots : Nat) (Q : State → Prop) (pc : Nat) (lv : List (Nat × Value)) (rest : List Value) (px : String → Prop) : Prop :=
  ∀ (E : String) (ce : Cell) (q : Addr) (H : Heap) (locs : List Loc) (ls : Array Slot), px E → g_P D cl f H → (∀ q : Nat, f q ≠ none → A q) → va_S A s.heap H locs → lv_has ls nL lv → H[q]? = some ce → ce.vm = .none → s.vm.findClass E = some ce.cls → vx_W p l e R s m args below meth c H locs cells slots Q (F0 m pc ls rest) q
theorem g_K.no {rest : List Value} {px2 : String → Prop} (h : ∀ E, ¬ px2 E) : g_K p l e R s m args below meth c nL D cl A f cells slots Q pc lv rest px2 := fun E _ _ _ _ _ hx => absurd hx (h E)
theorem g_K.out {rest : List Value} {px2 : String → Prop} (X : g_X p s m args meth c cc nL ret g_T own D cl tys (g_A f0 s.heap.size) Z) (ht : ∀ x ∈ c.exceptionTable.toList, False) (hx : ∀ E, px2 E → px E) (hc : cells ≤ rm.cells) (hs : slots ≤ rm.slots) : g_K p l e R s m args below meth c nL D cl (g_A f0 s.heap.size) f0 cells slots (g_End below D cl f0 post px args s rm) pc lv rest px2 := by
  intro E ce q H locs ls h1 hP hD hS hl hce hcv hcl
  exact vx_out (fun x hx => absurd (ht x hx) id) X.2.2.2.2.1 hce hcv hcl (fun t ht2 hal => ⟨hx E h1, by rw [ht2]; exact hP, hS.F ht2⟩) hS.2.2 hc hs
theorem g_call (X : g_X p s m args meth c cc nL ret g_T own D cl tys A Z) {k n : Nat} {st0 rest : List Value} {a : Array Value} {px2 : String → Prop} {post2 : Option Value → g_F → Prop}
    (run : ∀ (H : Heap) (locs : List Loc) (ls : Array Slot), g_P D cl f H → va_S A s.heap H locs → lv_has ls nL lv → vx_Run p l e R s m args below meth c H locs cells slots k n (F0 m pc ls st0) rest (g_Qc D cl f H.size post2 a) (g_XC D cl f H.size px2) (g_A f H.size))
    (kx : g_K p l e R s m args below meth c nL D cl A f (cells + k) (slots + n) Q pc lv rest px2)
    (kk : ∀ (r : Option Value) (f2 : g_F), post2 r f2 → g_W p l e R s m args below meth c nL D cl A f2 (cells + k) (slots + n) Q (pc + 3) lv (r.toList ++ rest)) : g_W p l e R s m args below meth c nL D cl A f cells slots Q pc lv st0 := by
  intro H locs ls hP hD hS hl T hT Xs
  have hsub : ∀ q : Nat, g_A f H.size q → A q := fun q h => h.elim (hD q) (fun h => X.2.2.1 q (Nat.le_trans hS.1 h))
  rcases run H locs ls hP hS hl T hT Xs with ⟨v, st₀, t, T', L, h0, X', hL, e1, e2, ⟨⟨r, f2, hv, hp, hP2, hD2⟩, hF⟩, stp⟩ | ⟨q, st₀, t, T', L, E, ce, h0, X', hL, e1, e2, ⟨hp, hP2, hF⟩, hce, hcv, hcl, stp⟩
  · cases hv
    obtain ⟨k1, k2, k3⟩ := vx_keep h0 e1 hS (fun q _ => hsub q) hsub hL hF
    obtain ⟨t2, a1, b1⟩ := kk v f2 hp T'.heap (locs ++ L) ls (by rw [e1]; exact hP2) (fun q hq => hsub q (hD2 q hq)) k3 hl T' rfl X'
    exact ⟨t2, stp t2 a1, b1⟩
  · obtain ⟨k1, k2, k3⟩ := vx_keep h0 e1 hS (fun q _ => hsub q) hsub hL hF
    obtain ⟨t2, a1, b1⟩ := kx E ce q T'.heap (locs ++ L) ls hp (by rw [e1]; exact hP2) hD k3 hl (by rw [e1]; exact hce) hcv hcl T' rfl X'
    exact ⟨t2, stp.trans a1, b1⟩
theorem g_blind (hZ : g_ZC Z) {f : g_F} {sz : Nat} {av : List Value} : FrameBlind (g_Pc D cl tys Z f sz av) := by
  intro a U g mk q
  obtain ⟨q0, q1, qP, qK, qZ⟩ := q
  exact ⟨q0, q1, qP, va_K.moved (u := U) (U := U.calling g mk a) (Vm.Alike.refl U.vm) qK, hZ.1 _ U (U.calling g mk a) _ (State.WarmedH.refl U) qZ⟩
theorem g_pre (X : g_X p s m args meth c cc nL ret g_T own D cl tys A Z) (hZ : g_ZC Z) {H : Heap} {locs : List Loc} {av : List Value} (hP : g_P D cl f H) (hD : ∀ q : Nat, f q ≠ none → A q) (hS : va_S A s.heap H locs) : ∀ U : State, U.heap = H → s.WarmedH U.vm → g_Pc D cl tys Z f H.size av av.toArray U := by
  intro U hU hW
  refine ⟨rfl, by rw [hU], by rw [hU]; exact hP, va_K.moved hW.alike X.2.1, ?_⟩
  have hsub : ∀ q : Nat, g_A f H.size q → A q := fun q h => h.elim (hD q) (fun h => X.2.2.1 q (Nat.le_trans hS.1 h))
  rw [hU]
  exact hZ.2.2 _ _ _ _ (hZ.1 _ _ _ _ hW (hZ.2.1 _ _ _ _ X.2.2.2.2.2 (fun a h1 h2 => hS.2.1 a h1 h2))) hsub
theorem g_callV (X : g_X p s m args meth c cc nL ret g_T own D cl tys A Z) (hZ : g_ZC Z) {C : String} {y : MethodName} {bytes : ByteArray} {maxL n index : Nat} {ret2 : Option FieldType} {rm2 : Room} {As rest st0 : List Value} {px2 : String → Prop} {post2 : Option Value → g_F → Prop} {b ci : Nat} {fs : List Value} {cq : vw_C} (hcl : cl[ci]? = some cq) (hcq : cq.1 = C) (he : f b = some (.inr (ci, fs))) 
    (hM : g_C l y bytes maxL ret2 rm2 D cl tys Z (.ref b :: As) f post2 px2) (hy : g_y y bytes maxL ret2 n) (hin : Cond.instanceMethod y ∈ g_T) (hse : Cond.selects C y y ∈ g_T) (hlk : Cond.methodLink own index y ∈ g_T) (hn : As.length = n) (hst : st0 = As.reverse ++ .ref b :: rest) (hW : (rest.map fun v => v.category).sum ≤ 8) (d : decode cc pc = .ok (.invokevirtual index, 3)) (hR : rm2.frames + 1 ≤ R.frames ∧ 8 + (maxL + 11) + rm2.locals ≤ R.locals) (hf : cells + rm2.cells ≤ R.cells ∧ slots + rm2.slots ≤ R.slots)
    (kx : g_K p l e R s m args below meth c nL D cl A f (cells + rm2.cells) (slots + rm2.slots) Q pc lv rest px2)
    (kk : ∀ (r : Option Value) (f2 : g_F), post2 r f2 → g_W p l e R s m args below meth c nL D cl A f2 (cells + rm2.cells) (slots + rm2.slots) Q (pc + 3) lv (r.toList ++ rest)) : g_W p l e R s m args below meth c nL D cl A f cells slots Q pc lv st0 := by
  intro H locs ls hP hD hS hl
  refine g_call X (a := (Value.ref b :: As).toArray) (k := rm2.cells) (n := rm2.slots) (rest := rest) (px2 := px2) (fun H locs ls hP hS hl => ?_) kx kk H locs ls hP hD hS hl
  subst hcq
  obtain ⟨cellB, g1, g2, g3⟩ := va_recv X.2.1 (hP.one he) (ci := ci) (q0 := 0) hcl rfl
  exact vx_runV X.1 (hM H.size) ⟨(callB_of n X.1.2.2.2.2 (g_goodc hy.1) rfl rfl rfl (X.1.2.2.2.2 _ hy.2.1) (X.1.2.2.2.2 _ hlk) hy.2.2 hR), X.1.2.2.2.2 _ hin, X.1.2.2.2.2 _ hse⟩ ⟨g_blind hZ, ⟨cellB, g1, g2, g3⟩, g_pre X hZ hP hD hS⟩ rfl hn hl.1 hst (lv_room hW) d hf
theorem g_callVN (X : g_X p s m args meth c cc nL ret g_T own D cl tys A Z) (hZ : g_ZC Z) {C host : String} {y : MethodName} {bytes : ByteArray} {maxL n index : Nat} {ret2 : Option FieldType} {rm2 : Room} {As rest st0 : List Value} {px2 : String → Prop} {post2 : Option Value → g_F → Prop} {b ci : Nat} {fs : List Value} {cq : vw_C} (hcl : cl[ci]? = some cq) (hcq : cq.1 = C) (he : f b = some (.inr (ci, fs))) 
    (hM : g_C l y bytes maxL ret2 rm2 D cl tys Z (.ref b :: As) f post2 px2) (hy : g_y y bytes maxL ret2 n) (hin : Cond.instanceMethod y ∈ g_T) (hse : Cond.selects C y y ∈ g_T) (hlk : va_Nw (.methodLinkNest own index y host) s) (hno : ∀ E, ¬ px2 E) (hn : As.length = n) (hst : st0 = As.reverse ++ .ref b :: rest) (hW : (rest.map fun v => v.category).sum ≤ 8) (d : decode cc pc = .ok (.invokevirtual index, 3)) (hR : rm2.frames + 1 ≤ R.frames ∧ 8 + (maxL + 11) + rm2.locals ≤ R.locals) (hf : cells + rm2.cells ≤ R.cells ∧ slots + rm2.slots ≤ R.slots)
    
    (kk : ∀ (r : Option Value) (f2 : g_F), post2 r f2 → g_W p l e R s m args below meth c nL D cl A f2 (cells + rm2.cells) (slots + rm2.slots) Q (pc + 3) lv (r.toList ++ rest)) : g_W p l e R s m args below meth c nL D cl A f cells slots Q pc lv st0 := by
  intro H locs ls hP hD hS hl
  refine g_call X (a := (Value.ref b :: As).toArray) (k := rm2.cells) (n := rm2.slots) (rest := rest) (px2 := px2) (fun H locs ls hP hS hl => ?_) (g_K.no hno) kk H locs ls hP hD hS hl
  subst hcq
  obtain ⟨cellB, g1, g2, g3⟩ := va_recv X.2.1 (hP.one he) (ci := ci) (q0 := 0) hcl rfl
  exact fun T hT XT => Or.inl (va_runVN X.1 (hM.met hno H.size) ⟨(va_cnB n X.1.2.2.2.2 (g_goodc hy.1) rfl rfl rfl hlk (X.1.2.2.2.2 _ hy.2.1) hy.2.2 hR), X.1.2.2.2.2 _ hin, X.1.2.2.2.2 _ hse⟩ ⟨g_blind hZ, ⟨cellB, g1, g2, g3⟩, g_pre X hZ hP hD hS⟩ rfl hn hl.1 hst (lv_room hW) d hf T hT XT)
theorem g_callS (X : g_X p s m args meth c cc nL ret g_T own D cl tys A Z) (hZ : g_ZC Z) {y : MethodName} {bytes : ByteArray} {maxL n index : Nat} {ret2 : Option FieldType} {rm2 : Room} {As rest st0 : List Value} {px2 : String → Prop} {post2 : Option Value → g_F → Prop} 
    (hM : g_C l y bytes maxL ret2 rm2 D cl tys Z As f post2 px2) (hy : g_y y bytes maxL ret2 n) (hsc : Cond.static y ∈ g_T) (hlk : Cond.methodLink own index y ∈ g_T) (hn : As.length = n) (hst : st0 = As.reverse ++ rest) (hW : (rest.map fun v => v.category).sum ≤ 8) (d : decode cc pc = .ok (.invokestatic index, 3)) (hR : rm2.frames + 1 ≤ R.frames ∧ 8 + (maxL + 11) + rm2.locals ≤ R.locals) (hf : cells + rm2.cells ≤ R.cells ∧ slots + rm2.slots ≤ R.slots)
    (kx : g_K p l e R s m args below meth c nL D cl A f (cells + rm2.cells) (slots + rm2.slots) Q pc lv rest px2)
    (kk : ∀ (r : Option Value) (f2 : g_F), post2 r f2 → g_W p l e R s m args below meth c nL D cl A f2 (cells + rm2.cells) (slots + rm2.slots) Q (pc + 3) lv (r.toList ++ rest)) : g_W p l e R s m args below meth c nL D cl A f cells slots Q pc lv st0 := by
  intro H locs ls hP hD hS hl
  refine g_call X (a := As.toArray) (k := rm2.cells) (n := rm2.slots) (rest := rest) (px2 := px2) (fun H locs ls hP hS hl => ?_) kx kk H locs ls hP hD hS hl
  exact vx_runS X.1 (hM H.size) ⟨(callB_of n X.1.2.2.2.2 (g_goodc hy.1) rfl rfl rfl (X.1.2.2.2.2 _ hy.2.1) (X.1.2.2.2.2 _ hlk) hy.2.2 hR), X.1.2.2.2.2 _ hsc⟩ ⟨g_blind hZ, g_pre X hZ hP hD hS⟩ rfl hn hl.1 hst (lv_room hW) d hf
theorem g_callSN (X : g_X p s m args meth c cc nL ret g_T own D cl tys A Z) (hZ : g_ZC Z) {host : String} {y : MethodName} {bytes : ByteArray} {maxL n index : Nat} {ret2 : Option FieldType} {rm2 : Room} {As rest st0 : List Value} {px2 : String → Prop} {post2 : Option Value → g_F → Prop} 
    (hM : g_C l y bytes maxL ret2 rm2 D cl tys Z As f post2 px2) (hy : g_y y bytes maxL ret2 n) (hsc : Cond.static y ∈ g_T) (hlk : va_Nw (.methodLinkNest own index y host) s) (hno : ∀ E, ¬ px2 E) (hn : As.length = n) (hst : st0 = As.reverse ++ rest) (hW : (rest.map fun v => v.category).sum ≤ 8) (d : decode cc pc = .ok (.invokestatic index, 3)) (hR : rm2.frames + 1 ≤ R.frames ∧ 8 + (maxL + 11) + rm2.locals ≤ R.locals) (hf : cells + rm2.cells ≤ R.cells ∧ slots + rm2.slots ≤ R.slots)
    
    (kk : ∀ (r : Option Value) (f2 : g_F), post2 r f2 → g_W p l e R s m args below meth c nL D cl A f2 (cells + rm2.cells) (slots + rm2.slots) Q (pc + 3) lv (r.toList ++ rest)) : g_W p l e R s m args below meth c nL D cl A f cells slots Q pc lv st0 := by
  intro H locs ls hP hD hS hl
  refine g_call X (a := As.toArray) (k := rm2.cells) (n := rm2.slots) (rest := rest) (px2 := px2) (fun H locs ls hP hS hl => ?_) (g_K.no hno) kk H locs ls hP hD hS hl
  exact fun T hT XT => Or.inl (va_runSN X.1 (hM.met hno H.size) ⟨(va_cnB n X.1.2.2.2.2 (g_goodc hy.1) rfl rfl rfl hlk (X.1.2.2.2.2 _ hy.2.1) hy.2.2 hR), X.1.2.2.2.2 _ hsc, trivial⟩ ⟨g_blind hZ, g_pre X hZ hP hD hS⟩ rfl hn hl.1 hst (lv_room hW) d hf T hT XT)
theorem g_callI (X : g_X p s m args meth c cc nL ret g_T own D cl tys A Z) (hZ : g_ZC Z) {y : MethodName} {bytes : ByteArray} {maxL n index : Nat} {ret2 : Option FieldType} {rm2 : Room} {As rest st0 : List Value} {px2 : String → Prop} {post2 : Option Value → g_F → Prop} {b : Nat} 
    (hM : g_C l y bytes maxL none rm2 D cl tys Z (.ref b :: As) f post2 px2) (hy : g_y y bytes maxL none n) (hin : Cond.instanceMethod y ∈ g_T) (hini : y.name = "<init>") (hlk : Cond.methodLink own index y ∈ g_T) (hno : ∀ E, ¬ px2 E) (hn : As.length = n) (hst : st0 = As.reverse ++ .ref b :: rest) (hW : (rest.map fun v => v.category).sum ≤ 8) (d : decode cc pc = .ok (.invokespecial index, 3)) (hR : rm2.frames + 1 ≤ R.frames ∧ 8 + (maxL + 11) + rm2.locals ≤ R.locals) (hf : cells + rm2.cells ≤ R.cells ∧ slots + rm2.slots ≤ R.slots)
    
    (kk : ∀ (r : Option Value) (f2 : g_F), post2 r f2 → g_W p l e R s m args below meth c nL D cl A f2 (cells + rm2.cells) (slots + rm2.slots) Q (pc + 3) lv (r.toList ++ rest)) : g_W p l e R s m args below meth c nL D cl A f cells slots Q pc lv st0 := by
  intro H locs ls hP hD hS hl
  refine g_call X (a := (Value.ref b :: As).toArray) (k := rm2.cells) (n := rm2.slots) (rest := rest) (px2 := px2) (fun H locs ls hP hS hl => ?_) (g_K.no hno) kk H locs ls hP hD hS hl
  exact fun T hT XT => Or.inl (va_runI X.1 (hM.met hno H.size) ⟨(callB_of n X.1.2.2.2.2 (g_goodc hy.1) rfl rfl rfl (X.1.2.2.2.2 _ hy.2.1) (X.1.2.2.2.2 _ hlk) hy.2.2 hR), hini, X.1.2.2.2.2 _ hin⟩ ⟨g_blind hZ, g_pre X hZ hP hD hS⟩ rfl hn hl.1 hst (lv_room hW) d hf T hT XT)
end GE
end
section
def R_AL : String := "java/util/ArrayList"
def F_AL : u_T := fun k => match k with
  | 0 => ("java/util/ArrayList", "elementData", "[Ljava/lang/Object;", false)
  | 1 => ("java/util/ArrayList", "size", "I", false)
  | _ => ("java/util/AbstractList", "modCount", "I", false)
def t_AL : Nat → FieldType := fun k => match k with
  | 0 => .array (.object "java/lang/Object")
  | 1 => .int
  | _ => .int
theorem n_AL : ∀ a, a < 3 → ∀ b, b < 3 → a ≠ b → (F_AL a).2.1 ≠ (F_AL b).2.1 := by decide +kernel
theorem t_AL_ok : ∀ k, k < 3 → parseFieldDescriptor (F_AL k).2.2.1 = some (t_AL k) := by decide +kernel
theorem i_AL : ∀ w ∈ u_ws R_AL F_AL 3, w ∈ g_T := fun w h => List.mem_filter.mpr ((by decide +kernel : ∀ w ∈ u_ws R_AL F_AL 3, w ∈ lw_tbl ∧ goodWord w = true) w h)
def R_TL : String := "CaseLists$TouchLog"
def F_TL : u_T := fun k => match k with
  | 0 => ("CaseLists$TouchLog", "days", "[I", true)
  | 1 => ("CaseLists$TouchLog", "sets", "[I", true)
  | _ => ("CaseLists$TouchLog", "count", "I", false)
def t_TL : Nat → FieldType := fun k => match k with
  | 0 => .array .int
  | 1 => .array .int
  | _ => .int
theorem n_TL : ∀ a, a < 3 → ∀ b, b < 3 → a ≠ b → (F_TL a).2.1 ≠ (F_TL b).2.1 := by decide +kernel
theorem t_TL_ok : ∀ k, k < 3 → parseFieldDescriptor (F_TL k).2.2.1 = some (t_TL k) := by decide +kernel
theorem i_TL : ∀ w ∈ u_ws R_TL F_TL 3, w ∈ g_T := fun w h => List.mem_filter.mpr ((by decide +kernel : ∀ w ∈ u_ws R_TL F_TL 3, w ∈ lw_tbl ∧ goodWord w = true) w h)
def R_TU : String := "CaseLists$Tours"
def F_TU : u_T := fun k => match k with
  | 0 => ("CaseLists$Tours", "places", "[I", true)
  | 1 => ("CaseLists$Tours", "durations", "[I", true)
  | 2 => ("CaseLists$Tours", "shown", "[I", true)
  | 3 => ("CaseLists$Tours", "ways", "[I", true)
  | 4 => ("CaseLists$Tours", "rests", "[I", true)
  | _ => ("CaseLists$Tours", "count", "I", false)
def t_TU : Nat → FieldType := fun k => match k with
  | 0 => .array .int
  | 1 => .array .int
  | 2 => .array .int
  | 3 => .array .int
  | 4 => .array .int
  | _ => .int
theorem n_TU : ∀ a, a < 6 → ∀ b, b < 6 → a ≠ b → (F_TU a).2.1 ≠ (F_TU b).2.1 := by decide +kernel
theorem t_TU_ok : ∀ k, k < 6 → parseFieldDescriptor (F_TU k).2.2.1 = some (t_TU k) := by decide +kernel
theorem i_TU : ∀ w ∈ u_ws R_TU F_TU 6, w ∈ g_T := fun w h => List.mem_filter.mpr ((by decide +kernel : ∀ w ∈ u_ws R_TU F_TU 6, w ∈ lw_tbl ∧ goodWord w = true) w h)
def R_CL : String := "CaseLists"
def F_CL : u_T := fun k => match k with
  | 0 => ("CaseLists", "life", "I", true)
  | 1 => ("CaseLists", "cases", "Ljava/util/ArrayList;", true)
  | 2 => ("CaseLists", "touches", "LCaseLists$TouchLog;", true)
  | 3 => ("CaseLists", "tours", "LCaseLists$Tours;", true)
  | 4 => ("CaseLists", "planActs", "[I", true)
  | 5 => ("CaseLists", "planLength", "I", false)
  | _ => ("CaseLists", "planSeconds", "I", false)
def t_CL : Nat → FieldType := fun k => match k with
  | 0 => .int
  | 1 => .object "java/util/ArrayList"
  | 2 => .object "CaseLists$TouchLog"
  | 3 => .object "CaseLists$Tours"
  | 4 => .array .int
  | 5 => .int
  | _ => .int
theorem n_CL : ∀ a, a < 7 → ∀ b, b < 7 → a ≠ b → (F_CL a).2.1 ≠ (F_CL b).2.1 := by decide +kernel
theorem t_CL_ok : ∀ k, k < 7 → parseFieldDescriptor (F_CL k).2.2.1 = some (t_CL k) := by decide +kernel
theorem i_CL : ∀ w ∈ u_ws R_CL F_CL 7, w ∈ g_T := fun w h => List.mem_filter.mpr ((by decide +kernel : ∀ w ∈ u_ws R_CL F_CL 7, w ∈ lw_tbl ∧ goodWord w = true) w h)
def R_CS : String := "CaseLists$Case"
def F_CS : u_T := fun k => match k with
  | 0 => ("CaseLists$Case", "point", "I", true)
  | 1 => ("CaseLists$Case", "other", "I", true)
  | 2 => ("CaseLists$Case", "persons", "[I", true)
  | 3 => ("CaseLists$Case", "days", "[I", true)
  | 4 => ("CaseLists$Case", "goods", "[Z", true)
  | _ => ("CaseLists$Case", "count", "I", false)
def t_CS : Nat → FieldType := fun k => match k with
  | 0 => .int
  | 1 => .int
  | 2 => .array .int
  | 3 => .array .int
  | 4 => .array .boolean
  | _ => .int
theorem n_CS : ∀ a, a < 6 → ∀ b, b < 6 → a ≠ b → (F_CS a).2.1 ≠ (F_CS b).2.1 := by decide +kernel
theorem t_CS_ok : ∀ k, k < 6 → parseFieldDescriptor (F_CS k).2.2.1 = some (t_CS k) := by decide +kernel
theorem i_CS : ∀ w ∈ u_ws R_CS F_CS 6, w ∈ g_T := fun w h => List.mem_filter.mpr ((by decide +kernel : ∀ w ∈ u_ws R_CS F_CS 6, w ∈ lw_tbl ∧ goodWord w = true) w h)
def R_MO : String := "CaseListsModel"
def F_MO : u_T := fun k => match k with
  | 0 => ("CaseListsModel", "thrown", "I", false)
  | 1 => ("CaseListsModel", "life", "I", true)
  | 2 => ("CaseListsModel", "cases", "I", false)
  | 3 => ("CaseListsModel", "points", "[I", true)
  | 4 => ("CaseListsModel", "others", "[I", true)
  | 5 => ("CaseListsModel", "acts", "I", false)
  | 6 => ("CaseListsModel", "places", "[I", true)
  | 7 => ("CaseListsModel", "times", "[I", true)
  | 8 => ("CaseListsModel", "shown", "[I", true)
  | 9 => ("CaseListsModel", "ways", "[I", true)
  | 10 => ("CaseListsModel", "touches", "[I", true)
  | 11 => ("CaseListsModel", "counts", "[I", true)
  | 12 => ("CaseListsModel", "persons", "[I", true)
  | 13 => ("CaseListsModel", "days", "[I", true)
  | 14 => ("CaseListsModel", "goods", "[Z", true)
  | 15 => ("CaseListsModel", "planSize", "I", false)
  | 16 => ("CaseListsModel", "planTime", "I", false)
  | 17 => ("CaseListsModel", "plan", "[I", true)
  | 18 => ("CaseListsModel", "least", "[I", true)
  | _ => ("CaseListsModel", "still", "[Z", true)
def t_MO : Nat → FieldType := fun k => match k with
  | 0 => .int
  | 1 => .int
  | 2 => .int
  | 3 => .array .int
  | 4 => .array .int
  | 5 => .int
  | 6 => .array .int
  | 7 => .array .int
  | 8 => .array .int
  | 9 => .array .int
  | 10 => .array .int
  | 11 => .array .int
  | 12 => .array .int
  | 13 => .array .int
  | 14 => .array .boolean
  | 15 => .int
  | 16 => .int
  | 17 => .array .int
  | 18 => .array .int
  | _ => .array .boolean
theorem n_MO : ∀ a, a < 20 → ∀ b, b < 20 → a ≠ b → (F_MO a).2.1 ≠ (F_MO b).2.1 := by decide +kernel
theorem t_MO_ok : ∀ k, k < 20 → parseFieldDescriptor (F_MO k).2.2.1 = some (t_MO k) := by decide +kernel
theorem i_MO : ∀ w ∈ u_ws R_MO F_MO 20, w ∈ g_T := fun w h => List.mem_filter.mpr ((by decide +kernel : ∀ w ∈ u_ws R_MO F_MO 20, w ∈ lw_tbl ∧ goodWord w = true) w h)
abbrev g_cl : List vw_C := [(R_AL, F_AL, 3), (R_TL, F_TL, 3), (R_TU, F_TU, 6), (R_CL, F_CL, 7), (R_CS, F_CS, 6), (R_MO, F_MO, 20)]
abbrev b_CL_init : ByteArray := prog_1_method_1_code
def y_CL_init : MethodName := ⟨R_CL, "<init>", "(I)V"⟩
abbrev b_OJ_init : ByteArray := object_method_1_code
def y_OJ_init : MethodName := ⟨"java/lang/Object", "<init>", "()V"⟩
abbrev b_MA_min : ByteArray := prog_14_method_69_code
def y_MA_min : MethodName := ⟨"java/lang/Math", "min", "(II)I"⟩
abbrev b_MA_max : ByteArray := prog_14_method_65_code
def y_MA_max : MethodName := ⟨"java/lang/Math", "max", "(II)I"⟩
abbrev b_AL_init : ByteArray := prog_21_method_2_code
def y_AL_init : MethodName := ⟨R_AL, "<init>", "()V"⟩
abbrev b_BL_init : ByteArray := prog_20_method_1_code
def y_BL_init : MethodName := ⟨"java/util/AbstractList", "<init>", "()V"⟩
abbrev b_BC_init : ByteArray := prog_19_method_1_code
def y_BC_init : MethodName := ⟨"java/util/AbstractCollection", "<init>", "()V"⟩
abbrev b_TL_init : ByteArray := prog_3_method_1_code
def y_TL_init : MethodName := ⟨R_TL, "<init>", "()V"⟩
abbrev b_TU_init : ByteArray := prog_4_method_1_code
def y_TU_init : MethodName := ⟨R_TU, "<init>", "()V"⟩
abbrev b_CL_seconds : ByteArray := prog_1_method_10_code
def y_CL_seconds : MethodName := ⟨R_CL, "seconds", "()I"⟩
abbrev b_LW_cell : ByteArray := method_2_code
def y_LW_cell : MethodName := ⟨"CaseListsLaw", "cell", "([II)I"⟩
abbrev b_LW_fault : ByteArray := method_3_code
def y_LW_fault : MethodName := ⟨"CaseListsLaw", "fault", "(LCaseLists;II[J)I"⟩
abbrev b_CL_fault : ByteArray := prog_1_method_2_code
def y_CL_fault : MethodName := ⟨R_CL, "fault", "(II)I"⟩
abbrev b_CL_needBelow : ByteArray := prog_1_method_18_code
def y_CL_needBelow : MethodName := ⟨R_CL, "needBelow", "(II)V"⟩
abbrev b_CL_needWithin : ByteArray := prog_1_method_21_code
def y_CL_needWithin : MethodName := ⟨R_CL, "needWithin", "(III)V"⟩
abbrev b_TH_init : ByteArray := prog_18_method_1_code
def y_TH_init : MethodName := ⟨"java/lang/Throwable", "<init>", "()V"⟩
abbrev b_IA_init : ByteArray := prog_10_method_2_code
def y_IA_init : MethodName := ⟨"java/lang/IllegalArgumentException", "<init>", "(Ljava/lang/String;)V"⟩
abbrev b_RX_init : ByteArray := prog_15_method_2_code
def y_RX_init : MethodName := ⟨"java/lang/RuntimeException", "<init>", "(Ljava/lang/String;)V"⟩
abbrev b_EX_init : ByteArray := prog_9_method_2_code
def y_EX_init : MethodName := ⟨"java/lang/Exception", "<init>", "(Ljava/lang/String;)V"⟩
abbrev b_TH_init2 : ByteArray := prog_18_method_2_code
def y_TH_init2 : MethodName := ⟨"java/lang/Throwable", "<init>", "(Ljava/lang/String;)V"⟩
abbrev b_CL_needOther : ByteArray := prog_1_method_22_code
def y_CL_needOther : MethodName := ⟨R_CL, "needOther", "(II)V"⟩
abbrev b_CL_caseOf : ByteArray := prog_1_method_25_code
def y_CL_caseOf : MethodName := ⟨R_CL, "caseOf", "(II)I"⟩
abbrev b_AL_size : ByteArray := prog_21_method_8_code
def y_AL_size : MethodName := ⟨R_AL, "size", "()I"⟩
abbrev b_AL_get : ByteArray := prog_21_method_20_code
def y_AL_get : MethodName := ⟨R_AL, "get", "(I)Ljava/lang/Object;"⟩
abbrev b_OB_checkIndex : ByteArray := prog_25_method_17_code
def y_OB_checkIndex : MethodName := ⟨"java/util/Objects", "checkIndex", "(II)I"⟩
abbrev b_PR_checkIndex : ByteArray := prog_29_method_11_code
def y_PR_checkIndex : MethodName := ⟨"jdk/internal/util/Preconditions", "checkIndex", "(IILjava/util/function/BiFunction;)I"⟩
abbrev b_AL_elementData : ByteArray := prog_21_method_18_code
def y_AL_elementData : MethodName := ⟨R_AL, "elementData", "(I)Ljava/lang/Object;"⟩
abbrev b_CS_isOf : ByteArray := prog_2_method_2_code
def y_CS_isOf : MethodName := ⟨R_CS, "isOf", "(II)Z"⟩
abbrev b_CL_needRoom : ByteArray := prog_1_method_23_code
def y_CL_needRoom : MethodName := ⟨R_CL, "needRoom", "(II)V"⟩
abbrev b_IS_init : ByteArray := prog_11_method_2_code
def y_IS_init : MethodName := ⟨"java/lang/IllegalStateException", "<init>", "(Ljava/lang/String;)V"⟩
abbrev b_CS_init : ByteArray := prog_2_method_1_code
def y_CS_init : MethodName := ⟨R_CS, "<init>", "(II)V"⟩
abbrev b_AL_add : ByteArray := prog_21_method_25_code
def y_AL_add : MethodName := ⟨R_AL, "add", "(Ljava/lang/Object;)Z"⟩
abbrev b_AL_add2 : ByteArray := prog_21_method_24_code
def y_AL_add2 : MethodName := ⟨R_AL, "add", "(Ljava/lang/Object;[Ljava/lang/Object;I)V"⟩
abbrev b_AL_grow : ByteArray := prog_21_method_7_code
def y_AL_grow : MethodName := ⟨R_AL, "grow", "()[Ljava/lang/Object;"⟩
abbrev b_AL_grow2 : ByteArray := prog_21_method_6_code
def y_AL_grow2 : MethodName := ⟨R_AL, "grow", "(I)[Ljava/lang/Object;"⟩
abbrev b_AS_newLength : ByteArray := prog_28_method_27_code
def y_AS_newLength : MethodName := ⟨"jdk/internal/util/ArraysSupport", "newLength", "(III)I"⟩
abbrev b_AS_hugeLength : ByteArray := prog_28_method_28_code
def y_AS_hugeLength : MethodName := ⟨"jdk/internal/util/ArraysSupport", "hugeLength", "(II)I"⟩
abbrev b_AR_copyOf : ByteArray := prog_22_method_119_code
def y_AR_copyOf : MethodName := ⟨"java/util/Arrays", "copyOf", "([Ljava/lang/Object;I)[Ljava/lang/Object;"⟩
abbrev b_AR_copyOf2 : ByteArray := prog_22_method_120_code
def y_AR_copyOf2 : MethodName := ⟨"java/util/Arrays", "copyOf", "([Ljava/lang/Object;ILjava/lang/Class;)[Ljava/lang/Object;"⟩
abbrev b_LW_act : ByteArray := method_4_code
def y_LW_act : MethodName := ⟨"CaseListsLaw", "act", "(LCaseLists;II[J)I"⟩
abbrev b_CL_act : ByteArray := prog_1_method_3_code
def y_CL_act : MethodName := ⟨R_CL, "act", "(II)I"⟩
abbrev b_TU_actCount : ByteArray := prog_4_method_2_code
def y_TU_actCount : MethodName := ⟨R_TU, "actCount", "()I"⟩
abbrev b_TU_addAct : ByteArray := prog_4_method_3_code
def y_TU_addAct : MethodName := ⟨R_TU, "addAct", "(II)I"⟩
abbrev b_LW_shows : ByteArray := method_5_code
def y_LW_shows : MethodName := ⟨"CaseListsLaw", "shows", "(LCaseLists;IIZ[J)I"⟩
abbrev b_CL_shows : ByteArray := prog_1_method_4_code
def y_CL_shows : MethodName := ⟨R_CL, "shows", "(IIZ)Z"⟩
abbrev b_TU_setShown : ByteArray := prog_4_method_4_code
def y_TU_setShown : MethodName := ⟨R_TU, "setShown", "(IIZ)Z"⟩
abbrev b_CL_holds : ByteArray := prog_1_method_24_code
def y_CL_holds : MethodName := ⟨R_CL, "holds", "(II)Z"⟩
abbrev b_LW_way : ByteArray := method_6_code
def y_LW_way : MethodName := ⟨"CaseListsLaw", "way", "(LCaseLists;III[J)I"⟩
abbrev b_CL_way : ByteArray := prog_1_method_5_code
def y_CL_way : MethodName := ⟨R_CL, "way", "(III)I"⟩
abbrev b_TU_setWay : ByteArray := prog_4_method_5_code
def y_TU_setWay : MethodName := ⟨R_TU, "setWay", "(III)I"⟩
abbrev b_LW_change : ByteArray := method_7_code
def y_LW_change : MethodName := ⟨"CaseListsLaw", "change", "(LCaseLists;II[J)I"⟩
abbrev b_CL_change : ByteArray := prog_1_method_6_code
def y_CL_change : MethodName := ⟨R_CL, "change", "(II)I"⟩
abbrev b_CL_needDay : ByteArray := prog_1_method_19_code
def y_CL_needDay : MethodName := ⟨R_CL, "needDay", "(I)V"⟩
abbrev b_CL_casesWith : ByteArray := prog_1_method_26_code
def y_CL_casesWith : MethodName := ⟨R_CL, "casesWith", "(I)I"⟩
abbrev b_CS_has : ByteArray := prog_2_method_3_code
def y_CS_has : MethodName := ⟨R_CS, "has", "(I)Z"⟩
abbrev b_TL_note : ByteArray := prog_3_method_2_code
def y_TL_note : MethodName := ⟨R_TL, "note", "(II)V"⟩
abbrev b_IN_bitCount : ByteArray := prog_12_method_49_code
def y_IN_bitCount : MethodName := ⟨"java/lang/Integer", "bitCount", "(I)I"⟩
abbrev b_LW_result : ByteArray := method_8_code
def y_LW_result : MethodName := ⟨"CaseListsLaw", "result", "(LCaseLists;IIIZ[J)I"⟩
abbrev b_CL_result : ByteArray := prog_1_method_7_code
def y_CL_result : MethodName := ⟨R_CL, "result", "(IIIZ)I"⟩
abbrev b_CS_rowOf : ByteArray := prog_2_method_5_code
def y_CS_rowOf : MethodName := ⟨R_CS, "rowOf", "(II)I"⟩
abbrev b_CS_tell : ByteArray := prog_2_method_6_code
def y_CS_tell : MethodName := ⟨R_CS, "tell", "(IIIZ)V"⟩
abbrev b_CS_resultCount : ByteArray := prog_2_method_4_code
def y_CS_resultCount : MethodName := ⟨R_CS, "resultCount", "()I"⟩
abbrev b_LW_plan : ByteArray := method_9_code
def y_LW_plan : MethodName := ⟨"CaseListsLaw", "plan", "(LCaseLists;I[J)I"⟩
abbrev b_CL_plan : ByteArray := prog_1_method_8_code
def y_CL_plan : MethodName := ⟨R_CL, "plan", "(I)I"⟩
abbrev b_CL_unprovedCases : ByteArray := prog_1_method_27_code
def y_CL_unprovedCases : MethodName := ⟨R_CL, "unprovedCases", "(I)I"⟩
abbrev b_CL_stateOn : ByteArray := prog_1_method_29_code
def y_CL_stateOn : MethodName := ⟨R_CL, "stateOn", "(II)I"⟩
abbrev b_CL_firstCountingDay : ByteArray := prog_1_method_28_code
def y_CL_firstCountingDay : MethodName := ⟨R_CL, "firstCountingDay", "(II)I"⟩
abbrev b_TL_latest : ByteArray := prog_3_method_3_code
def y_TL_latest : MethodName := ⟨R_TL, "latest", "(II)I"⟩
abbrev b_CS_wordOf : ByteArray := prog_2_method_7_code
def y_CS_wordOf : MethodName := ⟨R_CS, "wordOf", "(III)I"⟩
abbrev b_TU_shownByAny : ByteArray := prog_4_method_6_code
def y_TU_shownByAny : MethodName := ⟨R_TU, "shownByAny", "()I"⟩
abbrev b_TU_shownBy : ByteArray := prog_4_method_10_code
def y_TU_shownBy : MethodName := ⟨R_TU, "shownBy", "(I)I"⟩
abbrev b_TU_findOrder : ByteArray := prog_4_method_8_code
def y_TU_findOrder : MethodName := ⟨R_TU, "findOrder", "(I[I)I"⟩
abbrev b_TU_weighRests : ByteArray := prog_4_method_13_code
def y_TU_weighRests : MethodName := ⟨R_TU, "weighRests", "(I)V"⟩
abbrev b_TU_covers : ByteArray := prog_4_method_11_code
def y_TU_covers : MethodName := ⟨R_TU, "covers", "(II)Z"⟩
abbrev b_TU_leastRest : ByteArray := prog_4_method_14_code
def y_TU_leastRest : MethodName := ⟨R_TU, "leastRest", "(II)I"⟩
abbrev b_TU_weightOfNext : ByteArray := prog_4_method_16_code
def y_TU_weightOfNext : MethodName := ⟨R_TU, "weightOfNext", "(III)I"⟩
abbrev b_TU_wayBetween : ByteArray := prog_4_method_12_code
def y_TU_wayBetween : MethodName := ⟨R_TU, "wayBetween", "(II)I"⟩
abbrev b_TU_weight : ByteArray := prog_4_method_17_code
def y_TU_weight : MethodName := ⟨R_TU, "weight", "(I)I"⟩
abbrev b_TU_bestFirst : ByteArray := prog_4_method_18_code
def y_TU_bestFirst : MethodName := ⟨R_TU, "bestFirst", "()I"⟩
abbrev b_TU_weightOfFirst : ByteArray := prog_4_method_15_code
def y_TU_weightOfFirst : MethodName := ⟨R_TU, "weightOfFirst", "(I)I"⟩
abbrev b_TU_bestNext : ByteArray := prog_4_method_19_code
def y_TU_bestNext : MethodName := ⟨R_TU, "bestNext", "(II)I"⟩
abbrev b_TU_secondsOf : ByteArray := prog_4_method_9_code
def y_TU_secondsOf : MethodName := ⟨R_TU, "secondsOf", "([II)I"⟩
abbrev b_LW_planned : ByteArray := method_10_code
def y_LW_planned : MethodName := ⟨"CaseListsLaw", "planned", "(LCaseLists;I[J)I"⟩
abbrev b_CL_planned : ByteArray := prog_1_method_9_code
def y_CL_planned : MethodName := ⟨R_CL, "planned", "(I)I"⟩
abbrev b_LW_from : ByteArray := method_11_code
def y_LW_from : MethodName := ⟨"CaseListsLaw", "from", "(LCaseLists;I[J)I"⟩
abbrev b_CL_from : ByteArray := prog_1_method_11_code
def y_CL_from : MethodName := ⟨R_CL, "from", "(I)I"⟩
abbrev b_TU_leastSecondsFrom : ByteArray := prog_4_method_7_code
def y_TU_leastSecondsFrom : MethodName := ⟨R_TU, "leastSecondsFrom", "(I)I"⟩
abbrev b_LW_state : ByteArray := method_12_code
def y_LW_state : MethodName := ⟨"CaseListsLaw", "state", "(LCaseLists;II[J)I"⟩
abbrev b_CL_state : ByteArray := prog_1_method_12_code
def y_CL_state : MethodName := ⟨R_CL, "state", "(II)I"⟩
abbrev b_LW_word : ByteArray := method_13_code
def y_LW_word : MethodName := ⟨"CaseListsLaw", "word", "(LCaseLists;III[J)I"⟩
abbrev b_CL_word : ByteArray := prog_1_method_13_code
def y_CL_word : MethodName := ⟨R_CL, "word", "(III)I"⟩
abbrev b_LW_listed : ByteArray := method_14_code
def y_LW_listed : MethodName := ⟨"CaseListsLaw", "listed", "(LCaseLists;III[J)I"⟩
abbrev b_CL_listed : ByteArray := prog_1_method_14_code
def y_CL_listed : MethodName := ⟨R_CL, "listed", "(III)I"⟩
abbrev b_CL_needNotNegative : ByteArray := prog_1_method_20_code
def y_CL_needNotNegative : MethodName := ⟨R_CL, "needNotNegative", "(I)V"⟩
abbrev b_LW_hidden : ByteArray := method_15_code
def y_LW_hidden : MethodName := ⟨"CaseListsLaw", "hidden", "(LCaseLists;I[J)I"⟩
abbrev b_CL_hidden : ByteArray := prog_1_method_15_code
def y_CL_hidden : MethodName := ⟨R_CL, "hidden", "(I)I"⟩
abbrev b_LW_proves : ByteArray := method_16_code
def y_LW_proves : MethodName := ⟨"CaseListsLaw", "proves", "(LCaseLists;II[J)I"⟩
abbrev b_CL_proves : ByteArray := prog_1_method_16_code
def y_CL_proves : MethodName := ⟨R_CL, "proves", "(II)I"⟩
abbrev b_CL_nextTurn : ByteArray := prog_1_method_30_code
def y_CL_nextTurn : MethodName := ⟨R_CL, "nextTurn", "(II)I"⟩
abbrev b_TL_nextBehind : ByteArray := prog_3_method_4_code
def y_TL_nextBehind : MethodName := ⟨R_TL, "nextBehind", "(II)I"⟩
abbrev b_CS_nextTurn : ByteArray := prog_2_method_8_code
def y_CS_nextTurn : MethodName := ⟨R_CS, "nextTurn", "(III)I"⟩
abbrev b_LW_touched : ByteArray := method_17_code
def y_LW_touched : MethodName := ⟨"CaseListsLaw", "touched", "(LCaseLists;II[J)I"⟩
abbrev b_CL_touched : ByteArray := prog_1_method_17_code
def y_CL_touched : MethodName := ⟨R_CL, "touched", "(II)I"⟩
abbrev b_MO_init : ByteArray := prog_6_method_1_code
def y_MO_init : MethodName := ⟨R_MO, "<init>", "(I)V"⟩
abbrev b_MO_thrown : ByteArray := prog_6_method_2_code
def y_MO_thrown : MethodName := ⟨R_MO, "thrown", "()I"⟩
abbrev b_MO_fault : ByteArray := prog_6_method_7_code
def y_MO_fault : MethodName := ⟨R_MO, "fault", "(II)I"⟩
abbrev b_MO_in : ByteArray := prog_6_method_4_code
def y_MO_in : MethodName := ⟨R_MO, "in", "(III)Z"⟩
abbrev b_MO_goes : ByteArray := prog_6_method_3_code
def y_MO_goes : MethodName := ⟨R_MO, "goes", "(ZZ)Z"⟩
abbrev b_MO_act : ByteArray := prog_6_method_8_code
def y_MO_act : MethodName := ⟨R_MO, "act", "(II)I"⟩
abbrev b_MO_shows : ByteArray := prog_6_method_9_code
def y_MO_shows : MethodName := ⟨R_MO, "shows", "(IIZ)Z"⟩
abbrev b_MO_isCase : ByteArray := prog_6_method_5_code
def y_MO_isCase : MethodName := ⟨R_MO, "isCase", "(I)Z"⟩
abbrev b_MO_way : ByteArray := prog_6_method_10_code
def y_MO_way : MethodName := ⟨R_MO, "way", "(III)I"⟩
abbrev b_MO_change : ByteArray := prog_6_method_12_code
def y_MO_change : MethodName := ⟨R_MO, "change", "(II)I"⟩
abbrev b_MO_isDay : ByteArray := prog_6_method_6_code
def y_MO_isDay : MethodName := ⟨R_MO, "isDay", "(I)Z"⟩
abbrev b_MO_result : ByteArray := prog_6_method_13_code
def y_MO_result : MethodName := ⟨R_MO, "result", "(IIIZ)I"⟩
abbrev b_MO_state : ByteArray := prog_6_method_17_code
def y_MO_state : MethodName := ⟨R_MO, "state", "(II)I"⟩
abbrev b_MO_stateOf : ByteArray := prog_6_method_16_code
def y_MO_stateOf : MethodName := ⟨R_MO, "stateOf", "(II)I"⟩
abbrev b_MO_lastTouch : ByteArray := prog_6_method_14_code
def y_MO_lastTouch : MethodName := ⟨R_MO, "lastTouch", "(II)I"⟩
abbrev b_MO_isTouched : ByteArray := prog_6_method_11_code
def y_MO_isTouched : MethodName := ⟨R_MO, "isTouched", "(II)Z"⟩
abbrev b_MO_wordOf : ByteArray := prog_6_method_15_code
def y_MO_wordOf : MethodName := ⟨R_MO, "wordOf", "(IIII)I"⟩
abbrev b_MO_word : ByteArray := prog_6_method_18_code
def y_MO_word : MethodName := ⟨R_MO, "word", "(III)I"⟩
abbrev b_MO_listed : ByteArray := prog_6_method_19_code
def y_MO_listed : MethodName := ⟨R_MO, "listed", "(III)I"⟩
abbrev b_MO_hidden : ByteArray := prog_6_method_21_code
def y_MO_hidden : MethodName := ⟨R_MO, "hidden", "(I)I"⟩
abbrev b_MO_allShown : ByteArray := prog_6_method_20_code
def y_MO_allShown : MethodName := ⟨R_MO, "allShown", "()I"⟩
abbrev b_MO_proves : ByteArray := prog_6_method_23_code
def y_MO_proves : MethodName := ⟨R_MO, "proves", "(II)I"⟩
abbrev b_MO_nextDay : ByteArray := prog_6_method_22_code
def y_MO_nextDay : MethodName := ⟨R_MO, "nextDay", "(II)I"⟩
abbrev b_MO_touched : ByteArray := prog_6_method_24_code
def y_MO_touched : MethodName := ⟨R_MO, "touched", "(II)I"⟩
abbrev b_MO_plan : ByteArray := prog_6_method_31_code
def y_MO_plan : MethodName := ⟨R_MO, "plan", "(I)I"⟩
abbrev b_MO_reckon : ByteArray := prog_6_method_27_code
def y_MO_reckon : MethodName := ⟨R_MO, "reckon", "()V"⟩
abbrev b_MO_has : ByteArray := prog_6_method_25_code
def y_MO_has : MethodName := ⟨R_MO, "has", "(II)Z"⟩
abbrev b_MO_between : ByteArray := prog_6_method_26_code
def y_MO_between : MethodName := ⟨R_MO, "between", "(II)I"⟩
abbrev b_MO_shownBy : ByteArray := prog_6_method_28_code
def y_MO_shownBy : MethodName := ⟨R_MO, "shownBy", "(I)I"⟩
abbrev b_MO_leastOf : ByteArray := prog_6_method_30_code
def y_MO_leastOf : MethodName := ⟨R_MO, "leastOf", "(I)I"⟩
abbrev b_MO_sizeOf : ByteArray := prog_6_method_29_code
def y_MO_sizeOf : MethodName := ⟨R_MO, "sizeOf", "(I)I"⟩
abbrev b_MO_order : ByteArray := prog_6_method_32_code
def y_MO_order : MethodName := ⟨R_MO, "order", "()V"⟩
abbrev b_MO_planned : ByteArray := prog_6_method_33_code
def y_MO_planned : MethodName := ⟨R_MO, "planned", "(I)I"⟩
abbrev b_MO_seconds : ByteArray := prog_6_method_34_code
def y_MO_seconds : MethodName := ⟨R_MO, "seconds", "()I"⟩
abbrev b_MO_from : ByteArray := prog_6_method_35_code
def y_MO_from : MethodName := ⟨R_MO, "from", "(I)I"⟩
end
section
theorem q_s0 : Cond.selects "java/lang/Throwable" ⟨"java/lang/Throwable", "fillInStackTrace", "(I)Ljava/lang/Throwable;"⟩ ⟨"java/lang/Throwable", "fillInStackTrace", "(I)Ljava/lang/Throwable;"⟩ ∈ g_T := g_in 0 (by decide +kernel) (by decide +kernel)
theorem q_s1 : Cond.selects "CaseLists" y_CL_caseOf y_CL_caseOf ∈ g_T := g_in 1 (by decide +kernel) (by decide +kernel)
theorem q_s2 : Cond.selects "java/util/ArrayList" y_AL_add2 y_AL_add2 ∈ g_T := g_in 2 (by decide +kernel) (by decide +kernel)
theorem q_s3 : Cond.selects "java/util/ArrayList" y_AL_grow y_AL_grow ∈ g_T := g_in 3 (by decide +kernel) (by decide +kernel)
theorem q_s4 : Cond.selects "java/util/ArrayList" y_AL_grow2 y_AL_grow2 ∈ g_T := g_in 4 (by decide +kernel) (by decide +kernel)
theorem q_s5 : Cond.selects "CaseLists" y_CL_casesWith y_CL_casesWith ∈ g_T := g_in 5 (by decide +kernel) (by decide +kernel)
theorem q_s6 : Cond.selects "CaseLists" y_CL_unprovedCases y_CL_unprovedCases ∈ g_T := g_in 6 (by decide +kernel) (by decide +kernel)
theorem q_s7 : Cond.selects "CaseLists" y_CL_stateOn y_CL_stateOn ∈ g_T := g_in 7 (by decide +kernel) (by decide +kernel)
theorem q_s8 : Cond.selects "CaseLists" y_CL_firstCountingDay y_CL_firstCountingDay ∈ g_T := g_in 8 (by decide +kernel) (by decide +kernel)
theorem q_s9 : Cond.selects "CaseLists$Tours" y_TU_shownBy y_TU_shownBy ∈ g_T := g_in 9 (by decide +kernel) (by decide +kernel)
theorem q_s10 : Cond.selects "CaseLists$Tours" y_TU_weighRests y_TU_weighRests ∈ g_T := g_in 10 (by decide +kernel) (by decide +kernel)
theorem q_s11 : Cond.selects "CaseLists$Tours" y_TU_covers y_TU_covers ∈ g_T := g_in 11 (by decide +kernel) (by decide +kernel)
theorem q_s12 : Cond.selects "CaseLists$Tours" y_TU_leastRest y_TU_leastRest ∈ g_T := g_in 12 (by decide +kernel) (by decide +kernel)
theorem q_s13 : Cond.selects "CaseLists$Tours" y_TU_weightOfNext y_TU_weightOfNext ∈ g_T := g_in 13 (by decide +kernel) (by decide +kernel)
theorem q_s14 : Cond.selects "CaseLists$Tours" y_TU_wayBetween y_TU_wayBetween ∈ g_T := g_in 14 (by decide +kernel) (by decide +kernel)
theorem q_s15 : Cond.selects "CaseLists$Tours" y_TU_bestFirst y_TU_bestFirst ∈ g_T := g_in 15 (by decide +kernel) (by decide +kernel)
theorem q_s16 : Cond.selects "CaseLists$Tours" y_TU_weightOfFirst y_TU_weightOfFirst ∈ g_T := g_in 16 (by decide +kernel) (by decide +kernel)
theorem q_s17 : Cond.selects "CaseLists$Tours" y_TU_bestNext y_TU_bestNext ∈ g_T := g_in 17 (by decide +kernel) (by decide +kernel)
theorem q_s18 : Cond.selects "CaseLists" y_CL_nextTurn y_CL_nextTurn ∈ g_T := g_in 18 (by decide +kernel) (by decide +kernel)
theorem q_s19 : Cond.selects "CaseListsModel" y_MO_goes y_MO_goes ∈ g_T := g_in 19 (by decide +kernel) (by decide +kernel)
theorem q_s20 : Cond.selects "CaseListsModel" y_MO_isCase y_MO_isCase ∈ g_T := g_in 20 (by decide +kernel) (by decide +kernel)
theorem q_s21 : Cond.selects "CaseListsModel" y_MO_stateOf y_MO_stateOf ∈ g_T := g_in 21 (by decide +kernel) (by decide +kernel)
theorem q_s22 : Cond.selects "CaseListsModel" y_MO_lastTouch y_MO_lastTouch ∈ g_T := g_in 22 (by decide +kernel) (by decide +kernel)
theorem q_s23 : Cond.selects "CaseListsModel" y_MO_isTouched y_MO_isTouched ∈ g_T := g_in 23 (by decide +kernel) (by decide +kernel)
theorem q_s24 : Cond.selects "CaseListsModel" y_MO_wordOf y_MO_wordOf ∈ g_T := g_in 24 (by decide +kernel) (by decide +kernel)
theorem q_s25 : Cond.selects "CaseListsModel" y_MO_allShown y_MO_allShown ∈ g_T := g_in 25 (by decide +kernel) (by decide +kernel)
theorem q_s26 : Cond.selects "CaseListsModel" y_MO_nextDay y_MO_nextDay ∈ g_T := g_in 26 (by decide +kernel) (by decide +kernel)
theorem q_s27 : Cond.selects "CaseListsModel" y_MO_reckon y_MO_reckon ∈ g_T := g_in 27 (by decide +kernel) (by decide +kernel)
theorem q_s28 : Cond.selects "CaseListsModel" y_MO_between y_MO_between ∈ g_T := g_in 28 (by decide +kernel) (by decide +kernel)
theorem q_s29 : Cond.selects "CaseListsModel" y_MO_shownBy y_MO_shownBy ∈ g_T := g_in 29 (by decide +kernel) (by decide +kernel)
theorem q_s30 : Cond.selects "CaseListsModel" y_MO_leastOf y_MO_leastOf ∈ g_T := g_in 30 (by decide +kernel) (by decide +kernel)
theorem q_s31 : Cond.selects "CaseListsModel" y_MO_order y_MO_order ∈ g_T := g_in 31 (by decide +kernel) (by decide +kernel)
theorem q_0 : Cond.initialized "CaseListsLaw" ∈ g_T := g_in 32 (by decide +kernel) (by decide +kernel)
theorem q_1 : Cond.initialized "CaseLists" ∈ g_T := g_in 33 (by decide +kernel) (by decide +kernel)
theorem q_2 : Cond.initialized "java/lang/Math" ∈ g_T := g_in 34 (by decide +kernel) (by decide +kernel)
theorem q_3 : Cond.initialized "java/util/AbstractCollection" ∈ g_T := g_in 35 (by decide +kernel) (by decide +kernel)
theorem q_4 : Cond.initialized "java/util/AbstractList" ∈ g_T := g_in 36 (by decide +kernel) (by decide +kernel)
theorem q_5 : Cond.initialized "java/util/ArrayList" ∈ g_T := g_in 37 (by decide +kernel) (by decide +kernel)
theorem q_6 : Cond.initialized "CaseLists$TouchLog" ∈ g_T := g_in 38 (by decide +kernel) (by decide +kernel)
theorem q_7 : Cond.initialized "CaseLists$Tours" ∈ g_T := g_in 39 (by decide +kernel) (by decide +kernel)
theorem q_8 : Cond.initialized "CaseListsModel" ∈ g_T := g_in 40 (by decide +kernel) (by decide +kernel)
theorem q_9 : Cond.initialized "java/lang/Throwable" ∈ g_T := g_in 41 (by decide +kernel) (by decide +kernel)
theorem q_10 : Cond.initialized "java/lang/Exception" ∈ g_T := g_in 42 (by decide +kernel) (by decide +kernel)
theorem q_11 : Cond.initialized "java/lang/RuntimeException" ∈ g_T := g_in 43 (by decide +kernel) (by decide +kernel)
theorem q_12 : Cond.initialized "java/lang/IllegalArgumentException" ∈ g_T := g_in 44 (by decide +kernel) (by decide +kernel)
theorem q_13 : Cond.initialized "java/util/Objects" ∈ g_T := g_in 45 (by decide +kernel) (by decide +kernel)
theorem q_14 : Cond.initialized "jdk/internal/util/Preconditions" ∈ g_T := g_in 46 (by decide +kernel) (by decide +kernel)
theorem q_15 : Cond.initialized "java/lang/IllegalStateException" ∈ g_T := g_in 47 (by decide +kernel) (by decide +kernel)
theorem q_16 : Cond.initialized "CaseLists$Case" ∈ g_T := g_in 48 (by decide +kernel) (by decide +kernel)
theorem q_17 : Cond.initialized "jdk/internal/util/ArraysSupport" ∈ g_T := g_in 49 (by decide +kernel) (by decide +kernel)
theorem q_18 : Cond.initialized "java/util/Arrays" ∈ g_T := g_in 50 (by decide +kernel) (by decide +kernel)
theorem q_19 : Cond.initialized "java/lang/System" ∈ g_T := g_in 51 (by decide +kernel) (by decide +kernel)
theorem q_20 : Cond.initialized "java/lang/Integer" ∈ g_T := g_in 52 (by decide +kernel) (by decide +kernel)
theorem q_21 : Cond.classLink "CaseListsLaw" 8 "CaseLists" ∈ g_T := g_in 53 (by decide +kernel) (by decide +kernel)
theorem q_22 : Cond.instantiable "CaseLists" 7 ∈ g_T := g_in 54 (by decide +kernel) (by decide +kernel)
theorem q_23 : Cond.methodLink "CaseListsLaw" 69 y_CL_init ∈ g_T := g_in 55 (by decide +kernel) (by decide +kernel)
theorem q_24 : Cond.instanceMethod y_CL_init ∈ g_T := g_in 56 (by decide +kernel) (by decide +kernel)
theorem q_25 : Cond.code y_CL_init prog_1_method_1_code 2 none ∈ g_T := g_in 57 (by decide +kernel) (by decide +kernel)
theorem q_26 : Cond.methodLink "CaseLists" 3 y_OJ_init ∈ g_T := g_in 58 (by decide +kernel) (by decide +kernel)
theorem q_27 : Cond.instanceMethod y_OJ_init ∈ g_T := g_in 59 (by decide +kernel) (by decide +kernel)
theorem q_28 : Cond.code y_OJ_init object_method_1_code 1 none ∈ g_T := g_in 60 (by decide +kernel) (by decide +kernel)
theorem q_29 : Cond.methodLink "CaseLists" 9 y_MA_min ∈ g_T := g_in 61 (by decide +kernel) (by decide +kernel)
theorem q_30 : Cond.static y_MA_min ∈ g_T := g_in 62 (by decide +kernel) (by decide +kernel)
theorem q_31 : Cond.code y_MA_min prog_14_method_69_code 2 (some .int) ∈ g_T := g_in 63 (by decide +kernel) (by decide +kernel)
theorem q_32 : Cond.methodLink "CaseLists" 15 y_MA_max ∈ g_T := g_in 64 (by decide +kernel) (by decide +kernel)
theorem q_33 : Cond.static y_MA_max ∈ g_T := g_in 65 (by decide +kernel) (by decide +kernel)
theorem q_34 : Cond.code y_MA_max prog_14_method_65_code 2 (some .int) ∈ g_T := g_in 66 (by decide +kernel) (by decide +kernel)
theorem q_35 : Cond.classLink "CaseLists" 22 "java/util/ArrayList" ∈ g_T := g_in 67 (by decide +kernel) (by decide +kernel)
theorem q_36 : Cond.instantiable "java/util/ArrayList" 3 ∈ g_T := g_in 68 (by decide +kernel) (by decide +kernel)
theorem q_37 : Cond.methodLink "CaseLists" 24 y_AL_init ∈ g_T := g_in 69 (by decide +kernel) (by decide +kernel)
theorem q_38 : Cond.instanceMethod y_AL_init ∈ g_T := g_in 70 (by decide +kernel) (by decide +kernel)
theorem q_39 : Cond.code y_AL_init prog_21_method_2_code 1 none ∈ g_T := g_in 71 (by decide +kernel) (by decide +kernel)
theorem q_40 : Cond.methodLink "java/util/ArrayList" 1 y_BL_init ∈ g_T := g_in 72 (by decide +kernel) (by decide +kernel)
theorem q_41 : Cond.instanceMethod y_BL_init ∈ g_T := g_in 73 (by decide +kernel) (by decide +kernel)
theorem q_42 : Cond.code y_BL_init prog_20_method_1_code 1 none ∈ g_T := g_in 74 (by decide +kernel) (by decide +kernel)
theorem q_43 : Cond.methodLink "java/util/AbstractList" 1 y_BC_init ∈ g_T := g_in 75 (by decide +kernel) (by decide +kernel)
theorem q_44 : Cond.instanceMethod y_BC_init ∈ g_T := g_in 76 (by decide +kernel) (by decide +kernel)
theorem q_45 : Cond.code y_BC_init prog_19_method_1_code 1 none ∈ g_T := g_in 77 (by decide +kernel) (by decide +kernel)
theorem q_46 : Cond.methodLink "java/util/AbstractCollection" 1 y_OJ_init ∈ g_T := g_in 78 (by decide +kernel) (by decide +kernel)
theorem q_47 : Cond.fieldLink "java/util/ArrayList" 39 "java/util/ArrayList" "DEFAULTCAPACITY_EMPTY_ELEMENTDATA" "[Ljava/lang/Object;" ∈ g_T := g_in 79 (by decide +kernel) (by decide +kernel)
theorem q_49 : Cond.fieldLink "java/util/ArrayList" 9 "java/util/ArrayList" "elementData" "[Ljava/lang/Object;" ∈ g_T := g_in 81 (by decide +kernel) (by decide +kernel)
theorem q_50 : Cond.fieldLink "java/util/ArrayList" 48 "java/util/ArrayList" "size" "I" ∈ g_T := g_in 82 (by decide +kernel) (by decide +kernel)
theorem q_51 : Cond.fieldLink "java/util/AbstractList" 7 "java/util/AbstractList" "modCount" "I" ∈ g_T := g_in 83 (by decide +kernel) (by decide +kernel)
theorem q_52 : Cond.fieldLink "java/util/ArrayList" 63 "java/util/ArrayList" "modCount" "I" ∈ g_T := g_in 84 (by decide +kernel) (by decide +kernel)
theorem q_61 : Cond.classLink "CaseLists" 29 "CaseLists$TouchLog" ∈ g_T := g_in 93 (by decide +kernel) (by decide +kernel)
theorem q_62 : Cond.instantiable "CaseLists$TouchLog" 3 ∈ g_T := g_in 94 (by decide +kernel) (by decide +kernel)
theorem q_63 : Cond.methodLink "CaseLists" 31 y_TL_init ∈ g_T := g_in 95 (by decide +kernel) (by decide +kernel)
theorem q_64 : Cond.instanceMethod y_TL_init ∈ g_T := g_in 96 (by decide +kernel) (by decide +kernel)
theorem q_65 : Cond.code y_TL_init prog_3_method_1_code 1 none ∈ g_T := g_in 97 (by decide +kernel) (by decide +kernel)
theorem q_66 : Cond.methodLink "CaseLists$TouchLog" 3 y_OJ_init ∈ g_T := g_in 98 (by decide +kernel) (by decide +kernel)
theorem q_67 : Cond.fieldLink "CaseLists$TouchLog" 9 "CaseLists$TouchLog" "days" "[I" ∈ g_T := g_in 99 (by decide +kernel) (by decide +kernel)
theorem q_68 : Cond.fieldLink "CaseLists$TouchLog" 15 "CaseLists$TouchLog" "sets" "[I" ∈ g_T := g_in 100 (by decide +kernel) (by decide +kernel)
theorem q_69 : Cond.fieldLink "CaseLists$TouchLog" 18 "CaseLists$TouchLog" "count" "I" ∈ g_T := g_in 101 (by decide +kernel) (by decide +kernel)
theorem q_77 : Cond.arrayClass .int ∈ g_T := g_in 109 (by decide +kernel) (by decide +kernel)
theorem q_78 : Cond.classLink "CaseLists" 36 "CaseLists$Tours" ∈ g_T := g_in 110 (by decide +kernel) (by decide +kernel)
theorem q_79 : Cond.instantiable "CaseLists$Tours" 6 ∈ g_T := g_in 111 (by decide +kernel) (by decide +kernel)
theorem q_80 : Cond.methodLink "CaseLists" 38 y_TU_init ∈ g_T := g_in 112 (by decide +kernel) (by decide +kernel)
theorem q_81 : Cond.instanceMethod y_TU_init ∈ g_T := g_in 113 (by decide +kernel) (by decide +kernel)
theorem q_82 : Cond.code y_TU_init prog_4_method_1_code 1 none ∈ g_T := g_in 114 (by decide +kernel) (by decide +kernel)
theorem q_83 : Cond.methodLink "CaseLists$Tours" 3 y_OJ_init ∈ g_T := g_in 115 (by decide +kernel) (by decide +kernel)
theorem q_84 : Cond.fieldLink "CaseLists$Tours" 9 "CaseLists$Tours" "places" "[I" ∈ g_T := g_in 116 (by decide +kernel) (by decide +kernel)
theorem q_85 : Cond.fieldLink "CaseLists$Tours" 15 "CaseLists$Tours" "durations" "[I" ∈ g_T := g_in 117 (by decide +kernel) (by decide +kernel)
theorem q_86 : Cond.fieldLink "CaseLists$Tours" 18 "CaseLists$Tours" "shown" "[I" ∈ g_T := g_in 118 (by decide +kernel) (by decide +kernel)
theorem q_87 : Cond.fieldLink "CaseLists$Tours" 21 "CaseLists$Tours" "ways" "[I" ∈ g_T := g_in 119 (by decide +kernel) (by decide +kernel)
theorem q_88 : Cond.fieldLink "CaseLists$Tours" 24 "CaseLists$Tours" "rests" "[I" ∈ g_T := g_in 120 (by decide +kernel) (by decide +kernel)
theorem q_89 : Cond.fieldLink "CaseLists$Tours" 27 "CaseLists$Tours" "count" "I" ∈ g_T := g_in 121 (by decide +kernel) (by decide +kernel)
theorem q_103 : Cond.fieldLink "CaseLists" 18 "CaseLists" "life" "I" ∈ g_T := g_in 135 (by decide +kernel) (by decide +kernel)
theorem q_104 : Cond.fieldLink "CaseLists" 25 "CaseLists" "cases" "Ljava/util/ArrayList;" ∈ g_T := g_in 136 (by decide +kernel) (by decide +kernel)
theorem q_105 : Cond.fieldLink "CaseLists" 32 "CaseLists" "touches" "LCaseLists$TouchLog;" ∈ g_T := g_in 137 (by decide +kernel) (by decide +kernel)
theorem q_106 : Cond.fieldLink "CaseLists" 39 "CaseLists" "tours" "LCaseLists$Tours;" ∈ g_T := g_in 138 (by decide +kernel) (by decide +kernel)
theorem q_107 : Cond.fieldLink "CaseLists" 43 "CaseLists" "planActs" "[I" ∈ g_T := g_in 139 (by decide +kernel) (by decide +kernel)
theorem q_108 : Cond.fieldLink "CaseLists" 47 "CaseLists" "planLength" "I" ∈ g_T := g_in 140 (by decide +kernel) (by decide +kernel)
theorem q_109 : Cond.fieldLink "CaseLists" 50 "CaseLists" "planSeconds" "I" ∈ g_T := g_in 141 (by decide +kernel) (by decide +kernel)
theorem q_125 : Cond.methodLink "CaseListsLaw" 108 y_CL_seconds ∈ g_T := g_in 157 (by decide +kernel) (by decide +kernel)
theorem q_126 : Cond.instanceMethod y_CL_seconds ∈ g_T := g_in 158 (by decide +kernel) (by decide +kernel)
theorem q_127 : Cond.selects "CaseLists" y_CL_seconds y_CL_seconds ∈ g_T := g_in 159 (by decide +kernel) (by decide +kernel)
theorem q_128 : Cond.code y_CL_seconds prog_1_method_10_code 1 (some .int) ∈ g_T := g_in 160 (by decide +kernel) (by decide +kernel)
theorem q_129 : Cond.methodLink "CaseListsLaw" 63 y_LW_cell ∈ g_T := g_in 161 (by decide +kernel) (by decide +kernel)
theorem q_130 : Cond.static y_LW_cell ∈ g_T := g_in 162 (by decide +kernel) (by decide +kernel)
theorem q_131 : Cond.code y_LW_cell method_2_code 2 (some .int) ∈ g_T := g_in 163 (by decide +kernel) (by decide +kernel)
theorem q_132 : Cond.methodLink "CaseListsLaw" 75 y_LW_fault ∈ g_T := g_in 164 (by decide +kernel) (by decide +kernel)
theorem q_133 : Cond.static y_LW_fault ∈ g_T := g_in 165 (by decide +kernel) (by decide +kernel)
theorem q_135 : Cond.classLink "CaseListsLaw" 13 "java/lang/IllegalArgumentException" ∈ g_T := g_in 167 (by decide +kernel) (by decide +kernel)
theorem q_136 : Cond.classLink "CaseListsLaw" 15 "java/lang/IllegalStateException" ∈ g_T := g_in 168 (by decide +kernel) (by decide +kernel)
theorem q_137 : Cond.methodLink "CaseListsLaw" 7 y_CL_fault ∈ g_T := g_in 169 (by decide +kernel) (by decide +kernel)
theorem q_138 : Cond.instanceMethod y_CL_fault ∈ g_T := g_in 170 (by decide +kernel) (by decide +kernel)
theorem q_139 : Cond.selects "CaseLists" y_CL_fault y_CL_fault ∈ g_T := g_in 171 (by decide +kernel) (by decide +kernel)
theorem q_140 : Cond.code y_CL_fault prog_1_method_2_code 4 (some .int) ∈ g_T := g_in 172 (by decide +kernel) (by decide +kernel)
theorem q_141 : Cond.methodLink "CaseLists" 53 y_CL_needBelow ∈ g_T := g_in 173 (by decide +kernel) (by decide +kernel)
theorem q_142 : Cond.static y_CL_needBelow ∈ g_T := g_in 174 (by decide +kernel) (by decide +kernel)
theorem q_143 : Cond.code y_CL_needBelow prog_1_method_18_code 2 none ∈ g_T := g_in 175 (by decide +kernel) (by decide +kernel)
theorem q_144 : Cond.methodLink "CaseLists" 78 y_CL_needWithin ∈ g_T := g_in 176 (by decide +kernel) (by decide +kernel)
theorem q_145 : Cond.static y_CL_needWithin ∈ g_T := g_in 177 (by decide +kernel) (by decide +kernel)
theorem q_146 : Cond.code y_CL_needWithin prog_1_method_21_code 3 none ∈ g_T := g_in 178 (by decide +kernel) (by decide +kernel)
theorem q_147 : Cond.classLink "CaseLists" 167 "java/lang/IllegalArgumentException" ∈ g_T := g_in 179 (by decide +kernel) (by decide +kernel)
theorem q_148 : Cond.instantiable "java/lang/IllegalArgumentException" 6 ∈ g_T := g_in 180 (by decide +kernel) (by decide +kernel)
theorem q_156 : Cond.selects "java/lang/IllegalArgumentException" ⟨"java/lang/Throwable", "fillInStackTrace", "(I)Ljava/lang/Throwable;"⟩ ⟨"java/lang/Throwable", "fillInStackTrace", "(I)Ljava/lang/Throwable;"⟩ ∈ g_T := g_in 188 (by decide +kernel) (by decide +kernel)
theorem q_157 : Cond.selects "java/lang/IllegalArgumentException" ⟨"java/lang/Throwable", "fillInStackTrace", "()Ljava/lang/Throwable;"⟩ ⟨"java/lang/Throwable", "fillInStackTrace", "()Ljava/lang/Throwable;"⟩ ∈ g_T := g_in 189 (by decide +kernel) (by decide +kernel)
theorem q_168 : Cond.fieldLink "java/lang/Throwable" 198 "java/lang/Throwable" "backtrace" "Ljava/lang/Object;" ∈ g_T := g_in 200 (by decide +kernel) (by decide +kernel)
theorem q_170 : Cond.instanceMethod y_TH_init ∈ g_T := g_in 202 (by decide +kernel) (by decide +kernel)
theorem q_171 : Cond.code y_TH_init prog_18_method_1_code 1 none ∈ g_T := g_in 203 (by decide +kernel) (by decide +kernel)
theorem q_172 : Cond.methodLink "java/lang/Throwable" 1 y_OJ_init ∈ g_T := g_in 204 (by decide +kernel) (by decide +kernel)
theorem q_173 : Cond.fieldLink "java/lang/Throwable" 13 "java/lang/Throwable" "UNASSIGNED_STACK" "[Ljava/lang/StackTraceElement;" ∈ g_T := g_in 205 (by decide +kernel) (by decide +kernel)
theorem q_175 : Cond.fieldLink "java/lang/Throwable" 20 "java/lang/Throwable" "SUPPRESSED_SENTINEL" "Ljava/util/List;" ∈ g_T := g_in 207 (by decide +kernel) (by decide +kernel)
theorem q_177 : Cond.methodLink "java/lang/Throwable" 27 ⟨"java/lang/Throwable", "fillInStackTrace", "()Ljava/lang/Throwable;"⟩ ∈ g_T := g_in 209 (by decide +kernel) (by decide +kernel)
theorem q_178 : Cond.instanceMethod ⟨"java/lang/Throwable", "fillInStackTrace", "()Ljava/lang/Throwable;"⟩ ∈ g_T := g_in 210 (by decide +kernel) (by decide +kernel)
theorem q_180 : Cond.selects "java/lang/IllegalStateException" ⟨"java/lang/Throwable", "fillInStackTrace", "()Ljava/lang/Throwable;"⟩ ⟨"java/lang/Throwable", "fillInStackTrace", "()Ljava/lang/Throwable;"⟩ ∈ g_T := g_in 212 (by decide +kernel) (by decide +kernel)
theorem q_182 : Cond.methodLink "java/lang/Throwable" 202 ⟨"java/lang/Throwable", "fillInStackTrace", "(I)Ljava/lang/Throwable;"⟩ ∈ g_T := g_in 214 (by decide +kernel) (by decide +kernel)
theorem q_184 : Cond.instanceMethod ⟨"java/lang/Throwable", "fillInStackTrace", "(I)Ljava/lang/Throwable;"⟩ ∈ g_T := g_in 216 (by decide +kernel) (by decide +kernel)
theorem q_185 : Cond.instantiable "java/lang/Throwable" 6 ∈ g_T := g_in 217 (by decide +kernel) (by decide +kernel)
theorem q_188 : Cond.methodLink "CaseLists" 171 y_IA_init ∈ g_T := g_in 220 (by decide +kernel) (by decide +kernel)
theorem q_189 : Cond.instanceMethod y_IA_init ∈ g_T := g_in 221 (by decide +kernel) (by decide +kernel)
theorem q_190 : Cond.code y_IA_init prog_10_method_2_code 2 none ∈ g_T := g_in 222 (by decide +kernel) (by decide +kernel)
theorem q_191 : Cond.methodLink "java/lang/IllegalArgumentException" 7 y_RX_init ∈ g_T := g_in 223 (by decide +kernel) (by decide +kernel)
theorem q_192 : Cond.instanceMethod y_RX_init ∈ g_T := g_in 224 (by decide +kernel) (by decide +kernel)
theorem q_193 : Cond.code y_RX_init prog_15_method_2_code 2 none ∈ g_T := g_in 225 (by decide +kernel) (by decide +kernel)
theorem q_194 : Cond.methodLink "java/lang/RuntimeException" 7 y_EX_init ∈ g_T := g_in 226 (by decide +kernel) (by decide +kernel)
theorem q_195 : Cond.instanceMethod y_EX_init ∈ g_T := g_in 227 (by decide +kernel) (by decide +kernel)
theorem q_196 : Cond.code y_EX_init prog_9_method_2_code 2 none ∈ g_T := g_in 228 (by decide +kernel) (by decide +kernel)
theorem q_197 : Cond.methodLink "java/lang/Exception" 7 y_TH_init2 ∈ g_T := g_in 229 (by decide +kernel) (by decide +kernel)
theorem q_198 : Cond.instanceMethod y_TH_init2 ∈ g_T := g_in 230 (by decide +kernel) (by decide +kernel)
theorem q_199 : Cond.code y_TH_init2 prog_18_method_2_code 2 none ∈ g_T := g_in 231 (by decide +kernel) (by decide +kernel)
theorem q_201 : Cond.fieldLink "java/lang/Throwable" 31 "java/lang/Throwable" "detailMessage" "Ljava/lang/String;" ∈ g_T := g_in 233 (by decide +kernel) (by decide +kernel)
theorem q_202 : Cond.fieldLink "java/lang/Throwable" 7 "java/lang/Throwable" "cause" "Ljava/lang/Throwable;" ∈ g_T := g_in 234 (by decide +kernel) (by decide +kernel)
theorem q_203 : Cond.fieldLink "java/lang/Throwable" 17 "java/lang/Throwable" "stackTrace" "[Ljava/lang/StackTraceElement;" ∈ g_T := g_in 235 (by decide +kernel) (by decide +kernel)
theorem q_204 : Cond.fieldLink "java/lang/Throwable" 24 "java/lang/Throwable" "suppressedExceptions" "Ljava/util/List;" ∈ g_T := g_in 236 (by decide +kernel) (by decide +kernel)
theorem q_213 : Cond.arrayClass .byte ∈ g_T := g_in 245 (by decide +kernel) (by decide +kernel)
theorem q_214 : Cond.methodLink "CaseLists" 57 y_CL_needOther ∈ g_T := g_in 246 (by decide +kernel) (by decide +kernel)
theorem q_215 : Cond.static y_CL_needOther ∈ g_T := g_in 247 (by decide +kernel) (by decide +kernel)
theorem q_216 : Cond.code y_CL_needOther prog_1_method_22_code 2 none ∈ g_T := g_in 248 (by decide +kernel) (by decide +kernel)
theorem q_218 : Cond.methodLink "CaseLists" 60 y_CL_caseOf ∈ g_T := g_in 250 (by decide +kernel) (by decide +kernel)
theorem q_220 : Cond.instanceMethod y_CL_caseOf ∈ g_T := g_in 252 (by decide +kernel) (by decide +kernel)
theorem q_221 : Cond.code y_CL_caseOf prog_1_method_25_code 4 (some .int) ∈ g_T := g_in 253 (by decide +kernel) (by decide +kernel)
theorem q_222 : Cond.methodLink "CaseLists" 63 y_AL_size ∈ g_T := g_in 254 (by decide +kernel) (by decide +kernel)
theorem q_223 : Cond.instanceMethod y_AL_size ∈ g_T := g_in 255 (by decide +kernel) (by decide +kernel)
theorem q_224 : Cond.selects "java/util/ArrayList" y_AL_size y_AL_size ∈ g_T := g_in 256 (by decide +kernel) (by decide +kernel)
theorem q_225 : Cond.code y_AL_size prog_21_method_8_code 1 (some .int) ∈ g_T := g_in 257 (by decide +kernel) (by decide +kernel)
theorem q_226 : Cond.methodLink "CaseLists" 112 y_AL_get ∈ g_T := g_in 258 (by decide +kernel) (by decide +kernel)
theorem q_227 : Cond.instanceMethod y_AL_get ∈ g_T := g_in 259 (by decide +kernel) (by decide +kernel)
theorem q_228 : Cond.selects "java/util/ArrayList" y_AL_get y_AL_get ∈ g_T := g_in 260 (by decide +kernel) (by decide +kernel)
theorem q_229 : Cond.code y_AL_get prog_21_method_20_code 2 (some (.object "java/lang/Object")) ∈ g_T := g_in 261 (by decide +kernel) (by decide +kernel)
theorem q_230 : Cond.methodLink "java/util/ArrayList" 118 y_OB_checkIndex ∈ g_T := g_in 262 (by decide +kernel) (by decide +kernel)
theorem q_231 : Cond.static y_OB_checkIndex ∈ g_T := g_in 263 (by decide +kernel) (by decide +kernel)
theorem q_232 : Cond.code y_OB_checkIndex prog_25_method_17_code 2 (some .int) ∈ g_T := g_in 264 (by decide +kernel) (by decide +kernel)
theorem q_233 : Cond.methodLink "java/util/Objects" 105 y_PR_checkIndex ∈ g_T := g_in 265 (by decide +kernel) (by decide +kernel)
theorem q_234 : Cond.static y_PR_checkIndex ∈ g_T := g_in 266 (by decide +kernel) (by decide +kernel)
theorem q_235 : Cond.code y_PR_checkIndex prog_29_method_11_code 3 (some .int) ∈ g_T := g_in 267 (by decide +kernel) (by decide +kernel)
theorem q_236 : Cond.methodLink "java/util/ArrayList" 123 y_AL_elementData ∈ g_T := g_in 268 (by decide +kernel) (by decide +kernel)
theorem q_237 : Cond.instanceMethod y_AL_elementData ∈ g_T := g_in 269 (by decide +kernel) (by decide +kernel)
theorem q_238 : Cond.selects "java/util/ArrayList" y_AL_elementData y_AL_elementData ∈ g_T := g_in 270 (by decide +kernel) (by decide +kernel)
theorem q_239 : Cond.code y_AL_elementData prog_21_method_18_code 2 (some (.object "java/lang/Object")) ∈ g_T := g_in 271 (by decide +kernel) (by decide +kernel)
theorem q_240 : Cond.classLink "CaseLists" 70 "CaseLists$Case" ∈ g_T := g_in 272 (by decide +kernel) (by decide +kernel)
theorem q_241 : Cond.methodLink "CaseLists" 181 y_CS_isOf ∈ g_T := g_in 273 (by decide +kernel) (by decide +kernel)
theorem q_242 : Cond.instanceMethod y_CS_isOf ∈ g_T := g_in 274 (by decide +kernel) (by decide +kernel)
theorem q_243 : Cond.selects "CaseLists$Case" y_CS_isOf y_CS_isOf ∈ g_T := g_in 275 (by decide +kernel) (by decide +kernel)
theorem q_244 : Cond.code y_CS_isOf prog_2_method_2_code 3 (some .boolean) ∈ g_T := g_in 276 (by decide +kernel) (by decide +kernel)
theorem q_245 : Cond.methodLink "CaseLists" 67 y_CL_needRoom ∈ g_T := g_in 277 (by decide +kernel) (by decide +kernel)
theorem q_246 : Cond.static y_CL_needRoom ∈ g_T := g_in 278 (by decide +kernel) (by decide +kernel)
theorem q_247 : Cond.code y_CL_needRoom prog_1_method_23_code 2 none ∈ g_T := g_in 279 (by decide +kernel) (by decide +kernel)
theorem q_248 : Cond.classLink "CaseLists" 176 "java/lang/IllegalStateException" ∈ g_T := g_in 280 (by decide +kernel) (by decide +kernel)
theorem q_249 : Cond.instantiable "java/lang/IllegalStateException" 6 ∈ g_T := g_in 281 (by decide +kernel) (by decide +kernel)
theorem q_251 : Cond.selects "java/lang/IllegalStateException" ⟨"java/lang/Throwable", "fillInStackTrace", "(I)Ljava/lang/Throwable;"⟩ ⟨"java/lang/Throwable", "fillInStackTrace", "(I)Ljava/lang/Throwable;"⟩ ∈ g_T := g_in 283 (by decide +kernel) (by decide +kernel)
theorem q_258 : Cond.methodLink "CaseLists" 180 y_IS_init ∈ g_T := g_in 290 (by decide +kernel) (by decide +kernel)
theorem q_259 : Cond.instanceMethod y_IS_init ∈ g_T := g_in 291 (by decide +kernel) (by decide +kernel)
theorem q_260 : Cond.code y_IS_init prog_11_method_2_code 2 none ∈ g_T := g_in 292 (by decide +kernel) (by decide +kernel)
theorem q_261 : Cond.methodLink "java/lang/IllegalStateException" 7 y_RX_init ∈ g_T := g_in 293 (by decide +kernel) (by decide +kernel)
theorem q_264 : Cond.instantiable "CaseLists$Case" 6 ∈ g_T := g_in 296 (by decide +kernel) (by decide +kernel)
theorem q_265 : Cond.methodLink "CaseLists" 72 y_CS_init ∈ g_T := g_in 297 (by decide +kernel) (by decide +kernel)
theorem q_266 : Cond.instanceMethod y_CS_init ∈ g_T := g_in 298 (by decide +kernel) (by decide +kernel)
theorem q_267 : Cond.code y_CS_init prog_2_method_1_code 3 none ∈ g_T := g_in 299 (by decide +kernel) (by decide +kernel)
theorem q_268 : Cond.methodLink "CaseLists$Case" 3 y_OJ_init ∈ g_T := g_in 300 (by decide +kernel) (by decide +kernel)
theorem q_269 : Cond.fieldLink "CaseLists$Case" 9 "CaseLists$Case" "point" "I" ∈ g_T := g_in 301 (by decide +kernel) (by decide +kernel)
theorem q_270 : Cond.fieldLink "CaseLists$Case" 15 "CaseLists$Case" "other" "I" ∈ g_T := g_in 302 (by decide +kernel) (by decide +kernel)
theorem q_271 : Cond.fieldLink "CaseLists$Case" 18 "CaseLists$Case" "persons" "[I" ∈ g_T := g_in 303 (by decide +kernel) (by decide +kernel)
theorem q_272 : Cond.fieldLink "CaseLists$Case" 22 "CaseLists$Case" "days" "[I" ∈ g_T := g_in 304 (by decide +kernel) (by decide +kernel)
theorem q_273 : Cond.fieldLink "CaseLists$Case" 25 "CaseLists$Case" "goods" "[Z" ∈ g_T := g_in 305 (by decide +kernel) (by decide +kernel)
theorem q_274 : Cond.fieldLink "CaseLists$Case" 29 "CaseLists$Case" "count" "I" ∈ g_T := g_in 306 (by decide +kernel) (by decide +kernel)
theorem q_288 : Cond.arrayClass .boolean ∈ g_T := g_in 320 (by decide +kernel) (by decide +kernel)
theorem q_289 : Cond.methodLink "CaseLists" 74 y_AL_add ∈ g_T := g_in 321 (by decide +kernel) (by decide +kernel)
theorem q_290 : Cond.instanceMethod y_AL_add ∈ g_T := g_in 322 (by decide +kernel) (by decide +kernel)
theorem q_291 : Cond.selects "java/util/ArrayList" y_AL_add y_AL_add ∈ g_T := g_in 323 (by decide +kernel) (by decide +kernel)
theorem q_292 : Cond.code y_AL_add prog_21_method_25_code 2 (some .boolean) ∈ g_T := g_in 324 (by decide +kernel) (by decide +kernel)
theorem q_293 : Cond.methodLink "java/util/ArrayList" 131 y_AL_add2 ∈ g_T := g_in 325 (by decide +kernel) (by decide +kernel)
theorem q_295 : Cond.instanceMethod y_AL_add2 ∈ g_T := g_in 327 (by decide +kernel) (by decide +kernel)
theorem q_296 : Cond.code y_AL_add2 prog_21_method_24_code 4 none ∈ g_T := g_in 328 (by decide +kernel) (by decide +kernel)
theorem q_297 : Cond.methodLink "java/util/ArrayList" 129 y_AL_grow ∈ g_T := g_in 329 (by decide +kernel) (by decide +kernel)
theorem q_299 : Cond.instanceMethod y_AL_grow ∈ g_T := g_in 331 (by decide +kernel) (by decide +kernel)
theorem q_300 : Cond.code y_AL_grow prog_21_method_7_code 1 (some (.array (.object "java/lang/Object"))) ∈ g_T := g_in 332 (by decide +kernel) (by decide +kernel)
theorem q_301 : Cond.methodLink "java/util/ArrayList" 69 y_AL_grow2 ∈ g_T := g_in 333 (by decide +kernel) (by decide +kernel)
theorem q_303 : Cond.instanceMethod y_AL_grow2 ∈ g_T := g_in 335 (by decide +kernel) (by decide +kernel)
theorem q_304 : Cond.code y_AL_grow2 prog_21_method_6_code 4 (some (.array (.object "java/lang/Object"))) ∈ g_T := g_in 336 (by decide +kernel) (by decide +kernel)
theorem q_305 : Cond.methodLink "java/util/ArrayList" 73 y_AS_newLength ∈ g_T := g_in 337 (by decide +kernel) (by decide +kernel)
theorem q_306 : Cond.static y_AS_newLength ∈ g_T := g_in 338 (by decide +kernel) (by decide +kernel)
theorem q_307 : Cond.code y_AS_newLength prog_28_method_27_code 4 (some .int) ∈ g_T := g_in 339 (by decide +kernel) (by decide +kernel)
theorem q_308 : Cond.methodLink "jdk/internal/util/ArraysSupport" 194 y_MA_max ∈ g_T := g_in 340 (by decide +kernel) (by decide +kernel)
theorem q_309 : Cond.constant "jdk/internal/util/ArraysSupport" 200 (2147483639) ∈ g_T := g_in 341 (by decide +kernel) (by decide +kernel)
theorem q_310 : Cond.methodLink "jdk/internal/util/ArraysSupport" 201 y_AS_hugeLength ∈ g_T := g_in 342 (by decide +kernel) (by decide +kernel)
theorem q_311 : Cond.static y_AS_hugeLength ∈ g_T := g_in 343 (by decide +kernel) (by decide +kernel)
theorem q_312 : Cond.code y_AS_hugeLength prog_28_method_28_code 3 (some .int) ∈ g_T := g_in 344 (by decide +kernel) (by decide +kernel)
theorem q_313 : Cond.methodLink "java/util/ArrayList" 66 y_AR_copyOf ∈ g_T := g_in 345 (by decide +kernel) (by decide +kernel)
theorem q_314 : Cond.static y_AR_copyOf ∈ g_T := g_in 346 (by decide +kernel) (by decide +kernel)
theorem q_315 : Cond.code y_AR_copyOf prog_22_method_119_code 2 (some (.array (.object "java/lang/Object"))) ∈ g_T := g_in 347 (by decide +kernel) (by decide +kernel)
theorem q_316 : Cond.methodLink "java/util/Arrays" 86 ⟨"java/lang/Object", "getClass", "()Ljava/lang/Class;"⟩ ∈ g_T := g_in 348 (by decide +kernel) (by decide +kernel)
theorem q_317 : Cond.instanceMethod ⟨"java/lang/Object", "getClass", "()Ljava/lang/Class;"⟩ ∈ g_T := g_in 349 (by decide +kernel) (by decide +kernel)
theorem q_319 : Cond.selects "CaseLists" ⟨"java/lang/Object", "getClass", "()Ljava/lang/Class;"⟩ ⟨"java/lang/Object", "getClass", "()Ljava/lang/Class;"⟩ ∈ g_T := g_in 351 (by decide +kernel) (by decide +kernel)
theorem q_320 : Cond.selects "CaseLists$Case" ⟨"java/lang/Object", "getClass", "()Ljava/lang/Class;"⟩ ⟨"java/lang/Object", "getClass", "()Ljava/lang/Class;"⟩ ∈ g_T := g_in 352 (by decide +kernel) (by decide +kernel)
theorem q_321 : Cond.selects "CaseLists$TouchLog" ⟨"java/lang/Object", "getClass", "()Ljava/lang/Class;"⟩ ⟨"java/lang/Object", "getClass", "()Ljava/lang/Class;"⟩ ∈ g_T := g_in 353 (by decide +kernel) (by decide +kernel)
theorem q_322 : Cond.selects "CaseLists$Tours" ⟨"java/lang/Object", "getClass", "()Ljava/lang/Class;"⟩ ⟨"java/lang/Object", "getClass", "()Ljava/lang/Class;"⟩ ∈ g_T := g_in 354 (by decide +kernel) (by decide +kernel)
theorem q_323 : Cond.selects "CaseListsModel" ⟨"java/lang/Object", "getClass", "()Ljava/lang/Class;"⟩ ⟨"java/lang/Object", "getClass", "()Ljava/lang/Class;"⟩ ∈ g_T := g_in 355 (by decide +kernel) (by decide +kernel)
theorem q_324 : Cond.selects "java/lang/IllegalArgumentException" ⟨"java/lang/Object", "getClass", "()Ljava/lang/Class;"⟩ ⟨"java/lang/Object", "getClass", "()Ljava/lang/Class;"⟩ ∈ g_T := g_in 356 (by decide +kernel) (by decide +kernel)
theorem q_325 : Cond.selects "java/lang/IllegalStateException" ⟨"java/lang/Object", "getClass", "()Ljava/lang/Class;"⟩ ⟨"java/lang/Object", "getClass", "()Ljava/lang/Class;"⟩ ∈ g_T := g_in 357 (by decide +kernel) (by decide +kernel)
theorem q_326 : Cond.selects "java/util/ArrayList" ⟨"java/lang/Object", "getClass", "()Ljava/lang/Class;"⟩ ⟨"java/lang/Object", "getClass", "()Ljava/lang/Class;"⟩ ∈ g_T := g_in 358 (by decide +kernel) (by decide +kernel)
theorem q_328 : Cond.methodLink "java/util/Arrays" 300 y_AR_copyOf2 ∈ g_T := g_in 360 (by decide +kernel) (by decide +kernel)
theorem q_329 : Cond.static y_AR_copyOf2 ∈ g_T := g_in 361 (by decide +kernel) (by decide +kernel)
theorem q_330 : Cond.code y_AR_copyOf2 prog_22_method_120_code 4 (some (.array (.object "java/lang/Object"))) ∈ g_T := g_in 362 (by decide +kernel) (by decide +kernel)
theorem q_331 : Cond.classLink "java/util/Arrays" 110 "[Ljava/lang/Object;" ∈ g_T := g_in 363 (by decide +kernel) (by decide +kernel)
theorem q_333 : Cond.classLink "java/util/Arrays" 2 "java/lang/Object" ∈ g_T := g_in 365 (by decide +kernel) (by decide +kernel)
theorem q_334 : Cond.methodLink "java/util/Arrays" 304 y_MA_min ∈ g_T := g_in 366 (by decide +kernel) (by decide +kernel)
theorem q_335 : Cond.methodLink "java/util/Arrays" 150 ⟨"java/lang/System", "arraycopy", "(Ljava/lang/Object;ILjava/lang/Object;II)V"⟩ ∈ g_T := g_in 367 (by decide +kernel) (by decide +kernel)
theorem q_336 : Cond.static ⟨"java/lang/System", "arraycopy", "(Ljava/lang/Object;ILjava/lang/Object;II)V"⟩ ∈ g_T := g_in 368 (by decide +kernel) (by decide +kernel)
theorem q_338 : Cond.methodLink "java/util/ArrayList" 79 y_MA_max ∈ g_T := g_in 370 (by decide +kernel) (by decide +kernel)
theorem q_339 : Cond.classLink "java/util/ArrayList" 7 "java/lang/Object" ∈ g_T := g_in 371 (by decide +kernel) (by decide +kernel)
theorem q_340 : Cond.methodLink "CaseListsLaw" 83 y_LW_act ∈ g_T := g_in 372 (by decide +kernel) (by decide +kernel)
theorem q_341 : Cond.static y_LW_act ∈ g_T := g_in 373 (by decide +kernel) (by decide +kernel)
theorem q_343 : Cond.methodLink "CaseListsLaw" 17 y_CL_act ∈ g_T := g_in 375 (by decide +kernel) (by decide +kernel)
theorem q_344 : Cond.instanceMethod y_CL_act ∈ g_T := g_in 376 (by decide +kernel) (by decide +kernel)
theorem q_345 : Cond.selects "CaseLists" y_CL_act y_CL_act ∈ g_T := g_in 377 (by decide +kernel) (by decide +kernel)
theorem q_346 : Cond.code y_CL_act prog_1_method_3_code 3 (some .int) ∈ g_T := g_in 378 (by decide +kernel) (by decide +kernel)
theorem q_347 : Cond.methodLink "CaseLists" 82 y_TU_actCount ∈ g_T := g_in 379 (by decide +kernel) (by decide +kernel)
theorem q_348 : Cond.instanceMethod y_TU_actCount ∈ g_T := g_in 380 (by decide +kernel) (by decide +kernel)
theorem q_349 : Cond.selects "CaseLists$Tours" y_TU_actCount y_TU_actCount ∈ g_T := g_in 381 (by decide +kernel) (by decide +kernel)
theorem q_350 : Cond.code y_TU_actCount prog_4_method_2_code 1 (some .int) ∈ g_T := g_in 382 (by decide +kernel) (by decide +kernel)
theorem q_351 : Cond.methodLink "CaseLists" 85 y_TU_addAct ∈ g_T := g_in 383 (by decide +kernel) (by decide +kernel)
theorem q_352 : Cond.instanceMethod y_TU_addAct ∈ g_T := g_in 384 (by decide +kernel) (by decide +kernel)
theorem q_353 : Cond.selects "CaseLists$Tours" y_TU_addAct y_TU_addAct ∈ g_T := g_in 385 (by decide +kernel) (by decide +kernel)
theorem q_354 : Cond.code y_TU_addAct prog_4_method_3_code 3 (some .int) ∈ g_T := g_in 386 (by decide +kernel) (by decide +kernel)
theorem q_355 : Cond.methodLink "CaseListsLaw" 86 y_LW_shows ∈ g_T := g_in 387 (by decide +kernel) (by decide +kernel)
theorem q_356 : Cond.static y_LW_shows ∈ g_T := g_in 388 (by decide +kernel) (by decide +kernel)
theorem q_358 : Cond.methodLink "CaseListsLaw" 20 y_CL_shows ∈ g_T := g_in 390 (by decide +kernel) (by decide +kernel)
theorem q_359 : Cond.instanceMethod y_CL_shows ∈ g_T := g_in 391 (by decide +kernel) (by decide +kernel)
theorem q_360 : Cond.selects "CaseLists" y_CL_shows y_CL_shows ∈ g_T := g_in 392 (by decide +kernel) (by decide +kernel)
theorem q_361 : Cond.code y_CL_shows prog_1_method_4_code 4 (some .boolean) ∈ g_T := g_in 393 (by decide +kernel) (by decide +kernel)
theorem q_362 : Cond.methodLink "CaseLists" 88 y_TU_setShown ∈ g_T := g_in 394 (by decide +kernel) (by decide +kernel)
theorem q_363 : Cond.instanceMethod y_TU_setShown ∈ g_T := g_in 395 (by decide +kernel) (by decide +kernel)
theorem q_364 : Cond.selects "CaseLists$Tours" y_TU_setShown y_TU_setShown ∈ g_T := g_in 396 (by decide +kernel) (by decide +kernel)
theorem q_365 : Cond.code y_TU_setShown prog_4_method_4_code 5 (some .boolean) ∈ g_T := g_in 397 (by decide +kernel) (by decide +kernel)
theorem q_367 : Cond.static y_CL_holds ∈ g_T := g_in 399 (by decide +kernel) (by decide +kernel)
theorem q_368 : Cond.code y_CL_holds prog_1_method_24_code 2 (some .boolean) ∈ g_T := g_in 400 (by decide +kernel) (by decide +kernel)
theorem q_369 : Cond.methodLink "CaseListsLaw" 90 y_LW_way ∈ g_T := g_in 401 (by decide +kernel) (by decide +kernel)
theorem q_370 : Cond.static y_LW_way ∈ g_T := g_in 402 (by decide +kernel) (by decide +kernel)
theorem q_372 : Cond.methodLink "CaseListsLaw" 24 y_CL_way ∈ g_T := g_in 404 (by decide +kernel) (by decide +kernel)
theorem q_373 : Cond.instanceMethod y_CL_way ∈ g_T := g_in 405 (by decide +kernel) (by decide +kernel)
theorem q_374 : Cond.selects "CaseLists" y_CL_way y_CL_way ∈ g_T := g_in 406 (by decide +kernel) (by decide +kernel)
theorem q_375 : Cond.code y_CL_way prog_1_method_5_code 4 (some .int) ∈ g_T := g_in 407 (by decide +kernel) (by decide +kernel)
theorem q_376 : Cond.methodLink "CaseLists" 92 y_TU_setWay ∈ g_T := g_in 408 (by decide +kernel) (by decide +kernel)
theorem q_377 : Cond.instanceMethod y_TU_setWay ∈ g_T := g_in 409 (by decide +kernel) (by decide +kernel)
theorem q_378 : Cond.selects "CaseLists$Tours" y_TU_setWay y_TU_setWay ∈ g_T := g_in 410 (by decide +kernel) (by decide +kernel)
theorem q_379 : Cond.code y_TU_setWay prog_4_method_5_code 5 (some .int) ∈ g_T := g_in 411 (by decide +kernel) (by decide +kernel)
theorem q_380 : Cond.methodLink "CaseListsLaw" 94 y_LW_change ∈ g_T := g_in 412 (by decide +kernel) (by decide +kernel)
theorem q_381 : Cond.static y_LW_change ∈ g_T := g_in 413 (by decide +kernel) (by decide +kernel)
theorem q_383 : Cond.methodLink "CaseListsLaw" 28 y_CL_change ∈ g_T := g_in 415 (by decide +kernel) (by decide +kernel)
theorem q_384 : Cond.instanceMethod y_CL_change ∈ g_T := g_in 416 (by decide +kernel) (by decide +kernel)
theorem q_385 : Cond.selects "CaseLists" y_CL_change y_CL_change ∈ g_T := g_in 417 (by decide +kernel) (by decide +kernel)
theorem q_386 : Cond.code y_CL_change prog_1_method_6_code 4 (some .int) ∈ g_T := g_in 418 (by decide +kernel) (by decide +kernel)
theorem q_387 : Cond.methodLink "CaseLists" 96 y_CL_needDay ∈ g_T := g_in 419 (by decide +kernel) (by decide +kernel)
theorem q_388 : Cond.static y_CL_needDay ∈ g_T := g_in 420 (by decide +kernel) (by decide +kernel)
theorem q_389 : Cond.code y_CL_needDay prog_1_method_19_code 1 none ∈ g_T := g_in 421 (by decide +kernel) (by decide +kernel)
theorem q_390 : Cond.constant "CaseLists" 165 (100000) ∈ g_T := g_in 422 (by decide +kernel) (by decide +kernel)
theorem q_391 : Cond.methodLink "CaseLists" 100 y_CL_casesWith ∈ g_T := g_in 423 (by decide +kernel) (by decide +kernel)
theorem q_393 : Cond.instanceMethod y_CL_casesWith ∈ g_T := g_in 425 (by decide +kernel) (by decide +kernel)
theorem q_394 : Cond.code y_CL_casesWith prog_1_method_26_code 4 (some .int) ∈ g_T := g_in 426 (by decide +kernel) (by decide +kernel)
theorem q_395 : Cond.methodLink "CaseLists" 184 y_CS_has ∈ g_T := g_in 427 (by decide +kernel) (by decide +kernel)
theorem q_396 : Cond.instanceMethod y_CS_has ∈ g_T := g_in 428 (by decide +kernel) (by decide +kernel)
theorem q_397 : Cond.selects "CaseLists$Case" y_CS_has y_CS_has ∈ g_T := g_in 429 (by decide +kernel) (by decide +kernel)
theorem q_398 : Cond.code y_CS_has prog_2_method_3_code 2 (some .boolean) ∈ g_T := g_in 430 (by decide +kernel) (by decide +kernel)
theorem q_399 : Cond.methodLink "CaseLists" 104 y_TL_note ∈ g_T := g_in 431 (by decide +kernel) (by decide +kernel)
end
section
theorem q_400 : Cond.instanceMethod y_TL_note ∈ g_T := g_in 432 (by decide +kernel) (by decide +kernel)
theorem q_401 : Cond.selects "CaseLists$TouchLog" y_TL_note y_TL_note ∈ g_T := g_in 433 (by decide +kernel) (by decide +kernel)
theorem q_402 : Cond.code y_TL_note prog_3_method_2_code 4 none ∈ g_T := g_in 434 (by decide +kernel) (by decide +kernel)
theorem q_403 : Cond.methodLink "CaseLists" 107 y_IN_bitCount ∈ g_T := g_in 435 (by decide +kernel) (by decide +kernel)
theorem q_404 : Cond.static y_IN_bitCount ∈ g_T := g_in 436 (by decide +kernel) (by decide +kernel)
theorem q_405 : Cond.code y_IN_bitCount prog_12_method_49_code 1 (some .int) ∈ g_T := g_in 437 (by decide +kernel) (by decide +kernel)
theorem q_406 : Cond.constant "java/lang/Integer" 265 (1431655765) ∈ g_T := g_in 438 (by decide +kernel) (by decide +kernel)
theorem q_407 : Cond.constant "java/lang/Integer" 266 (858993459) ∈ g_T := g_in 439 (by decide +kernel) (by decide +kernel)
theorem q_408 : Cond.constant "java/lang/Integer" 267 (252645135) ∈ g_T := g_in 440 (by decide +kernel) (by decide +kernel)
theorem q_409 : Cond.methodLink "CaseListsLaw" 97 y_LW_result ∈ g_T := g_in 441 (by decide +kernel) (by decide +kernel)
theorem q_410 : Cond.static y_LW_result ∈ g_T := g_in 442 (by decide +kernel) (by decide +kernel)
theorem q_412 : Cond.methodLink "CaseListsLaw" 31 y_CL_result ∈ g_T := g_in 444 (by decide +kernel) (by decide +kernel)
theorem q_413 : Cond.instanceMethod y_CL_result ∈ g_T := g_in 445 (by decide +kernel) (by decide +kernel)
theorem q_414 : Cond.selects "CaseLists" y_CL_result y_CL_result ∈ g_T := g_in 446 (by decide +kernel) (by decide +kernel)
theorem q_415 : Cond.code y_CL_result prog_1_method_7_code 7 (some .int) ∈ g_T := g_in 447 (by decide +kernel) (by decide +kernel)
theorem q_416 : Cond.methodLink "CaseLists" 116 y_CS_rowOf ∈ g_T := g_in 448 (by decide +kernel) (by decide +kernel)
theorem q_417 : Cond.instanceMethod y_CS_rowOf ∈ g_T := g_in 449 (by decide +kernel) (by decide +kernel)
theorem q_418 : Cond.selects "CaseLists$Case" y_CS_rowOf y_CS_rowOf ∈ g_T := g_in 450 (by decide +kernel) (by decide +kernel)
theorem q_419 : Cond.code y_CS_rowOf prog_2_method_5_code 4 (some .int) ∈ g_T := g_in 451 (by decide +kernel) (by decide +kernel)
theorem q_420 : Cond.methodLink "CaseLists" 119 y_CS_tell ∈ g_T := g_in 452 (by decide +kernel) (by decide +kernel)
theorem q_421 : Cond.instanceMethod y_CS_tell ∈ g_T := g_in 453 (by decide +kernel) (by decide +kernel)
theorem q_422 : Cond.selects "CaseLists$Case" y_CS_tell y_CS_tell ∈ g_T := g_in 454 (by decide +kernel) (by decide +kernel)
theorem q_423 : Cond.code y_CS_tell prog_2_method_6_code 5 none ∈ g_T := g_in 455 (by decide +kernel) (by decide +kernel)
theorem q_424 : Cond.methodLink "CaseLists$Case" 32 y_MA_max ∈ g_T := g_in 456 (by decide +kernel) (by decide +kernel)
theorem q_425 : Cond.methodLink "CaseLists" 123 y_CS_resultCount ∈ g_T := g_in 457 (by decide +kernel) (by decide +kernel)
theorem q_426 : Cond.instanceMethod y_CS_resultCount ∈ g_T := g_in 458 (by decide +kernel) (by decide +kernel)
theorem q_427 : Cond.selects "CaseLists$Case" y_CS_resultCount y_CS_resultCount ∈ g_T := g_in 459 (by decide +kernel) (by decide +kernel)
theorem q_428 : Cond.code y_CS_resultCount prog_2_method_4_code 1 (some .int) ∈ g_T := g_in 460 (by decide +kernel) (by decide +kernel)
theorem q_429 : Cond.methodLink "CaseListsLaw" 101 y_LW_plan ∈ g_T := g_in 461 (by decide +kernel) (by decide +kernel)
theorem q_430 : Cond.static y_LW_plan ∈ g_T := g_in 462 (by decide +kernel) (by decide +kernel)
theorem q_432 : Cond.methodLink "CaseListsLaw" 35 y_CL_plan ∈ g_T := g_in 464 (by decide +kernel) (by decide +kernel)
theorem q_433 : Cond.instanceMethod y_CL_plan ∈ g_T := g_in 465 (by decide +kernel) (by decide +kernel)
theorem q_434 : Cond.selects "CaseLists" y_CL_plan y_CL_plan ∈ g_T := g_in 466 (by decide +kernel) (by decide +kernel)
theorem q_435 : Cond.code y_CL_plan prog_1_method_8_code 3 (some .int) ∈ g_T := g_in 467 (by decide +kernel) (by decide +kernel)
theorem q_436 : Cond.methodLink "CaseLists" 126 y_CL_unprovedCases ∈ g_T := g_in 468 (by decide +kernel) (by decide +kernel)
theorem q_438 : Cond.instanceMethod y_CL_unprovedCases ∈ g_T := g_in 470 (by decide +kernel) (by decide +kernel)
theorem q_439 : Cond.code y_CL_unprovedCases prog_1_method_27_code 4 (some .int) ∈ g_T := g_in 471 (by decide +kernel) (by decide +kernel)
theorem q_440 : Cond.methodLink "CaseLists" 143 y_CL_stateOn ∈ g_T := g_in 472 (by decide +kernel) (by decide +kernel)
theorem q_442 : Cond.instanceMethod y_CL_stateOn ∈ g_T := g_in 474 (by decide +kernel) (by decide +kernel)
theorem q_443 : Cond.code y_CL_stateOn prog_1_method_29_code 9 (some .int) ∈ g_T := g_in 475 (by decide +kernel) (by decide +kernel)
theorem q_444 : Cond.methodLink "CaseLists" 146 y_CL_firstCountingDay ∈ g_T := g_in 476 (by decide +kernel) (by decide +kernel)
theorem q_446 : Cond.instanceMethod y_CL_firstCountingDay ∈ g_T := g_in 478 (by decide +kernel) (by decide +kernel)
theorem q_447 : Cond.code y_CL_firstCountingDay prog_1_method_28_code 3 (some .int) ∈ g_T := g_in 479 (by decide +kernel) (by decide +kernel)
theorem q_448 : Cond.methodLink "CaseLists" 162 y_TL_latest ∈ g_T := g_in 480 (by decide +kernel) (by decide +kernel)
theorem q_449 : Cond.instanceMethod y_TL_latest ∈ g_T := g_in 481 (by decide +kernel) (by decide +kernel)
theorem q_450 : Cond.selects "CaseLists$TouchLog" y_TL_latest y_TL_latest ∈ g_T := g_in 482 (by decide +kernel) (by decide +kernel)
theorem q_451 : Cond.code y_TL_latest prog_3_method_3_code 5 (some .int) ∈ g_T := g_in 483 (by decide +kernel) (by decide +kernel)
theorem q_453 : Cond.methodLink "CaseLists" 149 y_CS_wordOf ∈ g_T := g_in 485 (by decide +kernel) (by decide +kernel)
theorem q_454 : Cond.instanceMethod y_CS_wordOf ∈ g_T := g_in 486 (by decide +kernel) (by decide +kernel)
theorem q_455 : Cond.selects "CaseLists$Case" y_CS_wordOf y_CS_wordOf ∈ g_T := g_in 487 (by decide +kernel) (by decide +kernel)
theorem q_456 : Cond.code y_CS_wordOf prog_2_method_7_code 7 (some .int) ∈ g_T := g_in 488 (by decide +kernel) (by decide +kernel)
theorem q_457 : Cond.methodLink "CaseLists" 129 y_TU_shownByAny ∈ g_T := g_in 489 (by decide +kernel) (by decide +kernel)
theorem q_458 : Cond.instanceMethod y_TU_shownByAny ∈ g_T := g_in 490 (by decide +kernel) (by decide +kernel)
theorem q_459 : Cond.selects "CaseLists$Tours" y_TU_shownByAny y_TU_shownByAny ∈ g_T := g_in 491 (by decide +kernel) (by decide +kernel)
theorem q_460 : Cond.code y_TU_shownByAny prog_4_method_6_code 1 (some .int) ∈ g_T := g_in 492 (by decide +kernel) (by decide +kernel)
theorem q_461 : Cond.methodLink "CaseLists$Tours" 35 y_TU_shownBy ∈ g_T := g_in 493 (by decide +kernel) (by decide +kernel)
theorem q_463 : Cond.instanceMethod y_TU_shownBy ∈ g_T := g_in 495 (by decide +kernel) (by decide +kernel)
theorem q_464 : Cond.code y_TU_shownBy prog_4_method_10_code 4 (some .int) ∈ g_T := g_in 496 (by decide +kernel) (by decide +kernel)
theorem q_465 : Cond.methodLink "CaseLists" 132 y_TU_findOrder ∈ g_T := g_in 497 (by decide +kernel) (by decide +kernel)
theorem q_466 : Cond.instanceMethod y_TU_findOrder ∈ g_T := g_in 498 (by decide +kernel) (by decide +kernel)
theorem q_467 : Cond.selects "CaseLists$Tours" y_TU_findOrder y_TU_findOrder ∈ g_T := g_in 499 (by decide +kernel) (by decide +kernel)
theorem q_468 : Cond.code y_TU_findOrder prog_4_method_8_code 7 (some .int) ∈ g_T := g_in 500 (by decide +kernel) (by decide +kernel)
theorem q_469 : Cond.methodLink "CaseLists$Tours" 43 y_TU_weighRests ∈ g_T := g_in 501 (by decide +kernel) (by decide +kernel)
theorem q_471 : Cond.instanceMethod y_TU_weighRests ∈ g_T := g_in 503 (by decide +kernel) (by decide +kernel)
theorem q_472 : Cond.code y_TU_weighRests prog_4_method_13_code 5 none ∈ g_T := g_in 504 (by decide +kernel) (by decide +kernel)
theorem q_473 : Cond.methodLink "CaseLists$Tours" 50 y_TU_covers ∈ g_T := g_in 505 (by decide +kernel) (by decide +kernel)
theorem q_475 : Cond.instanceMethod y_TU_covers ∈ g_T := g_in 507 (by decide +kernel) (by decide +kernel)
theorem q_476 : Cond.code y_TU_covers prog_4_method_11_code 3 (some .boolean) ∈ g_T := g_in 508 (by decide +kernel) (by decide +kernel)
theorem q_477 : Cond.methodLink "CaseLists$Tours" 63 y_TU_leastRest ∈ g_T := g_in 509 (by decide +kernel) (by decide +kernel)
theorem q_479 : Cond.instanceMethod y_TU_leastRest ∈ g_T := g_in 511 (by decide +kernel) (by decide +kernel)
theorem q_480 : Cond.code y_TU_leastRest prog_4_method_14_code 5 (some .int) ∈ g_T := g_in 512 (by decide +kernel) (by decide +kernel)
theorem q_481 : Cond.constant "CaseLists$Tours" 66 (268435456) ∈ g_T := g_in 513 (by decide +kernel) (by decide +kernel)
theorem q_482 : Cond.methodLink "CaseLists$Tours" 67 y_TU_weightOfNext ∈ g_T := g_in 514 (by decide +kernel) (by decide +kernel)
theorem q_484 : Cond.instanceMethod y_TU_weightOfNext ∈ g_T := g_in 516 (by decide +kernel) (by decide +kernel)
theorem q_485 : Cond.code y_TU_weightOfNext prog_4_method_16_code 5 (some .int) ∈ g_T := g_in 517 (by decide +kernel) (by decide +kernel)
theorem q_486 : Cond.methodLink "CaseLists$Tours" 60 y_TU_wayBetween ∈ g_T := g_in 518 (by decide +kernel) (by decide +kernel)
theorem q_488 : Cond.instanceMethod y_TU_wayBetween ∈ g_T := g_in 520 (by decide +kernel) (by decide +kernel)
theorem q_489 : Cond.code y_TU_wayBetween prog_4_method_12_code 3 (some .int) ∈ g_T := g_in 521 (by decide +kernel) (by decide +kernel)
theorem q_490 : Cond.methodLink "CaseLists$Tours" 76 y_TU_weight ∈ g_T := g_in 522 (by decide +kernel) (by decide +kernel)
theorem q_491 : Cond.static y_TU_weight ∈ g_T := g_in 523 (by decide +kernel) (by decide +kernel)
theorem q_492 : Cond.code y_TU_weight prog_4_method_17_code 1 (some .int) ∈ g_T := g_in 524 (by decide +kernel) (by decide +kernel)
theorem q_493 : Cond.methodLink "CaseLists$Tours" 71 y_MA_min ∈ g_T := g_in 525 (by decide +kernel) (by decide +kernel)
theorem q_494 : Cond.methodLink "CaseLists$Tours" 53 y_TU_bestFirst ∈ g_T := g_in 526 (by decide +kernel) (by decide +kernel)
theorem q_496 : Cond.instanceMethod y_TU_bestFirst ∈ g_T := g_in 528 (by decide +kernel) (by decide +kernel)
theorem q_497 : Cond.code y_TU_bestFirst prog_4_method_18_code 5 (some .int) ∈ g_T := g_in 529 (by decide +kernel) (by decide +kernel)
theorem q_498 : Cond.methodLink "CaseLists$Tours" 47 y_TU_weightOfFirst ∈ g_T := g_in 530 (by decide +kernel) (by decide +kernel)
theorem q_500 : Cond.instanceMethod y_TU_weightOfFirst ∈ g_T := g_in 532 (by decide +kernel) (by decide +kernel)
theorem q_501 : Cond.code y_TU_weightOfFirst prog_4_method_15_code 2 (some .int) ∈ g_T := g_in 533 (by decide +kernel) (by decide +kernel)
theorem q_502 : Cond.methodLink "CaseLists$Tours" 56 y_TU_bestNext ∈ g_T := g_in 534 (by decide +kernel) (by decide +kernel)
theorem q_504 : Cond.instanceMethod y_TU_bestNext ∈ g_T := g_in 536 (by decide +kernel) (by decide +kernel)
theorem q_505 : Cond.code y_TU_bestNext prog_4_method_19_code 7 (some .int) ∈ g_T := g_in 537 (by decide +kernel) (by decide +kernel)
theorem q_506 : Cond.methodLink "CaseLists" 136 y_TU_secondsOf ∈ g_T := g_in 538 (by decide +kernel) (by decide +kernel)
theorem q_507 : Cond.instanceMethod y_TU_secondsOf ∈ g_T := g_in 539 (by decide +kernel) (by decide +kernel)
theorem q_508 : Cond.selects "CaseLists$Tours" y_TU_secondsOf y_TU_secondsOf ∈ g_T := g_in 540 (by decide +kernel) (by decide +kernel)
theorem q_509 : Cond.code y_TU_secondsOf prog_4_method_9_code 5 (some .int) ∈ g_T := g_in 541 (by decide +kernel) (by decide +kernel)
theorem q_510 : Cond.methodLink "CaseListsLaw" 105 y_LW_planned ∈ g_T := g_in 542 (by decide +kernel) (by decide +kernel)
theorem q_511 : Cond.static y_LW_planned ∈ g_T := g_in 543 (by decide +kernel) (by decide +kernel)
theorem q_513 : Cond.methodLink "CaseListsLaw" 39 y_CL_planned ∈ g_T := g_in 545 (by decide +kernel) (by decide +kernel)
theorem q_514 : Cond.instanceMethod y_CL_planned ∈ g_T := g_in 546 (by decide +kernel) (by decide +kernel)
theorem q_515 : Cond.selects "CaseLists" y_CL_planned y_CL_planned ∈ g_T := g_in 547 (by decide +kernel) (by decide +kernel)
theorem q_516 : Cond.code y_CL_planned prog_1_method_9_code 2 (some .int) ∈ g_T := g_in 548 (by decide +kernel) (by decide +kernel)
theorem q_517 : Cond.methodLink "CaseListsLaw" 112 y_LW_from ∈ g_T := g_in 549 (by decide +kernel) (by decide +kernel)
theorem q_518 : Cond.static y_LW_from ∈ g_T := g_in 550 (by decide +kernel) (by decide +kernel)
theorem q_520 : Cond.methodLink "CaseListsLaw" 42 y_CL_from ∈ g_T := g_in 552 (by decide +kernel) (by decide +kernel)
theorem q_521 : Cond.instanceMethod y_CL_from ∈ g_T := g_in 553 (by decide +kernel) (by decide +kernel)
theorem q_522 : Cond.selects "CaseLists" y_CL_from y_CL_from ∈ g_T := g_in 554 (by decide +kernel) (by decide +kernel)
theorem q_523 : Cond.code y_CL_from prog_1_method_11_code 2 (some .int) ∈ g_T := g_in 555 (by decide +kernel) (by decide +kernel)
theorem q_524 : Cond.methodLink "CaseLists" 140 y_TU_leastSecondsFrom ∈ g_T := g_in 556 (by decide +kernel) (by decide +kernel)
theorem q_525 : Cond.instanceMethod y_TU_leastSecondsFrom ∈ g_T := g_in 557 (by decide +kernel) (by decide +kernel)
theorem q_526 : Cond.selects "CaseLists$Tours" y_TU_leastSecondsFrom y_TU_leastSecondsFrom ∈ g_T := g_in 558 (by decide +kernel) (by decide +kernel)
theorem q_527 : Cond.code y_TU_leastSecondsFrom prog_4_method_7_code 2 (some .int) ∈ g_T := g_in 559 (by decide +kernel) (by decide +kernel)
theorem q_528 : Cond.methodLink "CaseLists$Tours" 39 y_TU_shownByAny ∈ g_T := g_in 560 (by decide +kernel) (by decide +kernel)
theorem q_529 : Cond.methodLink "CaseListsLaw" 115 y_LW_state ∈ g_T := g_in 561 (by decide +kernel) (by decide +kernel)
theorem q_530 : Cond.static y_LW_state ∈ g_T := g_in 562 (by decide +kernel) (by decide +kernel)
theorem q_532 : Cond.methodLink "CaseListsLaw" 45 y_CL_state ∈ g_T := g_in 564 (by decide +kernel) (by decide +kernel)
theorem q_533 : Cond.instanceMethod y_CL_state ∈ g_T := g_in 565 (by decide +kernel) (by decide +kernel)
theorem q_534 : Cond.selects "CaseLists" y_CL_state y_CL_state ∈ g_T := g_in 566 (by decide +kernel) (by decide +kernel)
theorem q_535 : Cond.code y_CL_state prog_1_method_12_code 3 (some .int) ∈ g_T := g_in 567 (by decide +kernel) (by decide +kernel)
theorem q_536 : Cond.methodLink "CaseListsLaw" 118 y_LW_word ∈ g_T := g_in 568 (by decide +kernel) (by decide +kernel)
theorem q_537 : Cond.static y_LW_word ∈ g_T := g_in 569 (by decide +kernel) (by decide +kernel)
theorem q_539 : Cond.methodLink "CaseListsLaw" 48 y_CL_word ∈ g_T := g_in 571 (by decide +kernel) (by decide +kernel)
theorem q_540 : Cond.instanceMethod y_CL_word ∈ g_T := g_in 572 (by decide +kernel) (by decide +kernel)
theorem q_541 : Cond.selects "CaseLists" y_CL_word y_CL_word ∈ g_T := g_in 573 (by decide +kernel) (by decide +kernel)
theorem q_542 : Cond.code y_CL_word prog_1_method_13_code 4 (some .int) ∈ g_T := g_in 574 (by decide +kernel) (by decide +kernel)
theorem q_543 : Cond.methodLink "CaseListsLaw" 121 y_LW_listed ∈ g_T := g_in 575 (by decide +kernel) (by decide +kernel)
theorem q_544 : Cond.static y_LW_listed ∈ g_T := g_in 576 (by decide +kernel) (by decide +kernel)
theorem q_546 : Cond.methodLink "CaseListsLaw" 51 y_CL_listed ∈ g_T := g_in 578 (by decide +kernel) (by decide +kernel)
theorem q_547 : Cond.instanceMethod y_CL_listed ∈ g_T := g_in 579 (by decide +kernel) (by decide +kernel)
theorem q_548 : Cond.selects "CaseLists" y_CL_listed y_CL_listed ∈ g_T := g_in 580 (by decide +kernel) (by decide +kernel)
theorem q_549 : Cond.code y_CL_listed prog_1_method_14_code 6 (some .int) ∈ g_T := g_in 581 (by decide +kernel) (by decide +kernel)
theorem q_550 : Cond.methodLink "CaseLists" 152 y_CL_needNotNegative ∈ g_T := g_in 582 (by decide +kernel) (by decide +kernel)
theorem q_551 : Cond.static y_CL_needNotNegative ∈ g_T := g_in 583 (by decide +kernel) (by decide +kernel)
theorem q_552 : Cond.code y_CL_needNotNegative prog_1_method_20_code 1 none ∈ g_T := g_in 584 (by decide +kernel) (by decide +kernel)
theorem q_553 : Cond.constant "CaseLists" 166 (2147483647) ∈ g_T := g_in 585 (by decide +kernel) (by decide +kernel)
theorem q_554 : Cond.methodLink "CaseListsLaw" 124 y_LW_hidden ∈ g_T := g_in 586 (by decide +kernel) (by decide +kernel)
theorem q_555 : Cond.static y_LW_hidden ∈ g_T := g_in 587 (by decide +kernel) (by decide +kernel)
theorem q_557 : Cond.methodLink "CaseListsLaw" 54 y_CL_hidden ∈ g_T := g_in 589 (by decide +kernel) (by decide +kernel)
theorem q_558 : Cond.instanceMethod y_CL_hidden ∈ g_T := g_in 590 (by decide +kernel) (by decide +kernel)
theorem q_559 : Cond.selects "CaseLists" y_CL_hidden y_CL_hidden ∈ g_T := g_in 591 (by decide +kernel) (by decide +kernel)
theorem q_560 : Cond.code y_CL_hidden prog_1_method_15_code 5 (some .int) ∈ g_T := g_in 592 (by decide +kernel) (by decide +kernel)
theorem q_561 : Cond.methodLink "CaseLists" 155 y_CL_holds ∈ g_T := g_in 593 (by decide +kernel) (by decide +kernel)
theorem q_562 : Cond.methodLink "CaseListsLaw" 127 y_LW_proves ∈ g_T := g_in 594 (by decide +kernel) (by decide +kernel)
theorem q_563 : Cond.static y_LW_proves ∈ g_T := g_in 595 (by decide +kernel) (by decide +kernel)
theorem q_565 : Cond.methodLink "CaseListsLaw" 57 y_CL_proves ∈ g_T := g_in 597 (by decide +kernel) (by decide +kernel)
theorem q_566 : Cond.instanceMethod y_CL_proves ∈ g_T := g_in 598 (by decide +kernel) (by decide +kernel)
theorem q_567 : Cond.selects "CaseLists" y_CL_proves y_CL_proves ∈ g_T := g_in 599 (by decide +kernel) (by decide +kernel)
theorem q_568 : Cond.code y_CL_proves prog_1_method_16_code 5 (some .int) ∈ g_T := g_in 600 (by decide +kernel) (by decide +kernel)
theorem q_569 : Cond.methodLink "CaseLists" 159 y_CL_nextTurn ∈ g_T := g_in 601 (by decide +kernel) (by decide +kernel)
theorem q_571 : Cond.instanceMethod y_CL_nextTurn ∈ g_T := g_in 603 (by decide +kernel) (by decide +kernel)
theorem q_572 : Cond.code y_CL_nextTurn prog_1_method_30_code 5 (some .int) ∈ g_T := g_in 604 (by decide +kernel) (by decide +kernel)
theorem q_573 : Cond.constant "CaseLists" 188 (105001) ∈ g_T := g_in 605 (by decide +kernel) (by decide +kernel)
theorem q_574 : Cond.methodLink "CaseLists" 189 y_TL_nextBehind ∈ g_T := g_in 606 (by decide +kernel) (by decide +kernel)
theorem q_575 : Cond.instanceMethod y_TL_nextBehind ∈ g_T := g_in 607 (by decide +kernel) (by decide +kernel)
theorem q_576 : Cond.selects "CaseLists$TouchLog" y_TL_nextBehind y_TL_nextBehind ∈ g_T := g_in 608 (by decide +kernel) (by decide +kernel)
theorem q_577 : Cond.code y_TL_nextBehind prog_3_method_4_code 6 (some .int) ∈ g_T := g_in 609 (by decide +kernel) (by decide +kernel)
theorem q_578 : Cond.methodLink "CaseLists" 192 y_CS_nextTurn ∈ g_T := g_in 610 (by decide +kernel) (by decide +kernel)
theorem q_579 : Cond.instanceMethod y_CS_nextTurn ∈ g_T := g_in 611 (by decide +kernel) (by decide +kernel)
theorem q_580 : Cond.selects "CaseLists$Case" y_CS_nextTurn y_CS_nextTurn ∈ g_T := g_in 612 (by decide +kernel) (by decide +kernel)
theorem q_581 : Cond.code y_CS_nextTurn prog_2_method_8_code 7 (some .int) ∈ g_T := g_in 613 (by decide +kernel) (by decide +kernel)
theorem q_582 : Cond.methodLink "CaseLists$Case" 38 y_MA_min ∈ g_T := g_in 614 (by decide +kernel) (by decide +kernel)
theorem q_583 : Cond.methodLink "CaseListsLaw" 130 y_LW_touched ∈ g_T := g_in 615 (by decide +kernel) (by decide +kernel)
theorem q_584 : Cond.static y_LW_touched ∈ g_T := g_in 616 (by decide +kernel) (by decide +kernel)
theorem q_586 : Cond.methodLink "CaseListsLaw" 60 y_CL_touched ∈ g_T := g_in 618 (by decide +kernel) (by decide +kernel)
theorem q_587 : Cond.instanceMethod y_CL_touched ∈ g_T := g_in 619 (by decide +kernel) (by decide +kernel)
theorem q_588 : Cond.selects "CaseLists" y_CL_touched y_CL_touched ∈ g_T := g_in 620 (by decide +kernel) (by decide +kernel)
theorem q_589 : Cond.code y_CL_touched prog_1_method_17_code 3 (some .int) ∈ g_T := g_in 621 (by decide +kernel) (by decide +kernel)
theorem q_590 : Cond.classLink "CaseListsLaw" 72 "CaseListsModel" ∈ g_T := g_in 622 (by decide +kernel) (by decide +kernel)
theorem q_591 : Cond.instantiable "CaseListsModel" 20 ∈ g_T := g_in 623 (by decide +kernel) (by decide +kernel)
theorem q_592 : Cond.methodLink "CaseListsLaw" 74 y_MO_init ∈ g_T := g_in 624 (by decide +kernel) (by decide +kernel)
theorem q_593 : Cond.instanceMethod y_MO_init ∈ g_T := g_in 625 (by decide +kernel) (by decide +kernel)
theorem q_594 : Cond.code y_MO_init prog_6_method_1_code 2 none ∈ g_T := g_in 626 (by decide +kernel) (by decide +kernel)
theorem q_595 : Cond.methodLink "CaseListsModel" 1 y_OJ_init ∈ g_T := g_in 627 (by decide +kernel) (by decide +kernel)
theorem q_596 : Cond.constant "CaseListsModel" 28 (75024) ∈ g_T := g_in 628 (by decide +kernel) (by decide +kernel)
theorem q_597 : Cond.fieldLink "CaseListsModel" 58 "CaseListsModel" "thrown" "I" ∈ g_T := g_in 629 (by decide +kernel) (by decide +kernel)
theorem q_598 : Cond.fieldLink "CaseListsModel" 54 "CaseListsModel" "life" "I" ∈ g_T := g_in 630 (by decide +kernel) (by decide +kernel)
theorem q_599 : Cond.fieldLink "CaseListsModel" 61 "CaseListsModel" "cases" "I" ∈ g_T := g_in 631 (by decide +kernel) (by decide +kernel)
theorem q_600 : Cond.fieldLink "CaseListsModel" 7 "CaseListsModel" "points" "[I" ∈ g_T := g_in 632 (by decide +kernel) (by decide +kernel)
theorem q_601 : Cond.fieldLink "CaseListsModel" 13 "CaseListsModel" "others" "[I" ∈ g_T := g_in 633 (by decide +kernel) (by decide +kernel)
theorem q_602 : Cond.fieldLink "CaseListsModel" 73 "CaseListsModel" "acts" "I" ∈ g_T := g_in 634 (by decide +kernel) (by decide +kernel)
theorem q_603 : Cond.fieldLink "CaseListsModel" 16 "CaseListsModel" "places" "[I" ∈ g_T := g_in 635 (by decide +kernel) (by decide +kernel)
theorem q_604 : Cond.fieldLink "CaseListsModel" 19 "CaseListsModel" "times" "[I" ∈ g_T := g_in 636 (by decide +kernel) (by decide +kernel)
theorem q_605 : Cond.fieldLink "CaseListsModel" 22 "CaseListsModel" "shown" "[I" ∈ g_T := g_in 637 (by decide +kernel) (by decide +kernel)
theorem q_606 : Cond.fieldLink "CaseListsModel" 25 "CaseListsModel" "ways" "[I" ∈ g_T := g_in 638 (by decide +kernel) (by decide +kernel)
theorem q_607 : Cond.fieldLink "CaseListsModel" 29 "CaseListsModel" "touches" "[I" ∈ g_T := g_in 639 (by decide +kernel) (by decide +kernel)
theorem q_608 : Cond.fieldLink "CaseListsModel" 32 "CaseListsModel" "counts" "[I" ∈ g_T := g_in 640 (by decide +kernel) (by decide +kernel)
theorem q_609 : Cond.fieldLink "CaseListsModel" 35 "CaseListsModel" "persons" "[I" ∈ g_T := g_in 641 (by decide +kernel) (by decide +kernel)
theorem q_610 : Cond.fieldLink "CaseListsModel" 38 "CaseListsModel" "days" "[I" ∈ g_T := g_in 642 (by decide +kernel) (by decide +kernel)
theorem q_611 : Cond.fieldLink "CaseListsModel" 41 "CaseListsModel" "goods" "[Z" ∈ g_T := g_in 643 (by decide +kernel) (by decide +kernel)
theorem q_612 : Cond.fieldLink "CaseListsModel" 118 "CaseListsModel" "planSize" "I" ∈ g_T := g_in 644 (by decide +kernel) (by decide +kernel)
theorem q_613 : Cond.fieldLink "CaseListsModel" 115 "CaseListsModel" "planTime" "I" ∈ g_T := g_in 645 (by decide +kernel) (by decide +kernel)
theorem q_614 : Cond.fieldLink "CaseListsModel" 45 "CaseListsModel" "plan" "[I" ∈ g_T := g_in 646 (by decide +kernel) (by decide +kernel)
theorem q_615 : Cond.fieldLink "CaseListsModel" 48 "CaseListsModel" "least" "[I" ∈ g_T := g_in 647 (by decide +kernel) (by decide +kernel)
theorem q_616 : Cond.fieldLink "CaseListsModel" 51 "CaseListsModel" "still" "[Z" ∈ g_T := g_in 648 (by decide +kernel) (by decide +kernel)
theorem q_658 : Cond.methodLink "CaseListsLaw" 79 y_MO_thrown ∈ g_T := g_in 690 (by decide +kernel) (by decide +kernel)
theorem q_659 : Cond.instanceMethod y_MO_thrown ∈ g_T := g_in 691 (by decide +kernel) (by decide +kernel)
theorem q_660 : Cond.selects "CaseListsModel" y_MO_thrown y_MO_thrown ∈ g_T := g_in 692 (by decide +kernel) (by decide +kernel)
theorem q_661 : Cond.code y_MO_thrown prog_6_method_2_code 1 (some .int) ∈ g_T := g_in 693 (by decide +kernel) (by decide +kernel)
theorem q_662 : Cond.methodLink "CaseListsLaw" 78 y_MO_fault ∈ g_T := g_in 694 (by decide +kernel) (by decide +kernel)
theorem q_663 : Cond.instanceMethod y_MO_fault ∈ g_T := g_in 695 (by decide +kernel) (by decide +kernel)
theorem q_664 : Cond.selects "CaseListsModel" y_MO_fault y_MO_fault ∈ g_T := g_in 696 (by decide +kernel) (by decide +kernel)
theorem q_665 : Cond.code y_MO_fault prog_6_method_7_code 7 (some .int) ∈ g_T := g_in 697 (by decide +kernel) (by decide +kernel)
theorem q_666 : Cond.methodLink "CaseListsModel" 64 y_MO_in ∈ g_T := g_in 698 (by decide +kernel) (by decide +kernel)
theorem q_667 : Cond.static y_MO_in ∈ g_T := g_in 699 (by decide +kernel) (by decide +kernel)
theorem q_668 : Cond.code y_MO_in prog_6_method_4_code 3 (some .boolean) ∈ g_T := g_in 700 (by decide +kernel) (by decide +kernel)
theorem q_669 : Cond.methodLink "CaseListsModel" 69 y_MO_goes ∈ g_T := g_in 701 (by decide +kernel) (by decide +kernel)
theorem q_671 : Cond.instanceMethod y_MO_goes ∈ g_T := g_in 703 (by decide +kernel) (by decide +kernel)
theorem q_672 : Cond.code y_MO_goes prog_6_method_3_code 3 (some .boolean) ∈ g_T := g_in 704 (by decide +kernel) (by decide +kernel)
theorem q_673 : Cond.methodLink "CaseListsLaw" 85 y_MO_act ∈ g_T := g_in 705 (by decide +kernel) (by decide +kernel)
theorem q_674 : Cond.instanceMethod y_MO_act ∈ g_T := g_in 706 (by decide +kernel) (by decide +kernel)
theorem q_675 : Cond.selects "CaseListsModel" y_MO_act y_MO_act ∈ g_T := g_in 707 (by decide +kernel) (by decide +kernel)
theorem q_676 : Cond.code y_MO_act prog_6_method_8_code 3 (some .int) ∈ g_T := g_in 708 (by decide +kernel) (by decide +kernel)
theorem q_677 : Cond.methodLink "CaseListsLaw" 89 y_MO_shows ∈ g_T := g_in 709 (by decide +kernel) (by decide +kernel)
theorem q_678 : Cond.instanceMethod y_MO_shows ∈ g_T := g_in 710 (by decide +kernel) (by decide +kernel)
theorem q_679 : Cond.selects "CaseListsModel" y_MO_shows y_MO_shows ∈ g_T := g_in 711 (by decide +kernel) (by decide +kernel)
theorem q_680 : Cond.code y_MO_shows prog_6_method_9_code 5 (some .boolean) ∈ g_T := g_in 712 (by decide +kernel) (by decide +kernel)
theorem q_681 : Cond.methodLink "CaseListsModel" 76 y_MO_isCase ∈ g_T := g_in 713 (by decide +kernel) (by decide +kernel)
theorem q_683 : Cond.instanceMethod y_MO_isCase ∈ g_T := g_in 715 (by decide +kernel) (by decide +kernel)
theorem q_684 : Cond.code y_MO_isCase prog_6_method_5_code 2 (some .boolean) ∈ g_T := g_in 716 (by decide +kernel) (by decide +kernel)
theorem q_685 : Cond.methodLink "CaseListsLaw" 93 y_MO_way ∈ g_T := g_in 717 (by decide +kernel) (by decide +kernel)
theorem q_686 : Cond.instanceMethod y_MO_way ∈ g_T := g_in 718 (by decide +kernel) (by decide +kernel)
theorem q_687 : Cond.selects "CaseListsModel" y_MO_way y_MO_way ∈ g_T := g_in 719 (by decide +kernel) (by decide +kernel)
theorem q_688 : Cond.code y_MO_way prog_6_method_10_code 5 (some .int) ∈ g_T := g_in 720 (by decide +kernel) (by decide +kernel)
theorem q_689 : Cond.methodLink "CaseListsLaw" 96 y_MO_change ∈ g_T := g_in 721 (by decide +kernel) (by decide +kernel)
theorem q_690 : Cond.instanceMethod y_MO_change ∈ g_T := g_in 722 (by decide +kernel) (by decide +kernel)
theorem q_691 : Cond.selects "CaseListsModel" y_MO_change y_MO_change ∈ g_T := g_in 723 (by decide +kernel) (by decide +kernel)
theorem q_692 : Cond.code y_MO_change prog_6_method_12_code 5 (some .int) ∈ g_T := g_in 724 (by decide +kernel) (by decide +kernel)
theorem q_693 : Cond.methodLink "CaseListsModel" 80 y_MO_isDay ∈ g_T := g_in 725 (by decide +kernel) (by decide +kernel)
theorem q_694 : Cond.static y_MO_isDay ∈ g_T := g_in 726 (by decide +kernel) (by decide +kernel)
theorem q_695 : Cond.code y_MO_isDay prog_6_method_6_code 1 (some .boolean) ∈ g_T := g_in 727 (by decide +kernel) (by decide +kernel)
theorem q_696 : Cond.constant "CaseListsModel" 68 (100000) ∈ g_T := g_in 728 (by decide +kernel) (by decide +kernel)
theorem q_697 : Cond.methodLink "CaseListsLaw" 100 y_MO_result ∈ g_T := g_in 729 (by decide +kernel) (by decide +kernel)
theorem q_698 : Cond.instanceMethod y_MO_result ∈ g_T := g_in 730 (by decide +kernel) (by decide +kernel)
theorem q_699 : Cond.selects "CaseListsModel" y_MO_result y_MO_result ∈ g_T := g_in 731 (by decide +kernel) (by decide +kernel)
theorem q_700 : Cond.code y_MO_result prog_6_method_13_code 9 (some .int) ∈ g_T := g_in 732 (by decide +kernel) (by decide +kernel)
theorem q_701 : Cond.methodLink "CaseListsLaw" 117 y_MO_state ∈ g_T := g_in 733 (by decide +kernel) (by decide +kernel)
theorem q_702 : Cond.instanceMethod y_MO_state ∈ g_T := g_in 734 (by decide +kernel) (by decide +kernel)
theorem q_703 : Cond.selects "CaseListsModel" y_MO_state y_MO_state ∈ g_T := g_in 735 (by decide +kernel) (by decide +kernel)
theorem q_704 : Cond.code y_MO_state prog_6_method_17_code 3 (some .int) ∈ g_T := g_in 736 (by decide +kernel) (by decide +kernel)
theorem q_705 : Cond.methodLink "CaseListsModel" 95 y_MO_stateOf ∈ g_T := g_in 737 (by decide +kernel) (by decide +kernel)
theorem q_707 : Cond.instanceMethod y_MO_stateOf ∈ g_T := g_in 739 (by decide +kernel) (by decide +kernel)
theorem q_708 : Cond.code y_MO_stateOf prog_6_method_16_code 8 (some .int) ∈ g_T := g_in 740 (by decide +kernel) (by decide +kernel)
theorem q_709 : Cond.methodLink "CaseListsModel" 87 y_MO_lastTouch ∈ g_T := g_in 741 (by decide +kernel) (by decide +kernel)
theorem q_711 : Cond.instanceMethod y_MO_lastTouch ∈ g_T := g_in 743 (by decide +kernel) (by decide +kernel)
theorem q_712 : Cond.code y_MO_lastTouch prog_6_method_14_code 4 (some .int) ∈ g_T := g_in 744 (by decide +kernel) (by decide +kernel)
theorem q_713 : Cond.methodLink "CaseListsModel" 83 y_MO_isTouched ∈ g_T := g_in 745 (by decide +kernel) (by decide +kernel)
theorem q_715 : Cond.instanceMethod y_MO_isTouched ∈ g_T := g_in 747 (by decide +kernel) (by decide +kernel)
theorem q_716 : Cond.code y_MO_isTouched prog_6_method_11_code 3 (some .boolean) ∈ g_T := g_in 748 (by decide +kernel) (by decide +kernel)
theorem q_717 : Cond.methodLink "CaseListsModel" 91 y_MO_wordOf ∈ g_T := g_in 749 (by decide +kernel) (by decide +kernel)
theorem q_719 : Cond.instanceMethod y_MO_wordOf ∈ g_T := g_in 751 (by decide +kernel) (by decide +kernel)
theorem q_720 : Cond.code y_MO_wordOf prog_6_method_15_code 9 (some .int) ∈ g_T := g_in 752 (by decide +kernel) (by decide +kernel)
theorem q_721 : Cond.methodLink "CaseListsLaw" 120 y_MO_word ∈ g_T := g_in 753 (by decide +kernel) (by decide +kernel)
theorem q_722 : Cond.instanceMethod y_MO_word ∈ g_T := g_in 754 (by decide +kernel) (by decide +kernel)
theorem q_723 : Cond.selects "CaseListsModel" y_MO_word y_MO_word ∈ g_T := g_in 755 (by decide +kernel) (by decide +kernel)
theorem q_724 : Cond.code y_MO_word prog_6_method_18_code 4 (some .int) ∈ g_T := g_in 756 (by decide +kernel) (by decide +kernel)
theorem q_725 : Cond.methodLink "CaseListsLaw" 123 y_MO_listed ∈ g_T := g_in 757 (by decide +kernel) (by decide +kernel)
theorem q_726 : Cond.instanceMethod y_MO_listed ∈ g_T := g_in 758 (by decide +kernel) (by decide +kernel)
theorem q_727 : Cond.selects "CaseListsModel" y_MO_listed y_MO_listed ∈ g_T := g_in 759 (by decide +kernel) (by decide +kernel)
theorem q_728 : Cond.code y_MO_listed prog_6_method_19_code 6 (some .int) ∈ g_T := g_in 760 (by decide +kernel) (by decide +kernel)
theorem q_729 : Cond.methodLink "CaseListsLaw" 126 y_MO_hidden ∈ g_T := g_in 761 (by decide +kernel) (by decide +kernel)
theorem q_730 : Cond.instanceMethod y_MO_hidden ∈ g_T := g_in 762 (by decide +kernel) (by decide +kernel)
theorem q_731 : Cond.selects "CaseListsModel" y_MO_hidden y_MO_hidden ∈ g_T := g_in 763 (by decide +kernel) (by decide +kernel)
theorem q_732 : Cond.code y_MO_hidden prog_6_method_21_code 4 (some .int) ∈ g_T := g_in 764 (by decide +kernel) (by decide +kernel)
theorem q_733 : Cond.methodLink "CaseListsModel" 98 y_MO_allShown ∈ g_T := g_in 765 (by decide +kernel) (by decide +kernel)
theorem q_735 : Cond.instanceMethod y_MO_allShown ∈ g_T := g_in 767 (by decide +kernel) (by decide +kernel)
theorem q_736 : Cond.code y_MO_allShown prog_6_method_20_code 3 (some .int) ∈ g_T := g_in 768 (by decide +kernel) (by decide +kernel)
theorem q_737 : Cond.methodLink "CaseListsLaw" 129 y_MO_proves ∈ g_T := g_in 769 (by decide +kernel) (by decide +kernel)
theorem q_738 : Cond.instanceMethod y_MO_proves ∈ g_T := g_in 770 (by decide +kernel) (by decide +kernel)
theorem q_739 : Cond.selects "CaseListsModel" y_MO_proves y_MO_proves ∈ g_T := g_in 771 (by decide +kernel) (by decide +kernel)
theorem q_740 : Cond.code y_MO_proves prog_6_method_23_code 4 (some .int) ∈ g_T := g_in 772 (by decide +kernel) (by decide +kernel)
theorem q_741 : Cond.methodLink "CaseListsModel" 103 y_MO_nextDay ∈ g_T := g_in 773 (by decide +kernel) (by decide +kernel)
theorem q_743 : Cond.instanceMethod y_MO_nextDay ∈ g_T := g_in 775 (by decide +kernel) (by decide +kernel)
theorem q_744 : Cond.code y_MO_nextDay prog_6_method_22_code 6 (some .int) ∈ g_T := g_in 776 (by decide +kernel) (by decide +kernel)
theorem q_745 : Cond.constant "CaseListsModel" 102 (1000000000) ∈ g_T := g_in 777 (by decide +kernel) (by decide +kernel)
theorem q_746 : Cond.methodLink "CaseListsLaw" 132 y_MO_touched ∈ g_T := g_in 778 (by decide +kernel) (by decide +kernel)
theorem q_747 : Cond.instanceMethod y_MO_touched ∈ g_T := g_in 779 (by decide +kernel) (by decide +kernel)
theorem q_748 : Cond.selects "CaseListsModel" y_MO_touched y_MO_touched ∈ g_T := g_in 780 (by decide +kernel) (by decide +kernel)
theorem q_749 : Cond.code y_MO_touched prog_6_method_24_code 3 (some .int) ∈ g_T := g_in 781 (by decide +kernel) (by decide +kernel)
theorem q_750 : Cond.methodLink "CaseListsLaw" 104 y_MO_plan ∈ g_T := g_in 782 (by decide +kernel) (by decide +kernel)
theorem q_751 : Cond.instanceMethod y_MO_plan ∈ g_T := g_in 783 (by decide +kernel) (by decide +kernel)
theorem q_752 : Cond.selects "CaseListsModel" y_MO_plan y_MO_plan ∈ g_T := g_in 784 (by decide +kernel) (by decide +kernel)
theorem q_753 : Cond.code y_MO_plan prog_6_method_31_code 7 (some .int) ∈ g_T := g_in 785 (by decide +kernel) (by decide +kernel)
theorem q_754 : Cond.methodLink "CaseListsModel" 112 y_MO_reckon ∈ g_T := g_in 786 (by decide +kernel) (by decide +kernel)
theorem q_756 : Cond.instanceMethod y_MO_reckon ∈ g_T := g_in 788 (by decide +kernel) (by decide +kernel)
theorem q_757 : Cond.code y_MO_reckon prog_6_method_27_code 7 none ∈ g_T := g_in 789 (by decide +kernel) (by decide +kernel)
theorem q_758 : Cond.methodLink "CaseListsModel" 106 y_MO_has ∈ g_T := g_in 790 (by decide +kernel) (by decide +kernel)
theorem q_759 : Cond.static y_MO_has ∈ g_T := g_in 791 (by decide +kernel) (by decide +kernel)
theorem q_760 : Cond.code y_MO_has prog_6_method_25_code 2 (some .boolean) ∈ g_T := g_in 792 (by decide +kernel) (by decide +kernel)
theorem q_761 : Cond.methodLink "CaseListsModel" 109 y_MO_between ∈ g_T := g_in 793 (by decide +kernel) (by decide +kernel)
theorem q_763 : Cond.instanceMethod y_MO_between ∈ g_T := g_in 795 (by decide +kernel) (by decide +kernel)
theorem q_764 : Cond.code y_MO_between prog_6_method_26_code 3 (some .int) ∈ g_T := g_in 796 (by decide +kernel) (by decide +kernel)
theorem q_765 : Cond.methodLink "CaseListsModel" 121 y_MO_shownBy ∈ g_T := g_in 797 (by decide +kernel) (by decide +kernel)
theorem q_767 : Cond.instanceMethod y_MO_shownBy ∈ g_T := g_in 799 (by decide +kernel) (by decide +kernel)
theorem q_768 : Cond.code y_MO_shownBy prog_6_method_28_code 4 (some .int) ∈ g_T := g_in 800 (by decide +kernel) (by decide +kernel)
theorem q_769 : Cond.methodLink "CaseListsModel" 125 y_MO_leastOf ∈ g_T := g_in 801 (by decide +kernel) (by decide +kernel)
theorem q_771 : Cond.instanceMethod y_MO_leastOf ∈ g_T := g_in 803 (by decide +kernel) (by decide +kernel)
theorem q_772 : Cond.code y_MO_leastOf prog_6_method_30_code 4 (some .int) ∈ g_T := g_in 804 (by decide +kernel) (by decide +kernel)
theorem q_773 : Cond.methodLink "CaseListsModel" 128 y_MO_sizeOf ∈ g_T := g_in 805 (by decide +kernel) (by decide +kernel)
theorem q_774 : Cond.static y_MO_sizeOf ∈ g_T := g_in 806 (by decide +kernel) (by decide +kernel)
theorem q_775 : Cond.code y_MO_sizeOf prog_6_method_29_code 3 (some .int) ∈ g_T := g_in 807 (by decide +kernel) (by decide +kernel)
theorem q_776 : Cond.methodLink "CaseListsModel" 131 y_MO_order ∈ g_T := g_in 808 (by decide +kernel) (by decide +kernel)
theorem q_778 : Cond.instanceMethod y_MO_order ∈ g_T := g_in 810 (by decide +kernel) (by decide +kernel)
theorem q_779 : Cond.code y_MO_order prog_6_method_32_code 9 none ∈ g_T := g_in 811 (by decide +kernel) (by decide +kernel)
theorem q_780 : Cond.methodLink "CaseListsLaw" 107 y_MO_planned ∈ g_T := g_in 812 (by decide +kernel) (by decide +kernel)
theorem q_781 : Cond.instanceMethod y_MO_planned ∈ g_T := g_in 813 (by decide +kernel) (by decide +kernel)
theorem q_782 : Cond.selects "CaseListsModel" y_MO_planned y_MO_planned ∈ g_T := g_in 814 (by decide +kernel) (by decide +kernel)
theorem q_783 : Cond.code y_MO_planned prog_6_method_33_code 2 (some .int) ∈ g_T := g_in 815 (by decide +kernel) (by decide +kernel)
theorem q_784 : Cond.methodLink "CaseListsLaw" 111 y_MO_seconds ∈ g_T := g_in 816 (by decide +kernel) (by decide +kernel)
theorem q_785 : Cond.instanceMethod y_MO_seconds ∈ g_T := g_in 817 (by decide +kernel) (by decide +kernel)
theorem q_786 : Cond.selects "CaseListsModel" y_MO_seconds y_MO_seconds ∈ g_T := g_in 818 (by decide +kernel) (by decide +kernel)
theorem q_787 : Cond.code y_MO_seconds prog_6_method_34_code 1 (some .int) ∈ g_T := g_in 819 (by decide +kernel) (by decide +kernel)
theorem q_788 : Cond.methodLink "CaseListsLaw" 114 y_MO_from ∈ g_T := g_in 820 (by decide +kernel) (by decide +kernel)
theorem q_789 : Cond.instanceMethod y_MO_from ∈ g_T := g_in 821 (by decide +kernel) (by decide +kernel)
theorem q_790 : Cond.selects "CaseListsModel" y_MO_from y_MO_from ∈ g_T := g_in 822 (by decide +kernel) (by decide +kernel)
theorem q_791 : Cond.code y_MO_from prog_6_method_35_code 5 (some .int) ∈ g_T := g_in 823 (by decide +kernel) (by decide +kernel)
theorem q_792 : Cond.arrayClass .long ∈ g_T := g_in 824 (by decide +kernel) (by decide +kernel)
theorem q_796 : Cond.selects "[Ljava/lang/Object;" ⟨"java/lang/Object", "getClass", "()Ljava/lang/Class;"⟩ ⟨"java/lang/Object", "getClass", "()Ljava/lang/Class;"⟩ ∈ g_T := g_in 828 (by decide +kernel) (by decide +kernel)
end
section
theorem v_CL_init : g_y y_CL_init b_CL_init 2 none 1 := ⟨q_25, q_1, by decide +kernel, by decide +kernel, by decide +kernel⟩
theorem v_MA_min : g_y y_MA_min b_MA_min 2 (some .int) 2 := ⟨q_31, q_2, by decide +kernel, by decide +kernel, by decide +kernel⟩
theorem v_MA_max : g_y y_MA_max b_MA_max 2 (some .int) 2 := ⟨q_34, q_2, by decide +kernel, by decide +kernel, by decide +kernel⟩
theorem v_AL_init : g_y y_AL_init b_AL_init 1 none 0 := ⟨q_39, q_5, by decide +kernel, by decide +kernel, by decide +kernel⟩
theorem v_BL_init : g_y y_BL_init b_BL_init 1 none 0 := ⟨q_42, q_4, by decide +kernel, by decide +kernel, by decide +kernel⟩
theorem v_BC_init : g_y y_BC_init b_BC_init 1 none 0 := ⟨q_45, q_3, by decide +kernel, by decide +kernel, by decide +kernel⟩
theorem v_TL_init : g_y y_TL_init b_TL_init 1 none 0 := ⟨q_65, q_6, by decide +kernel, by decide +kernel, by decide +kernel⟩
theorem v_TU_init : g_y y_TU_init b_TU_init 1 none 0 := ⟨q_82, q_7, by decide +kernel, by decide +kernel, by decide +kernel⟩
theorem v_CL_seconds : g_y y_CL_seconds b_CL_seconds 1 (some .int) 0 := ⟨q_128, q_1, by decide +kernel, by decide +kernel, by decide +kernel⟩
theorem v_LW_cell : g_y y_LW_cell b_LW_cell 2 (some .int) 2 := ⟨q_131, q_0, by decide +kernel, by decide +kernel, by decide +kernel⟩
theorem v_CL_fault : g_y y_CL_fault b_CL_fault 4 (some .int) 2 := ⟨q_140, q_1, by decide +kernel, by decide +kernel, by decide +kernel⟩
theorem v_CL_needBelow : g_y y_CL_needBelow b_CL_needBelow 2 none 2 := ⟨q_143, q_1, by decide +kernel, by decide +kernel, by decide +kernel⟩
theorem v_CL_needWithin : g_y y_CL_needWithin b_CL_needWithin 3 none 3 := ⟨q_146, q_1, by decide +kernel, by decide +kernel, by decide +kernel⟩
theorem v_TH_init : g_y y_TH_init b_TH_init 1 none 0 := ⟨q_171, q_9, by decide +kernel, by decide +kernel, by decide +kernel⟩
theorem v_IA_init : g_y y_IA_init b_IA_init 2 none 1 := ⟨q_190, q_12, by decide +kernel, by decide +kernel, by decide +kernel⟩
theorem v_RX_init : g_y y_RX_init b_RX_init 2 none 1 := ⟨q_193, q_11, by decide +kernel, by decide +kernel, by decide +kernel⟩
theorem v_EX_init : g_y y_EX_init b_EX_init 2 none 1 := ⟨q_196, q_10, by decide +kernel, by decide +kernel, by decide +kernel⟩
theorem v_TH_init2 : g_y y_TH_init2 b_TH_init2 2 none 1 := ⟨q_199, q_9, by decide +kernel, by decide +kernel, by decide +kernel⟩
theorem v_CL_needOther : g_y y_CL_needOther b_CL_needOther 2 none 2 := ⟨q_216, q_1, by decide +kernel, by decide +kernel, by decide +kernel⟩
theorem v_CL_caseOf : g_y y_CL_caseOf b_CL_caseOf 4 (some .int) 2 := ⟨q_221, q_1, by decide +kernel, by decide +kernel, by decide +kernel⟩
theorem v_AL_size : g_y y_AL_size b_AL_size 1 (some .int) 0 := ⟨q_225, q_5, by decide +kernel, by decide +kernel, by decide +kernel⟩
theorem v_AL_get : g_y y_AL_get b_AL_get 2 (some (.object "java/lang/Object")) 1 := ⟨q_229, q_5, by decide +kernel, by decide +kernel, by decide +kernel⟩
theorem v_OB_checkIndex : g_y y_OB_checkIndex b_OB_checkIndex 2 (some .int) 2 := ⟨q_232, q_13, by decide +kernel, by decide +kernel, by decide +kernel⟩
theorem v_PR_checkIndex : g_y y_PR_checkIndex b_PR_checkIndex 3 (some .int) 3 := ⟨q_235, q_14, by decide +kernel, by decide +kernel, by decide +kernel⟩
theorem v_AL_elementData : g_y y_AL_elementData b_AL_elementData 2 (some (.object "java/lang/Object")) 1 := ⟨q_239, q_5, by decide +kernel, by decide +kernel, by decide +kernel⟩
theorem v_CS_isOf : g_y y_CS_isOf b_CS_isOf 3 (some .boolean) 2 := ⟨q_244, q_16, by decide +kernel, by decide +kernel, by decide +kernel⟩
theorem v_CL_needRoom : g_y y_CL_needRoom b_CL_needRoom 2 none 2 := ⟨q_247, q_1, by decide +kernel, by decide +kernel, by decide +kernel⟩
theorem v_IS_init : g_y y_IS_init b_IS_init 2 none 1 := ⟨q_260, q_15, by decide +kernel, by decide +kernel, by decide +kernel⟩
theorem v_CS_init : g_y y_CS_init b_CS_init 3 none 2 := ⟨q_267, q_16, by decide +kernel, by decide +kernel, by decide +kernel⟩
theorem v_AL_add : g_y y_AL_add b_AL_add 2 (some .boolean) 1 := ⟨q_292, q_5, by decide +kernel, by decide +kernel, by decide +kernel⟩
theorem v_AL_add2 : g_y y_AL_add2 b_AL_add2 4 none 3 := ⟨q_296, q_5, by decide +kernel, by decide +kernel, by decide +kernel⟩
theorem v_AL_grow : g_y y_AL_grow b_AL_grow 1 (some (.array (.object "java/lang/Object"))) 0 := ⟨q_300, q_5, by decide +kernel, by decide +kernel, by decide +kernel⟩
theorem v_AL_grow2 : g_y y_AL_grow2 b_AL_grow2 4 (some (.array (.object "java/lang/Object"))) 1 := ⟨q_304, q_5, by decide +kernel, by decide +kernel, by decide +kernel⟩
theorem v_AS_newLength : g_y y_AS_newLength b_AS_newLength 4 (some .int) 3 := ⟨q_307, q_17, by decide +kernel, by decide +kernel, by decide +kernel⟩
theorem v_AS_hugeLength : g_y y_AS_hugeLength b_AS_hugeLength 3 (some .int) 2 := ⟨q_312, q_17, by decide +kernel, by decide +kernel, by decide +kernel⟩
theorem v_AR_copyOf : g_y y_AR_copyOf b_AR_copyOf 2 (some (.array (.object "java/lang/Object"))) 2 := ⟨q_315, q_18, by decide +kernel, by decide +kernel, by decide +kernel⟩
theorem v_AR_copyOf2 : g_y y_AR_copyOf2 b_AR_copyOf2 4 (some (.array (.object "java/lang/Object"))) 3 := ⟨q_330, q_18, by decide +kernel, by decide +kernel, by decide +kernel⟩
theorem v_CL_act : g_y y_CL_act b_CL_act 3 (some .int) 2 := ⟨q_346, q_1, by decide +kernel, by decide +kernel, by decide +kernel⟩
theorem v_TU_actCount : g_y y_TU_actCount b_TU_actCount 1 (some .int) 0 := ⟨q_350, q_7, by decide +kernel, by decide +kernel, by decide +kernel⟩
theorem v_TU_addAct : g_y y_TU_addAct b_TU_addAct 3 (some .int) 2 := ⟨q_354, q_7, by decide +kernel, by decide +kernel, by decide +kernel⟩
theorem v_CL_shows : g_y y_CL_shows b_CL_shows 4 (some .boolean) 3 := ⟨q_361, q_1, by decide +kernel, by decide +kernel, by decide +kernel⟩
theorem v_TU_setShown : g_y y_TU_setShown b_TU_setShown 5 (some .boolean) 3 := ⟨q_365, q_7, by decide +kernel, by decide +kernel, by decide +kernel⟩
theorem v_CL_holds : g_y y_CL_holds b_CL_holds 2 (some .boolean) 2 := ⟨q_368, q_1, by decide +kernel, by decide +kernel, by decide +kernel⟩
theorem v_CL_way : g_y y_CL_way b_CL_way 4 (some .int) 3 := ⟨q_375, q_1, by decide +kernel, by decide +kernel, by decide +kernel⟩
theorem v_TU_setWay : g_y y_TU_setWay b_TU_setWay 5 (some .int) 3 := ⟨q_379, q_7, by decide +kernel, by decide +kernel, by decide +kernel⟩
theorem v_CL_change : g_y y_CL_change b_CL_change 4 (some .int) 2 := ⟨q_386, q_1, by decide +kernel, by decide +kernel, by decide +kernel⟩
theorem v_CL_needDay : g_y y_CL_needDay b_CL_needDay 1 none 1 := ⟨q_389, q_1, by decide +kernel, by decide +kernel, by decide +kernel⟩
theorem v_CL_casesWith : g_y y_CL_casesWith b_CL_casesWith 4 (some .int) 1 := ⟨q_394, q_1, by decide +kernel, by decide +kernel, by decide +kernel⟩
theorem v_CS_has : g_y y_CS_has b_CS_has 2 (some .boolean) 1 := ⟨q_398, q_16, by decide +kernel, by decide +kernel, by decide +kernel⟩
theorem v_TL_note : g_y y_TL_note b_TL_note 4 none 2 := ⟨q_402, q_6, by decide +kernel, by decide +kernel, by decide +kernel⟩
theorem v_IN_bitCount : g_y y_IN_bitCount b_IN_bitCount 1 (some .int) 1 := ⟨q_405, q_20, by decide +kernel, by decide +kernel, by decide +kernel⟩
theorem v_CL_result : g_y y_CL_result b_CL_result 7 (some .int) 4 := ⟨q_415, q_1, by decide +kernel, by decide +kernel, by decide +kernel⟩
theorem v_CS_rowOf : g_y y_CS_rowOf b_CS_rowOf 4 (some .int) 2 := ⟨q_419, q_16, by decide +kernel, by decide +kernel, by decide +kernel⟩
theorem v_CS_tell : g_y y_CS_tell b_CS_tell 5 none 4 := ⟨q_423, q_16, by decide +kernel, by decide +kernel, by decide +kernel⟩
theorem v_CS_resultCount : g_y y_CS_resultCount b_CS_resultCount 1 (some .int) 0 := ⟨q_428, q_16, by decide +kernel, by decide +kernel, by decide +kernel⟩
theorem v_CL_plan : g_y y_CL_plan b_CL_plan 3 (some .int) 1 := ⟨q_435, q_1, by decide +kernel, by decide +kernel, by decide +kernel⟩
theorem v_CL_unprovedCases : g_y y_CL_unprovedCases b_CL_unprovedCases 4 (some .int) 1 := ⟨q_439, q_1, by decide +kernel, by decide +kernel, by decide +kernel⟩
theorem v_CL_stateOn : g_y y_CL_stateOn b_CL_stateOn 9 (some .int) 2 := ⟨q_443, q_1, by decide +kernel, by decide +kernel, by decide +kernel⟩
theorem v_CL_firstCountingDay : g_y y_CL_firstCountingDay b_CL_firstCountingDay 3 (some .int) 2 := ⟨q_447, q_1, by decide +kernel, by decide +kernel, by decide +kernel⟩
theorem v_TL_latest : g_y y_TL_latest b_TL_latest 5 (some .int) 2 := ⟨q_451, q_6, by decide +kernel, by decide +kernel, by decide +kernel⟩
theorem v_CS_wordOf : g_y y_CS_wordOf b_CS_wordOf 7 (some .int) 3 := ⟨q_456, q_16, by decide +kernel, by decide +kernel, by decide +kernel⟩
theorem v_TU_shownByAny : g_y y_TU_shownByAny b_TU_shownByAny 1 (some .int) 0 := ⟨q_460, q_7, by decide +kernel, by decide +kernel, by decide +kernel⟩
theorem v_TU_shownBy : g_y y_TU_shownBy b_TU_shownBy 4 (some .int) 1 := ⟨q_464, q_7, by decide +kernel, by decide +kernel, by decide +kernel⟩
theorem v_TU_findOrder : g_y y_TU_findOrder b_TU_findOrder 7 (some .int) 2 := ⟨q_468, q_7, by decide +kernel, by decide +kernel, by decide +kernel⟩
theorem v_TU_weighRests : g_y y_TU_weighRests b_TU_weighRests 5 none 1 := ⟨q_472, q_7, by decide +kernel, by decide +kernel, by decide +kernel⟩
theorem v_TU_covers : g_y y_TU_covers b_TU_covers 3 (some .boolean) 2 := ⟨q_476, q_7, by decide +kernel, by decide +kernel, by decide +kernel⟩
theorem v_TU_leastRest : g_y y_TU_leastRest b_TU_leastRest 5 (some .int) 2 := ⟨q_480, q_7, by decide +kernel, by decide +kernel, by decide +kernel⟩
theorem v_TU_weightOfNext : g_y y_TU_weightOfNext b_TU_weightOfNext 5 (some .int) 3 := ⟨q_485, q_7, by decide +kernel, by decide +kernel, by decide +kernel⟩
theorem v_TU_wayBetween : g_y y_TU_wayBetween b_TU_wayBetween 3 (some .int) 2 := ⟨q_489, q_7, by decide +kernel, by decide +kernel, by decide +kernel⟩
theorem v_TU_weight : g_y y_TU_weight b_TU_weight 1 (some .int) 1 := ⟨q_492, q_7, by decide +kernel, by decide +kernel, by decide +kernel⟩
theorem v_TU_bestFirst : g_y y_TU_bestFirst b_TU_bestFirst 5 (some .int) 0 := ⟨q_497, q_7, by decide +kernel, by decide +kernel, by decide +kernel⟩
theorem v_TU_weightOfFirst : g_y y_TU_weightOfFirst b_TU_weightOfFirst 2 (some .int) 1 := ⟨q_501, q_7, by decide +kernel, by decide +kernel, by decide +kernel⟩
theorem v_TU_bestNext : g_y y_TU_bestNext b_TU_bestNext 7 (some .int) 2 := ⟨q_505, q_7, by decide +kernel, by decide +kernel, by decide +kernel⟩
theorem v_TU_secondsOf : g_y y_TU_secondsOf b_TU_secondsOf 5 (some .int) 2 := ⟨q_509, q_7, by decide +kernel, by decide +kernel, by decide +kernel⟩
theorem v_CL_planned : g_y y_CL_planned b_CL_planned 2 (some .int) 1 := ⟨q_516, q_1, by decide +kernel, by decide +kernel, by decide +kernel⟩
theorem v_CL_from : g_y y_CL_from b_CL_from 2 (some .int) 1 := ⟨q_523, q_1, by decide +kernel, by decide +kernel, by decide +kernel⟩
theorem v_TU_leastSecondsFrom : g_y y_TU_leastSecondsFrom b_TU_leastSecondsFrom 2 (some .int) 1 := ⟨q_527, q_7, by decide +kernel, by decide +kernel, by decide +kernel⟩
theorem v_CL_state : g_y y_CL_state b_CL_state 3 (some .int) 2 := ⟨q_535, q_1, by decide +kernel, by decide +kernel, by decide +kernel⟩
theorem v_CL_word : g_y y_CL_word b_CL_word 4 (some .int) 3 := ⟨q_542, q_1, by decide +kernel, by decide +kernel, by decide +kernel⟩
theorem v_CL_listed : g_y y_CL_listed b_CL_listed 6 (some .int) 3 := ⟨q_549, q_1, by decide +kernel, by decide +kernel, by decide +kernel⟩
theorem v_CL_needNotNegative : g_y y_CL_needNotNegative b_CL_needNotNegative 1 none 1 := ⟨q_552, q_1, by decide +kernel, by decide +kernel, by decide +kernel⟩
theorem v_CL_hidden : g_y y_CL_hidden b_CL_hidden 5 (some .int) 1 := ⟨q_560, q_1, by decide +kernel, by decide +kernel, by decide +kernel⟩
theorem v_CL_proves : g_y y_CL_proves b_CL_proves 5 (some .int) 2 := ⟨q_568, q_1, by decide +kernel, by decide +kernel, by decide +kernel⟩
theorem v_CL_nextTurn : g_y y_CL_nextTurn b_CL_nextTurn 5 (some .int) 2 := ⟨q_572, q_1, by decide +kernel, by decide +kernel, by decide +kernel⟩
theorem v_TL_nextBehind : g_y y_TL_nextBehind b_TL_nextBehind 6 (some .int) 2 := ⟨q_577, q_6, by decide +kernel, by decide +kernel, by decide +kernel⟩
theorem v_CS_nextTurn : g_y y_CS_nextTurn b_CS_nextTurn 7 (some .int) 3 := ⟨q_581, q_16, by decide +kernel, by decide +kernel, by decide +kernel⟩
theorem v_CL_touched : g_y y_CL_touched b_CL_touched 3 (some .int) 2 := ⟨q_589, q_1, by decide +kernel, by decide +kernel, by decide +kernel⟩
theorem v_MO_init : g_y y_MO_init b_MO_init 2 none 1 := ⟨q_594, q_8, by decide +kernel, by decide +kernel, by decide +kernel⟩
theorem v_MO_thrown : g_y y_MO_thrown b_MO_thrown 1 (some .int) 0 := ⟨q_661, q_8, by decide +kernel, by decide +kernel, by decide +kernel⟩
theorem v_MO_fault : g_y y_MO_fault b_MO_fault 7 (some .int) 2 := ⟨q_665, q_8, by decide +kernel, by decide +kernel, by decide +kernel⟩
theorem v_MO_in : g_y y_MO_in b_MO_in 3 (some .boolean) 3 := ⟨q_668, q_8, by decide +kernel, by decide +kernel, by decide +kernel⟩
theorem v_MO_goes : g_y y_MO_goes b_MO_goes 3 (some .boolean) 2 := ⟨q_672, q_8, by decide +kernel, by decide +kernel, by decide +kernel⟩
theorem v_MO_act : g_y y_MO_act b_MO_act 3 (some .int) 2 := ⟨q_676, q_8, by decide +kernel, by decide +kernel, by decide +kernel⟩
theorem v_MO_shows : g_y y_MO_shows b_MO_shows 5 (some .boolean) 3 := ⟨q_680, q_8, by decide +kernel, by decide +kernel, by decide +kernel⟩
theorem v_MO_isCase : g_y y_MO_isCase b_MO_isCase 2 (some .boolean) 1 := ⟨q_684, q_8, by decide +kernel, by decide +kernel, by decide +kernel⟩
theorem v_MO_way : g_y y_MO_way b_MO_way 5 (some .int) 3 := ⟨q_688, q_8, by decide +kernel, by decide +kernel, by decide +kernel⟩
theorem v_MO_change : g_y y_MO_change b_MO_change 5 (some .int) 2 := ⟨q_692, q_8, by decide +kernel, by decide +kernel, by decide +kernel⟩
theorem v_MO_isDay : g_y y_MO_isDay b_MO_isDay 1 (some .boolean) 1 := ⟨q_695, q_8, by decide +kernel, by decide +kernel, by decide +kernel⟩
theorem v_MO_result : g_y y_MO_result b_MO_result 9 (some .int) 4 := ⟨q_700, q_8, by decide +kernel, by decide +kernel, by decide +kernel⟩
theorem v_MO_state : g_y y_MO_state b_MO_state 3 (some .int) 2 := ⟨q_704, q_8, by decide +kernel, by decide +kernel, by decide +kernel⟩
theorem v_MO_stateOf : g_y y_MO_stateOf b_MO_stateOf 8 (some .int) 2 := ⟨q_708, q_8, by decide +kernel, by decide +kernel, by decide +kernel⟩
theorem v_MO_lastTouch : g_y y_MO_lastTouch b_MO_lastTouch 4 (some .int) 2 := ⟨q_712, q_8, by decide +kernel, by decide +kernel, by decide +kernel⟩
theorem v_MO_isTouched : g_y y_MO_isTouched b_MO_isTouched 3 (some .boolean) 2 := ⟨q_716, q_8, by decide +kernel, by decide +kernel, by decide +kernel⟩
theorem v_MO_wordOf : g_y y_MO_wordOf b_MO_wordOf 9 (some .int) 4 := ⟨q_720, q_8, by decide +kernel, by decide +kernel, by decide +kernel⟩
theorem v_MO_word : g_y y_MO_word b_MO_word 4 (some .int) 3 := ⟨q_724, q_8, by decide +kernel, by decide +kernel, by decide +kernel⟩
theorem v_MO_listed : g_y y_MO_listed b_MO_listed 6 (some .int) 3 := ⟨q_728, q_8, by decide +kernel, by decide +kernel, by decide +kernel⟩
theorem v_MO_hidden : g_y y_MO_hidden b_MO_hidden 4 (some .int) 1 := ⟨q_732, q_8, by decide +kernel, by decide +kernel, by decide +kernel⟩
theorem v_MO_allShown : g_y y_MO_allShown b_MO_allShown 3 (some .int) 0 := ⟨q_736, q_8, by decide +kernel, by decide +kernel, by decide +kernel⟩
theorem v_MO_proves : g_y y_MO_proves b_MO_proves 4 (some .int) 2 := ⟨q_740, q_8, by decide +kernel, by decide +kernel, by decide +kernel⟩
theorem v_MO_nextDay : g_y y_MO_nextDay b_MO_nextDay 6 (some .int) 2 := ⟨q_744, q_8, by decide +kernel, by decide +kernel, by decide +kernel⟩
theorem v_MO_touched : g_y y_MO_touched b_MO_touched 3 (some .int) 2 := ⟨q_749, q_8, by decide +kernel, by decide +kernel, by decide +kernel⟩
theorem v_MO_plan : g_y y_MO_plan b_MO_plan 7 (some .int) 1 := ⟨q_753, q_8, by decide +kernel, by decide +kernel, by decide +kernel⟩
theorem v_MO_reckon : g_y y_MO_reckon b_MO_reckon 7 none 0 := ⟨q_757, q_8, by decide +kernel, by decide +kernel, by decide +kernel⟩
theorem v_MO_has : g_y y_MO_has b_MO_has 2 (some .boolean) 2 := ⟨q_760, q_8, by decide +kernel, by decide +kernel, by decide +kernel⟩
theorem v_MO_between : g_y y_MO_between b_MO_between 3 (some .int) 2 := ⟨q_764, q_8, by decide +kernel, by decide +kernel, by decide +kernel⟩
theorem v_MO_shownBy : g_y y_MO_shownBy b_MO_shownBy 4 (some .int) 1 := ⟨q_768, q_8, by decide +kernel, by decide +kernel, by decide +kernel⟩
theorem v_MO_leastOf : g_y y_MO_leastOf b_MO_leastOf 4 (some .int) 1 := ⟨q_772, q_8, by decide +kernel, by decide +kernel, by decide +kernel⟩
theorem v_MO_sizeOf : g_y y_MO_sizeOf b_MO_sizeOf 3 (some .int) 1 := ⟨q_775, q_8, by decide +kernel, by decide +kernel, by decide +kernel⟩
theorem v_MO_order : g_y y_MO_order b_MO_order 9 none 0 := ⟨q_779, q_8, by decide +kernel, by decide +kernel, by decide +kernel⟩
theorem v_MO_planned : g_y y_MO_planned b_MO_planned 2 (some .int) 1 := ⟨q_783, q_8, by decide +kernel, by decide +kernel, by decide +kernel⟩
theorem v_MO_seconds : g_y y_MO_seconds b_MO_seconds 1 (some .int) 0 := ⟨q_787, q_8, by decide +kernel, by decide +kernel, by decide +kernel⟩
theorem v_MO_from : g_y y_MO_from b_MO_from 5 (some .int) 1 := ⟨q_791, q_8, by decide +kernel, by decide +kernel, by decide +kernel⟩
end
