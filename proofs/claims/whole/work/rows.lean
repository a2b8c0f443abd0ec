section
-- ===== PART A: goes FIRST, ahead of the names: the tables' words, and 'selects' of the private methods out of them =====
/-- a private method of a class that the tables say can be made, by its rows of tables_1 -/
def lw_okq (q : MethodName × Nat) : Prop := (q.1.cls ≠ "java/lang/invoke/MethodHandle" ∧ q.1.cls ≠ "java/lang/invoke/VarHandle") ∧ Cond.instantiable q.1.cls q.2 ∈ tables_1 ∧ Cond.privateMethod q.1 ∈ tables_1 ∧ Cond.instanceMethod q.1 ∈ tables_1
theorem lw_p0 : lw_okq (⟨"java/lang/Throwable", "fillInStackTrace", "(I)Ljava/lang/Throwable;"⟩, 6) := ⟨⟨by decide +kernel, by decide +kernel⟩, List.mem_of_getElem? (i := 185) (by decide +kernel), List.mem_of_getElem? (i := 183) (by decide +kernel), List.mem_of_getElem? (i := 184) (by decide +kernel)⟩
theorem lw_p1 : lw_okq (⟨"CaseLists", "caseOf", "(II)I"⟩, 7) := ⟨⟨by decide +kernel, by decide +kernel⟩, List.mem_of_getElem? (i := 22) (by decide +kernel), List.mem_of_getElem? (i := 219) (by decide +kernel), List.mem_of_getElem? (i := 220) (by decide +kernel)⟩
theorem lw_p2 : lw_okq (⟨"java/util/ArrayList", "add", "(Ljava/lang/Object;[Ljava/lang/Object;I)V"⟩, 3) := ⟨⟨by decide +kernel, by decide +kernel⟩, List.mem_of_getElem? (i := 36) (by decide +kernel), List.mem_of_getElem? (i := 294) (by decide +kernel), List.mem_of_getElem? (i := 295) (by decide +kernel)⟩
theorem lw_p3 : lw_okq (⟨"java/util/ArrayList", "grow", "()[Ljava/lang/Object;"⟩, 3) := ⟨⟨by decide +kernel, by decide +kernel⟩, List.mem_of_getElem? (i := 36) (by decide +kernel), List.mem_of_getElem? (i := 298) (by decide +kernel), List.mem_of_getElem? (i := 299) (by decide +kernel)⟩
theorem lw_p4 : lw_okq (⟨"java/util/ArrayList", "grow", "(I)[Ljava/lang/Object;"⟩, 3) := ⟨⟨by decide +kernel, by decide +kernel⟩, List.mem_of_getElem? (i := 36) (by decide +kernel), List.mem_of_getElem? (i := 302) (by decide +kernel), List.mem_of_getElem? (i := 303) (by decide +kernel)⟩
theorem lw_p5 : lw_okq (⟨"CaseLists", "casesWith", "(I)I"⟩, 7) := ⟨⟨by decide +kernel, by decide +kernel⟩, List.mem_of_getElem? (i := 22) (by decide +kernel), List.mem_of_getElem? (i := 392) (by decide +kernel), List.mem_of_getElem? (i := 393) (by decide +kernel)⟩
theorem lw_p6 : lw_okq (⟨"CaseLists", "unprovedCases", "(I)I"⟩, 7) := ⟨⟨by decide +kernel, by decide +kernel⟩, List.mem_of_getElem? (i := 22) (by decide +kernel), List.mem_of_getElem? (i := 437) (by decide +kernel), List.mem_of_getElem? (i := 438) (by decide +kernel)⟩
theorem lw_p7 : lw_okq (⟨"CaseLists", "stateOn", "(II)I"⟩, 7) := ⟨⟨by decide +kernel, by decide +kernel⟩, List.mem_of_getElem? (i := 22) (by decide +kernel), List.mem_of_getElem? (i := 441) (by decide +kernel), List.mem_of_getElem? (i := 442) (by decide +kernel)⟩
theorem lw_p8 : lw_okq (⟨"CaseLists", "firstCountingDay", "(II)I"⟩, 7) := ⟨⟨by decide +kernel, by decide +kernel⟩, List.mem_of_getElem? (i := 22) (by decide +kernel), List.mem_of_getElem? (i := 445) (by decide +kernel), List.mem_of_getElem? (i := 446) (by decide +kernel)⟩
theorem lw_p9 : lw_okq (⟨"CaseLists$Tours", "shownBy", "(I)I"⟩, 6) := ⟨⟨by decide +kernel, by decide +kernel⟩, List.mem_of_getElem? (i := 79) (by decide +kernel), List.mem_of_getElem? (i := 462) (by decide +kernel), List.mem_of_getElem? (i := 463) (by decide +kernel)⟩
theorem lw_p10 : lw_okq (⟨"CaseLists$Tours", "weighRests", "(I)V"⟩, 6) := ⟨⟨by decide +kernel, by decide +kernel⟩, List.mem_of_getElem? (i := 79) (by decide +kernel), List.mem_of_getElem? (i := 470) (by decide +kernel), List.mem_of_getElem? (i := 471) (by decide +kernel)⟩
theorem lw_p11 : lw_okq (⟨"CaseLists$Tours", "covers", "(II)Z"⟩, 6) := ⟨⟨by decide +kernel, by decide +kernel⟩, List.mem_of_getElem? (i := 79) (by decide +kernel), List.mem_of_getElem? (i := 474) (by decide +kernel), List.mem_of_getElem? (i := 475) (by decide +kernel)⟩
theorem lw_p12 : lw_okq (⟨"CaseLists$Tours", "leastRest", "(II)I"⟩, 6) := ⟨⟨by decide +kernel, by decide +kernel⟩, List.mem_of_getElem? (i := 79) (by decide +kernel), List.mem_of_getElem? (i := 478) (by decide +kernel), List.mem_of_getElem? (i := 479) (by decide +kernel)⟩
theorem lw_p13 : lw_okq (⟨"CaseLists$Tours", "weightOfNext", "(III)I"⟩, 6) := ⟨⟨by decide +kernel, by decide +kernel⟩, List.mem_of_getElem? (i := 79) (by decide +kernel), List.mem_of_getElem? (i := 483) (by decide +kernel), List.mem_of_getElem? (i := 484) (by decide +kernel)⟩
theorem lw_p14 : lw_okq (⟨"CaseLists$Tours", "wayBetween", "(II)I"⟩, 6) := ⟨⟨by decide +kernel, by decide +kernel⟩, List.mem_of_getElem? (i := 79) (by decide +kernel), List.mem_of_getElem? (i := 487) (by decide +kernel), List.mem_of_getElem? (i := 488) (by decide +kernel)⟩
theorem lw_p15 : lw_okq (⟨"CaseLists$Tours", "bestFirst", "()I"⟩, 6) := ⟨⟨by decide +kernel, by decide +kernel⟩, List.mem_of_getElem? (i := 79) (by decide +kernel), List.mem_of_getElem? (i := 495) (by decide +kernel), List.mem_of_getElem? (i := 496) (by decide +kernel)⟩
def lw_privs_1 : List (MethodName × Nat) := [(⟨"java/lang/Throwable", "fillInStackTrace", "(I)Ljava/lang/Throwable;"⟩, 6), (⟨"CaseLists", "caseOf", "(II)I"⟩, 7), (⟨"java/util/ArrayList", "add", "(Ljava/lang/Object;[Ljava/lang/Object;I)V"⟩, 3), (⟨"java/util/ArrayList", "grow", "()[Ljava/lang/Object;"⟩, 3), (⟨"java/util/ArrayList", "grow", "(I)[Ljava/lang/Object;"⟩, 3), (⟨"CaseLists", "casesWith", "(I)I"⟩, 7), (⟨"CaseLists", "unprovedCases", "(I)I"⟩, 7), (⟨"CaseLists", "stateOn", "(II)I"⟩, 7), (⟨"CaseLists", "firstCountingDay", "(II)I"⟩, 7), (⟨"CaseLists$Tours", "shownBy", "(I)I"⟩, 6), (⟨"CaseLists$Tours", "weighRests", "(I)V"⟩, 6), (⟨"CaseLists$Tours", "covers", "(II)Z"⟩, 6), (⟨"CaseLists$Tours", "leastRest", "(II)I"⟩, 6), (⟨"CaseLists$Tours", "weightOfNext", "(III)I"⟩, 6), (⟨"CaseLists$Tours", "wayBetween", "(II)I"⟩, 6), (⟨"CaseLists$Tours", "bestFirst", "()I"⟩, 6)]
theorem lw_r1 : ∀ q ∈ lw_privs_1, lw_okq q := List.forall_mem_cons.mpr ⟨lw_p0, List.forall_mem_cons.mpr ⟨lw_p1, List.forall_mem_cons.mpr ⟨lw_p2, List.forall_mem_cons.mpr ⟨lw_p3, List.forall_mem_cons.mpr ⟨lw_p4, List.forall_mem_cons.mpr ⟨lw_p5, List.forall_mem_cons.mpr ⟨lw_p6, List.forall_mem_cons.mpr ⟨lw_p7, List.forall_mem_cons.mpr ⟨lw_p8, List.forall_mem_cons.mpr ⟨lw_p9, List.forall_mem_cons.mpr ⟨lw_p10, List.forall_mem_cons.mpr ⟨lw_p11, List.forall_mem_cons.mpr ⟨lw_p12, List.forall_mem_cons.mpr ⟨lw_p13, List.forall_mem_cons.mpr ⟨lw_p14, List.forall_mem_cons.mpr ⟨lw_p15, fun _ h => absurd h List.not_mem_nil⟩⟩⟩⟩⟩⟩⟩⟩⟩⟩⟩⟩⟩⟩⟩⟩
theorem lw_p16 : lw_okq (⟨"CaseLists$Tours", "weightOfFirst", "(I)I"⟩, 6) := ⟨⟨by decide +kernel, by decide +kernel⟩, List.mem_of_getElem? (i := 79) (by decide +kernel), List.mem_of_getElem? (i := 499) (by decide +kernel), List.mem_of_getElem? (i := 500) (by decide +kernel)⟩
theorem lw_p17 : lw_okq (⟨"CaseLists$Tours", "bestNext", "(II)I"⟩, 6) := ⟨⟨by decide +kernel, by decide +kernel⟩, List.mem_of_getElem? (i := 79) (by decide +kernel), List.mem_of_getElem? (i := 503) (by decide +kernel), List.mem_of_getElem? (i := 504) (by decide +kernel)⟩
theorem lw_p18 : lw_okq (⟨"CaseLists", "nextTurn", "(II)I"⟩, 7) := ⟨⟨by decide +kernel, by decide +kernel⟩, List.mem_of_getElem? (i := 22) (by decide +kernel), List.mem_of_getElem? (i := 570) (by decide +kernel), List.mem_of_getElem? (i := 571) (by decide +kernel)⟩
theorem lw_p19 : lw_okq (⟨"CaseListsModel", "goes", "(ZZ)Z"⟩, 20) := ⟨⟨by decide +kernel, by decide +kernel⟩, List.mem_of_getElem? (i := 591) (by decide +kernel), List.mem_of_getElem? (i := 670) (by decide +kernel), List.mem_of_getElem? (i := 671) (by decide +kernel)⟩
theorem lw_p20 : lw_okq (⟨"CaseListsModel", "isCase", "(I)Z"⟩, 20) := ⟨⟨by decide +kernel, by decide +kernel⟩, List.mem_of_getElem? (i := 591) (by decide +kernel), List.mem_of_getElem? (i := 682) (by decide +kernel), List.mem_of_getElem? (i := 683) (by decide +kernel)⟩
theorem lw_p21 : lw_okq (⟨"CaseListsModel", "stateOf", "(II)I"⟩, 20) := ⟨⟨by decide +kernel, by decide +kernel⟩, List.mem_of_getElem? (i := 591) (by decide +kernel), List.mem_of_getElem? (i := 706) (by decide +kernel), List.mem_of_getElem? (i := 707) (by decide +kernel)⟩
theorem lw_p22 : lw_okq (⟨"CaseListsModel", "lastTouch", "(II)I"⟩, 20) := ⟨⟨by decide +kernel, by decide +kernel⟩, List.mem_of_getElem? (i := 591) (by decide +kernel), List.mem_of_getElem? (i := 710) (by decide +kernel), List.mem_of_getElem? (i := 711) (by decide +kernel)⟩
theorem lw_p23 : lw_okq (⟨"CaseListsModel", "isTouched", "(II)Z"⟩, 20) := ⟨⟨by decide +kernel, by decide +kernel⟩, List.mem_of_getElem? (i := 591) (by decide +kernel), List.mem_of_getElem? (i := 714) (by decide +kernel), List.mem_of_getElem? (i := 715) (by decide +kernel)⟩
theorem lw_p24 : lw_okq (⟨"CaseListsModel", "wordOf", "(IIII)I"⟩, 20) := ⟨⟨by decide +kernel, by decide +kernel⟩, List.mem_of_getElem? (i := 591) (by decide +kernel), List.mem_of_getElem? (i := 718) (by decide +kernel), List.mem_of_getElem? (i := 719) (by decide +kernel)⟩
theorem lw_p25 : lw_okq (⟨"CaseListsModel", "allShown", "()I"⟩, 20) := ⟨⟨by decide +kernel, by decide +kernel⟩, List.mem_of_getElem? (i := 591) (by decide +kernel), List.mem_of_getElem? (i := 734) (by decide +kernel), List.mem_of_getElem? (i := 735) (by decide +kernel)⟩
theorem lw_p26 : lw_okq (⟨"CaseListsModel", "nextDay", "(II)I"⟩, 20) := ⟨⟨by decide +kernel, by decide +kernel⟩, List.mem_of_getElem? (i := 591) (by decide +kernel), List.mem_of_getElem? (i := 742) (by decide +kernel), List.mem_of_getElem? (i := 743) (by decide +kernel)⟩
theorem lw_p27 : lw_okq (⟨"CaseListsModel", "reckon", "()V"⟩, 20) := ⟨⟨by decide +kernel, by decide +kernel⟩, List.mem_of_getElem? (i := 591) (by decide +kernel), List.mem_of_getElem? (i := 755) (by decide +kernel), List.mem_of_getElem? (i := 756) (by decide +kernel)⟩
theorem lw_p28 : lw_okq (⟨"CaseListsModel", "between", "(II)I"⟩, 20) := ⟨⟨by decide +kernel, by decide +kernel⟩, List.mem_of_getElem? (i := 591) (by decide +kernel), List.mem_of_getElem? (i := 762) (by decide +kernel), List.mem_of_getElem? (i := 763) (by decide +kernel)⟩
theorem lw_p29 : lw_okq (⟨"CaseListsModel", "shownBy", "(I)I"⟩, 20) := ⟨⟨by decide +kernel, by decide +kernel⟩, List.mem_of_getElem? (i := 591) (by decide +kernel), List.mem_of_getElem? (i := 766) (by decide +kernel), List.mem_of_getElem? (i := 767) (by decide +kernel)⟩
theorem lw_p30 : lw_okq (⟨"CaseListsModel", "leastOf", "(I)I"⟩, 20) := ⟨⟨by decide +kernel, by decide +kernel⟩, List.mem_of_getElem? (i := 591) (by decide +kernel), List.mem_of_getElem? (i := 770) (by decide +kernel), List.mem_of_getElem? (i := 771) (by decide +kernel)⟩
theorem lw_p31 : lw_okq (⟨"CaseListsModel", "order", "()V"⟩, 20) := ⟨⟨by decide +kernel, by decide +kernel⟩, List.mem_of_getElem? (i := 591) (by decide +kernel), List.mem_of_getElem? (i := 777) (by decide +kernel), List.mem_of_getElem? (i := 778) (by decide +kernel)⟩
def lw_privs_2 : List (MethodName × Nat) := [(⟨"CaseLists$Tours", "weightOfFirst", "(I)I"⟩, 6), (⟨"CaseLists$Tours", "bestNext", "(II)I"⟩, 6), (⟨"CaseLists", "nextTurn", "(II)I"⟩, 7), (⟨"CaseListsModel", "goes", "(ZZ)Z"⟩, 20), (⟨"CaseListsModel", "isCase", "(I)Z"⟩, 20), (⟨"CaseListsModel", "stateOf", "(II)I"⟩, 20), (⟨"CaseListsModel", "lastTouch", "(II)I"⟩, 20), (⟨"CaseListsModel", "isTouched", "(II)Z"⟩, 20), (⟨"CaseListsModel", "wordOf", "(IIII)I"⟩, 20), (⟨"CaseListsModel", "allShown", "()I"⟩, 20), (⟨"CaseListsModel", "nextDay", "(II)I"⟩, 20), (⟨"CaseListsModel", "reckon", "()V"⟩, 20), (⟨"CaseListsModel", "between", "(II)I"⟩, 20), (⟨"CaseListsModel", "shownBy", "(I)I"⟩, 20), (⟨"CaseListsModel", "leastOf", "(I)I"⟩, 20), (⟨"CaseListsModel", "order", "()V"⟩, 20)]
theorem lw_r2 : ∀ q ∈ lw_privs_2, lw_okq q := List.forall_mem_cons.mpr ⟨lw_p16, List.forall_mem_cons.mpr ⟨lw_p17, List.forall_mem_cons.mpr ⟨lw_p18, List.forall_mem_cons.mpr ⟨lw_p19, List.forall_mem_cons.mpr ⟨lw_p20, List.forall_mem_cons.mpr ⟨lw_p21, List.forall_mem_cons.mpr ⟨lw_p22, List.forall_mem_cons.mpr ⟨lw_p23, List.forall_mem_cons.mpr ⟨lw_p24, List.forall_mem_cons.mpr ⟨lw_p25, List.forall_mem_cons.mpr ⟨lw_p26, List.forall_mem_cons.mpr ⟨lw_p27, List.forall_mem_cons.mpr ⟨lw_p28, List.forall_mem_cons.mpr ⟨lw_p29, List.forall_mem_cons.mpr ⟨lw_p30, List.forall_mem_cons.mpr ⟨lw_p31, fun _ h => absurd h List.not_mem_nil⟩⟩⟩⟩⟩⟩⟩⟩⟩⟩⟩⟩⟩⟩⟩⟩
def lw_privs : List (MethodName × Nat) := lw_privs_1 ++ (lw_privs_2)
def lw_tbl : List Cond := k2_sels lw_privs ++ tables_1
theorem lw_privs_ok : ∀ q ∈ lw_privs, lw_okq q := by
  show ∀ q ∈ lw_privs_1 ++ (lw_privs_2), lw_okq q
  exact List.forall_mem_append.mpr ⟨lw_r1, lw_r2⟩
end
section
/-! ===== BEGIN words of one list among another's, by their places ===== -/
theorem goodIn_r {big : List Cond} (ws : List Cond) (ps : List Nat) (hp : ws = ps.filterMap (fun i => big[i]?)) (h : ws.all goodWord = true) : GoodIn big ws := by
  intro w hw
  have h1 := List.all_eq_true.mp h w hw
  rw [hp] at hw
  obtain ⟨i, -, hi⟩ := List.mem_filterMap.mp hw
  have hm : w ∈ big := by first | exact List.mem_of_getElem? hi | exact List.getElem?_mem hi
  exact ⟨hm, good_of_word h1⟩
theorem goodIn_app {big a b : List Cond} (ha : GoodIn big a) (hb : GoodIn big b) : GoodIn big (a ++ b) := fun w h => (List.mem_append.mp h).elim (ha w) (hb w)
theorem goodIn_ca {big a b : List Cond} {c : Cond} (ha : GoodIn big (c :: a)) (hb : GoodIn big b) : GoodIn big (c :: (a ++ b)) := fun w h => (List.mem_cons.mp h).elim (fun e => ha w (List.mem_cons.mpr (Or.inl e))) (fun h => (List.mem_append.mp h).elim (fun h => ha w (List.mem_cons.mpr (Or.inr h))) (hb w))
theorem goodIn_sub {big ws : List Cond} (hm : ∀ w ∈ ws, w ∈ big) (h : ws.all goodWord = true) : GoodIn big ws := fun w hw => ⟨hm w hw, good_of_word (List.all_eq_true.mp h w hw)⟩
/-! ===== END ===== -/

/-! ===== BEGIN exceptions that leave a method, and their catching by the caller (launches without stack traces) ===== -/
section VXA
/-! The laws vx_back, vx_callV, vx_callS, vx_callSW, vx_throw0, vx_throwS follow proofs of the library, with one case more: JvmDerived/Free/Laws.lean (Back.of_free), Shelf42/LK1.lean (callV, callS), Shelf/KitTraced.lean (throwNew0V, throwNewS). -/
/-- where a method has thrown q: the class by its name, the cell, what was written, the world -/
def vx_T (XC : String → State → State → Prop) (st : State) (q : Addr) (t : State) (mc ms : Nat) (free : Addr → Prop) : Prop :=
  ∃ (E : String) (ce : Cell) (L : List Loc), XC E st t ∧ t.heap[q]? = some ce ∧ ce.vm = .none ∧ st.vm.findClass E = some ce.cls ∧ st.WarmedH t.vm ∧ st.sameButNew ({ t with vm := st.vm } : State) L mc ms ∧ ∀ z ∈ L, free z.base
def vx_Q (Qc : Array Value → State → Outcome → State → Prop) (XC : String → State → State → Prop) (mc ms : Nat) (free : Addr → Prop) : Array Value → State → Outcome → State → Prop := fun a st o t =>
  (Qc a st o t ∧ ∃ L, FrameEnd st o t L mc ms ∧ ∀ q ∈ L, free q.base) ∨ ∃ q, o = .threw q ∧ vx_T XC st q t mc ms free
/-- a callee that returns or throws -/
def vx_Met (l : Launch) (y : MethodName) (ws : List Cond) (rm : Room) (Pc : Array Value → State → Prop) (Qc : Array Value → State → Outcome → State → Prop) (XC : String → State → State → Prop) (mc ms : Nat) (free : Addr → Prop) : Prop :=
  MetFree l y (headSpec ws rm) Pc (fun _ _ _ _ _ => True) (vx_Q Qc XC mc ms free)
def vx_Post (XC : String → State → State → Prop) (mc ms : Nat) (free : Addr → Prop) : Pt → Array Value → Addr → Pt → Prop := fun A a q B =>
  ∃ (g : JFrame) (mk : MethodId) (t : State) (L : List Loc) (E : String) (ce : Cell), B.U.heap = t.heap ∧ B.U.vm = t.vm ∧ XC E (A.U.calling g mk a) t ∧ t.heap[q]? = some ce ∧ ce.vm = .none ∧ A.U.vm.findClass E = some ce.cls ∧ B.locs = A.locs ++ L ∧ (∀ z ∈ L, free z.base) ∧ B.cells = A.cells + mc ∧ B.slots = A.slots + ms
def vx_Back (l : Launch) (R : Room) (p : Program) (e : Env) (below : List Frame) (s : State) (sargs : Array Value) (y : MethodName) (len W9 : Nat)
    (Pre : Pt → Array Value → Prop) (Post : Pt → Array Value → Option Value → Pt → Prop) (PostX : Pt → Array Value → Addr → Pt → Prop) : Prop :=
  ∀ (m : MethodId) (meth : Method) (c : Code) (A : Pt) (g : JFrame) (ig : Instr) (mk : MethodId) (a : Array Value),
    Stand p l e R s m sargs below meth c A.U A.locs A.cells A.slots → g.method = m → g.locals.size = c.maxLocals → decode c.code g.pc = .ok (ig, len) →
    2 * g.monitorRoom + (g.stack.map fun v => v.category).sum ≤ W9 → A.U.methodNamed? y = some mk → Pre A a →
    (∃ (v : Option Value) (B : Pt), Stand p l e R s m sargs below meth c B.U B.locs B.cells B.slots ∧ Post A a v B ∧
      Steps p.tables e below (doInvoke e (A.U.setTop g) [] mk a).1 (B.U.setTop { g with pc := g.pc + len, stack := v.toList ++ g.stack })) ∨
    (∃ (q : Addr) (B : Pt), Stand p l e R s m sargs below meth c B.U B.locs B.cells B.slots ∧ PostX A a q B ∧
      Steps p.tables e below (doInvoke e (A.U.setTop g) [] mk a).1 ((B.U.setTop g).pushFrame (.throwing q)))
section Payer
variable {l : Launch} {R : Room} {p : Program} {e : Env} {below : List Frame} {s : State} {sargs : Array Value} {y : MethodName} {len W9 : Nat}
theorem vx_back {ws : List Cond} {rm : Room} {Pc : Array Value → State → Prop} {Qc : Array Value → State → Outcome → State → Prop} {XC : String → State → State → Prop} {mc ms : Nat} {free : Addr → Prop} {bytes : ByteArray} {maxL : Nat} {ret : Option FieldType}
    (hM : vx_Met l y ws rm Pc Qc XC mc ms free) (hblind : FrameBlind Pc) (hrc : rm.cells = mc) (hrs : rm.slots = ms)
    (hframes : rm.frames + 1 ≤ R.frames) (hlocals : W9 + (maxL + 11) + rm.locals ≤ R.locals)
    (hws : ∀ w ∈ ws, ∀ a' U, s.WarmedH U.vm → w.before a' U = true) (hcode : Cond.code y bytes maxL ret ∈ ws) (hinit : ∀ a' U, s.WarmedH U.vm → (Cond.initialized y.cls).before a' U = true) :
    vx_Back l R p e below s sargs y len W9 (PreOf R mc ms Pc) (PostOf Qc mc ms free) (vx_Post XC mc ms free) := by
  intro m meth c A g ig mk a X hg hsize hdg hW hn hp
  have h1 : (headSpec ws rm).pre.before a A.U = true := atoms_intro fun w hw => hws w hw _ _ X.warmed
  have h2 : (Cond.code y bytes maxL ret).before a A.U = true := hws _ hcode _ _ X.warmed
  have h3 : (Cond.initialized y.cls).before a A.U = true := hinit _ _ X.warmed
  have h4 : A.cells + (headSpec ws rm).room.cells ≤ R.cells := by rw [show (headSpec ws rm).room.cells = mc from hrc]; exact hp.1
  have h5 : A.slots + (headSpec ws rm).room.slots ≤ R.slots := by rw [show (headSpec ws rm).room.slots = ms from hrs]; exact hp.2.1
  have hPc : Pc a (A.U.calling g mk a) := hblind _ _ _ _ hp.2.2
  obtain ⟨U, Ls, c0, s0⟩ := A
  dsimp only [Pt.U, Pt.locs, Pt.cells, Pt.slots] at h1 h2 h3 h4 h5 X hn hPc ⊢
  obtain ⟨methY, cY, hmY, hcY, -, hlY, -, -, -, -⟩ := Cond.code_spec hn h2
  obtain ⟨kY, hkY, -⟩ := className_of_methodNamed hn
  have hinitY : kY.init = .initialized := Cond.initialized_spec (findClass_of_methodNamed hn) hkY h3
  have h : At U g.method c below := by rw [hg]; exact X.here
  have hlocals9 : W9 + (maxL + 11) + (headSpec ws rm).room.locals ≤ R.locals := hlocals
  have happ : (headSpec ws rm).appliesLoose y e.platform (U.calling g mk a) = true :=
    Spec.appliesLoose_calling (g := g) h hdg hn hkY hinitY
      (X.room_calling (g := g) (R' := (headSpec ws rm).room) hsize hmY hcY hframes (by rw [hlY]; omega) h4 h5) h1
  obtain ⟨mid, hmid⟩ := h.above
  have hfr : (U.setTop g).frames = (.java g :: mid) ++ below := by rw [State.frames_setTop' g h.top, hmid]; rfl
  obtain ⟨o, s₂, hsteps, -, hend, hq⟩ := Steps.callFree hM p X.admits X.cas X.clock (acts := []) hfr happ hPc trivial
  have hq' : vx_Q Qc XC mc ms free a (U.calling g mk a) o s₂ := hq
  rw [State.frames_setTop' g h.top] at hend
  obtain ⟨g₀, hg0⟩ := Option.isSome_iff_exists.mp h.top
  obtain ⟨r, hr⟩ := State.topJava?_eq_some.mp hg0
  have hr' : (({ U with heap := s₂.heap, slotsUsed := s₂.slotsUsed } : State).setVm s₂.vm).frames = .java g₀ :: r := hr
  rcases hq' with ⟨hqc, L, hfe, hL⟩ | ⟨q, rfl, E, ce, L, hx, hce, hcv, hcl, hW₂, hsm, hL⟩
  · obtain ⟨⟨v, rfl⟩, hW₂, e2, q2, q3, q4, q5, q6⟩ := id hfe
    have e3 : s₂ = ({ (U.calling g mk a).setFrames s₂.frames with heap := s₂.heap, slotsUsed := s₂.slotsUsed } : State).setVm s₂.vm := by
      have : s₂ = ({ s₂ with vm := (U.calling g mk a).vm } : State).setVm s₂.vm := rfl
      rw [e2] at this
      exact this
    obtain ⟨c₂, i₂, len₂, hc₂, hd₂, hf₂⟩ := hend
    have hW' : U.WarmedH s₂.vm := hW₂
    have hcc : c₂ = c := by
      have h1 : s₂.code? g.method = U.code? g.method := by
        rw [State.code?_eq, State.code?_eq, hW'.alike.method?]
      exact Option.some.inj (hc₂.symm.trans (h1.trans h.code))
    subst hcc
    have hlen : len₂ = len := by rw [hdg] at hd₂; cases hd₂; rfl
    subst hlen
    have hs₂ : s₂ = (({ U with heap := s₂.heap, slotsUsed := s₂.slotsUsed } : State).setVm s₂.vm).setTop { g with pc := g.pc + len₂, stack := v.toList ++ g.stack } := by
      refine e3.trans ?_
      rw [hf₂, State.calling_eq h.top, State.setFrames_setFrames, State.setTop_of_frames _ hr', hr]
      rfl
    have hsame : U.sameButNew ({ U with heap := s₂.heap, slotsUsed := s₂.slotsUsed } : State) L mc ms := by
      refine ⟨?_, q2, q3, q4, q5, q6⟩
      obtain ⟨t, ht, -⟩ := State.frames_cons hr
      show ({ U with heap := s₂.heap, slotsUsed := s₂.slotsUsed } : State) = { U.setFrames U.frames with heap := s₂.heap, slotsUsed := s₂.slotsUsed }
      rw [State.setFrames_self ht]
    subst hg
    refine Or.inl ⟨v, ⟨(({ U with heap := s₂.heap, slotsUsed := s₂.slotsUsed } : State).setVm s₂.vm), Ls ++ L, c0 + mc, s0 + ms⟩,
      ⟨X.admits, X.cas, X.clock, X.frames, X.room, X.hears, X.method, X.code, (X.here.setHeapUsed s₂.heap s₂.slotsUsed).setVm hW'.alike, X.tail, State.WarmedH.trans X.warmed hW', X.limits, X.bytes, X.same.trans (hsame.setVm s.vm)⟩,
      ⟨g, mk, s₂, L, rfl, rfl, hqc, rfl, hL, rfl, rfl⟩, ?_⟩
    show Steps p.tables e below _ ((({ U with heap := s₂.heap, slotsUsed := s₂.slotsUsed } : State).setVm s₂.vm).setTop { g with pc := g.pc + len₂, stack := v.toList ++ g.stack })
    rw [← hs₂]
    exact hsteps
  · obtain ⟨e2, q2, q3, q4, q5, q6⟩ := id hsm
    have e3 : s₂ = ({ (U.calling g mk a).setFrames s₂.frames with heap := s₂.heap, slotsUsed := s₂.slotsUsed } : State).setVm s₂.vm := by
      have : s₂ = ({ s₂ with vm := (U.calling g mk a).vm } : State).setVm s₂.vm := rfl
      rw [e2] at this
      exact this
    have hf₂ : s₂.frames = .throwing q :: .java g :: U.frames.tail := hend
    have hW' : U.WarmedH s₂.vm := hW₂
    have hs₂ : s₂ = ((({ U with heap := s₂.heap, slotsUsed := s₂.slotsUsed } : State).setVm s₂.vm).setTop g).pushFrame (.throwing q) := by
      refine e3.trans ?_
      rw [hf₂, State.calling_eq h.top, State.setFrames_setFrames, State.pushFrame, State.frames_setTop _ hr', State.setTop_of_frames _ hr', State.setFrames_setFrames, hr]
      rfl
    have hsame : U.sameButNew ({ U with heap := s₂.heap, slotsUsed := s₂.slotsUsed } : State) L mc ms := by
      refine ⟨?_, q2, q3, q4, q5, q6⟩
      obtain ⟨t, ht, -⟩ := State.frames_cons hr
      show ({ U with heap := s₂.heap, slotsUsed := s₂.slotsUsed } : State) = { U.setFrames U.frames with heap := s₂.heap, slotsUsed := s₂.slotsUsed }
      rw [State.setFrames_self ht]
    subst hg
    refine Or.inr ⟨q, ⟨(({ U with heap := s₂.heap, slotsUsed := s₂.slotsUsed } : State).setVm s₂.vm), Ls ++ L, c0 + mc, s0 + ms⟩,
      ⟨X.admits, X.cas, X.clock, X.frames, X.room, X.hears, X.method, X.code, (X.here.setHeapUsed s₂.heap s₂.slotsUsed).setVm hW'.alike, X.tail, State.WarmedH.trans X.warmed hW', X.limits, X.bytes, X.same.trans (hsame.setVm s.vm)⟩,
      ⟨g, mk, s₂, L, E, ce, rfl, rfl, hx, hce, hcv, hcl, rfl, hL, rfl, rfl⟩, ?_⟩
    show Steps p.tables e below _ (((({ U with heap := s₂.heap, slotsUsed := s₂.slotsUsed } : State).setVm s₂.vm).setTop g).pushFrame (.throwing q))
    rw [← hs₂]
    exact hsteps
end Payer
section Calls
variable {p : Program} {l : Launch} {e : Env} {R : Room} {s : State} {m : MethodId} {args : Array Value} {below : List Frame} {meth : Method} {c : Code} {T : State} {locs : List Loc} {cells slots : Nat}
theorem vx_callV (X : Stand p l e R s m args below meth c T locs cells slots) (hexec : p.tables.exec = Jvm.exec) {own C : String} {index : Nat} {y : MethodName} {bytes : ByteArray} {maxL : Nat} {ret : Option FieldType}
    (hown : s.vm.findClass own = some m.cls) (hlink : (Cond.methodLink own index y).before args s = true) (hinst : (Cond.instanceMethod y).before args s = true) (hsel : (Cond.selects C y y).before args s = true)
    (hcode : (Cond.code y bytes maxL ret).before args s = true) (hy : y.cls ≠ "java/lang/invoke/MethodHandle" ∧ y.cls ≠ "java/lang/invoke/VarHandle")
    {W9 : Nat} {Pre : Pt → Array Value → Prop} {Post : Pt → Array Value → Option Value → Pt → Prop} {PostX : Pt → Array Value → Addr → Pt → Prop} (hK : vx_Back l R p e below s args y 3 W9 Pre Post PostX)
    {b : Addr} {cellB : Cell} (hcell : T.heap[b]? = some cellB) (hobj : cellB.vm.isStatics = false) (hcls : s.vm.findClass C = some cellB.cls)
    {g : JFrame} (hg : g.method = m) (hsize : g.locals.size = c.maxLocals) {argsL rest : List Value} (hlen : ∀ sig, parseMethodDescriptor y.desc = some sig → argsL.length = sig.parameters.length)
    (hstack : g.stack = argsL.reverse ++ .ref b :: rest) (hW : 2 * g.monitorRoom + (rest.map fun v => v.category).sum ≤ W9) (hdg : decode c.code g.pc = .ok (.invokevirtual index, 3))
    (hpre : ∀ vm₁, s.WarmedH vm₁ → Pre ⟨T.setVm vm₁, locs, cells, slots⟩ (Value.ref b :: argsL).toArray) :
    (∃ (v : Option Value) (vm₁ : Vm) (B : Pt), s.WarmedH vm₁ ∧ Stand p l e R s m args below meth c B.U B.locs B.cells B.slots ∧ Post ⟨T.setVm vm₁, locs, cells, slots⟩ (Value.ref b :: argsL).toArray v B ∧
      ∀ target, Steps p.tables e below (B.U.setTop { g with pc := g.pc + 3, stack := v.toList ++ rest }) target → Steps p.tables e below (T.setTop g) target) ∨
    (∃ (q : Addr) (vm₁ : Vm) (B : Pt), s.WarmedH vm₁ ∧ Stand p l e R s m args below meth c B.U B.locs B.cells B.slots ∧ PostX ⟨T.setVm vm₁, locs, cells, slots⟩ (Value.ref b :: argsL).toArray q B ∧
      Steps p.tables e below (T.setTop g) ((B.U.setTop { g with stack := rest }).pushFrame (.throwing q))) := by
  obtain ⟨mk, methM, hnamed, hmethM, hstM, habM⟩ := Cond.instanceMethod_spec hinst
  obtain ⟨methM', cM, hmethM', -, -, -, -, -, -, hsigM⟩ := Cond.code_spec hnamed hcode
  cases hmethM.symm.trans hmethM'
  obtain ⟨c2, r2, m2, q1, q2, q3, q4, kP, hkP, hkPi⟩ := Cond.selects_spec hsel
  cases hcls.symm.trans q1
  cases (State.methodFound?_of_named hnamed hy).symm.trans q2
  cases hnamed.symm.trans q3
  have hselP : selectMethod e.platform s.vm cellB.cls mk = .method mk := by rw [Launch.admits_selectMethod X.admits]; exact q4
  obtain ⟨vm₁, X₁, hstep₁⟩ := X.invokevirtual hexec hown hlink hnamed hmethM hstM hkP hkPi hy (a := b) (cell := cellB) hcell
    (fun z h => by rw [h] at hobj; cases hobj) hselP hmethM habM hkP hkPi (g := g) hg (argsL := argsL) (rest := rest) (hlen _ hsigM) hstack hdg
  rcases hK m meth c ⟨T.setVm vm₁, locs, cells, slots⟩ { g with stack := rest } (.invokevirtual index) mk (Value.ref b :: argsL).toArray X₁ hg hsize hdg hW (X₁.named hnamed) (hpre vm₁ X₁.warmed) with ⟨v, B, X', hpost, hsteps⟩ | ⟨q, B, X', hpost, hsteps⟩
  · exact Or.inl ⟨v, vm₁, B, X₁.warmed, X', hpost, fun target h => hstep₁ _ fun acts => by rw [doInvoke_state]; exact hsteps.trans h⟩
  · exact Or.inr ⟨q, vm₁, B, X₁.warmed, X', hpost, hstep₁ _ fun acts => by rw [doInvoke_state]; exact hsteps⟩
theorem vx_callS (X : Stand p l e R s m args below meth c T locs cells slots) (hexec : p.tables.exec = Jvm.exec) {own : String} {index : Nat} {y : MethodName} {bytes : ByteArray} {maxL : Nat} {ret : Option FieldType}
    (hown : s.vm.findClass own = some m.cls) (hlink : (Cond.methodLink own index y).before args s = true) (hstat : (Cond.static y).before args s = true) (hinit : (Cond.initialized y.cls).before args s = true)
    (hcode : (Cond.code y bytes maxL ret).before args s = true) (hy : y.cls ≠ "java/lang/invoke/MethodHandle" ∧ y.cls ≠ "java/lang/invoke/VarHandle")
    {W9 : Nat} {Pre : Pt → Array Value → Prop} {Post : Pt → Array Value → Option Value → Pt → Prop} {PostX : Pt → Array Value → Addr → Pt → Prop} (hK : vx_Back l R p e below s args y 3 W9 Pre Post PostX)
    {g : JFrame} (hg : g.method = m) (hsize : g.locals.size = c.maxLocals) {argsL rest : List Value} (hlen : ∀ sig, parseMethodDescriptor y.desc = some sig → argsL.length = sig.parameters.length)
    (hstack : g.stack = argsL.reverse ++ rest) (hW : 2 * g.monitorRoom + (rest.map fun v => v.category).sum ≤ W9) (hdg : decode c.code g.pc = .ok (.invokestatic index, 3))
    (hpre : ∀ vm₁, s.WarmedH vm₁ → Pre ⟨T.setVm vm₁, locs, cells, slots⟩ argsL.toArray) :
    (∃ (v : Option Value) (vm₁ : Vm) (B : Pt), s.WarmedH vm₁ ∧ Stand p l e R s m args below meth c B.U B.locs B.cells B.slots ∧ Post ⟨T.setVm vm₁, locs, cells, slots⟩ argsL.toArray v B ∧
      ∀ target, Steps p.tables e below (B.U.setTop { g with pc := g.pc + 3, stack := v.toList ++ rest }) target → Steps p.tables e below (T.setTop g) target) ∨
    (∃ (q : Addr) (vm₁ : Vm) (B : Pt), s.WarmedH vm₁ ∧ Stand p l e R s m args below meth c B.U B.locs B.cells B.slots ∧ PostX ⟨T.setVm vm₁, locs, cells, slots⟩ argsL.toArray q B ∧
      Steps p.tables e below (T.setTop g) ((B.U.setTop { g with stack := rest }).pushFrame (.throwing q))) := by
  obtain ⟨mk, hnamed⟩ := Cond.code_named hcode
  obtain ⟨methM, cM, hmethM, -, -, -, -, -, -, hsigM⟩ := Cond.code_spec hnamed hcode
  have hstatic : methM.isStatic = true := Cond.static_spec hnamed hmethM hstat
  obtain ⟨kP, hkP, -⟩ := className_of_methodNamed hnamed
  have hinitP : kP.init = .initialized := Cond.initialized_spec (findClass_of_methodNamed hnamed) hkP hinit
  obtain ⟨vm₁, X₁, hstep₁⟩ := X.invokestatic hexec hown hlink hnamed hmethM hstatic hkP hinitP hy (g := g) hg (argsL := argsL) (rest := rest) (hlen _ hsigM) hstack hdg
  rcases hK m meth c ⟨T.setVm vm₁, locs, cells, slots⟩ { g with stack := rest } (.invokestatic index) mk argsL.toArray X₁ hg hsize hdg hW (X₁.named hnamed) (hpre vm₁ X₁.warmed) with ⟨v, B, X', hpost, hsteps⟩ | ⟨q, B, X', hpost, hsteps⟩
  · exact Or.inl ⟨v, vm₁, B, X₁.warmed, X', hpost, fun target h => hstep₁ _ fun acts => by rw [doInvoke_state]; exact hsteps.trans h⟩
  · exact Or.inr ⟨q, vm₁, B, X₁.warmed, X', hpost, hstep₁ _ fun acts => by rw [doInvoke_state]; exact hsteps⟩
end Calls
theorem vx_cls {s : State} {T : State} {vm₁ : Vm} {E : String} {k : ClassId} (hW : s.WarmedH vm₁) (h : (T.setVm vm₁).vm.findClass E = some k) : s.vm.findClass E = some k := by
  have h1 : vm₁.findClass E = some k := h
  rw [hW.alike.findClass] at h1
  exact h1
/-- the method's frame g, with q thrown over it -/
def vx_W (p : Program) (l : Launch) (e : Env) (R : Room) (s : State) (m : MethodId) (args : Array Value) (below : List Frame) (meth : Method) (c : Code) (H : Heap) (locs : List Loc) (cells slots : Nat) (Q : State → Prop) (g : JFrame) (q : Addr) : Prop :=
  ∀ T : State, T.heap = H → Stand p l e R s m args below meth c T locs cells slots → ∃ t, Steps p.tables e below ((T.setTop g).pushFrame (.throwing q)) t ∧ Q t
def vx_Run (p : Program) (l : Launch) (e : Env) (R : Room) (s : State) (m : MethodId) (args : Array Value) (below : List Frame) (meth : Method) (c : Code) (H : Heap) (locs : List Loc) (cells slots mc ms : Nat) (g : JFrame) (rest : List Value) (Qa : State → Outcome → State → Prop) (XC : String → State → State → Prop) (free : Addr → Prop) : Prop :=
  ∀ T : State, T.heap = H → Stand p l e R s m args below meth c T locs cells slots →
    (∃ (v : Option Value) (st₀ t T' : State) (L : List Loc), st₀.heap = H ∧ Stand p l e R s m args below meth c T' (locs ++ L) (cells + mc) (slots + ms) ∧ (∀ q ∈ L, free q.base) ∧ T'.heap = t.heap ∧ T'.vm = t.vm ∧ Qa st₀ (.returned v) t ∧
      Goes p e below T g T' { g with pc := g.pc + 3, stack := v.toList ++ rest }) ∨
    (∃ (q : Addr) (st₀ t T' : State) (L : List Loc) (E : String) (ce : Cell), st₀.heap = H ∧ Stand p l e R s m args below meth c T' (locs ++ L) (cells + mc) (slots + ms) ∧ (∀ z ∈ L, free z.base) ∧ T'.heap = t.heap ∧ T'.vm = t.vm ∧ XC E st₀ t ∧ t.heap[q]? = some ce ∧ ce.vm = .none ∧ s.vm.findClass E = some ce.cls ∧
      Steps p.tables e below (T.setTop g) ((T'.setTop { g with stack := rest }).pushFrame (.throwing q)))
def vx_X {S : Type} (px : S → Prop) (B : String → S → State → Prop) (A : Nat → Prop) : String → State → State → Prop := fun E st t => ∃ u : S, px u ∧ B E u t ∧ va_F A st t
section Runs
variable {p : Program} {l : Launch} {e : Env} {R : Room} {s : State} {m : MethodId} {args : Array Value} {below : List Frame} {meth : Method} {c : Code} {H : Heap} {locs : List Loc} {cells slots : Nat}
variable {y : MethodName} {bytes cc : ByteArray} {maxL nL mc ms n index : Nat} {ret : Option FieldType} {ws : List Cond} {rm : Room} {Pc : Array Value → State → Prop} {Qc : Array Value → State → Outcome → State → Prop} {XC : String → State → State → Prop} {free : Addr → Prop} {Ts : List Cond} {own C : String} {b : Addr} {As rest : List Value} {g : JFrame}
theorem vx_callBack (cb : CallB R s args own index y bytes maxL ret ws rm mc ms n) (hM : vx_Met l y ws rm Pc Qc XC mc ms free) (hbl : FrameBlind Pc) : vx_Back l R p e below s args y 3 8 (PreOf R mc ms Pc) (PostOf Qc mc ms free) (vx_Post XC mc ms free) := by
  obtain ⟨hrc, hrs, hfr, hlo, hws, hcw, -, hini, -⟩ := cb
  exact vx_back (bytes := bytes) (maxL := maxL) (ret := ret) hM hbl hrc hrs hfr hlo hws hcw (fun a' U hW => word_at hW (Or.inl (by first | rfl | simp [Cond.onTables, Cond.keeps, Cond.steady])) hini)
theorem vx_runV (S : CallFix p m c cc nL s args Ts own) (hM : vx_Met l y ws rm Pc Qc XC mc ms free) (cw : CallW R s args own C index y bytes maxL ret ws rm mc ms n) (hp : PreV s H C b Pc As)
    (hg : g.method = m) (hn : As.length = n) (hsize : g.locals.size = nL) (hstack : g.stack = As.reverse ++ .ref b :: rest) (hW : 2 * g.monitorRoom + (rest.map fun v => v.category).sum ≤ 8) (hdg : decode cc g.pc = .ok (.invokevirtual index, 3)) (hf : cells + mc ≤ R.cells ∧ slots + ms ≤ R.slots) :
    vx_Run p l e R s m args below meth c H locs cells slots mc ms g rest (Qc (Value.ref b :: As).toArray) XC free := by
  have hK : vx_Back l R p e below s args y 3 8 (PreOf R mc ms Pc) (PostOf Qc mc ms free) (vx_Post XC mc ms free) := vx_callBack cw.1 hM hp.1
  obtain ⟨⟨-, -, -, -, -, -, hcode, -, hy, hlen, hl⟩, hin, hse⟩ := cw
  obtain ⟨hx, hb, hml, ho, -⟩ := S
  obtain ⟨-, ⟨cellB, hcB, hoB, hclB⟩, hPc⟩ := hp
  intro T hT X
  rcases vx_callV X hx (C := C) (bytes := bytes) (maxL := maxL) (ret := ret) ho hl hin hse hcode hy hK (by rw [hT]; exact hcB) hoB hclB hg (hsize.trans hml.symm) (argsL := As) (rest := rest) (fun sig h => hn.trans (hlen sig h)) hstack hW (by rw [hb]; exact hdg)
    (fun vm₁ hW₁ => ⟨hf.1, hf.2, hPc (T.setVm vm₁) hT hW₁⟩) with ⟨v, vm₁, ⟨U', l2, c2, s2⟩, hW₁, X', ⟨g', mk, t, L, e1, e2, hq, h1, hL, h2, h3⟩, st⟩ | ⟨q, vm₁, ⟨U', l2, c2, s2⟩, hW₁, X', ⟨g', mk, t, L, E, ce, e1, e2, hq, hce, hcv, hcl, h1, hL, h2, h3⟩, st⟩
  · dsimp only [Pt.U, Pt.locs, Pt.cells, Pt.slots] at X' e1 e2 h1 h2 h3 st
    subst h1; subst h2; subst h3
    exact Or.inl ⟨v, (T.setVm vm₁).calling g' mk (Value.ref b :: As).toArray, t, U', L, hT, X', hL, e1, e2, hq, st⟩
  · dsimp only [Pt.U, Pt.locs, Pt.cells, Pt.slots] at X' e1 e2 h1 h2 h3 st hcl
    subst h1; subst h2; subst h3
    exact Or.inr ⟨q, (T.setVm vm₁).calling g' mk (Value.ref b :: As).toArray, t, U', L, E, ce, hT, X', hL, e1, e2, hq, hce, hcv, vx_cls hW₁ hcl, st⟩
theorem vx_runS (S : CallFix p m c cc nL s args Ts own) (hM : vx_Met l y ws rm Pc Qc XC mc ms free) (cw : CallB R s args own index y bytes maxL ret ws rm mc ms n ∧ (Cond.static y).before args s = true) (hp : PreS s H Pc As)
    (hg : g.method = m) (hn : As.length = n) (hsize : g.locals.size = nL) (hstack : g.stack = As.reverse ++ rest) (hW : 2 * g.monitorRoom + (rest.map fun v => v.category).sum ≤ 8) (hdg : decode cc g.pc = .ok (.invokestatic index, 3)) (hf : cells + mc ≤ R.cells ∧ slots + ms ≤ R.slots) :
    vx_Run p l e R s m args below meth c H locs cells slots mc ms g rest (Qc As.toArray) XC free := by
  have hK : vx_Back l R p e below s args y 3 8 (PreOf R mc ms Pc) (PostOf Qc mc ms free) (vx_Post XC mc ms free) := vx_callBack cw.1 hM hp.1
  obtain ⟨⟨-, -, -, -, -, -, hcode, hini, hy, hlen, hl⟩, hstt⟩ := cw
  obtain ⟨hx, hb, hml, ho, -⟩ := S
  intro T hT X
  rcases vx_callS X hx (bytes := bytes) (maxL := maxL) (ret := ret) ho hl hstt hini hcode hy hK hg (hsize.trans hml.symm) (argsL := As) (rest := rest) (fun sig h => hn.trans (hlen sig h)) hstack hW (by rw [hb]; exact hdg)
    (fun vm₁ hW₁ => ⟨hf.1, hf.2, hp.2 (T.setVm vm₁) hT hW₁⟩) with ⟨v, vm₁, ⟨U', l2, c2, s2⟩, hW₁, X', ⟨g', mk, t, L, e1, e2, hq, h1, hL, h2, h3⟩, st⟩ | ⟨q, vm₁, ⟨U', l2, c2, s2⟩, hW₁, X', ⟨g', mk, t, L, E, ce, e1, e2, hq, hce, hcv, hcl, h1, hL, h2, h3⟩, st⟩
  · dsimp only [Pt.U, Pt.locs, Pt.cells, Pt.slots] at X' e1 e2 h1 h2 h3 st
    subst h1; subst h2; subst h3
    exact Or.inl ⟨v, (T.setVm vm₁).calling g' mk As.toArray, t, U', L, hT, X', hL, e1, e2, hq, st⟩
  · dsimp only [Pt.U, Pt.locs, Pt.cells, Pt.slots] at X' e1 e2 h1 h2 h3 st hcl
    subst h1; subst h2; subst h3
    exact Or.inr ⟨q, (T.setVm vm₁).calling g' mk As.toArray, t, U', L, E, ce, hT, X', hL, e1, e2, hq, hce, hcv, vx_cls hW₁ hcl, st⟩
end Runs
section Rows
variable {p : Program} {l : Launch} {e : Env} {R : Room} {s : State} {m : MethodId} {args : Array Value} {below : List Frame} {meth : Method} {c : Code} {H : Heap} {locs : List Loc} {cells slots : Nat} {Q : State → Prop}
variable {mc ms : Nat} {free : Addr → Prop} {A0 A1 : Nat → Prop} {H0 : Heap} {a : Array Value} {pc : Nat} {ls : Array Slot} {st0 rest : List Value}
theorem vx_keep {st₀ t T' : State} {L : List Loc} (h0 : st₀.heap = H) (e1 : T'.heap = t.heap) (hS : va_S A0 H0 H locs) (hA : ∀ q, q < H.size → A1 q → A0 q) (hf : ∀ q, free q → A0 q) (hL : ∀ q ∈ L, free q.base) (hF : va_F A1 st₀ t) :
    H.size ≤ T'.heap.size ∧ (∀ q : Nat, q < H.size → ¬ A1 q → T'.heap[q]? = H[q]?) ∧ va_S A0 H0 T'.heap (locs ++ L) := by
  obtain ⟨hz, hk⟩ := hF
  rw [h0] at hz hk
  exact ⟨by rw [e1]; exact hz, fun q h1 h2 => by rw [e1]; exact hk q h1 h2,
    ⟨Nat.le_trans hS.1 (by rw [e1]; exact hz), fun q h1 h2 => by rw [e1, hk q (Nat.lt_of_lt_of_le h1 hS.1) (fun z => h2 (hA q (Nat.lt_of_lt_of_le h1 hS.1) z))]; exact hS.2.1 q h1 h2, fun q hq => by
      rcases List.mem_append.mp hq with h | h
      · exact hS.2.2 q h
      · exact hf _ (hL q h)⟩⟩
theorem vx_calli {S SX : Type} {post : Int32 → S → Prop} {px : SX → Prop} {B : S → State → Prop} {BX : String → SX → State → Prop} {AX : Nat → Prop} (hr : vx_Run p l e R s m args below meth c H locs cells slots mc ms (F0 m pc ls st0) rest (va_Qi post B A1 a) (vx_X px BX AX) free) (hS : va_S A0 H0 H locs) (hA : ∀ q, q < H.size → A1 q → A0 q) (hf : ∀ q, free q → A0 q) (hAX : ∀ q, q < H.size → AX q → A0 q)
    (kx : ∀ (E : String) (ce : Cell) (q9 : Addr) (u : SX) (t : State) (H1 : Heap) (locs1 : List Loc), t.heap = H1 → s.vm.Alike t.vm → px u → BX E u t → H.size ≤ H1.size → (∀ q : Nat, q < H.size → ¬ AX q → H1[q]? = H[q]?) → va_S A0 H0 H1 locs1 → H1[q9]? = some ce → ce.vm = .none → s.vm.findClass E = some ce.cls → vx_W p l e R s m args below meth c H1 locs1 (cells + mc) (slots + ms) Q (F0 m pc ls rest) q9)
    (kk : ∀ (r : Int32) (u : S) (t : State) (H1 : Heap) (locs1 : List Loc), t.heap = H1 → s.vm.Alike t.vm → post r u → B u t → H.size ≤ H1.size → (∀ q : Nat, q < H.size → ¬ A1 q → H1[q]? = H[q]?) → va_S A0 H0 H1 locs1 → W p l e R s m args below meth c H1 locs1 (cells + mc) (slots + ms) Q (F0 m (pc + 3) ls (.int r :: rest))) : W p l e R s m args below meth c H locs cells slots Q (F0 m pc ls st0) := by
  intro T hT X
  rcases hr T hT X with ⟨v, st₀, t, T', L, h0, X', hL, e1, e2, ⟨⟨r, u, hv, hp, hb⟩, hF⟩, st⟩ | ⟨q, st₀, t, T', L, E, ce, h0, X', hL, e1, e2, ⟨u, hp, hb, hF⟩, hce, hcv, hcl, st⟩
  · cases hv
    obtain ⟨k1, k2, k3⟩ := vx_keep h0 e1 hS hA hf hL hF
    obtain ⟨t2, a1, b1⟩ := kk r u t T'.heap (locs ++ L) e1.symm (by rw [← e2]; exact X'.warmed.alike) hp hb k1 k2 k3 T' rfl X'
    exact ⟨t2, st t2 a1, b1⟩
  · obtain ⟨k1, k2, k3⟩ := vx_keep h0 e1 hS hAX hf hL hF
    obtain ⟨t2, a1, b1⟩ := kx E ce q u t T'.heap (locs ++ L) e1.symm (by rw [← e2]; exact X'.warmed.alike) hp hb k1 k2 k3 (by rw [e1]; exact hce) hcv hcl T' rfl X'
    exact ⟨t2, st.trans a1, b1⟩
theorem vx_calll {S SX : Type} {post : Int64 → S → Prop} {px : SX → Prop} {B : S → State → Prop} {BX : String → SX → State → Prop} {AX : Nat → Prop} (hr : vx_Run p l e R s m args below meth c H locs cells slots mc ms (F0 m pc ls st0) rest (va_Ql post B A1 a) (vx_X px BX AX) free) (hS : va_S A0 H0 H locs) (hA : ∀ q, q < H.size → A1 q → A0 q) (hf : ∀ q, free q → A0 q) (hAX : ∀ q, q < H.size → AX q → A0 q)
    (kx : ∀ (E : String) (ce : Cell) (q9 : Addr) (u : SX) (t : State) (H1 : Heap) (locs1 : List Loc), t.heap = H1 → s.vm.Alike t.vm → px u → BX E u t → H.size ≤ H1.size → (∀ q : Nat, q < H.size → ¬ AX q → H1[q]? = H[q]?) → va_S A0 H0 H1 locs1 → H1[q9]? = some ce → ce.vm = .none → s.vm.findClass E = some ce.cls → vx_W p l e R s m args below meth c H1 locs1 (cells + mc) (slots + ms) Q (F0 m pc ls rest) q9)
    (kk : ∀ (r : Int64) (u : S) (t : State) (H1 : Heap) (locs1 : List Loc), t.heap = H1 → s.vm.Alike t.vm → post r u → B u t → H.size ≤ H1.size → (∀ q : Nat, q < H.size → ¬ A1 q → H1[q]? = H[q]?) → va_S A0 H0 H1 locs1 → W p l e R s m args below meth c H1 locs1 (cells + mc) (slots + ms) Q (F0 m (pc + 3) ls (.long r :: rest))) : W p l e R s m args below meth c H locs cells slots Q (F0 m pc ls st0) := by
  intro T hT X
  rcases hr T hT X with ⟨v, st₀, t, T', L, h0, X', hL, e1, e2, ⟨⟨r, u, hv, hp, hb⟩, hF⟩, st⟩ | ⟨q, st₀, t, T', L, E, ce, h0, X', hL, e1, e2, ⟨u, hp, hb, hF⟩, hce, hcv, hcl, st⟩
  · cases hv
    obtain ⟨k1, k2, k3⟩ := vx_keep h0 e1 hS hA hf hL hF
    obtain ⟨t2, a1, b1⟩ := kk r u t T'.heap (locs ++ L) e1.symm (by rw [← e2]; exact X'.warmed.alike) hp hb k1 k2 k3 T' rfl X'
    exact ⟨t2, st t2 a1, b1⟩
  · obtain ⟨k1, k2, k3⟩ := vx_keep h0 e1 hS hAX hf hL hF
    obtain ⟨t2, a1, b1⟩ := kx E ce q u t T'.heap (locs ++ L) e1.symm (by rw [← e2]; exact X'.warmed.alike) hp hb k1 k2 k3 (by rw [e1]; exact hce) hcv hcl T' rfl X'
    exact ⟨t2, st.trans a1, b1⟩
theorem vx_callf {S SX : Type} {post : UInt32 → S → Prop} {px : SX → Prop} {B : S → State → Prop} {BX : String → SX → State → Prop} {AX : Nat → Prop} (hr : vx_Run p l e R s m args below meth c H locs cells slots mc ms (F0 m pc ls st0) rest (va_Qf post B A1 a) (vx_X px BX AX) free) (hS : va_S A0 H0 H locs) (hA : ∀ q, q < H.size → A1 q → A0 q) (hf : ∀ q, free q → A0 q) (hAX : ∀ q, q < H.size → AX q → A0 q)
    (kx : ∀ (E : String) (ce : Cell) (q9 : Addr) (u : SX) (t : State) (H1 : Heap) (locs1 : List Loc), t.heap = H1 → s.vm.Alike t.vm → px u → BX E u t → H.size ≤ H1.size → (∀ q : Nat, q < H.size → ¬ AX q → H1[q]? = H[q]?) → va_S A0 H0 H1 locs1 → H1[q9]? = some ce → ce.vm = .none → s.vm.findClass E = some ce.cls → vx_W p l e R s m args below meth c H1 locs1 (cells + mc) (slots + ms) Q (F0 m pc ls rest) q9)
    (kk : ∀ (r : UInt32) (u : S) (t : State) (H1 : Heap) (locs1 : List Loc), t.heap = H1 → s.vm.Alike t.vm → post r u → B u t → H.size ≤ H1.size → (∀ q : Nat, q < H.size → ¬ A1 q → H1[q]? = H[q]?) → va_S A0 H0 H1 locs1 → W p l e R s m args below meth c H1 locs1 (cells + mc) (slots + ms) Q (F0 m (pc + 3) ls (.float r :: rest))) : W p l e R s m args below meth c H locs cells slots Q (F0 m pc ls st0) := by
  intro T hT X
  rcases hr T hT X with ⟨v, st₀, t, T', L, h0, X', hL, e1, e2, ⟨⟨r, u, hv, hp, hb⟩, hF⟩, st⟩ | ⟨q, st₀, t, T', L, E, ce, h0, X', hL, e1, e2, ⟨u, hp, hb, hF⟩, hce, hcv, hcl, st⟩
  · cases hv
    obtain ⟨k1, k2, k3⟩ := vx_keep h0 e1 hS hA hf hL hF
    obtain ⟨t2, a1, b1⟩ := kk r u t T'.heap (locs ++ L) e1.symm (by rw [← e2]; exact X'.warmed.alike) hp hb k1 k2 k3 T' rfl X'
    exact ⟨t2, st t2 a1, b1⟩
  · obtain ⟨k1, k2, k3⟩ := vx_keep h0 e1 hS hAX hf hL hF
    obtain ⟨t2, a1, b1⟩ := kx E ce q u t T'.heap (locs ++ L) e1.symm (by rw [← e2]; exact X'.warmed.alike) hp hb k1 k2 k3 (by rw [e1]; exact hce) hcv hcl T' rfl X'
    exact ⟨t2, st.trans a1, b1⟩
theorem vx_calld {S SX : Type} {post : UInt64 → S → Prop} {px : SX → Prop} {B : S → State → Prop} {BX : String → SX → State → Prop} {AX : Nat → Prop} (hr : vx_Run p l e R s m args below meth c H locs cells slots mc ms (F0 m pc ls st0) rest (va_Qd post B A1 a) (vx_X px BX AX) free) (hS : va_S A0 H0 H locs) (hA : ∀ q, q < H.size → A1 q → A0 q) (hf : ∀ q, free q → A0 q) (hAX : ∀ q, q < H.size → AX q → A0 q)
    (kx : ∀ (E : String) (ce : Cell) (q9 : Addr) (u : SX) (t : State) (H1 : Heap) (locs1 : List Loc), t.heap = H1 → s.vm.Alike t.vm → px u → BX E u t → H.size ≤ H1.size → (∀ q : Nat, q < H.size → ¬ AX q → H1[q]? = H[q]?) → va_S A0 H0 H1 locs1 → H1[q9]? = some ce → ce.vm = .none → s.vm.findClass E = some ce.cls → vx_W p l e R s m args below meth c H1 locs1 (cells + mc) (slots + ms) Q (F0 m pc ls rest) q9)
    (kk : ∀ (r : UInt64) (u : S) (t : State) (H1 : Heap) (locs1 : List Loc), t.heap = H1 → s.vm.Alike t.vm → post r u → B u t → H.size ≤ H1.size → (∀ q : Nat, q < H.size → ¬ A1 q → H1[q]? = H[q]?) → va_S A0 H0 H1 locs1 → W p l e R s m args below meth c H1 locs1 (cells + mc) (slots + ms) Q (F0 m (pc + 3) ls (.double r :: rest))) : W p l e R s m args below meth c H locs cells slots Q (F0 m pc ls st0) := by
  intro T hT X
  rcases hr T hT X with ⟨v, st₀, t, T', L, h0, X', hL, e1, e2, ⟨⟨r, u, hv, hp, hb⟩, hF⟩, st⟩ | ⟨q, st₀, t, T', L, E, ce, h0, X', hL, e1, e2, ⟨u, hp, hb, hF⟩, hce, hcv, hcl, st⟩
  · cases hv
    obtain ⟨k1, k2, k3⟩ := vx_keep h0 e1 hS hA hf hL hF
    obtain ⟨t2, a1, b1⟩ := kk r u t T'.heap (locs ++ L) e1.symm (by rw [← e2]; exact X'.warmed.alike) hp hb k1 k2 k3 T' rfl X'
    exact ⟨t2, st t2 a1, b1⟩
  · obtain ⟨k1, k2, k3⟩ := vx_keep h0 e1 hS hAX hf hL hF
    obtain ⟨t2, a1, b1⟩ := kx E ce q u t T'.heap (locs ++ L) e1.symm (by rw [← e2]; exact X'.warmed.alike) hp hb k1 k2 k3 (by rw [e1]; exact hce) hcv hcl T' rfl X'
    exact ⟨t2, st.trans a1, b1⟩
theorem vx_callv {S SX : Type} {post : S → Prop} {px : SX → Prop} {B : S → State → Prop} {BX : String → SX → State → Prop} {AX : Nat → Prop} (hr : vx_Run p l e R s m args below meth c H locs cells slots mc ms (F0 m pc ls st0) rest (va_Qv post B A1 a) (vx_X px BX AX) free) (hS : va_S A0 H0 H locs) (hA : ∀ q, q < H.size → A1 q → A0 q) (hf : ∀ q, free q → A0 q) (hAX : ∀ q, q < H.size → AX q → A0 q)
    (kx : ∀ (E : String) (ce : Cell) (q9 : Addr) (u : SX) (t : State) (H1 : Heap) (locs1 : List Loc), t.heap = H1 → s.vm.Alike t.vm → px u → BX E u t → H.size ≤ H1.size → (∀ q : Nat, q < H.size → ¬ AX q → H1[q]? = H[q]?) → va_S A0 H0 H1 locs1 → H1[q9]? = some ce → ce.vm = .none → s.vm.findClass E = some ce.cls → vx_W p l e R s m args below meth c H1 locs1 (cells + mc) (slots + ms) Q (F0 m pc ls rest) q9)
    (kk : ∀ (u : S) (t : State) (H1 : Heap) (locs1 : List Loc), t.heap = H1 → s.vm.Alike t.vm → post u → B u t → H.size ≤ H1.size → (∀ q : Nat, q < H.size → ¬ A1 q → H1[q]? = H[q]?) → va_S A0 H0 H1 locs1 → W p l e R s m args below meth c H1 locs1 (cells + mc) (slots + ms) Q (F0 m (pc + 3) ls (rest))) : W p l e R s m args below meth c H locs cells slots Q (F0 m pc ls st0) := by
  intro T hT X
  rcases hr T hT X with ⟨v, st₀, t, T', L, h0, X', hL, e1, e2, ⟨⟨u, hv, hp, hb⟩, hF⟩, st⟩ | ⟨q, st₀, t, T', L, E, ce, h0, X', hL, e1, e2, ⟨u, hp, hb, hF⟩, hce, hcv, hcl, st⟩
  · cases hv
    obtain ⟨k1, k2, k3⟩ := vx_keep h0 e1 hS hA hf hL hF
    obtain ⟨t2, a1, b1⟩ := kk u t T'.heap (locs ++ L) e1.symm (by rw [← e2]; exact X'.warmed.alike) hp hb k1 k2 k3 T' rfl X'
    exact ⟨t2, st t2 a1, b1⟩
  · obtain ⟨k1, k2, k3⟩ := vx_keep h0 e1 hS hAX hf hL hF
    obtain ⟨t2, a1, b1⟩ := kx E ce q u t T'.heap (locs ++ L) e1.symm (by rw [← e2]; exact X'.warmed.alike) hp hb k1 k2 k3 (by rw [e1]; exact hce) hcv hcl T' rfl X'
    exact ⟨t2, st.trans a1, b1⟩
/-- caught by the row x of this method's table; the rows ahead don't take it -/
theorem vx_catch {own name : String} {E : String} {ce : Cell} {q : Addr} (hown : s.vm.findClass own = some m.cls) (pre : List ExceptionTableEntry) (x : ExceptionTableEntry) (suf : List ExceptionTableEntry) (hsplit : c.exceptionTable.toList = pre ++ x :: suf)
    (hpass : ∀ z ∈ pre, covers z pc = false ∨ (z.catchType ≠ 0 ∧ ∃ nm : String, (Cond.classLink own z.catchType nm).before args s = true ∧ va_Nc E nm s)) (hx : covers x pc = true) (h0 : x.catchType ≠ 0)
    (hlink : (Cond.classLink own x.catchType name).before args s = true) (hcast : (Cond.castable E name).before args s = true) (hcell : H[q]? = some ce) (hv : ce.vm = .none) (hcl : s.vm.findClass E = some ce.cls)
    (kk : W p l e R s m args below meth c H locs cells slots Q (F0 m x.handlerPc ls [.ref q])) : vx_W p l e R s m args below meth c H locs cells slots Q (F0 m pc ls rest) q := by
  intro T hT X
  have hpl : e.platform.magicAccessors = ({} : Platform).magicAccessors := by rw [X.admits.platform]
  obtain ⟨c3, c4, hc3, hc4, hasg⟩ := Cond.castable_spec hcast
  cases Option.some.inj (hc3.symm.trans hcl)
  obtain ⟨c5, hc5, hcl5⟩ := Cond.classLink_spec hown hlink e.platform hpl
  cases Option.some.inj (hc4.symm.trans hc5)
  obtain ⟨vm', X', st⟩ := X.thenCaughtThrough q (g := F0 m pc ls rest) rfl (Steps.refl _) (by rw [hT]; exact hcell) (by rw [hv]; rfl) (by obtain ⟨k9, h9, -⟩ := Vm.findClass_spec hcl; exact ⟨k9, h9⟩) pre x suf hsplit
    (fun z hz => by
      rcases hpass z hz with h | ⟨hz0, nm, hl1, hn1⟩
      · exact Or.inl h
      · obtain ⟨c6, hc6, hcl6⟩ := Cond.classLink_spec hown hl1 e.platform hpl
        obtain ⟨a8, b8, h1, h2, h3⟩ := hn1
        cases Option.some.inj (h1.symm.trans hcl)
        cases Option.some.inj (h2.symm.trans hc6)
        exact Or.inr ⟨hz0, _, hcl6, h3⟩) hx (Or.inr ⟨h0, c4, hcl5, hasg⟩)
  obtain ⟨t, a1, b1⟩ := kk (T.setVm vm') hT X'
  exact ⟨t, st.trans a1, b1⟩
end Rows
section Ends
variable {p : Program} {l : Launch} {e : Env} {R : Room} {s : State} {m : MethodId} {args : Array Value} {below : List Frame} {meth : Method} {c : Code} {H : Heap} {locs : List Loc} {cells slots : Nat} {Q : State → Prop}
variable {mc ms : Nat} {free : Addr → Prop} {A0 A1 : Nat → Prop} {H0 : Heap} {a : Array Value} {ls : Array Slot} {st0 rest : List Value}
variable {Qc : Array Value → State → Outcome → State → Prop} {XC : String → State → State → Prop}
/-- what a body that may throw owes at its end -/
def vx_MQ (below : List Frame) (Qc : Array Value → State → Outcome → State → Prop) (XC : String → State → State → Prop) (a : Array Value) (s : State) (mc ms : Nat) (free : Addr → Prop) : State → Prop := fun t =>
  ∃ o, t.status = .running ∧ Ended t below o ∧ vx_Q Qc XC mc ms free a s o t
theorem vx_ret {g : JFrame} {mc ms : Nat} (k : W p l e R s m args below meth c H locs cells slots (MQ below Qc args s mc ms free) g) : W p l e R s m args below meth c H locs cells slots (vx_MQ below Qc XC args s mc ms free) g := by
  intro T hT X
  obtain ⟨t, a1, o, b1, b2, b3, b4⟩ := k T hT X
  exact ⟨t, a1, o, b1, b2, Or.inl ⟨b3, b4⟩⟩
/-- not caught here: it goes on to the caller -/
theorem vx_widen {g : JFrame} {q : Addr} {k n : Nat} (h1 : cells ≤ k) (h2 : slots ≤ n) (kk : vx_W p l e R s m args below meth c H locs k n Q g q) : vx_W p l e R s m args below meth c H locs cells slots Q g q := fun T hT X => kk T hT (stand_widen X h1 h2)
theorem vx_out {pc : Nat} {E : String} {ce : Cell} {q : Addr} {mc ms : Nat} (hout : ∀ x ∈ c.exceptionTable.toList, covers x pc = false) (hlocks : meth.locks = false) (hcell : H[q]? = some ce) (hv : ce.vm = .none) (hcl : s.vm.findClass E = some ce.cls)
    (hx : ∀ t : State, t.heap = H → s.vm.Alike t.vm → XC E s t) (hf : ∀ z ∈ locs, free z.base) (hc : cells ≤ mc) (hs : slots ≤ ms) :
    vx_W p l e R s m args below meth c H locs cells slots (vx_MQ below Qc XC args s mc ms free) (F0 m pc ls rest) q := by
  intro T hT X
  obtain ⟨st1, hrun, hend, hW, hsm⟩ := X.leaveThrown q (g := F0 m pc ls rest) rfl rfl rfl hout hlocks
  have hcell9 : (T.setFrames (.throwing q :: below)).heap[q]? = some ce := by
    show T.heap[q]? = some ce
    rw [hT]; exact hcell
  exact ⟨_, st1, .threw q, hrun, hend, Or.inr ⟨q, rfl, E, ce, locs, hx _ hT hW.alike, hcell9, hv, hcl, hW, hsm.mono hc hs, hf⟩⟩
theorem vx_frame {U : State} {k n : Nat} (h : s.sameButNew ({ U with vm := s.vm } : State) locs k n) : s.heap.size ≤ U.heap.size ∧ ∀ q : Nat, q < s.heap.size → (∀ z ∈ locs, z.base ≠ q) → U.heap[q]? = s.heap[q]? := by
  obtain ⟨-, h2, -, -, -, h6⟩ := h
  refine ⟨h2, fun q hq hz => ?_⟩
  obtain ⟨c9, e1, e2, e3, e4⟩ := h6 q _ (Array.getElem?_eq_getElem hq)
  have hs : c9.slots = (s.heap[q]).slots := Array.ext_getElem? fun i => e4 i fun hm => hz _ hm rfl
  have h9 : c9 = s.heap[q] := by
    rw [hs] at e2
    exact e2
  have e5 : U.heap[q]? = some c9 := e1
  rw [e5, h9, Array.getElem?_eq_getElem hq]
/-- the words of a throw but the four that speak of the heap -/
def vx_no (w : Cond) : Bool := decide (w ≠ .isRef (.static Bundle.tN "UNASSIGNED_STACK" Bundle.steD)) && decide (w ≠ .isRef (.static Bundle.tN "SUPPRESSED_SENTINEL" Bundle.listD)) && decide (w ≠ .laysStatic Bundle.tN "UNASSIGNED_STACK" Bundle.steD) && decide (w ≠ .laysStatic Bundle.tN "SUPPRESSED_SENTINEL" Bundle.listD)
def vx_at0 (own : String) (ic : Nat) (X : String) (names : List String) : List Cond := (Bundle.ownAtoms0 own ic X names).filter vx_no
def vx_atS (own : String) (ic : Nat) (X : String) (names : List String) : List Cond := (Bundle.ownAtoms own ic X names).filter vx_no
/-- a word that the tables alone decide, or a good one -/
def vx_ot (w : Cond) : Bool := w.onTables || goodWord w
theorem vx_ot_at {args a' : Array Value} {s U : State} {w : Cond} (hW : s.WarmedH U.vm) (hvm : s.vm = U.vm) (hg : vx_ot w = true) (h : w.before args s = true) : w.before a' U = true := by
  simp only [vx_ot, Bool.or_eq_true] at hg
  rcases hg with hg | hg
  · exact va_tabs hg hvm h
  · exact word_at hW (good_of_word hg) h
/-- a list's words: the good ones out of the method's own list, the others by premises of their own -/
theorem vx_hat {args : Array Value} {s : State} {L B : List Cond} (h1 : ∀ w ∈ L.filter goodWord, w.before args s = true) (h2 : ∀ w ∈ L.filter (fun w => !goodWord w), w ∈ B) (h3 : ∀ w ∈ B, w.before args s = true) : ∀ w ∈ L, w.before args s = true := by
  intro w hw
  by_cases g : goodWord w = true
  · exact h1 w (List.mem_filter.mpr ⟨hw, g⟩)
  · refine h3 w (h2 w (List.mem_filter.mpr ⟨hw, ?_⟩))
    show (!goodWord w) = true
    cases hgw : goodWord w
    · rfl
    · exact absurd hgw g
theorem vx_c {args : Array Value} {s : State} {w : Cond} {B : List Cond} (h : w.before args s = true) (t : ∀ w ∈ B, w.before args s = true) : ∀ w' ∈ w :: B, w'.before args s = true := fun w' h' => (List.mem_cons.mp h').elim (fun e => by rw [e]; exact h) (t w')
theorem vx_n {args : Array Value} {s : State} : ∀ w ∈ ([] : List Cond), w.before args s = true := fun _ h => nomatch h
theorem vx_own {args : Array Value} {s : State} {L : List Cond} (h1 : ∀ w ∈ L.filter vx_no, w.before args s = true)
    (hU : (Cond.isRef (.static Bundle.tN "UNASSIGNED_STACK" Bundle.steD)).before args s = true) (hN : (Cond.isRef (.static Bundle.tN "SUPPRESSED_SENTINEL" Bundle.listD)).before args s = true)
    (lU : (Cond.laysStatic Bundle.tN "UNASSIGNED_STACK" Bundle.steD).before args s = true) (lN : (Cond.laysStatic Bundle.tN "SUPPRESSED_SENTINEL" Bundle.listD).before args s = true) : ∀ w ∈ L, w.before args s = true := by
  intro w hw
  by_cases e1 : w = .isRef (.static Bundle.tN "UNASSIGNED_STACK" Bundle.steD)
  · rw [e1]; exact hU
  · by_cases e2 : w = .isRef (.static Bundle.tN "SUPPRESSED_SENTINEL" Bundle.listD)
    · rw [e2]; exact hN
    · by_cases e3 : w = .laysStatic Bundle.tN "UNASSIGNED_STACK" Bundle.steD
      · rw [e3]; exact lU
      · by_cases e4 : w = .laysStatic Bundle.tN "SUPPRESSED_SENTINEL" Bundle.listD
        · rw [e4]; exact lN
        · exact h1 w (List.mem_filter.mpr ⟨hw, by unfold vx_no; rw [decide_eq_true e1, decide_eq_true e2, decide_eq_true e3, decide_eq_true e4]; rfl⟩)
/-- where a static field lies, its class's statics cell in H -/
def vx_L (C n d : String) (A : Nat → Prop) (U : State) (H : Heap) : Prop := ∃ (c : ClassId) (k : Class) (i : Nat) (f : Field) (a : Nat) (cell : Cell), U.vm.findClass C = some c ∧ U.fieldFound? C n d = some (c, k, i, f) ∧ f.isStatic = true ∧ k.statics = some a ∧ H[a]? = some cell ∧ cell.vm.isStatics = true ∧ cell.cls = c ∧ f.slot < cell.slots.size ∧ k.staticTypes[f.slot]? = some f.type ∧ ¬ A a
theorem vx_L.moved {C n d : String} {A : Nat → Prop} {u U : State} {H : Heap} (hvm : u.vm.Alike U.vm) (h : vx_L C n d A u H) : vx_L C n d A U H := by
  obtain ⟨c, k, i, f, a, cell, h1, h2, h3, h4, h5, h6, h7, h8, h9, h10⟩ := h
  obtain ⟨k', hi', he⟩ := State.fieldFound?_setVm hvm h2
  exact ⟨c, k', i, f, a, cell, by rw [hvm.findClass]; exact h1, hi', h3, by rw [he]; exact h4, h5, h6, h7, h8, by rw [he]; exact h9, h10⟩
theorem vx_L.kept {C n d : String} {A : Nat → Prop} {U : State} {H H1 : Heap} (h : vx_L C n d A U H) (hq : ∀ a : Nat, a < H.size → ¬ A a → H1[a]? = H[a]?) : vx_L C n d A U H1 := by
  obtain ⟨c, k, i, f, a, cell, h1, h2, h3, h4, h5, h6, h7, h8, h9, h10⟩ := h
  exact ⟨c, k, i, f, a, cell, h1, h2, h3, h4, by rw [hq a (Array.getElem?_eq_some_iff.mp h5).1 h10]; exact h5, h6, h7, h8, h9, h10⟩
theorem vx_L.narrow {C n d : String} {A B : Nat → Prop} {U : State} {H : Heap} (h : vx_L C n d A U H) (hAB : ∀ q, B q → A q) : vx_L C n d B U H := by
  obtain ⟨c, k, i, f, a, cell, h1, h2, h3, h4, h5, h6, h7, h8, h9, h10⟩ := h
  exact ⟨c, k, i, f, a, cell, h1, h2, h3, h4, h5, h6, h7, h8, h9, fun z => h10 (hAB _ z)⟩
theorem vx_L.word {C n d : String} {A : Nat → Prop} {s : State} {args : Array Value} (h : vx_L C n d A s s.heap) : (Cond.laysStatic C n d).before args s = true := by
  obtain ⟨c, k, i, f, a, cell, h1, h2, h3, h4, h5, h6, h7, h8, h9, -⟩ := h
  show (Cond.laysStatic C n d).holds args s none s [] = true
  exact Cond.laysStatic_of h1 h2 h3 h4 h5 h6 h7 h8 h9
/-- .. and what it holds: null or some reference -/
def vx_Zq (C n d : String) (A : Nat → Prop) (U : State) (H : Heap) : Prop := va_Zq C n d A U H ∧ vx_L C n d A U H
theorem vx_Zq.moved {C n d : String} {A : Nat → Prop} {u U : State} {H : Heap} (hvm : u.vm.Alike U.vm) (h : vx_Zq C n d A u H) : vx_Zq C n d A U H := ⟨va_Zq.moved hvm h.1, vx_L.moved hvm h.2⟩
theorem vx_Zq.kept {C n d : String} {A : Nat → Prop} {U : State} {H H1 : Heap} (h : vx_Zq C n d A U H) (hq : ∀ a : Nat, a < H.size → ¬ A a → H1[a]? = H[a]?) : vx_Zq C n d A U H1 := ⟨va_Zq.kept h.1 hq, vx_L.kept h.2 hq⟩
theorem vx_Zq.narrow {C n d : String} {A B : Nat → Prop} {U : State} {H : Heap} (h : vx_Zq C n d A U H) (hAB : ∀ q, B q → A q) : vx_Zq C n d B U H := ⟨va_Zq.narrow h.1 hAB, vx_L.narrow h.2 hAB⟩
theorem vx_Zqof {args : Array Value} {s : State} {C n d : String} {A : Nat → Prop} (hl : (Cond.laysStatic C n d).before args s = true) (hini : (Cond.initialized C).before args s = true) (h : (Cond.isRef (.static C n d)).before args s = true) (hA : ∀ a : Nat, a < s.heap.size → ¬ A a) : vx_Zq C n d A s s.heap := by
  refine ⟨va_Zqof hl hini h hA, ?_⟩
  obtain ⟨c, k, i, f, a, cell, h1, h2, h3, h4, h5, h6, h7, h8, h9⟩ := Cond.laysStatic_spec hl
  exact ⟨c, k, i, f, a, cell, h1, h2, h3, h4, h5, h6, h7, h8, h9, hA a (Array.getElem?_eq_some_iff.mp h5).1⟩
theorem vx_isRef {C n d : String} {v : Value} {A : Nat → Prop} {s : State} {args : Array Value} (h : va_Z C n d v A s s.heap) (hv : v.isRef = true) : (Cond.isRef (.static C n d)).before args s = true := by
  obtain ⟨cf, kf, fi, f, a, cell, h1, h2, h3, h4, h5, h6, h7, -⟩ := h
  have he : (Term.static C n d).eval args s none [] s = some v := by
    simp [Term.eval, State.fieldNamed?, h1, h2, h4, h5, h6, h7]
  simp only [Cond.before, Cond.holds, Cond.value, he]
  cases v <;> simp_all [Value.isRef]
theorem vx_isRefq {C n d : String} {A : Nat → Prop} {s : State} {args : Array Value} (h : va_Zq C n d A s s.heap) : (Cond.isRef (.static C n d)).before args s = true := by
  rcases h with h | ⟨t, h⟩
  · exact vx_isRef h rfl
  · exact vx_isRef h rfl
/-- the same frame, seen from here: as if the method were called anew in this heap -/
theorem vx_rebase {T : State} (X : Stand p l e R s m args below meth c T locs cells slots) {R' : Room} (hf : R'.frames ≤ R.frames) (hl : R'.locals ≤ R.locals) (hc : cells + R'.cells ≤ R.cells) (hs : slots + R'.slots ≤ R.slots) :
    Stand p l e R' ((T.setVm s.vm).setFrames (.invoking m args :: below)) m args below meth c T [] 0 0 := by
  have htop : (T.setVm s.vm).topJava?.isSome := X.here.top
  have hF : ((T.setVm s.vm).setFrames (.invoking m args :: below)).frames = .invoking m args :: below := State.frames_setFrames _ (State.cur_lt_of_top htop)
  obtain ⟨g₀, hg0⟩ := Option.isSome_iff_exists.mp htop
  obtain ⟨r, hr⟩ := State.topJava?_eq_some.mp hg0
  have hl9 : e.platform.stackLimits (T.setVm s.vm).me = e.platform.stackLimits s.me := X.limits
  have hb9 : (T.setVm s.vm).me.stackBytes = s.me.stackBytes := X.bytes
  refine ⟨X.admits, X.cas, X.clock, hF, ?_, X.hears, X.method, X.code, X.here, X.tail, X.warmed, ?_, ?_, ?_⟩
  · have h := X.room
    have hU : ((T.setVm s.vm).setFrames (.invoking m args :: below)).localsInUse = s.localsInUse := by
      rw [State.localsInUse_invoking hF (meth := meth) (c := c) X.method X.code, State.localsInUse_invoking X.frames X.method X.code]
    simp only [State.hasRoom, Bool.and_eq_true, decide_eq_true_eq] at h ⊢
    obtain ⟨⟨⟨⟨h1, h2, h3, h4, h5, h6⟩, h7⟩, h8⟩, h9⟩ := h
    rw [X.frames, List.length_cons] at h2 h3
    have q1 := X.heapSize
    have q2 := X.used
    simp only [hF, hU, List.length_cons, State.stackLimits_setFrames, State.stackBytes_setFrames, hl9, hb9]
    refine ⟨⟨⟨⟨by omega, by omega, by omega, by omega, by omega, h6⟩, ?_⟩, ?_⟩, X.book⟩
    · show T.heap.size + R'.cells ≤ e.platform.maxCells
      omega
    · show T.slotsUsed + R'.slots ≤ e.platform.maxSlots
      omega
  · rw [State.stackLimits_setFrames]; rfl
  · rw [State.stackBytes_setFrames]; rfl
  · refine ⟨?_, Nat.le_refl _, Nat.le_refl _, ?_, ?_, fun a c9 h9 => ⟨c9, h9, rfl, rfl, fun _ _ => rfl⟩⟩
    · obtain ⟨t, ht, -⟩ := State.frames_cons hr
      show T.setVm s.vm = { ((T.setVm s.vm).setFrames (.invoking m args :: below)).setFrames (T.setVm s.vm).frames with heap := T.heap, slotsUsed := T.slotsUsed }
      rw [State.setFrames_setFrames, State.setFrames_self ht]
      rfl
    · show T.slotsUsed = T.slotsUsed + ((T.heap.toList.drop T.heap.size).map (·.slots.size)).sum
      rw [List.drop_eq_nil_of_le (Nat.le_of_eq Array.length_toList)]
      rfl
    · show ((T.heap.toList.drop T.heap.size).map (·.slots.size)).sum ≤ 0
      rw [List.drop_eq_nil_of_le (Nat.le_of_eq Array.length_toList)]
      exact Nat.le_refl _
/-- 'throw new E()': new; dup; invokespecial; athrow -/
theorem vx_throw0 {cc : ByteArray} {pc : Nat} (hexec : p.tables.exec = Jvm.exec) (hb : c.code = cc) (hl : l.stackTraces = false) {own cls : String} {names : List String} {ik ic mc ms : Nat} {A : Nat → Prop}
    (hown : s.vm.findClass own = some m.cls) (hcls : Bundle.fit cls = true) (hnames : ∀ n ∈ names, Bundle.fit n = true)
    (hk : (Cond.classLink own ik cls).before args s = true) (hini : (Cond.initialized cls).before args s = true) (hat : ∀ w ∈ vx_at0 own ic cls names, w.before args s = true)
    (hgood : ∀ w ∈ Cond.classLink own ik cls :: Cond.initialized cls :: vx_at0 own ic cls names, vx_ot w = true)
    (hU : vx_Zq Bundle.tN "UNASSIGNED_STACK" Bundle.steD A s s.heap) (hN : vx_Zq Bundle.tN "SUPPRESSED_SENTINEL" Bundle.listD A s s.heap) (hS : va_S A s.heap H locs) (hsize : ls.size = c.maxLocals)
    (d0 : decode cc pc = .ok (.new ik, 3)) (d3 : decode cc (pc + 3) = .ok (.dup, 1)) (d4 : decode cc (pc + 4) = .ok (.invokespecial ic, 3)) (d7 : decode cc (pc + 7) = .ok (.athrow, 1))
    (hout : ∀ x ∈ c.exceptionTable.toList, covers x (pc + 7) = false)
    (hRframes : names.length + 3 < R.frames) (hRlocals : (rest.map fun v => v.category).sum + (13 * (names.length + 1) + 42) ≤ R.locals) (hRcells : cells + 1 ≤ R.cells) (hRslots : slots + 6 ≤ R.slots) (hlocks : meth.locks = false)
    (hx : ∀ t : State, s.vm.Alike t.vm → H.size ≤ t.heap.size → (∀ q : Nat, q < H.size → t.heap[q]? = H[q]?) → XC cls s t)
    (hf : ∀ z ∈ locs, free z.base) (hc : cells + 1 ≤ mc) (hs : slots + 6 ≤ ms) :
    W p l e R s m args below meth c H locs cells slots (vx_MQ below Qc XC args s mc ms free) (F0 m pc ls rest) := by
  intro T hT X
  have htr : e.platform.stackTraces = false := (show e.platform.stackTraces = l.stackTraces by rw [X.admits.platform]).trans hl
  have Y := vx_rebase X (R' := { frames := R.frames, locals := R.locals, cells := 1, slots := 6 }) (Nat.le_refl _) (Nat.le_refl _) hRcells hRslots
  obtain ⟨s', hA⟩ : ∃ z, z = (T.setVm s.vm).setFrames (.invoking m args :: below) := ⟨_, rfl⟩
  rw [← hA] at Y
  have hvm : s'.vm = s.vm := by rw [hA]; rfl
  have hhp : s'.heap = H := by rw [hA]; exact hT
  have hW0 : s.WarmedH s'.vm := by rw [hvm]; exact State.WarmedH.refl s
  have hat' : ∀ w ∈ vx_at0 own ic cls names, w.before args s' = true := fun w hw => vx_ot_at hW0 hvm.symm (hgood w (List.mem_cons_of_mem _ (List.mem_cons_of_mem _ hw))) (hat w hw)
  have hk' : (Cond.classLink own ik cls).before args s' = true := vx_ot_at hW0 hvm.symm (hgood _ List.mem_cons_self) hk
  have hini' : (Cond.initialized cls).before args s' = true := vx_ot_at hW0 hvm.symm (hgood _ (List.mem_cons_of_mem _ List.mem_cons_self)) hini
  have hU' : vx_Zq Bundle.tN "UNASSIGNED_STACK" Bundle.steD A s' s'.heap := by rw [hhp]; exact vx_Zq.moved hW0.alike (hU.kept hS.2.1)
  have hN' : vx_Zq Bundle.tN "SUPPRESSED_SENTINEL" Bundle.listD A s' s'.heap := by rw [hhp]; exact vx_Zq.moved hW0.alike (hN.kept hS.2.1)
  have h : ∀ w ∈ Bundle.ownAtoms0 own ic cls names, w.before args s' = true := vx_own hat' (vx_isRefq hU'.1) (vx_isRefq hN'.1) hU'.2.word hN'.2.word
  have hown' : s'.vm.findClass own = some m.cls := by rw [hvm]; exact hown
  have hins : (Cond.instantiable cls 6).before args s' = true := h _ (by simp [Bundle.ownAtoms0])
  obtain ⟨vm₁, cX, kX, hfX, hkX, -, -, X₁, st1⟩ := Y.newCold hexec (own := own) (C := cls) (index := ik) (n := 6) hown' hk' hins hini'
    (g := F0 m pc ls rest) rfl (by rw [hb]; exact d0) (Nat.le_refl _) (Nat.le_refl _)
  generalize hT1 : (T.setVm vm₁).pushCell { cls := cX, slots := kX.instanceTypes.map defaultValue, vm := .none } = T1 at X₁ st1
  have hcat : (Value.ref T.heap.size).category = 1 := rfl
  have hcellA : T1.heap[T.heap.size]? = some (freshCell cX kX) := by rw [← hT1]; exact State.heap_pushCell_size _ _
  have d3' : decode c.code (pc + 3) = .ok (.dup, 1) := by rw [hb]; exact d3
  obtain ⟨U, hsteps, hrun, hend, hW, hsame, ce, hce, hO⟩ := X₁.ctorThrow0 hexec htr (own := own) (cls := cls) (names := names) (ic := ic) hown' hcls hnames h (fun x hx => nomatch hx) hfX hkX hcellA (by rw [hhp, hT]; exact Nat.le_refl _)
    (g := { method := m, pc := pc + 4, locals := ls, stack := .ref T.heap.size :: .ref T.heap.size :: rest, locked := none }) rfl hsize rfl rfl (rest := rest) rfl
    (by rw [hb]; exact d4) (by rw [hb]; exact d7) hout hRframes (by simp only [List.map_cons, List.sum_cons, hcat]; omega) hlocks
  obtain ⟨f1, f2⟩ := vx_frame hsame
  rw [hhp] at f1 f2
  have hWs : s.WarmedH U.vm := State.WarmedH.trans hW0 hW
  have hcl : s.vm.findClass cls = some ce.cls := by
    have h9 := hO.cls
    rw [hvm] at h9
    exact h9
  have hall : s.sameButNew ({ U with vm := s.vm } : State) locs mc ms := by
    subst hA
    obtain ⟨e1, e2⟩ := hsame
    rw [State.setFrames_setFrames] at e1
    have h2 : (T.setVm s.vm).sameButNew ({ U with vm := s.vm } : State) [] (0 + 1) (0 + 6) := ⟨e1, e2⟩
    have h3 := X.same.trans h2
    rw [List.append_nil] at h3
    exact h3.mono hc hs
  refine ⟨U, ?_, .threw T.heap.size, hrun, hend, Or.inr ⟨T.heap.size, rfl, cls, ce, locs, hx U hWs.alike f1 (fun q hq => f2 q hq (fun z hz => nomatch hz)), hce, hO.vm, hcl, hWs, hall, hf⟩⟩
  refine st1 _ ?_
  show Steps p.tables e below (T1.setTop { method := m, pc := pc + 3, locals := ls, stack := .ref T.heap.size :: rest, locked := none }) _
  jvm_step X₁.here [X₁.here.top, hexec, d3', Value.category]
  exact hsteps
/-- 'throw new E("text")': new; dup; ldc; invokespecial; athrow -/
theorem vx_throwS {cc : ByteArray} {pc : Nat} (hexec : p.tables.exec = Jvm.exec) (hb : c.code = cc) (hl : l.stackTraces = false) {own cls text : String} {names : List String} {ik is ic mc ms sa : Nat} {A : Nat → Prop}
    (hown : s.vm.findClass own = some m.cls) (hcls : Bundle.fit cls = true) (hnames : ∀ n ∈ names, Bundle.fit n = true)
    (hk : (Cond.classLink own ik cls).before args s = true) (hini : (Cond.initialized cls).before args s = true) (hstr : vk_R own is text sa s) (hat : ∀ w ∈ vx_atS own ic cls names, w.before args s = true)
    (hgood : ∀ w ∈ Cond.classLink own ik cls :: Cond.initialized cls :: vx_atS own ic cls names, vx_ot w = true)
    (hU : vx_Zq Bundle.tN "UNASSIGNED_STACK" Bundle.steD A s s.heap) (hN : vx_Zq Bundle.tN "SUPPRESSED_SENTINEL" Bundle.listD A s s.heap) (hS : va_S A s.heap H locs) (hsize : ls.size = c.maxLocals)
    (d0 : decode cc pc = .ok (.new ik, 3)) (d3 : decode cc (pc + 3) = .ok (.dup, 1)) (d4 : decode cc (pc + 4) = .ok (.ldc is, 2)) (d6 : decode cc (pc + 6) = .ok (.invokespecial ic, 3)) (d9 : decode cc (pc + 9) = .ok (.athrow, 1))
    (hout : ∀ x ∈ c.exceptionTable.toList, covers x (pc + 9) = false)
    (hRframes : names.length + 3 < R.frames) (hRlocals : (rest.map fun v => v.category).sum + (13 * (names.length + 1) + 43) ≤ R.locals) (hRcells : cells + 1 ≤ R.cells) (hRslots : slots + 6 ≤ R.slots) (hlocks : meth.locks = false)
    (hx : ∀ t : State, s.vm.Alike t.vm → H.size ≤ t.heap.size → (∀ q : Nat, q < H.size → t.heap[q]? = H[q]?) → XC cls s t)
    (hf : ∀ z ∈ locs, free z.base) (hc : cells + 1 ≤ mc) (hs : slots + 6 ≤ ms) :
    W p l e R s m args below meth c H locs cells slots (vx_MQ below Qc XC args s mc ms free) (F0 m pc ls rest) := by
  intro T hT X
  have htr : e.platform.stackTraces = false := (show e.platform.stackTraces = l.stackTraces by rw [X.admits.platform]).trans hl
  have Y := vx_rebase X (R' := { frames := R.frames, locals := R.locals, cells := 1, slots := 6 }) (Nat.le_refl _) (Nat.le_refl _) hRcells hRslots
  obtain ⟨s', hA⟩ : ∃ z, z = (T.setVm s.vm).setFrames (.invoking m args :: below) := ⟨_, rfl⟩
  rw [← hA] at Y
  have hvm : s'.vm = s.vm := by rw [hA]; rfl
  have hhp : s'.heap = H := by rw [hA]; exact hT
  have hW0 : s.WarmedH s'.vm := by rw [hvm]; exact State.WarmedH.refl s
  have hat' : ∀ w ∈ vx_atS own ic cls names, w.before args s' = true := fun w hw => vx_ot_at hW0 hvm.symm (hgood w (List.mem_cons_of_mem _ (List.mem_cons_of_mem _ hw))) (hat w hw)
  have hk' : (Cond.classLink own ik cls).before args s' = true := vx_ot_at hW0 hvm.symm (hgood _ List.mem_cons_self) hk
  have hini' : (Cond.initialized cls).before args s' = true := vx_ot_at hW0 hvm.symm (hgood _ (List.mem_cons_of_mem _ List.mem_cons_self)) hini
  have hU' : vx_Zq Bundle.tN "UNASSIGNED_STACK" Bundle.steD A s' s'.heap := by rw [hhp]; exact vx_Zq.moved hW0.alike (hU.kept hS.2.1)
  have hN' : vx_Zq Bundle.tN "SUPPRESSED_SENTINEL" Bundle.listD A s' s'.heap := by rw [hhp]; exact vx_Zq.moved hW0.alike (hN.kept hS.2.1)
  have h : ∀ w ∈ Bundle.ownAtoms own ic cls names, w.before args s' = true := vx_own hat' (vx_isRefq hU'.1) (vx_isRefq hN'.1) hU'.2.word hN'.2.word
  have hown' : s'.vm.findClass own = some m.cls := by rw [hvm]; exact hown
  have hins : (Cond.instantiable cls 6).before args s' = true := h _ (by simp [Bundle.ownAtoms])
  obtain ⟨vm₁, cX, kX, hfX, hkX, -, -, X₁, st1⟩ := Y.newCold hexec (own := own) (C := cls) (index := ik) (n := 6) hown' hk' hins hini'
    (g := F0 m pc ls rest) rfl (by rw [hb]; exact d0) (Nat.le_refl _) (Nat.le_refl _)
  generalize hT1 : (T.setVm vm₁).pushCell { cls := cX, slots := kX.instanceTypes.map defaultValue, vm := .none } = T1 at X₁ st1
  have hcat : (Value.ref T.heap.size).category = 1 := rfl
  have hcellA : T1.heap[T.heap.size]? = some (freshCell cX kX) := by rw [← hT1]; exact State.heap_pushCell_size _ _
  have d3' : decode c.code (pc + 3) = .ok (.dup, 1) := by rw [hb]; exact d3
  have d4' : decode c.code (pc + 4) = .ok (.ldc is, 2) := by rw [hb]; exact d4
  have hstr' : vk_R own is text sa s' := vk_R.warm hW0 hstr
  obtain ⟨U, hsteps, hrun, hend, hW, hsame, ce, hce, hO⟩ := X₁.ctorThrowS hexec htr (own := own) (cls := cls) (names := names) (ic := ic) hown' hcls hnames h (fun x hx => nomatch hx) hfX hkX hcellA (by rw [hhp, hT]; exact Nat.le_refl _) (msg := .ref sa) rfl
    (g := { method := m, pc := pc + 6, locals := ls, stack := .ref sa :: .ref T.heap.size :: .ref T.heap.size :: rest, locked := none }) rfl hsize rfl rfl (rest := rest) rfl
    (by rw [hb]; exact d6) (by rw [hb]; exact d9) hout hRframes (by simp only [List.map_cons, List.sum_cons, hcat]; omega) hlocks
  obtain ⟨f1, f2⟩ := vx_frame hsame
  rw [hhp] at f1 f2
  have hWs : s.WarmedH U.vm := State.WarmedH.trans hW0 hW
  have hcl : s.vm.findClass cls = some ce.cls := by
    have h9 := hO.cls
    rw [hvm] at h9
    exact h9
  have hall : s.sameButNew ({ U with vm := s.vm } : State) locs mc ms := by
    subst hA
    obtain ⟨e1, e2⟩ := hsame
    rw [State.setFrames_setFrames] at e1
    have h2 : (T.setVm s.vm).sameButNew ({ U with vm := s.vm } : State) [] (0 + 1) (0 + 6) := ⟨e1, e2⟩
    have h3 := X.same.trans h2
    rw [List.append_nil] at h3
    exact h3.mono hc hs
  refine ⟨U, ?_, .threw T.heap.size, hrun, hend, Or.inr ⟨T.heap.size, rfl, cls, ce, locs, hx U hWs.alike f1 (fun q hq => f2 q hq (fun z hz => nomatch hz)), hce, hO.vm, hcl, hWs, hall, hf⟩⟩
  refine st1 _ ?_
  show Steps p.tables e below (T1.setTop { method := m, pc := pc + 3, locals := ls, stack := .ref T.heap.size :: rest, locked := none }) _
  jvm_step X₁.here [X₁.here.top, hexec, d3', Value.category]
  exact X₁.ldcString hexec (own := own) (text := text) (index := is) (a := sa) hown' hstr'.1 hstr'.2
    (g := { method := m, pc := pc + 4, locals := ls, stack := .ref T.heap.size :: .ref T.heap.size :: rest, locked := none }) rfl d4' _ hsteps
/-- 'throw new E("text")', the text by a wide index -/
theorem vx_throwSW {cc : ByteArray} {pc : Nat} (hexec : p.tables.exec = Jvm.exec) (hb : c.code = cc) (hl : l.stackTraces = false) {own cls text : String} {names : List String} {ik is ic mc ms sa : Nat} {A : Nat → Prop}
    (hown : s.vm.findClass own = some m.cls) (hcls : Bundle.fit cls = true) (hnames : ∀ n ∈ names, Bundle.fit n = true)
    (hk : (Cond.classLink own ik cls).before args s = true) (hini : (Cond.initialized cls).before args s = true) (hstr : vk_R own is text sa s) (hat : ∀ w ∈ vx_atS own ic cls names, w.before args s = true)
    (hgood : ∀ w ∈ Cond.classLink own ik cls :: Cond.initialized cls :: vx_atS own ic cls names, vx_ot w = true)
    (hU : vx_Zq Bundle.tN "UNASSIGNED_STACK" Bundle.steD A s s.heap) (hN : vx_Zq Bundle.tN "SUPPRESSED_SENTINEL" Bundle.listD A s s.heap) (hS : va_S A s.heap H locs) (hsize : ls.size = c.maxLocals)
    (d0 : decode cc pc = .ok (.new ik, 3)) (d3 : decode cc (pc + 3) = .ok (.dup, 1)) (d4 : decode cc (pc + 4) = .ok (.ldc_w is, 3)) (d7 : decode cc (pc + 7) = .ok (.invokespecial ic, 3)) (d10 : decode cc (pc + 10) = .ok (.athrow, 1))
    (hout : ∀ x ∈ c.exceptionTable.toList, covers x (pc + 10) = false)
    (hRframes : names.length + 3 < R.frames) (hRlocals : (rest.map fun v => v.category).sum + (13 * (names.length + 1) + 43) ≤ R.locals) (hRcells : cells + 1 ≤ R.cells) (hRslots : slots + 6 ≤ R.slots) (hlocks : meth.locks = false)
    (hx : ∀ t : State, s.vm.Alike t.vm → H.size ≤ t.heap.size → (∀ q : Nat, q < H.size → t.heap[q]? = H[q]?) → XC cls s t)
    (hf : ∀ z ∈ locs, free z.base) (hc : cells + 1 ≤ mc) (hs : slots + 6 ≤ ms) :
    W p l e R s m args below meth c H locs cells slots (vx_MQ below Qc XC args s mc ms free) (F0 m pc ls rest) := by
  intro T hT X
  have htr : e.platform.stackTraces = false := (show e.platform.stackTraces = l.stackTraces by rw [X.admits.platform]).trans hl
  have Y := vx_rebase X (R' := { frames := R.frames, locals := R.locals, cells := 1, slots := 6 }) (Nat.le_refl _) (Nat.le_refl _) hRcells hRslots
  obtain ⟨s', hA⟩ : ∃ z, z = (T.setVm s.vm).setFrames (.invoking m args :: below) := ⟨_, rfl⟩
  rw [← hA] at Y
  have hvm : s'.vm = s.vm := by rw [hA]; rfl
  have hhp : s'.heap = H := by rw [hA]; exact hT
  have hW0 : s.WarmedH s'.vm := by rw [hvm]; exact State.WarmedH.refl s
  have hat' : ∀ w ∈ vx_atS own ic cls names, w.before args s' = true := fun w hw => vx_ot_at hW0 hvm.symm (hgood w (List.mem_cons_of_mem _ (List.mem_cons_of_mem _ hw))) (hat w hw)
  have hk' : (Cond.classLink own ik cls).before args s' = true := vx_ot_at hW0 hvm.symm (hgood _ List.mem_cons_self) hk
  have hini' : (Cond.initialized cls).before args s' = true := vx_ot_at hW0 hvm.symm (hgood _ (List.mem_cons_of_mem _ List.mem_cons_self)) hini
  have hU' : vx_Zq Bundle.tN "UNASSIGNED_STACK" Bundle.steD A s' s'.heap := by rw [hhp]; exact vx_Zq.moved hW0.alike (hU.kept hS.2.1)
  have hN' : vx_Zq Bundle.tN "SUPPRESSED_SENTINEL" Bundle.listD A s' s'.heap := by rw [hhp]; exact vx_Zq.moved hW0.alike (hN.kept hS.2.1)
  have h : ∀ w ∈ Bundle.ownAtoms own ic cls names, w.before args s' = true := vx_own hat' (vx_isRefq hU'.1) (vx_isRefq hN'.1) hU'.2.word hN'.2.word
  have hown' : s'.vm.findClass own = some m.cls := by rw [hvm]; exact hown
  have hins : (Cond.instantiable cls 6).before args s' = true := h _ (by simp [Bundle.ownAtoms])
  obtain ⟨vm₁, cX, kX, hfX, hkX, -, -, X₁, st1⟩ := Y.newCold hexec (own := own) (C := cls) (index := ik) (n := 6) hown' hk' hins hini'
    (g := F0 m pc ls rest) rfl (by rw [hb]; exact d0) (Nat.le_refl _) (Nat.le_refl _)
  generalize hT1 : (T.setVm vm₁).pushCell { cls := cX, slots := kX.instanceTypes.map defaultValue, vm := .none } = T1 at X₁ st1
  have hcat : (Value.ref T.heap.size).category = 1 := rfl
  have hcellA : T1.heap[T.heap.size]? = some (freshCell cX kX) := by rw [← hT1]; exact State.heap_pushCell_size _ _
  have d3' : decode c.code (pc + 3) = .ok (.dup, 1) := by rw [hb]; exact d3
  have d4' : decode c.code (pc + 4) = .ok (.ldc_w is, 3) := by rw [hb]; exact d4
  have hstr' : vk_R own is text sa s' := vk_R.warm hW0 hstr
  obtain ⟨U, hsteps, hrun, hend, hW, hsame, ce, hce, hO⟩ := X₁.ctorThrowS hexec htr (own := own) (cls := cls) (names := names) (ic := ic) hown' hcls hnames h (fun x hx => nomatch hx) hfX hkX hcellA (by rw [hhp, hT]; exact Nat.le_refl _) (msg := .ref sa) rfl
    (g := { method := m, pc := pc + 7, locals := ls, stack := .ref sa :: .ref T.heap.size :: .ref T.heap.size :: rest, locked := none }) rfl hsize rfl rfl (rest := rest) rfl
    (by rw [hb]; exact d7) (by rw [hb]; exact d10) hout hRframes (by simp only [List.map_cons, List.sum_cons, hcat]; omega) hlocks
  obtain ⟨f1, f2⟩ := vx_frame hsame
  rw [hhp] at f1 f2
  have hWs : s.WarmedH U.vm := State.WarmedH.trans hW0 hW
  have hcl : s.vm.findClass cls = some ce.cls := by
    have h9 := hO.cls
    rw [hvm] at h9
    exact h9
  have hall : s.sameButNew ({ U with vm := s.vm } : State) locs mc ms := by
    subst hA
    obtain ⟨e1, e2⟩ := hsame
    rw [State.setFrames_setFrames] at e1
    have h2 : (T.setVm s.vm).sameButNew ({ U with vm := s.vm } : State) [] (0 + 1) (0 + 6) := ⟨e1, e2⟩
    have h3 := X.same.trans h2
    rw [List.append_nil] at h3
    exact h3.mono hc hs
  refine ⟨U, ?_, .threw T.heap.size, hrun, hend, Or.inr ⟨T.heap.size, rfl, cls, ce, locs, hx U hWs.alike f1 (fun q hq => f2 q hq (fun z hz => nomatch hz)), hce, hO.vm, hcl, hWs, hall, hf⟩⟩
  refine st1 _ ?_
  show Steps p.tables e below (T1.setTop { method := m, pc := pc + 3, locals := ls, stack := .ref T.heap.size :: rest, locked := none }) _
  jvm_step X₁.here [X₁.here.top, hexec, d3', Value.category]
  exact X₁.ldcStringW hexec (own := own) (text := text) (index := is) (a := sa) hown' hstr'.1 hstr'.2
    (g := { method := m, pc := pc + 4, locals := ls, stack := .ref T.heap.size :: .ref T.heap.size :: rest, locked := none }) rfl d4' _ hsteps
end Ends
section Bodies
variable {l : Launch}
theorem vx_ofW {y : MethodName} {ws ws' : List Cond} {rm : Room} {Pc : Array Value → State → Prop} {Qc : Array Value → State → Outcome → State → Prop} {XC : String → State → State → Prop} {mc ms : Nat} {free : Addr → Prop} {cc : ByteArray} {maxL : Nat} {ret : Option FieldType}
    (hy : plainName y.cls = true) (hw : ws = Cond.code y cc maxL ret :: ws')
    (body : ∀ p e s m args below meth c s₁, BodyLoose p l y (headSpec ws rm) cc maxL ret e s m args below meth c s₁ → c.maxLocals = maxL → (∀ x ∈ c.exceptionTable.toList, False) → Pc args s →
      W p l e (headSpec ws rm).room s m args below meth c s.heap [] 0 0 (vx_MQ below Qc XC args s mc ms free) (entryFrame m args maxL)) : vx_Met l y ws rm Pc Qc XC mc ms free := by
  refine MetFree.of_bodyS (code := cc) (maxLocals := maxL) (ret := ret) hy ?_ ?_
  · intro args s m h hn
    obtain ⟨meth, c, h1, h2, h3, h4, h5, h6, -, -⟩ := Cond.code_spec hn (atoms_spec (ws := ws) h _ (by rw [hw]; exact List.mem_cons_self))
    exact ⟨meth, c, h1, h2, h3, h4, h5, h6⟩
  · intro p e s m args below meth c s₁ B hml hP _
    have hh0 : s₁.heap = s.heap := by rw [B.state]; rfl
    have ht : ∀ x ∈ c.exceptionTable.toList, False := by
      obtain ⟨meth9, c9, h1, h2, -, -, -, -, h7, -⟩ := Cond.code_spec B.named (atoms_spec (ws := ws) B.pre _ (by rw [hw]; exact List.mem_cons_self))
      cases Option.some.inj (h1.symm.trans B.method)
      cases Option.some.inj (h2.symm.trans (Stand.of_body B).code)
      intro x hx
      rw [Array.isEmpty_iff.mp h7] at hx
      cases hx
    obtain ⟨t, a1, o, b1, b2, b3⟩ := body p e s m args below meth c s₁ B hml ht hP s₁ hh0 (Stand.of_body B)
    exact ⟨t, o, a1, b1, b2, b3⟩
/-- the table of a body with handlers -/
theorem vx_table {p : Program} {x y : MethodName} {S : Spec} {cc bytes : ByteArray} {maxL maxL' : Nat} {ret ret' : Option FieldType} {e : Env} {s s₁ : State} {m : MethodId} {args : Array Value} {below : List Frame} {meth : Method} {c : Code} {hh : List (Nat × Nat × Nat × Nat)}
    (B : BodyLoose p l y S cc maxL ret e s m args below meth c s₁) (h : (Cond.codeWith y bytes maxL' ret' hh).before args s = true) : c.exceptionTable.toList = tableOf hh := by
  obtain ⟨m9, meth9, c9, hn9, h1, h2, -, -, h6, -⟩ := Cond.codeWith_spec h
  cases Option.some.inj (hn9.symm.trans B.named)
  cases Option.some.inj (h1.symm.trans B.method)
  cases Option.some.inj (h2.symm.trans (Stand.of_body B).code)
  rw [← h6, table_eq]
end Bodies
end VXA
/-! ===== END ===== -/
/-! ===== BEGIN a static call of a method with an exception table ===== -/
section VXS
variable {p : Program} {l : Launch} {e : Env} {R : Room} {s : State} {m : MethodId} {args : Array Value} {below : List Frame} {meth : Method} {c : Code} {T : State} {H : Heap} {locs : List Loc} {cells slots : Nat}
abbrev vx_CSW (R : Room) (s : State) (args : Array Value) (own : String) (index : Nat) (y : MethodName) (bytes : ByteArray) (maxL : Nat) (ret : Option FieldType) (hh : List (Nat × Nat × Nat × Nat)) (ws : List Cond) (rm : Room) (mc ms n : Nat) : Prop :=
  (rm.cells = mc ∧ rm.slots = ms ∧ rm.frames + 1 ≤ R.frames ∧ 8 + (maxL + 11) + rm.locals ≤ R.locals ∧ (∀ w ∈ ws, ∀ (a' : Array Value) (U : State), s.WarmedH U.vm → w.before a' U = true) ∧ Cond.codeWith y bytes maxL ret hh ∈ ws) ∧
  (Cond.codeWith y bytes maxL ret hh).before args s = true ∧ (Cond.initialized y.cls).before args s = true ∧ (y.cls ≠ "java/lang/invoke/MethodHandle" ∧ y.cls ≠ "java/lang/invoke/VarHandle") ∧
  (∀ sig, parseMethodDescriptor y.desc = some sig → n = sig.parameters.length) ∧ (Cond.methodLink own index y).before args s = true ∧ (Cond.static y).before args s = true
theorem vx_cwSW {own : String} {index maxL mc ms : Nat} {y : MethodName} {bytes : ByteArray} {ret : Option FieldType} {hh : List (Nat × Nat × Nat × Nat)} {Ts ws ws' : List Cond} {rm : Room} (n : Nat) (ht : ∀ w ∈ Ts, w.before args s = true) (hT : GoodIn Ts (va_wsS own index y ws)) (hw : ws = Cond.codeWith y bytes maxL ret hh :: ws') (hrc : rm.cells = mc) (hrs : rm.slots = ms)
    (hd : y.cls ≠ "java/lang/invoke/MethodHandle" ∧ y.cls ≠ "java/lang/invoke/VarHandle" ∧ (parseMethodDescriptor y.desc).map (fun d => d.parameters.length) = some n) (hR : rm.frames + 1 ≤ R.frames ∧ 8 + (maxL + 11) + rm.locals ≤ R.locals) :
    vx_CSW R s args own index y bytes maxL ret hh ws rm mc ms n := by
  have ok : ∀ w ∈ va_wsS own index y ws, w.before args s = true := fun w h => ht w (hT w h).1
  have hG : GoodIn Ts ws := fun w h => hT w (by unfold va_wsS; exact List.mem_append_right _ h)
  have hc : Cond.codeWith y bytes maxL ret hh ∈ ws := by rw [hw]; exact List.mem_cons_self
  refine ⟨⟨hrc, hrs, hR.1, hR.2, pay_in ht hG, hc⟩, ht _ (hG _ hc).1, ok _ (by simp [va_wsS]), ⟨hd.1, hd.2.1⟩, fun sig h => ?_, ok _ (by simp [va_wsS]), ok _ (by simp [va_wsS])⟩
  have h2 := hd.2.2
  rw [h] at h2
  exact (Option.some.inj h2).symm
theorem vx_callSW (X : Stand p l e R s m args below meth c T locs cells slots) (hexec : p.tables.exec = Jvm.exec) {own : String} {index : Nat} {y : MethodName} {bytes : ByteArray} {maxL : Nat} {ret : Option FieldType} {hh : List (Nat × Nat × Nat × Nat)}
    (hown : s.vm.findClass own = some m.cls) (hlink : (Cond.methodLink own index y).before args s = true) (hstat : (Cond.static y).before args s = true) (hinit : (Cond.initialized y.cls).before args s = true)
    (hcode : (Cond.codeWith y bytes maxL ret hh).before args s = true) (hy : y.cls ≠ "java/lang/invoke/MethodHandle" ∧ y.cls ≠ "java/lang/invoke/VarHandle")
    {W9 : Nat} {Pre : Pt → Array Value → Prop} {Post : Pt → Array Value → Option Value → Pt → Prop} (hK : Back l R p e below s args y 3 W9 Pre Post)
    {g : JFrame} (hg : g.method = m) (hsize : g.locals.size = c.maxLocals) {argsL rest : List Value} (hlen : ∀ sig, parseMethodDescriptor y.desc = some sig → argsL.length = sig.parameters.length)
    (hstack : g.stack = argsL.reverse ++ rest) (hW : 2 * g.monitorRoom + (rest.map fun v => v.category).sum ≤ W9) (hdg : decode c.code g.pc = .ok (.invokestatic index, 3))
    (hpre : ∀ vm₁, s.WarmedH vm₁ → Pre ⟨T.setVm vm₁, locs, cells, slots⟩ argsL.toArray) :
    ∃ (v : Option Value) (vm₁ : Vm) (B : Pt), s.WarmedH vm₁ ∧ Stand p l e R s m args below meth c B.U B.locs B.cells B.slots ∧ Post ⟨T.setVm vm₁, locs, cells, slots⟩ argsL.toArray v B ∧
      ∀ target, Steps p.tables e below (B.U.setTop { g with pc := g.pc + 3, stack := v.toList ++ rest }) target → Steps p.tables e below (T.setTop g) target := by
  obtain ⟨mk, methM, cM, hnamed, hmethM, -, -, -, -, -, -, hsigM⟩ := Cond.codeWith_spec hcode
  have hstatic : methM.isStatic = true := Cond.static_spec hnamed hmethM hstat
  obtain ⟨kP, hkP, -⟩ := className_of_methodNamed hnamed
  have hinitP : kP.init = .initialized := Cond.initialized_spec (findClass_of_methodNamed hnamed) hkP hinit
  obtain ⟨vm₁, X₁, hstep₁⟩ := X.invokestatic hexec hown hlink hnamed hmethM hstatic hkP hinitP hy (g := g) hg (argsL := argsL) (rest := rest) (hlen _ hsigM) hstack hdg
  obtain ⟨v, B, X', hpost, hsteps⟩ := hK m meth c ⟨T.setVm vm₁, locs, cells, slots⟩ { g with stack := rest } (.invokestatic index) mk argsL.toArray X₁ hg hsize hdg hW (X₁.named hnamed) (hpre vm₁ X₁.warmed)
  exact ⟨v, vm₁, B, X₁.warmed, X', hpost, fun target h => hstep₁ _ fun acts => by rw [doInvoke_state]; exact hsteps.trans h⟩
theorem vx_runSW {y : MethodName} {bytes cc : ByteArray} {maxL nL mc ms n index : Nat} {ret : Option FieldType} {hh : List (Nat × Nat × Nat × Nat)} {ws : List Cond} {rm : Room} {Pc : Array Value → State → Prop} {Qc : Array Value → State → Outcome → State → Prop} {free : Addr → Prop} {Ts : List Cond} {own : String} {As rest : List Value} {g : JFrame}
    (S : CallFix p m c cc nL s args Ts own) (hM : Met l y ws rm Pc Qc mc ms free) (cw : vx_CSW R s args own index y bytes maxL ret hh ws rm mc ms n) (hp : PreS s H Pc As)
    (hg : g.method = m) (hn : As.length = n) (hsize : g.locals.size = nL) (hstack : g.stack = As.reverse ++ rest) (hW : 2 * g.monitorRoom + (rest.map fun v => v.category).sum ≤ 8) (hdg : decode cc g.pc = .ok (.invokestatic index, 3)) (hf : cells + mc ≤ R.cells ∧ slots + ms ≤ R.slots) :
    va_Run p l e R s m args below meth c H locs cells slots mc ms g rest (Qc As.toArray) (free) := by
  obtain ⟨⟨hrc, hrs, hfr, hlo, hws, hcw⟩, hcode, hini, hy, hlen, hl, hstt⟩ := cw
  have hK : Back l R p e below s args y 3 8 (PreOf R mc ms Pc) (PostOf Qc mc ms free) := va_backW (hh := hh) (bytes := bytes) (maxL := maxL) (ret := ret) hM hp.1 hrc hrs hfr hlo hws hcw (fun a' U hW => word_at hW (Or.inl (by first | rfl | simp [Cond.onTables, Cond.keeps, Cond.steady])) hini)
  obtain ⟨hx, hb, hml, ho, -⟩ := S
  intro T hT X
  obtain ⟨v, vm₁, ⟨U', l2, c2, s2⟩, hW₁, X', ⟨g', mk, t, L, e1, e2, hq, h1, hL, h2, h3⟩, st⟩ := vx_callSW X hx (hh := hh) (bytes := bytes) (maxL := maxL) (ret := ret) ho hl hstt hini hcode hy hK hg (hsize.trans hml.symm) (argsL := As) (rest := rest) (fun sig h => hn.trans (hlen sig h)) hstack hW (by rw [hb]; exact hdg)
    (fun vm₁ hW₁ => ⟨hf.1, hf.2, hp.2 (T.setVm vm₁) hT hW₁⟩)
  dsimp only [Pt.U, Pt.locs, Pt.cells, Pt.slots] at X' e1 e2 h1 h2 h3 st
  subst h1; subst h2; subst h3
  exact ⟨v, (T.setVm vm₁).calling g' mk As.toArray, t, U', L, hT, X', hL, e1, e2, hq, st⟩
/-- not caught here, past rows that name other classes: it goes on to the caller -/
theorem vx_outP {p : Program} {l : Launch} {e : Env} {R : Room} {s : State} {m : MethodId} {args : Array Value} {below : List Frame} {meth : Method} {c : Code} {H : Heap} {locs : List Loc} {cells slots : Nat} {free : Addr → Prop} {ls : Array Slot} {rest : List Value} {Qc : Array Value → State → Outcome → State → Prop} {XC : String → State → State → Prop}
    {pc : Nat} {own E : String} {ce : Cell} {q : Addr} {mc ms : Nat} (hown : s.vm.findClass own = some m.cls) (hlocks : meth.locks = false)
    (hpass : ∀ z ∈ c.exceptionTable.toList, covers z pc = false ∨ (z.catchType ≠ 0 ∧ ∃ nm : String, (Cond.classLink own z.catchType nm).before args s = true ∧ va_Nc E nm s)) (hcell : H[q]? = some ce) (hv : ce.vm = .none) (hcl : s.vm.findClass E = some ce.cls)
    (hx : ∀ t : State, t.heap = H → s.vm.Alike t.vm → XC E s t) (hf : ∀ z ∈ locs, free z.base) (hc : cells ≤ mc) (hs : slots ≤ ms) :
    vx_W p l e R s m args below meth c H locs cells slots (vx_MQ below Qc XC args s mc ms free) (F0 m pc ls rest) q := by
  intro T hT X
  have hpl : e.platform.magicAccessors = ({} : Platform).magicAccessors := by rw [X.admits.platform]
  obtain ⟨vm', hW', X', st⟩ := X.outThrough hlocks q (g := F0 m pc ls rest) rfl rfl rfl (cell := ce) (by rw [hT]; exact hcell) (by rw [hv]; rfl)
    (by obtain ⟨k9, h9, -⟩ := Vm.findClass_spec hcl; exact ⟨k9, h9⟩) (fun z hz => by
      rcases hpass z hz with h | ⟨hz0, nm, hl1, hn1⟩
      · exact Or.inl h
      · obtain ⟨c6, hc6, hcl6⟩ := Cond.classLink_spec hown hl1 e.platform hpl
        obtain ⟨a8, b8, h1, h2, h3⟩ := hn1
        cases Option.some.inj (h1.symm.trans hcl)
        cases Option.some.inj (h2.symm.trans hc6)
        exact Or.inr ⟨hz0, _, hcl6, h3⟩)
  obtain ⟨g₀, hfr⟩ := X'.frames_eq
  have hcell9 : ((T.setVm vm').setFrames (.throwing q :: below)).heap[q]? = some ce := by
    show T.heap[q]? = some ce
    rw [hT]; exact hcell
  have hend : Ended ((T.setVm vm').setFrames (.throwing q :: below)) below (.threw q) := State.frames_setFrames _ (State.cur_lt_of_frames hfr)
  refine ⟨(T.setVm vm').setFrames (.throwing q :: below), ?_, .threw q, X'.here.running, hend, Or.inr ⟨q, rfl, E, ce, locs, hx _ hT (X'.ends _).1.alike, hcell9, hv, hcl, (X'.ends _).1, (X'.ends _).2.mono hc hs, hf⟩⟩
  rw [X.pushThrowing_eq]
  exact st
/-- a thing of a world lies in the heap -/
theorem vx_lt {D : va_G} {cl : List vw_C} {ws : va_W} {H1 : Heap} (h : va_P D cl ws H1) {k : Nat} {q : Nat × va_E} (hk : ws[k]? = some q) : q.1 < H1.size := (h k q hk).lt
end VXS
/-! ===== END ===== -/
/-! ===== BEGIN methods with a table of their own: called by a name, returning or throwing ===== -/
section VXH
/-! vx_backW, vx_callVX, vx_callSX, vx_callVW, vx_runVW, vx_runVX, vx_runSX, vx_ofWH follow the same proofs as their sisters above (Free/Laws.lean, Shelf42/LK1.lean); vx_outP calls Shelf42/NT130.lean (outThrough). -/
section
variable {l : Launch} {R : Room} {p : Program} {e : Env} {below : List Frame} {s : State} {sargs : Array Value} {y : MethodName} {len W9 : Nat}
theorem vx_backW {ws : List Cond} {rm : Room} {Pc : Array Value → State → Prop} {Qc : Array Value → State → Outcome → State → Prop} {XC : String → State → State → Prop} {mc ms : Nat} {free : Addr → Prop} {bytes : ByteArray} {maxL : Nat} {ret : Option FieldType} {hh : List (Nat × Nat × Nat × Nat)}
    (hM : vx_Met l y ws rm Pc Qc XC mc ms free) (hblind : FrameBlind Pc) (hrc : rm.cells = mc) (hrs : rm.slots = ms)
    (hframes : rm.frames + 1 ≤ R.frames) (hlocals : W9 + (maxL + 11) + rm.locals ≤ R.locals)
    (hws : ∀ w ∈ ws, ∀ a' U, s.WarmedH U.vm → w.before a' U = true) (hcode : Cond.codeWith y bytes maxL ret hh ∈ ws) (hinit : ∀ a' U, s.WarmedH U.vm → (Cond.initialized y.cls).before a' U = true) :
    vx_Back l R p e below s sargs y len W9 (PreOf R mc ms Pc) (PostOf Qc mc ms free) (vx_Post XC mc ms free) := by
  intro m meth c A g ig mk a X hg hsize hdg hW hn hp
  have h1 : (headSpec ws rm).pre.before a A.U = true := atoms_intro fun w hw => hws w hw _ _ X.warmed
  have h2 : (Cond.codeWith y bytes maxL ret hh).before a A.U = true := hws _ hcode _ _ X.warmed
  have h3 : (Cond.initialized y.cls).before a A.U = true := hinit _ _ X.warmed
  have h4 : A.cells + (headSpec ws rm).room.cells ≤ R.cells := by rw [show (headSpec ws rm).room.cells = mc from hrc]; exact hp.1
  have h5 : A.slots + (headSpec ws rm).room.slots ≤ R.slots := by rw [show (headSpec ws rm).room.slots = ms from hrs]; exact hp.2.1
  have hPc : Pc a (A.U.calling g mk a) := hblind _ _ _ _ hp.2.2
  obtain ⟨U, Ls, c0, s0⟩ := A
  dsimp only [Pt.U, Pt.locs, Pt.cells, Pt.slots] at h1 h2 h3 h4 h5 X hn hPc ⊢
  obtain ⟨m9, methY, cY, hn9, hmY, hcY, -, hlY, -⟩ := Cond.codeWith_spec h2
  cases Option.some.inj (hn9.symm.trans hn)
  obtain ⟨kY, hkY, -⟩ := className_of_methodNamed hn
  have hinitY : kY.init = .initialized := Cond.initialized_spec (findClass_of_methodNamed hn) hkY h3
  have h : At U g.method c below := by rw [hg]; exact X.here
  have hlocals9 : W9 + (maxL + 11) + (headSpec ws rm).room.locals ≤ R.locals := hlocals
  have happ : (headSpec ws rm).appliesLoose y e.platform (U.calling g mk a) = true :=
    Spec.appliesLoose_calling (g := g) h hdg hn hkY hinitY
      (X.room_calling (g := g) (R' := (headSpec ws rm).room) hsize hmY hcY hframes (by rw [hlY]; omega) h4 h5) h1
  obtain ⟨mid, hmid⟩ := h.above
  have hfr : (U.setTop g).frames = (.java g :: mid) ++ below := by rw [State.frames_setTop' g h.top, hmid]; rfl
  obtain ⟨o, s₂, hsteps, -, hend, hq⟩ := Steps.callFree hM p X.admits X.cas X.clock (acts := []) hfr happ hPc trivial
  have hq' : vx_Q Qc XC mc ms free a (U.calling g mk a) o s₂ := hq
  rw [State.frames_setTop' g h.top] at hend
  obtain ⟨g₀, hg0⟩ := Option.isSome_iff_exists.mp h.top
  obtain ⟨r, hr⟩ := State.topJava?_eq_some.mp hg0
  have hr' : (({ U with heap := s₂.heap, slotsUsed := s₂.slotsUsed } : State).setVm s₂.vm).frames = .java g₀ :: r := hr
  rcases hq' with ⟨hqc, L, hfe, hL⟩ | ⟨q, rfl, E, ce, L, hx, hce, hcv, hcl, hW₂, hsm, hL⟩
  · obtain ⟨⟨v, rfl⟩, hW₂, e2, q2, q3, q4, q5, q6⟩ := id hfe
    have e3 : s₂ = ({ (U.calling g mk a).setFrames s₂.frames with heap := s₂.heap, slotsUsed := s₂.slotsUsed } : State).setVm s₂.vm := by
      have : s₂ = ({ s₂ with vm := (U.calling g mk a).vm } : State).setVm s₂.vm := rfl
      rw [e2] at this
      exact this
    obtain ⟨c₂, i₂, len₂, hc₂, hd₂, hf₂⟩ := hend
    have hW' : U.WarmedH s₂.vm := hW₂
    have hcc : c₂ = c := by
      have h1 : s₂.code? g.method = U.code? g.method := by
        rw [State.code?_eq, State.code?_eq, hW'.alike.method?]
      exact Option.some.inj (hc₂.symm.trans (h1.trans h.code))
    subst hcc
    have hlen : len₂ = len := by rw [hdg] at hd₂; cases hd₂; rfl
    subst hlen
    have hs₂ : s₂ = (({ U with heap := s₂.heap, slotsUsed := s₂.slotsUsed } : State).setVm s₂.vm).setTop { g with pc := g.pc + len₂, stack := v.toList ++ g.stack } := by
      refine e3.trans ?_
      rw [hf₂, State.calling_eq h.top, State.setFrames_setFrames, State.setTop_of_frames _ hr', hr]
      rfl
    have hsame : U.sameButNew ({ U with heap := s₂.heap, slotsUsed := s₂.slotsUsed } : State) L mc ms := by
      refine ⟨?_, q2, q3, q4, q5, q6⟩
      obtain ⟨t, ht, -⟩ := State.frames_cons hr
      show ({ U with heap := s₂.heap, slotsUsed := s₂.slotsUsed } : State) = { U.setFrames U.frames with heap := s₂.heap, slotsUsed := s₂.slotsUsed }
      rw [State.setFrames_self ht]
    subst hg
    refine Or.inl ⟨v, ⟨(({ U with heap := s₂.heap, slotsUsed := s₂.slotsUsed } : State).setVm s₂.vm), Ls ++ L, c0 + mc, s0 + ms⟩,
      ⟨X.admits, X.cas, X.clock, X.frames, X.room, X.hears, X.method, X.code, (X.here.setHeapUsed s₂.heap s₂.slotsUsed).setVm hW'.alike, X.tail, State.WarmedH.trans X.warmed hW', X.limits, X.bytes, X.same.trans (hsame.setVm s.vm)⟩,
      ⟨g, mk, s₂, L, rfl, rfl, hqc, rfl, hL, rfl, rfl⟩, ?_⟩
    show Steps p.tables e below _ ((({ U with heap := s₂.heap, slotsUsed := s₂.slotsUsed } : State).setVm s₂.vm).setTop { g with pc := g.pc + len₂, stack := v.toList ++ g.stack })
    rw [← hs₂]
    exact hsteps
  · obtain ⟨e2, q2, q3, q4, q5, q6⟩ := id hsm
    have e3 : s₂ = ({ (U.calling g mk a).setFrames s₂.frames with heap := s₂.heap, slotsUsed := s₂.slotsUsed } : State).setVm s₂.vm := by
      have : s₂ = ({ s₂ with vm := (U.calling g mk a).vm } : State).setVm s₂.vm := rfl
      rw [e2] at this
      exact this
    have hf₂ : s₂.frames = .throwing q :: .java g :: U.frames.tail := hend
    have hW' : U.WarmedH s₂.vm := hW₂
    have hs₂ : s₂ = ((({ U with heap := s₂.heap, slotsUsed := s₂.slotsUsed } : State).setVm s₂.vm).setTop g).pushFrame (.throwing q) := by
      refine e3.trans ?_
      rw [hf₂, State.calling_eq h.top, State.setFrames_setFrames, State.pushFrame, State.frames_setTop _ hr', State.setTop_of_frames _ hr', State.setFrames_setFrames, hr]
      rfl
    have hsame : U.sameButNew ({ U with heap := s₂.heap, slotsUsed := s₂.slotsUsed } : State) L mc ms := by
      refine ⟨?_, q2, q3, q4, q5, q6⟩
      obtain ⟨t, ht, -⟩ := State.frames_cons hr
      show ({ U with heap := s₂.heap, slotsUsed := s₂.slotsUsed } : State) = { U.setFrames U.frames with heap := s₂.heap, slotsUsed := s₂.slotsUsed }
      rw [State.setFrames_self ht]
    subst hg
    refine Or.inr ⟨q, ⟨(({ U with heap := s₂.heap, slotsUsed := s₂.slotsUsed } : State).setVm s₂.vm), Ls ++ L, c0 + mc, s0 + ms⟩,
      ⟨X.admits, X.cas, X.clock, X.frames, X.room, X.hears, X.method, X.code, (X.here.setHeapUsed s₂.heap s₂.slotsUsed).setVm hW'.alike, X.tail, State.WarmedH.trans X.warmed hW', X.limits, X.bytes, X.same.trans (hsame.setVm s.vm)⟩,
      ⟨g, mk, s₂, L, E, ce, rfl, rfl, hx, hce, hcv, hcl, rfl, hL, rfl, rfl⟩, ?_⟩
    show Steps p.tables e below _ (((({ U with heap := s₂.heap, slotsUsed := s₂.slotsUsed } : State).setVm s₂.vm).setTop g).pushFrame (.throwing q))
    rw [← hs₂]
    exact hsteps
end
variable {p : Program} {l : Launch} {e : Env} {R : Room} {s : State} {m : MethodId} {args : Array Value} {below : List Frame} {meth : Method} {c : Code} {T : State} {H : Heap} {locs : List Loc} {cells slots : Nat}
theorem vx_callVX (X : Stand p l e R s m args below meth c T locs cells slots) (hexec : p.tables.exec = Jvm.exec) {own C : String} {index : Nat} {y : MethodName} {bytes : ByteArray} {maxL : Nat} {ret : Option FieldType} {hh : List (Nat × Nat × Nat × Nat)}
    (hown : s.vm.findClass own = some m.cls) (hlink : (Cond.methodLink own index y).before args s = true) (hinst : (Cond.instanceMethod y).before args s = true) (hsel : (Cond.selects C y y).before args s = true)
    (hcode : (Cond.codeWith y bytes maxL ret hh).before args s = true) (hy : y.cls ≠ "java/lang/invoke/MethodHandle" ∧ y.cls ≠ "java/lang/invoke/VarHandle")
    {W9 : Nat} {Pre : Pt → Array Value → Prop} {Post : Pt → Array Value → Option Value → Pt → Prop} {PostX : Pt → Array Value → Addr → Pt → Prop} (hK : vx_Back l R p e below s args y 3 W9 Pre Post PostX)
    {b : Addr} {cellB : Cell} (hcell : T.heap[b]? = some cellB) (hobj : cellB.vm.isStatics = false) (hcls : s.vm.findClass C = some cellB.cls)
    {g : JFrame} (hg : g.method = m) (hsize : g.locals.size = c.maxLocals) {argsL rest : List Value} (hlen : ∀ sig, parseMethodDescriptor y.desc = some sig → argsL.length = sig.parameters.length)
    (hstack : g.stack = argsL.reverse ++ .ref b :: rest) (hW : 2 * g.monitorRoom + (rest.map fun v => v.category).sum ≤ W9) (hdg : decode c.code g.pc = .ok (.invokevirtual index, 3))
    (hpre : ∀ vm₁, s.WarmedH vm₁ → Pre ⟨T.setVm vm₁, locs, cells, slots⟩ (Value.ref b :: argsL).toArray) :
    (∃ (v : Option Value) (vm₁ : Vm) (B : Pt), s.WarmedH vm₁ ∧ Stand p l e R s m args below meth c B.U B.locs B.cells B.slots ∧ Post ⟨T.setVm vm₁, locs, cells, slots⟩ (Value.ref b :: argsL).toArray v B ∧
      ∀ target, Steps p.tables e below (B.U.setTop { g with pc := g.pc + 3, stack := v.toList ++ rest }) target → Steps p.tables e below (T.setTop g) target) ∨
    (∃ (q : Addr) (vm₁ : Vm) (B : Pt), s.WarmedH vm₁ ∧ Stand p l e R s m args below meth c B.U B.locs B.cells B.slots ∧ PostX ⟨T.setVm vm₁, locs, cells, slots⟩ (Value.ref b :: argsL).toArray q B ∧
      Steps p.tables e below (T.setTop g) ((B.U.setTop { g with stack := rest }).pushFrame (.throwing q))) := by
  obtain ⟨mk, methM, hnamed, hmethM, hstM, habM⟩ := Cond.instanceMethod_spec hinst
  obtain ⟨m8, methM', cM, hn8, hmethM', -, -, -, -, -, -, hsigM⟩ := Cond.codeWith_spec hcode
  cases Option.some.inj (hn8.symm.trans hnamed)
  cases hmethM.symm.trans hmethM'
  obtain ⟨c2, r2, m2, q1, q2, q3, q4, kP, hkP, hkPi⟩ := Cond.selects_spec hsel
  cases hcls.symm.trans q1
  cases (State.methodFound?_of_named hnamed hy).symm.trans q2
  cases hnamed.symm.trans q3
  have hselP : selectMethod e.platform s.vm cellB.cls mk = .method mk := by rw [Launch.admits_selectMethod X.admits]; exact q4
  obtain ⟨vm₁, X₁, hstep₁⟩ := X.invokevirtual hexec hown hlink hnamed hmethM hstM hkP hkPi hy (a := b) (cell := cellB) hcell
    (fun z h => by rw [h] at hobj; cases hobj) hselP hmethM habM hkP hkPi (g := g) hg (argsL := argsL) (rest := rest) (hlen _ hsigM) hstack hdg
  rcases hK m meth c ⟨T.setVm vm₁, locs, cells, slots⟩ { g with stack := rest } (.invokevirtual index) mk (Value.ref b :: argsL).toArray X₁ hg hsize hdg hW (X₁.named hnamed) (hpre vm₁ X₁.warmed) with ⟨v, B, X', hpost, hsteps⟩ | ⟨q, B, X', hpost, hsteps⟩
  · exact Or.inl ⟨v, vm₁, B, X₁.warmed, X', hpost, fun target h => hstep₁ _ fun acts => by rw [doInvoke_state]; exact hsteps.trans h⟩
  · exact Or.inr ⟨q, vm₁, B, X₁.warmed, X', hpost, hstep₁ _ fun acts => by rw [doInvoke_state]; exact hsteps⟩
theorem vx_callSX (X : Stand p l e R s m args below meth c T locs cells slots) (hexec : p.tables.exec = Jvm.exec) {own : String} {index : Nat} {y : MethodName} {bytes : ByteArray} {maxL : Nat} {ret : Option FieldType} {hh : List (Nat × Nat × Nat × Nat)}
    (hown : s.vm.findClass own = some m.cls) (hlink : (Cond.methodLink own index y).before args s = true) (hstat : (Cond.static y).before args s = true) (hinit : (Cond.initialized y.cls).before args s = true)
    (hcode : (Cond.codeWith y bytes maxL ret hh).before args s = true) (hy : y.cls ≠ "java/lang/invoke/MethodHandle" ∧ y.cls ≠ "java/lang/invoke/VarHandle")
    {W9 : Nat} {Pre : Pt → Array Value → Prop} {Post : Pt → Array Value → Option Value → Pt → Prop} {PostX : Pt → Array Value → Addr → Pt → Prop} (hK : vx_Back l R p e below s args y 3 W9 Pre Post PostX)
    {g : JFrame} (hg : g.method = m) (hsize : g.locals.size = c.maxLocals) {argsL rest : List Value} (hlen : ∀ sig, parseMethodDescriptor y.desc = some sig → argsL.length = sig.parameters.length)
    (hstack : g.stack = argsL.reverse ++ rest) (hW : 2 * g.monitorRoom + (rest.map fun v => v.category).sum ≤ W9) (hdg : decode c.code g.pc = .ok (.invokestatic index, 3))
    (hpre : ∀ vm₁, s.WarmedH vm₁ → Pre ⟨T.setVm vm₁, locs, cells, slots⟩ argsL.toArray) :
    (∃ (v : Option Value) (vm₁ : Vm) (B : Pt), s.WarmedH vm₁ ∧ Stand p l e R s m args below meth c B.U B.locs B.cells B.slots ∧ Post ⟨T.setVm vm₁, locs, cells, slots⟩ argsL.toArray v B ∧
      ∀ target, Steps p.tables e below (B.U.setTop { g with pc := g.pc + 3, stack := v.toList ++ rest }) target → Steps p.tables e below (T.setTop g) target) ∨
    (∃ (q : Addr) (vm₁ : Vm) (B : Pt), s.WarmedH vm₁ ∧ Stand p l e R s m args below meth c B.U B.locs B.cells B.slots ∧ PostX ⟨T.setVm vm₁, locs, cells, slots⟩ argsL.toArray q B ∧
      Steps p.tables e below (T.setTop g) ((B.U.setTop { g with stack := rest }).pushFrame (.throwing q))) := by
  obtain ⟨mk, methM, cM, hnamed, hmethM, -, -, -, -, -, -, hsigM⟩ := Cond.codeWith_spec hcode
  have hstatic : methM.isStatic = true := Cond.static_spec hnamed hmethM hstat
  obtain ⟨kP, hkP, -⟩ := className_of_methodNamed hnamed
  have hinitP : kP.init = .initialized := Cond.initialized_spec (findClass_of_methodNamed hnamed) hkP hinit
  obtain ⟨vm₁, X₁, hstep₁⟩ := X.invokestatic hexec hown hlink hnamed hmethM hstatic hkP hinitP hy (g := g) hg (argsL := argsL) (rest := rest) (hlen _ hsigM) hstack hdg
  rcases hK m meth c ⟨T.setVm vm₁, locs, cells, slots⟩ { g with stack := rest } (.invokestatic index) mk argsL.toArray X₁ hg hsize hdg hW (X₁.named hnamed) (hpre vm₁ X₁.warmed) with ⟨v, B, X', hpost, hsteps⟩ | ⟨q, B, X', hpost, hsteps⟩
  · exact Or.inl ⟨v, vm₁, B, X₁.warmed, X', hpost, fun target h => hstep₁ _ fun acts => by rw [doInvoke_state]; exact hsteps.trans h⟩
  · exact Or.inr ⟨q, vm₁, B, X₁.warmed, X', hpost, hstep₁ _ fun acts => by rw [doInvoke_state]; exact hsteps⟩
theorem vx_callVW (X : Stand p l e R s m args below meth c T locs cells slots) (hexec : p.tables.exec = Jvm.exec) {own C : String} {index : Nat} {y : MethodName} {bytes : ByteArray} {maxL : Nat} {ret : Option FieldType} {hh : List (Nat × Nat × Nat × Nat)}
    (hown : s.vm.findClass own = some m.cls) (hlink : (Cond.methodLink own index y).before args s = true) (hinst : (Cond.instanceMethod y).before args s = true) (hsel : (Cond.selects C y y).before args s = true)
    (hcode : (Cond.codeWith y bytes maxL ret hh).before args s = true) (hy : y.cls ≠ "java/lang/invoke/MethodHandle" ∧ y.cls ≠ "java/lang/invoke/VarHandle")
    {W9 : Nat} {Pre : Pt → Array Value → Prop} {Post : Pt → Array Value → Option Value → Pt → Prop} (hK : Back l R p e below s args y 3 W9 Pre Post)
    {b : Addr} {cellB : Cell} (hcell : T.heap[b]? = some cellB) (hobj : cellB.vm.isStatics = false) (hcls : s.vm.findClass C = some cellB.cls)
    {g : JFrame} (hg : g.method = m) (hsize : g.locals.size = c.maxLocals) {argsL rest : List Value} (hlen : ∀ sig, parseMethodDescriptor y.desc = some sig → argsL.length = sig.parameters.length)
    (hstack : g.stack = argsL.reverse ++ .ref b :: rest) (hW : 2 * g.monitorRoom + (rest.map fun v => v.category).sum ≤ W9) (hdg : decode c.code g.pc = .ok (.invokevirtual index, 3))
    (hpre : ∀ vm₁, s.WarmedH vm₁ → Pre ⟨T.setVm vm₁, locs, cells, slots⟩ (Value.ref b :: argsL).toArray) :
    ∃ (v : Option Value) (vm₁ : Vm) (B : Pt), s.WarmedH vm₁ ∧ Stand p l e R s m args below meth c B.U B.locs B.cells B.slots ∧ Post ⟨T.setVm vm₁, locs, cells, slots⟩ (Value.ref b :: argsL).toArray v B ∧
      ∀ target, Steps p.tables e below (B.U.setTop { g with pc := g.pc + 3, stack := v.toList ++ rest }) target → Steps p.tables e below (T.setTop g) target := by
  obtain ⟨mk, methM, hnamed, hmethM, hstM, habM⟩ := Cond.instanceMethod_spec hinst
  obtain ⟨m8, methM', cM, hn8, hmethM', -, -, -, -, -, -, hsigM⟩ := Cond.codeWith_spec hcode
  cases Option.some.inj (hn8.symm.trans hnamed)
  cases hmethM.symm.trans hmethM'
  obtain ⟨c2, r2, m2, q1, q2, q3, q4, kP, hkP, hkPi⟩ := Cond.selects_spec hsel
  cases hcls.symm.trans q1
  cases (State.methodFound?_of_named hnamed hy).symm.trans q2
  cases hnamed.symm.trans q3
  have hselP : selectMethod e.platform s.vm cellB.cls mk = .method mk := by rw [Launch.admits_selectMethod X.admits]; exact q4
  obtain ⟨vm₁, X₁, hstep₁⟩ := X.invokevirtual hexec hown hlink hnamed hmethM hstM hkP hkPi hy (a := b) (cell := cellB) hcell
    (fun z h => by rw [h] at hobj; cases hobj) hselP hmethM habM hkP hkPi (g := g) hg (argsL := argsL) (rest := rest) (hlen _ hsigM) hstack hdg
  obtain ⟨v, B, X', hpost, hsteps⟩ := hK m meth c ⟨T.setVm vm₁, locs, cells, slots⟩ { g with stack := rest } (.invokevirtual index) mk (Value.ref b :: argsL).toArray X₁ hg hsize hdg hW (X₁.named hnamed) (hpre vm₁ X₁.warmed)
  exact ⟨v, vm₁, B, X₁.warmed, X', hpost, fun target h => hstep₁ _ fun acts => by rw [doInvoke_state]; exact hsteps.trans h⟩
abbrev vx_CVW (R : Room) (s : State) (args : Array Value) (own C : String) (index : Nat) (y : MethodName) (bytes : ByteArray) (maxL : Nat) (ret : Option FieldType) (hh : List (Nat × Nat × Nat × Nat)) (ws : List Cond) (rm : Room) (mc ms n : Nat) : Prop :=
  (rm.cells = mc ∧ rm.slots = ms ∧ rm.frames + 1 ≤ R.frames ∧ 8 + (maxL + 11) + rm.locals ≤ R.locals ∧ (∀ w ∈ ws, ∀ (a' : Array Value) (U : State), s.WarmedH U.vm → w.before a' U = true) ∧ Cond.codeWith y bytes maxL ret hh ∈ ws) ∧
  (Cond.codeWith y bytes maxL ret hh).before args s = true ∧ (Cond.initialized y.cls).before args s = true ∧ (y.cls ≠ "java/lang/invoke/MethodHandle" ∧ y.cls ≠ "java/lang/invoke/VarHandle") ∧
  (∀ sig, parseMethodDescriptor y.desc = some sig → n = sig.parameters.length) ∧ (Cond.methodLink own index y).before args s = true ∧ (Cond.instanceMethod y).before args s = true ∧ (Cond.selects C y y).before args s = true
theorem vx_cwVW {own C : String} {index maxL mc ms : Nat} {y : MethodName} {bytes : ByteArray} {ret : Option FieldType} {hh : List (Nat × Nat × Nat × Nat)} {Ts ws ws' : List Cond} {rm : Room} (n : Nat) (ht : ∀ w ∈ Ts, w.before args s = true) (hT : GoodIn Ts (wsV own index C y ws)) (hw : ws = Cond.codeWith y bytes maxL ret hh :: ws') (hrc : rm.cells = mc) (hrs : rm.slots = ms)
    (hd : y.cls = C ∧ y.cls ≠ "java/lang/invoke/MethodHandle" ∧ y.cls ≠ "java/lang/invoke/VarHandle" ∧ (parseMethodDescriptor y.desc).map (fun d => d.parameters.length) = some n) (hR : rm.frames + 1 ≤ R.frames ∧ 8 + (maxL + 11) + rm.locals ≤ R.locals) :
    vx_CVW R s args own C index y bytes maxL ret hh ws rm mc ms n := by
  obtain ⟨hC, hd⟩ := hd
  subst hC
  have ok : ∀ w ∈ wsV own index y.cls y ws, w.before args s = true := fun w h => ht w (hT w h).1
  have hG : GoodIn Ts ws := fun w h => hT w (by unfold wsV; exact List.mem_append_right _ h)
  have hc : Cond.codeWith y bytes maxL ret hh ∈ ws := by rw [hw]; exact List.mem_cons_self
  refine ⟨⟨hrc, hrs, hR.1, hR.2, pay_in ht hG, hc⟩, ht _ (hG _ hc).1, ok _ (by simp [wsV]), ⟨hd.1, hd.2.1⟩, fun sig h => ?_, ok _ (by simp [wsV]), ok _ (by simp [wsV]), ok _ (by simp [wsV])⟩
  have h2 := hd.2.2
  rw [h] at h2
  exact (Option.some.inj h2).symm
theorem vx_runVW {y : MethodName} {bytes cc : ByteArray} {maxL nL mc ms n index : Nat} {ret : Option FieldType} {hh : List (Nat × Nat × Nat × Nat)} {ws : List Cond} {rm : Room} {Pc : Array Value → State → Prop} {Qc : Array Value → State → Outcome → State → Prop} {free : Addr → Prop} {Ts : List Cond} {own C : String} {b : Addr} {As rest : List Value} {g : JFrame}
    (S : CallFix p m c cc nL s args Ts own) (hM : Met l y ws rm Pc Qc mc ms free) (cw : vx_CVW R s args own C index y bytes maxL ret hh ws rm mc ms n) (hp : PreV s H C b Pc As)
    (hg : g.method = m) (hn : As.length = n) (hsize : g.locals.size = nL) (hstack : g.stack = As.reverse ++ .ref b :: rest) (hW : 2 * g.monitorRoom + (rest.map fun v => v.category).sum ≤ 8) (hdg : decode cc g.pc = .ok (.invokevirtual index, 3)) (hf : cells + mc ≤ R.cells ∧ slots + ms ≤ R.slots) :
    va_Run p l e R s m args below meth c H locs cells slots mc ms g rest (Qc (Value.ref b :: As).toArray) free := by
  obtain ⟨⟨hrc, hrs, hfr, hlo, hws, hcw⟩, hcode, hini, hy, hlen, hl, hin, hse⟩ := cw
  have hK : Back l R p e below s args y 3 8 (PreOf R mc ms Pc) (PostOf Qc mc ms free) := va_backW (hh := hh) (bytes := bytes) (maxL := maxL) (ret := ret) hM hp.1 hrc hrs hfr hlo hws hcw (fun a' U hW => word_at hW (Or.inl (by first | rfl | simp [Cond.onTables, Cond.keeps, Cond.steady])) hini)
  obtain ⟨hx, hb, hml, ho, -⟩ := S
  obtain ⟨-, ⟨cellB, hcB, hoB, hclB⟩, hPc⟩ := hp
  intro T hT X
  obtain ⟨v, vm₁, ⟨U', l2, c2, s2⟩, hW₁, X', ⟨g', mk, t, L, e1, e2, hq, h1, hL, h2, h3⟩, st⟩ := vx_callVW X hx (C := C) (hh := hh) (bytes := bytes) (maxL := maxL) (ret := ret) ho hl hin hse hcode hy hK (by rw [hT]; exact hcB) hoB hclB hg (hsize.trans hml.symm) (argsL := As) (rest := rest) (fun sig h => hn.trans (hlen sig h)) hstack hW (by rw [hb]; exact hdg)
    (fun vm₁ hW₁ => ⟨hf.1, hf.2, hPc (T.setVm vm₁) hT hW₁⟩)
  dsimp only [Pt.U, Pt.locs, Pt.cells, Pt.slots] at X' e1 e2 h1 h2 h3 st
  subst h1; subst h2; subst h3
  exact ⟨v, (T.setVm vm₁).calling g' mk (Value.ref b :: As).toArray, t, U', L, hT, X', hL, e1, e2, hq, st⟩
section
variable {y : MethodName} {bytes cc : ByteArray} {maxL nL mc ms n index : Nat} {ret : Option FieldType} {ws : List Cond} {rm : Room} {Pc : Array Value → State → Prop} {Qc : Array Value → State → Outcome → State → Prop} {XC : String → State → State → Prop} {free : Addr → Prop} {Ts : List Cond} {own C : String} {b : Addr} {As rest : List Value} {g : JFrame}
theorem vx_runVX {hh : List (Nat × Nat × Nat × Nat)} (S : CallFix p m c cc nL s args Ts own) (hM : vx_Met l y ws rm Pc Qc XC mc ms free) (cw : vx_CVW R s args own C index y bytes maxL ret hh ws rm mc ms n) (hp : PreV s H C b Pc As)
    (hg : g.method = m) (hn : As.length = n) (hsize : g.locals.size = nL) (hstack : g.stack = As.reverse ++ .ref b :: rest) (hW : 2 * g.monitorRoom + (rest.map fun v => v.category).sum ≤ 8) (hdg : decode cc g.pc = .ok (.invokevirtual index, 3)) (hf : cells + mc ≤ R.cells ∧ slots + ms ≤ R.slots) :
    vx_Run p l e R s m args below meth c H locs cells slots mc ms g rest (Qc (Value.ref b :: As).toArray) XC free := by
  obtain ⟨⟨hrc, hrs, hfr, hlo, hws, hcw⟩, hcode, hini, hy, hlen, hl, hin, hse⟩ := cw
  have hK : vx_Back l R p e below s args y 3 8 (PreOf R mc ms Pc) (PostOf Qc mc ms free) (vx_Post XC mc ms free) := vx_backW (hh := hh) (bytes := bytes) (maxL := maxL) (ret := ret) hM hp.1 hrc hrs hfr hlo hws hcw (fun a' U hW => word_at hW (Or.inl (by first | rfl | simp [Cond.onTables, Cond.keeps, Cond.steady])) hini)
  obtain ⟨hx, hb, hml, ho, -⟩ := S
  obtain ⟨-, ⟨cellB, hcB, hoB, hclB⟩, hPc⟩ := hp
  intro T hT X
  rcases vx_callVX X hx (C := C) (hh := hh) (bytes := bytes) (maxL := maxL) (ret := ret) ho hl hin hse hcode hy hK (by rw [hT]; exact hcB) hoB hclB hg (hsize.trans hml.symm) (argsL := As) (rest := rest) (fun sig h => hn.trans (hlen sig h)) hstack hW (by rw [hb]; exact hdg)
    (fun vm₁ hW₁ => ⟨hf.1, hf.2, hPc (T.setVm vm₁) hT hW₁⟩) with ⟨v, vm₁, ⟨U', l2, c2, s2⟩, hW₁, X', ⟨g', mk, t, L, e1, e2, hq, h1, hL, h2, h3⟩, st⟩ | ⟨q, vm₁, ⟨U', l2, c2, s2⟩, hW₁, X', ⟨g', mk, t, L, E, ce, e1, e2, hq, hce, hcv, hcl, h1, hL, h2, h3⟩, st⟩
  · dsimp only [Pt.U, Pt.locs, Pt.cells, Pt.slots] at X' e1 e2 h1 h2 h3 st
    subst h1; subst h2; subst h3
    exact Or.inl ⟨v, (T.setVm vm₁).calling g' mk (Value.ref b :: As).toArray, t, U', L, hT, X', hL, e1, e2, hq, st⟩
  · dsimp only [Pt.U, Pt.locs, Pt.cells, Pt.slots] at X' e1 e2 h1 h2 h3 st hcl
    subst h1; subst h2; subst h3
    exact Or.inr ⟨q, (T.setVm vm₁).calling g' mk (Value.ref b :: As).toArray, t, U', L, E, ce, hT, X', hL, e1, e2, hq, hce, hcv, vx_cls hW₁ hcl, st⟩
theorem vx_runSX {hh : List (Nat × Nat × Nat × Nat)} (S : CallFix p m c cc nL s args Ts own) (hM : vx_Met l y ws rm Pc Qc XC mc ms free) (cw : vx_CSW R s args own index y bytes maxL ret hh ws rm mc ms n) (hp : PreS s H Pc As)
    (hg : g.method = m) (hn : As.length = n) (hsize : g.locals.size = nL) (hstack : g.stack = As.reverse ++ rest) (hW : 2 * g.monitorRoom + (rest.map fun v => v.category).sum ≤ 8) (hdg : decode cc g.pc = .ok (.invokestatic index, 3)) (hf : cells + mc ≤ R.cells ∧ slots + ms ≤ R.slots) :
    vx_Run p l e R s m args below meth c H locs cells slots mc ms g rest (Qc As.toArray) XC free := by
  obtain ⟨⟨hrc, hrs, hfr, hlo, hws, hcw⟩, hcode, hini, hy, hlen, hl, hstt⟩ := cw
  have hK : vx_Back l R p e below s args y 3 8 (PreOf R mc ms Pc) (PostOf Qc mc ms free) (vx_Post XC mc ms free) := vx_backW (hh := hh) (bytes := bytes) (maxL := maxL) (ret := ret) hM hp.1 hrc hrs hfr hlo hws hcw (fun a' U hW => word_at hW (Or.inl (by first | rfl | simp [Cond.onTables, Cond.keeps, Cond.steady])) hini)
  obtain ⟨hx, hb, hml, ho, -⟩ := S
  intro T hT X
  rcases vx_callSX X hx (hh := hh) (bytes := bytes) (maxL := maxL) (ret := ret) ho hl hstt hini hcode hy hK hg (hsize.trans hml.symm) (argsL := As) (rest := rest) (fun sig h => hn.trans (hlen sig h)) hstack hW (by rw [hb]; exact hdg)
    (fun vm₁ hW₁ => ⟨hf.1, hf.2, hp.2 (T.setVm vm₁) hT hW₁⟩) with ⟨v, vm₁, ⟨U', l2, c2, s2⟩, hW₁, X', ⟨g', mk, t, L, e1, e2, hq, h1, hL, h2, h3⟩, st⟩ | ⟨q, vm₁, ⟨U', l2, c2, s2⟩, hW₁, X', ⟨g', mk, t, L, E, ce, e1, e2, hq, hce, hcv, hcl, h1, hL, h2, h3⟩, st⟩
  · dsimp only [Pt.U, Pt.locs, Pt.cells, Pt.slots] at X' e1 e2 h1 h2 h3 st
    subst h1; subst h2; subst h3
    exact Or.inl ⟨v, (T.setVm vm₁).calling g' mk As.toArray, t, U', L, hT, X', hL, e1, e2, hq, st⟩
  · dsimp only [Pt.U, Pt.locs, Pt.cells, Pt.slots] at X' e1 e2 h1 h2 h3 st hcl
    subst h1; subst h2; subst h3
    exact Or.inr ⟨q, (T.setVm vm₁).calling g' mk As.toArray, t, U', L, E, ce, hT, X', hL, e1, e2, hq, hce, hcv, vx_cls hW₁ hcl, st⟩
end
end VXH
theorem vx_ofWH {l : Launch} {y : MethodName} {ws ws' : List Cond} {rm : Room} {Pc : Array Value → State → Prop} {Qc : Array Value → State → Outcome → State → Prop} {XC : String → State → State → Prop} {mc ms : Nat} {free : Addr → Prop} {cc : ByteArray} {maxL : Nat} {ret : Option FieldType} {hh : List (Nat × Nat × Nat × Nat)}
    (hy : plainName y.cls = true) (hw : ws = Cond.codeWith y cc maxL ret hh :: ws')
    (body : ∀ p e s m args below meth c s₁, BodyLoose p l y (headSpec ws rm) cc maxL ret e s m args below meth c s₁ → c.maxLocals = maxL → Pc args s →
      W p l e (headSpec ws rm).room s m args below meth c s.heap [] 0 0 (vx_MQ below Qc XC args s mc ms free) (entryFrame m args maxL)) : vx_Met l y ws rm Pc Qc XC mc ms free := by
  refine MetFree.of_bodyS (code := cc) (maxLocals := maxL) (ret := ret) hy ?_ ?_
  · intro args s m h hn
    obtain ⟨m9, meth, c, hn9, h1, h2, h3, h4, -, h5, h6, -⟩ := Cond.codeWith_spec (atoms_spec (ws := ws) h _ (by rw [hw]; exact List.mem_cons_self))
    cases hn.symm.trans hn9
    exact ⟨meth, c, h1, h2, h3, h4, h5, h6⟩
  · intro p e s m args below meth c s₁ B hml hP _
    have hh0 : s₁.heap = s.heap := by rw [B.state]; rfl
    obtain ⟨t, a1, o, b1, b2, b3⟩ := body p e s m args below meth c s₁ B hml hP s₁ hh0 (Stand.of_body B)
    exact ⟨t, o, a1, b1, b2, b3⟩
/-! ===== END ===== -/
end
section
/-! Worlds as functions: what cell lies at an address, if the world knows it. -/
abbrev g_F : Type := Nat → Option va_E
/-- the heap holds the world -/
def g_P (D : va_G) (cl : List vw_C) (f : g_F) (H : Heap) : Prop := ∀ (a : Nat) (x : va_E), f a = some x → va_at D cl (a, x) H
/-- one cell more, or another content -/
def g_u (f : g_F) (a : Nat) (x : va_E) : g_F := fun q => if q = a then some x else f q
theorem g_u_s {f : g_F} {a : Nat} {x : va_E} : g_u f a x a = some x := if_pos rfl
theorem g_u_n {f : g_F} {a q : Nat} {x : va_E} (h : q ≠ a) : g_u f a x q = f q := if_neg h
theorem g_u_u {f : g_F} {a : Nat} {x y : va_E} : g_u (g_u f a x) a y = g_u f a y := by
  funext q
  by_cases h : q = a
  · subst h; rw [g_u_s, g_u_s]
  · rw [g_u_n h, g_u_n h, g_u_n h]
theorem g_u_c {f : g_F} {a b : Nat} {x y : va_E} (h : a ≠ b) : g_u (g_u f a x) b y = g_u (g_u f b y) a x := by
  funext q
  by_cases h1 : q = a
  · subst h1; rw [g_u_n h, g_u_s, g_u_s]
  · by_cases h2 : q = b
    · subst h2; rw [g_u_s, g_u_n h1, g_u_s]
    · rw [g_u_n h2, g_u_n h1, g_u_n h1, g_u_n h2]
theorem g_ne {f : g_F} {a b : Nat} {x y : va_E} (h1 : f a = some x) (h2 : f b = some y) (h : x ≠ y) : a ≠ b := by
  intro e
  subst e
  rw [h1] at h2
  exact h (Option.some.inj h2)
theorem g_P.one {D : va_G} {cl : List vw_C} {f : g_F} {H : Heap} {a : Nat} {x : va_E} (h : g_P D cl f H) (he : f a = some x) : va_P D cl [(a, x)] H := by
  intro k q hk
  have hz : k < 1 := (List.getElem?_eq_some_iff.mp hk).1
  rw [show k = 0 by omega] at hk
  cases hk
  exact h a x he
theorem g_P.lt {D : va_G} {cl : List vw_C} {f : g_F} {H : Heap} {a : Nat} (h : g_P D cl f H) (he : f a ≠ none) : a < H.size := by
  cases hf : f a with
  | none => exact absurd hf he
  | some x => exact (h a x hf).lt
theorem g_P.set {D : va_G} {cl : List vw_C} {f : g_F} {H H1 : Heap} {a : Nat} {x : va_E} (h : g_P D cl f H) (he : va_at D cl (a, x) H1) (oq : ∀ q : Nat, q ≠ a → H1[q]? = H[q]?) : g_P D cl (g_u f a x) H1 := by
  intro q y hq
  by_cases hqa : q = a
  · subst hqa
    rw [g_u_s] at hq
    cases hq
    exact he
  · rw [g_u_n hqa] at hq
    exact (h q y hq).kept (oq q hqa)
theorem g_P.new {D : va_G} {cl : List vw_C} {f : g_F} {H H1 : Heap} {x : va_E} (h : g_P D cl f H) (he : va_at D cl (H.size, x) H1) (oq : ∀ q : Nat, q < H.size → H1[q]? = H[q]?) : g_P D cl (g_u f H.size x) H1 := by
  intro q y hq
  by_cases hqa : q = H.size
  · subst hqa
    rw [g_u_s] at hq
    cases hq
    exact he
  · rw [g_u_n hqa] at hq
    exact (h q y hq).kept (oq q (h q y hq).lt)
theorem g_P.non {D : va_G} {cl : List vw_C} {f : g_F} {H : Heap} (h : g_P D cl f H) : f H.size = none := by
  cases hf : f H.size with
  | none => rfl
  | some x => exact absurd (h _ _ hf).lt (Nat.lt_irrefl _)
theorem g_D.set {f : g_F} {A : Nat → Prop} {a : Nat} {x : va_E} (h : ∀ q : Nat, f q ≠ none → A q) (ha : A a) : ∀ q : Nat, g_u f a x q ≠ none → A q := by
  intro q hq
  by_cases hqa : q = a
  · rw [hqa]; exact ha
  · rw [g_u_n hqa] at hq; exact h q hq
/-- which cells a method may write: the world's, and those that it makes -/
def g_A (f : g_F) (sz : Nat) : Nat → Prop := fun q => f q ≠ none ∨ sz ≤ q
theorem va_S.new {A : Nat → Prop} {H0 H H1 : Heap} {locs : List Loc} (h : va_S A H0 H locs) (z : H1.size = H.size + 1) (oq : ∀ q : Nat, q < H.size → H1[q]? = H[q]?) : va_S A H0 H1 locs :=
  ⟨Nat.le_trans h.1 (by omega), fun q h1 h2 => (oq q (Nat.lt_of_lt_of_le h1 h.1)).trans (h.2.1 q h1 h2), h.2.2⟩
/-- what stays the same in a method's body -/
def g_X (p : Program) (s : State) (m : MethodId) (args : Array Value) (meth : Method) (c : Code) (cc : ByteArray) (nL : Nat) (ret : Option FieldType) (Ts : List Cond) (own : String) (D : va_G) (cl : List vw_C) (tys : List (ClassId × FieldType)) (A : Nat → Prop) (Z : (Nat → Prop) → State → Heap → Prop) : Prop :=
  CallFix p m c cc nL s args Ts own ∧ va_K D cl tys s ∧ (∀ q : Nat, s.heap.size ≤ q → A q) ∧ meth.sig.returnType = ret ∧ meth.locks = false ∧ Z A s s.heap
/-- the machine at pc, with locals lv and operands st, in the world f, comes to Q -/
def g_W (p : Program) (l : Launch) (e : Env) (R : Room) (s : State) (m : MethodId) (args : Array Value) (below : List Frame) (meth : Method) (c : Code) (nL : Nat) (D : va_G) (cl : List vw_C) (A : Nat → Prop) (f : g_F) (cells slots : Nat) (Q : State → Prop) (pc : Nat) (lv : List (Nat × Value)) (st : List Value) : Prop :=
  ∀ (H : Heap) (locs : List Loc) (ls : Array Slot), g_P D cl f H → (∀ q : Nat, f q ≠ none → A q) → va_S A s.heap H locs → lv_has ls nL lv → W p l e R s m args below meth c H locs cells slots Q (F0 m pc ls st)
def g_T : List Cond := lw_tbl.filter goodWord
theorem g_in {w : Cond} (i : Nat) (h : lw_tbl[i]? = some w) (hg : goodWord w = true) : w ∈ g_T := List.mem_filter.mpr ⟨List.mem_of_getElem? h, hg⟩
theorem g_good : GoodIn g_T g_T := fun w h => ⟨h, good_of_word (List.mem_filter.mp h).2⟩
theorem g_goodc {w : Cond} (h : w ∈ g_T) : GoodIn g_T (w :: g_T) := fun v hv => (List.mem_cons.mp hv).elim (fun e => by rw [e]; exact g_good w h) (g_good v)
section GR
variable {p : Program} {l : Launch} {e : Env} {R : Room} {s : State} {m : MethodId} {args : Array Value} {below : List Frame} {meth : Method} {c : Code} {cells slots : Nat} {Q : State → Prop}
variable {cc : ByteArray} {pc nL : Nat} {D : va_G} {cl : List vw_C} {tys : List (ClassId × FieldType)} {A : Nat → Prop} {f : g_F} {lv lv' : List (Nat × Value)} {st : List Value} {Ts : List Cond} {own : String} {ret : Option FieldType} {Z : (Nat → Prop) → State → Heap → Prop}
theorem g_lv (ks : List Nat) (h : lv_pick lv ks = lv') (kk : g_W p l e R s m args below meth c nL D cl A f cells slots Q pc lv' st) : g_W p l e R s m args below meth c nL D cl A f cells slots Q pc lv st := fun H locs ls hP hD hS hl => kk H locs ls hP hD hS (lv_sub hl ks h)
theorem g_eqi {x y : Int32} (h : x = y) (kk : g_W p l e R s m args below meth c nL D cl A f cells slots Q pc lv (.int y :: st)) : g_W p l e R s m args below meth c nL D cl A f cells slots Q pc lv (.int x :: st) := by rw [h]; exact kk
theorem g_eqf {f2 : g_F} (h : f = f2) (kk : g_W p l e R s m args below meth c nL D cl A f2 cells slots Q pc lv st) : g_W p l e R s m args below meth c nL D cl A f cells slots Q pc lv st := by rw [h]; exact kk
theorem g_st {st2 : List Value} (h : st = st2) (kk : g_W p l e R s m args below meth c nL D cl A f cells slots Q pc lv st2) : g_W p l e R s m args below meth c nL D cl A f cells slots Q pc lv st := by rw [h]; exact kk
theorem g_wid {k n : Nat} (h1 : cells ≤ k) (h2 : slots ≤ n) (kk : g_W p l e R s m args below meth c nL D cl A f k n Q pc lv st) : g_W p l e R s m args below meth c nL D cl A f cells slots Q pc lv st := fun H locs ls hP hD hS hl => W.widen h1 h2 (kk H locs ls hP hD hS hl)
theorem g_iconst (X : g_X p s m args meth c cc nL ret Ts own D cl tys A Z) {n : Int} {v : Int32} (d : decode cc pc = .ok (.iconst n, 1)) (hv : Int32.ofInt n = v) (kk : g_W p l e R s m args below meth c nL D cl A f cells slots Q (pc + 1) lv (.int v :: st)) : g_W p l e R s m args below meth c nL D cl A f cells slots Q pc lv st := fun H locs ls hP hD hS hl => lv_iconst X.1.1 X.1.2.1 d hv (kk H locs ls hP hD hS hl)
theorem g_bipush (X : g_X p s m args meth c cc nL ret Ts own D cl tys A Z) {n : Int} {v : Int32} (d : decode cc pc = .ok (.bipush n, 2)) (hv : (Int8.ofInt n).toInt32 = v) (kk : g_W p l e R s m args below meth c nL D cl A f cells slots Q (pc + 2) lv (.int v :: st)) : g_W p l e R s m args below meth c nL D cl A f cells slots Q pc lv st := fun H locs ls hP hD hS hl => lv_bipush X.1.1 X.1.2.1 d hv (kk H locs ls hP hD hS hl)
theorem g_sipush (X : g_X p s m args meth c cc nL ret Ts own D cl tys A Z) {n : Int} {v : Int32} (d : decode cc pc = .ok (.sipush n, 3)) (hv : (Int16.ofInt n).toInt32 = v) (kk : g_W p l e R s m args below meth c nL D cl A f cells slots Q (pc + 3) lv (.int v :: st)) : g_W p l e R s m args below meth c nL D cl A f cells slots Q pc lv st := fun H locs ls hP hD hS hl => lv_sipush X.1.1 X.1.2.1 d hv (kk H locs ls hP hD hS hl)
theorem g_ldc (X : g_X p s m args meth c cc nL ret Ts own D cl tys A Z) {index : Nat} {v : Int32} (hc : Jvm.Cond.constant own index v ∈ Ts) (d : decode cc pc = .ok (.ldc index, 2)) (kk : g_W p l e R s m args below meth c nL D cl A f cells slots Q (pc + 2) lv (.int v :: st)) : g_W p l e R s m args below meth c nL D cl A f cells slots Q pc lv st := fun H locs ls hP hD hS hl => lv_ldc X.1.1 X.1.2.1 X.1.2.2.2.1 (X.1.2.2.2.2 _ hc) d (kk H locs ls hP hD hS hl)
theorem g_null (X : g_X p s m args meth c cc nL ret Ts own D cl tys A Z) (d : decode cc pc = .ok (.aconst_null, 1)) (kk : g_W p l e R s m args below meth c nL D cl A f cells slots Q (pc + 1) lv (.null :: st)) : g_W p l e R s m args below meth c nL D cl A f cells slots Q pc lv st := fun H locs ls hP hD hS hl => lv_null X.1.1 X.1.2.1 d (kk H locs ls hP hD hS hl)
theorem g_iload_n (X : g_X p s m args meth c cc nL ret Ts own D cl tys A Z) {k : Fin 4} {x : Int32} (d : decode cc pc = .ok (.iload_n k, 1)) (j : Nat) (h : lv[j]? = some ((k : Nat), (.int x))) (kk : g_W p l e R s m args below meth c nL D cl A f cells slots Q (pc + 1) lv ((.int x) :: st)) : g_W p l e R s m args below meth c nL D cl A f cells slots Q pc lv st := fun H locs ls hP hD hS hl => lv_iload_n X.1.1 X.1.2.1 d rfl (lv_at hl j h) (kk H locs ls hP hD hS hl)
theorem g_iload (X : g_X p s m args meth c cc nL ret Ts own D cl tys A Z) {i : Nat} {x : Int32} (d : decode cc pc = .ok (.iload i, 2)) (j : Nat) (h : lv[j]? = some (i, (.int x))) (kk : g_W p l e R s m args below meth c nL D cl A f cells slots Q (pc + 2) lv ((.int x) :: st)) : g_W p l e R s m args below meth c nL D cl A f cells slots Q pc lv st := fun H locs ls hP hD hS hl => lv_iload X.1.1 X.1.2.1 d (lv_at hl j h) (kk H locs ls hP hD hS hl)
theorem g_istore_n (X : g_X p s m args meth c cc nL ret Ts own D cl tys A Z) {k : Fin 4} {i : Nat} {x : Int32} (d : decode cc pc = .ok (.istore_n k, 1)) (hi : (k : Nat) = i) (hn : i < nL) (h : (i, (Value.int x)) :: lv.filter (fun q => !(q.1 == i) && !(q.1 + 1 == i && q.2.category == 2)) = lv') (kk : g_W p l e R s m args below meth c nL D cl A f cells slots Q (pc + 1) lv' st) : g_W p l e R s m args below meth c nL D cl A f cells slots Q pc lv ((.int x) :: st) := fun H locs ls hP hD hS hl => lv_istore_n X.1.1 X.1.2.1 d hi hl hn h (fun ls2 hl2 => kk H locs ls2 hP hD hS hl2)
theorem g_istore (X : g_X p s m args meth c cc nL ret Ts own D cl tys A Z) {i : Nat} {x : Int32} (d : decode cc pc = .ok (.istore i, 2)) (hn : i < nL) (h : (i, (Value.int x)) :: lv.filter (fun q => !(q.1 == i) && !(q.1 + 1 == i && q.2.category == 2)) = lv') (kk : g_W p l e R s m args below meth c nL D cl A f cells slots Q (pc + 2) lv' st) : g_W p l e R s m args below meth c nL D cl A f cells slots Q pc lv ((.int x) :: st) := fun H locs ls hP hD hS hl => lv_istore X.1.1 X.1.2.1 d hl hn h (fun ls2 hl2 => kk H locs ls2 hP hD hS hl2)
theorem g_aload_n (X : g_X p s m args meth c cc nL ret Ts own D cl tys A Z) {k : Fin 4} {x : Nat} (d : decode cc pc = .ok (.aload_n k, 1)) (j : Nat) (h : lv[j]? = some ((k : Nat), (.ref x))) (kk : g_W p l e R s m args below meth c nL D cl A f cells slots Q (pc + 1) lv ((.ref x) :: st)) : g_W p l e R s m args below meth c nL D cl A f cells slots Q pc lv st := fun H locs ls hP hD hS hl => lv_aload_n X.1.1 X.1.2.1 d rfl (lv_at hl j h) (kk H locs ls hP hD hS hl)
theorem g_aload (X : g_X p s m args meth c cc nL ret Ts own D cl tys A Z) {i : Nat} {x : Nat} (d : decode cc pc = .ok (.aload i, 2)) (j : Nat) (h : lv[j]? = some (i, (.ref x))) (kk : g_W p l e R s m args below meth c nL D cl A f cells slots Q (pc + 2) lv ((.ref x) :: st)) : g_W p l e R s m args below meth c nL D cl A f cells slots Q pc lv st := fun H locs ls hP hD hS hl => lv_aload X.1.1 X.1.2.1 d (lv_at hl j h) (kk H locs ls hP hD hS hl)
theorem g_astore_n (X : g_X p s m args meth c cc nL ret Ts own D cl tys A Z) {k : Fin 4} {i : Nat} {x : Nat} (d : decode cc pc = .ok (.astore_n k, 1)) (hi : (k : Nat) = i) (hn : i < nL) (h : (i, (Value.ref x)) :: lv.filter (fun q => !(q.1 == i) && !(q.1 + 1 == i && q.2.category == 2)) = lv') (kk : g_W p l e R s m args below meth c nL D cl A f cells slots Q (pc + 1) lv' st) : g_W p l e R s m args below meth c nL D cl A f cells slots Q pc lv ((.ref x) :: st) := fun H locs ls hP hD hS hl => lv_astore_n X.1.1 X.1.2.1 d hi hl hn h (fun ls2 hl2 => kk H locs ls2 hP hD hS hl2)
theorem g_astore (X : g_X p s m args meth c cc nL ret Ts own D cl tys A Z) {i : Nat} {x : Nat} (d : decode cc pc = .ok (.astore i, 2)) (hn : i < nL) (h : (i, (Value.ref x)) :: lv.filter (fun q => !(q.1 == i) && !(q.1 + 1 == i && q.2.category == 2)) = lv') (kk : g_W p l e R s m args below meth c nL D cl A f cells slots Q (pc + 2) lv' st) : g_W p l e R s m args below meth c nL D cl A f cells slots Q pc lv ((.ref x) :: st) := fun H locs ls hP hD hS hl => lv_astore X.1.1 X.1.2.1 d hl hn h (fun ls2 hl2 => kk H locs ls2 hP hD hS hl2)
theorem g_iinc (X : g_X p s m args meth c cc nL ret Ts own D cl tys A Z) {i : Nat} {n : Int} {x v : Int32} (d : decode cc pc = .ok (.iinc i n, 3)) (j : Nat) (hj : lv[j]? = some (i, .int x)) (hv : x + Int32.ofInt n = v) (hn : i < nL) (h : (i, Value.int v) :: lv.filter (fun q => !(q.1 == i) && !(q.1 + 1 == i && q.2.category == 2)) = lv') (kk : g_W p l e R s m args below meth c nL D cl A f cells slots Q (pc + 3) lv' st) : g_W p l e R s m args below meth c nL D cl A f cells slots Q pc lv st := fun H locs ls hP hD hS hl => lv_iinc X.1.1 X.1.2.1 d hl hj hv hn h (fun ls2 hl2 => kk H locs ls2 hP hD hS hl2)
theorem g_iadd (X : g_X p s m args meth c cc nL ret Ts own D cl tys A Z) {x y : Int32} (d : decode cc pc = .ok (.iadd, 1)) (kk : g_W p l e R s m args below meth c nL D cl A f cells slots Q (pc + 1) lv (.int (x + y) :: st)) : g_W p l e R s m args below meth c nL D cl A f cells slots Q pc lv (.int y :: .int x :: st) := fun H locs ls hP hD hS hl => lv_iadd X.1.1 X.1.2.1 d (kk H locs ls hP hD hS hl)
theorem g_isub (X : g_X p s m args meth c cc nL ret Ts own D cl tys A Z) {x y : Int32} (d : decode cc pc = .ok (.isub, 1)) (kk : g_W p l e R s m args below meth c nL D cl A f cells slots Q (pc + 1) lv (.int (x - y) :: st)) : g_W p l e R s m args below meth c nL D cl A f cells slots Q pc lv (.int y :: .int x :: st) := fun H locs ls hP hD hS hl => lv_isub X.1.1 X.1.2.1 d (kk H locs ls hP hD hS hl)
theorem g_imul (X : g_X p s m args meth c cc nL ret Ts own D cl tys A Z) {x y : Int32} (d : decode cc pc = .ok (.imul, 1)) (kk : g_W p l e R s m args below meth c nL D cl A f cells slots Q (pc + 1) lv (.int (x * y) :: st)) : g_W p l e R s m args below meth c nL D cl A f cells slots Q pc lv (.int y :: .int x :: st) := fun H locs ls hP hD hS hl => lv_imul X.1.1 X.1.2.1 d (kk H locs ls hP hD hS hl)
theorem g_iand (X : g_X p s m args meth c cc nL ret Ts own D cl tys A Z) {x y : Int32} (d : decode cc pc = .ok (.iand, 1)) (kk : g_W p l e R s m args below meth c nL D cl A f cells slots Q (pc + 1) lv (.int (x &&& y) :: st)) : g_W p l e R s m args below meth c nL D cl A f cells slots Q pc lv (.int y :: .int x :: st) := fun H locs ls hP hD hS hl => lv_iand X.1.1 X.1.2.1 d (kk H locs ls hP hD hS hl)
theorem g_ior (X : g_X p s m args meth c cc nL ret Ts own D cl tys A Z) {x y : Int32} (d : decode cc pc = .ok (.ior, 1)) (kk : g_W p l e R s m args below meth c nL D cl A f cells slots Q (pc + 1) lv (.int (x ||| y) :: st)) : g_W p l e R s m args below meth c nL D cl A f cells slots Q pc lv (.int y :: .int x :: st) := fun H locs ls hP hD hS hl => lv_ior X.1.1 X.1.2.1 d (kk H locs ls hP hD hS hl)
theorem g_ixor (X : g_X p s m args meth c cc nL ret Ts own D cl tys A Z) {x y : Int32} (d : decode cc pc = .ok (.ixor, 1)) (kk : g_W p l e R s m args below meth c nL D cl A f cells slots Q (pc + 1) lv (.int (x ^^^ y) :: st)) : g_W p l e R s m args below meth c nL D cl A f cells slots Q pc lv (.int y :: .int x :: st) := fun H locs ls hP hD hS hl => lv_ixor X.1.1 X.1.2.1 d (kk H locs ls hP hD hS hl)
theorem g_ishl (X : g_X p s m args meth c cc nL ret Ts own D cl tys A Z) {x y : Int32} (d : decode cc pc = .ok (.ishl, 1)) (kk : g_W p l e R s m args below meth c nL D cl A f cells slots Q (pc + 1) lv (.int (x <<< (y &&& 31)) :: st)) : g_W p l e R s m args below meth c nL D cl A f cells slots Q pc lv (.int y :: .int x :: st) := fun H locs ls hP hD hS hl => lv_ishl X.1.1 X.1.2.1 d (kk H locs ls hP hD hS hl)
theorem g_ishr (X : g_X p s m args meth c cc nL ret Ts own D cl tys A Z) {x y : Int32} (d : decode cc pc = .ok (.ishr, 1)) (kk : g_W p l e R s m args below meth c nL D cl A f cells slots Q (pc + 1) lv (.int (x >>> (y &&& 31)) :: st)) : g_W p l e R s m args below meth c nL D cl A f cells slots Q pc lv (.int y :: .int x :: st) := fun H locs ls hP hD hS hl => lv_ishr X.1.1 X.1.2.1 d (kk H locs ls hP hD hS hl)
theorem g_iushr (X : g_X p s m args meth c cc nL ret Ts own D cl tys A Z) {x y v : Int32} (d : decode cc pc = .ok (.iushr, 1)) (hv : (x.toUInt32 >>> (y.toUInt32 &&& Int32.toUInt32 31)).toInt32 = v) (kk : g_W p l e R s m args below meth c nL D cl A f cells slots Q (pc + 1) lv (.int v :: st)) : g_W p l e R s m args below meth c nL D cl A f cells slots Q pc lv (.int y :: .int x :: st) := fun H locs ls hP hD hS hl => lv_iushr X.1.1 X.1.2.1 d hv (kk H locs ls hP hD hS hl)
theorem g_idiv (X : g_X p s m args meth c cc nL ret Ts own D cl tys A Z) {x y : Int32} (d : decode cc pc = .ok (.idiv, 1)) (h0 : ¬ y = 0) (kk : g_W p l e R s m args below meth c nL D cl A f cells slots Q (pc + 1) lv (.int (x / y) :: st)) : g_W p l e R s m args below meth c nL D cl A f cells slots Q pc lv (.int y :: .int x :: st) := fun H locs ls hP hD hS hl => lv_idiv X.1.1 X.1.2.1 d h0 (kk H locs ls hP hD hS hl)
theorem g_irem (X : g_X p s m args meth c cc nL ret Ts own D cl tys A Z) {x y : Int32} (d : decode cc pc = .ok (.irem, 1)) (h0 : ¬ y = 0) (kk : g_W p l e R s m args below meth c nL D cl A f cells slots Q (pc + 1) lv (.int (x - x / y * y) :: st)) : g_W p l e R s m args below meth c nL D cl A f cells slots Q pc lv (.int y :: .int x :: st) := fun H locs ls hP hD hS hl => lv_irem X.1.1 X.1.2.1 d h0 (kk H locs ls hP hD hS hl)
theorem g_ineg (X : g_X p s m args meth c cc nL ret Ts own D cl tys A Z) {x : Int32} (d : decode cc pc = .ok (.ineg, 1)) (kk : g_W p l e R s m args below meth c nL D cl A f cells slots Q (pc + 1) lv (.int (-x) :: st)) : g_W p l e R s m args below meth c nL D cl A f cells slots Q pc lv (.int x :: st) := fun H locs ls hP hD hS hl => lv_ineg X.1.1 X.1.2.1 d (kk H locs ls hP hD hS hl)
theorem g_dup (X : g_X p s m args meth c cc nL ret Ts own D cl tys A Z) {v : Value} (d : decode cc pc = .ok (.dup, 1)) (hv : v.category = 1) (kk : g_W p l e R s m args below meth c nL D cl A f cells slots Q (pc + 1) lv (v :: v :: st)) : g_W p l e R s m args below meth c nL D cl A f cells slots Q pc lv (v :: st) := fun H locs ls hP hD hS hl => lv_dup X.1.1 X.1.2.1 d hv (kk H locs ls hP hD hS hl)
theorem g_pop (X : g_X p s m args meth c cc nL ret Ts own D cl tys A Z) {v : Value} (d : decode cc pc = .ok (.pop, 1)) (hv : v.category = 1) (kk : g_W p l e R s m args below meth c nL D cl A f cells slots Q (pc + 1) lv st) : g_W p l e R s m args below meth c nL D cl A f cells slots Q pc lv (v :: st) := fun H locs ls hP hD hS hl => lv_pop X.1.1 X.1.2.1 d hv (kk H locs ls hP hD hS hl)
theorem g_dup_x1 (X : g_X p s m args meth c cc nL ret Ts own D cl tys A Z) {v w : Value} (d : decode cc pc = .ok (.dup_x1, 1)) (hv : v.category = 1) (hw : w.category = 1) (kk : g_W p l e R s m args below meth c nL D cl A f cells slots Q (pc + 1) lv (v :: w :: v :: st)) : g_W p l e R s m args below meth c nL D cl A f cells slots Q pc lv (v :: w :: st) := fun H locs ls hP hD hS hl => lv_dup_x1 X.1.1 X.1.2.1 d hv hw (kk H locs ls hP hD hS hl)
theorem g_dup2 (X : g_X p s m args meth c cc nL ret Ts own D cl tys A Z) {v w : Value} (d : decode cc pc = .ok (.dup2, 1)) (hv : v.category = 1) (hw : w.category = 1) (kk : g_W p l e R s m args below meth c nL D cl A f cells slots Q (pc + 1) lv (v :: w :: v :: w :: st)) : g_W p l e R s m args below meth c nL D cl A f cells slots Q pc lv (v :: w :: st) := fun H locs ls hP hD hS hl => lv_dup2_11 X.1.1 X.1.2.1 d hv hw (kk H locs ls hP hD hS hl)
theorem g_if_eq (X : g_X p s m args meth c cc nL ret Ts own D cl tys A Z) {x : Int32} {off : Int} (tgt : Nat) (d : decode cc pc = .ok (.ifCond .eq off, 3)) (ht : (pc : Int) + off = (tgt : Int)) (kt : x = 0 → g_W p l e R s m args below meth c nL D cl A f cells slots Q tgt lv st) (kf : ¬ (x = 0) → g_W p l e R s m args below meth c nL D cl A f cells slots Q (pc + 3) lv st) : g_W p l e R s m args below meth c nL D cl A f cells slots Q pc lv (.int x :: st) := fun H locs ls hP hD hS hl => lv_if_eq X.1.1 X.1.2.1 d ht (fun h => kt h H locs ls hP hD hS hl) (fun h => kf h H locs ls hP hD hS hl)
theorem g_icmp_eq (X : g_X p s m args meth c cc nL ret Ts own D cl tys A Z) {x y : Int32} {off : Int} (tgt : Nat) (d : decode cc pc = .ok (.if_icmp .eq off, 3)) (ht : (pc : Int) + off = (tgt : Int)) (kt : x = y → g_W p l e R s m args below meth c nL D cl A f cells slots Q tgt lv st) (kf : ¬ (x = y) → g_W p l e R s m args below meth c nL D cl A f cells slots Q (pc + 3) lv st) : g_W p l e R s m args below meth c nL D cl A f cells slots Q pc lv (.int y :: .int x :: st) := fun H locs ls hP hD hS hl => lv_icmp_eq X.1.1 X.1.2.1 d ht (fun h => kt h H locs ls hP hD hS hl) (fun h => kf h H locs ls hP hD hS hl)
theorem g_if_ne (X : g_X p s m args meth c cc nL ret Ts own D cl tys A Z) {x : Int32} {off : Int} (tgt : Nat) (d : decode cc pc = .ok (.ifCond .ne off, 3)) (ht : (pc : Int) + off = (tgt : Int)) (kt : ¬ x = 0 → g_W p l e R s m args below meth c nL D cl A f cells slots Q tgt lv st) (kf : x = 0 → g_W p l e R s m args below meth c nL D cl A f cells slots Q (pc + 3) lv st) : g_W p l e R s m args below meth c nL D cl A f cells slots Q pc lv (.int x :: st) := fun H locs ls hP hD hS hl => lv_if_ne X.1.1 X.1.2.1 d ht (fun h => kt h H locs ls hP hD hS hl) (fun h => kf h H locs ls hP hD hS hl)
theorem g_icmp_ne (X : g_X p s m args meth c cc nL ret Ts own D cl tys A Z) {x y : Int32} {off : Int} (tgt : Nat) (d : decode cc pc = .ok (.if_icmp .ne off, 3)) (ht : (pc : Int) + off = (tgt : Int)) (kt : ¬ x = y → g_W p l e R s m args below meth c nL D cl A f cells slots Q tgt lv st) (kf : x = y → g_W p l e R s m args below meth c nL D cl A f cells slots Q (pc + 3) lv st) : g_W p l e R s m args below meth c nL D cl A f cells slots Q pc lv (.int y :: .int x :: st) := fun H locs ls hP hD hS hl => lv_icmp_ne X.1.1 X.1.2.1 d ht (fun h => kt h H locs ls hP hD hS hl) (fun h => kf h H locs ls hP hD hS hl)
theorem g_if_lt (X : g_X p s m args meth c cc nL ret Ts own D cl tys A Z) {x : Int32} {off : Int} (tgt : Nat) (d : decode cc pc = .ok (.ifCond .lt off, 3)) (ht : (pc : Int) + off = (tgt : Int)) (kt : x < 0 → g_W p l e R s m args below meth c nL D cl A f cells slots Q tgt lv st) (kf : ¬ (x < 0) → g_W p l e R s m args below meth c nL D cl A f cells slots Q (pc + 3) lv st) : g_W p l e R s m args below meth c nL D cl A f cells slots Q pc lv (.int x :: st) := fun H locs ls hP hD hS hl => lv_if_lt X.1.1 X.1.2.1 d ht (fun h => kt h H locs ls hP hD hS hl) (fun h => kf h H locs ls hP hD hS hl)
theorem g_icmp_lt (X : g_X p s m args meth c cc nL ret Ts own D cl tys A Z) {x y : Int32} {off : Int} (tgt : Nat) (d : decode cc pc = .ok (.if_icmp .lt off, 3)) (ht : (pc : Int) + off = (tgt : Int)) (kt : x < y → g_W p l e R s m args below meth c nL D cl A f cells slots Q tgt lv st) (kf : ¬ (x < y) → g_W p l e R s m args below meth c nL D cl A f cells slots Q (pc + 3) lv st) : g_W p l e R s m args below meth c nL D cl A f cells slots Q pc lv (.int y :: .int x :: st) := fun H locs ls hP hD hS hl => lv_icmp_lt X.1.1 X.1.2.1 d ht (fun h => kt h H locs ls hP hD hS hl) (fun h => kf h H locs ls hP hD hS hl)
theorem g_if_ge (X : g_X p s m args meth c cc nL ret Ts own D cl tys A Z) {x : Int32} {off : Int} (tgt : Nat) (d : decode cc pc = .ok (.ifCond .ge off, 3)) (ht : (pc : Int) + off = (tgt : Int)) (kt : 0 ≤ x → g_W p l e R s m args below meth c nL D cl A f cells slots Q tgt lv st) (kf : ¬ (0 ≤ x) → g_W p l e R s m args below meth c nL D cl A f cells slots Q (pc + 3) lv st) : g_W p l e R s m args below meth c nL D cl A f cells slots Q pc lv (.int x :: st) := fun H locs ls hP hD hS hl => lv_if_ge X.1.1 X.1.2.1 d ht (fun h => kt h H locs ls hP hD hS hl) (fun h => kf h H locs ls hP hD hS hl)
theorem g_icmp_ge (X : g_X p s m args meth c cc nL ret Ts own D cl tys A Z) {x y : Int32} {off : Int} (tgt : Nat) (d : decode cc pc = .ok (.if_icmp .ge off, 3)) (ht : (pc : Int) + off = (tgt : Int)) (kt : y ≤ x → g_W p l e R s m args below meth c nL D cl A f cells slots Q tgt lv st) (kf : ¬ (y ≤ x) → g_W p l e R s m args below meth c nL D cl A f cells slots Q (pc + 3) lv st) : g_W p l e R s m args below meth c nL D cl A f cells slots Q pc lv (.int y :: .int x :: st) := fun H locs ls hP hD hS hl => lv_icmp_ge X.1.1 X.1.2.1 d ht (fun h => kt h H locs ls hP hD hS hl) (fun h => kf h H locs ls hP hD hS hl)
theorem g_if_gt (X : g_X p s m args meth c cc nL ret Ts own D cl tys A Z) {x : Int32} {off : Int} (tgt : Nat) (d : decode cc pc = .ok (.ifCond .gt off, 3)) (ht : (pc : Int) + off = (tgt : Int)) (kt : 0 < x → g_W p l e R s m args below meth c nL D cl A f cells slots Q tgt lv st) (kf : ¬ (0 < x) → g_W p l e R s m args below meth c nL D cl A f cells slots Q (pc + 3) lv st) : g_W p l e R s m args below meth c nL D cl A f cells slots Q pc lv (.int x :: st) := fun H locs ls hP hD hS hl => lv_if_gt X.1.1 X.1.2.1 d ht (fun h => kt h H locs ls hP hD hS hl) (fun h => kf h H locs ls hP hD hS hl)
theorem g_icmp_gt (X : g_X p s m args meth c cc nL ret Ts own D cl tys A Z) {x y : Int32} {off : Int} (tgt : Nat) (d : decode cc pc = .ok (.if_icmp .gt off, 3)) (ht : (pc : Int) + off = (tgt : Int)) (kt : y < x → g_W p l e R s m args below meth c nL D cl A f cells slots Q tgt lv st) (kf : ¬ (y < x) → g_W p l e R s m args below meth c nL D cl A f cells slots Q (pc + 3) lv st) : g_W p l e R s m args below meth c nL D cl A f cells slots Q pc lv (.int y :: .int x :: st) := fun H locs ls hP hD hS hl => lv_icmp_gt X.1.1 X.1.2.1 d ht (fun h => kt h H locs ls hP hD hS hl) (fun h => kf h H locs ls hP hD hS hl)
theorem g_if_le (X : g_X p s m args meth c cc nL ret Ts own D cl tys A Z) {x : Int32} {off : Int} (tgt : Nat) (d : decode cc pc = .ok (.ifCond .le off, 3)) (ht : (pc : Int) + off = (tgt : Int)) (kt : x ≤ 0 → g_W p l e R s m args below meth c nL D cl A f cells slots Q tgt lv st) (kf : ¬ (x ≤ 0) → g_W p l e R s m args below meth c nL D cl A f cells slots Q (pc + 3) lv st) : g_W p l e R s m args below meth c nL D cl A f cells slots Q pc lv (.int x :: st) := fun H locs ls hP hD hS hl => lv_if_le X.1.1 X.1.2.1 d ht (fun h => kt h H locs ls hP hD hS hl) (fun h => kf h H locs ls hP hD hS hl)
theorem g_icmp_le (X : g_X p s m args meth c cc nL ret Ts own D cl tys A Z) {x y : Int32} {off : Int} (tgt : Nat) (d : decode cc pc = .ok (.if_icmp .le off, 3)) (ht : (pc : Int) + off = (tgt : Int)) (kt : x ≤ y → g_W p l e R s m args below meth c nL D cl A f cells slots Q tgt lv st) (kf : ¬ (x ≤ y) → g_W p l e R s m args below meth c nL D cl A f cells slots Q (pc + 3) lv st) : g_W p l e R s m args below meth c nL D cl A f cells slots Q pc lv (.int y :: .int x :: st) := fun H locs ls hP hD hS hl => lv_icmp_le X.1.1 X.1.2.1 d ht (fun h => kt h H locs ls hP hD hS hl) (fun h => kf h H locs ls hP hD hS hl)
theorem g_goto (X : g_X p s m args meth c cc nL ret Ts own D cl tys A Z) {off : Int} (tgt : Nat) (d : decode cc pc = .ok (.goto off, 3)) (ht : (pc : Int) + off = (tgt : Int)) (kk : g_W p l e R s m args below meth c nL D cl A f cells slots Q tgt lv st) : g_W p l e R s m args below meth c nL D cl A f cells slots Q pc lv st := fun H locs ls hP hD hS hl => lv_goto X.1.1 X.1.2.1 d ht (kk H locs ls hP hD hS hl)
theorem g_ifnull (X : g_X p s m args meth c cc nL ret Ts own D cl tys A Z) {x : Nat} {off : Int} (d : decode cc pc = .ok (.ifnull off, 3)) (kk : g_W p l e R s m args below meth c nL D cl A f cells slots Q (pc + 3) lv st) : g_W p l e R s m args below meth c nL D cl A f cells slots Q pc lv (.ref x :: st) := fun H locs ls hP hD hS hl => lv_ifnull X.1.1 X.1.2.1 d (kk H locs ls hP hD hS hl)
theorem g_ifnonnull (X : g_X p s m args meth c cc nL ret Ts own D cl tys A Z) {x : Nat} {off : Int} (tgt : Nat) (d : decode cc pc = .ok (.ifnonnull off, 3)) (ht : (pc : Int) + off = (tgt : Int)) (kk : g_W p l e R s m args below meth c nL D cl A f cells slots Q tgt lv st) : g_W p l e R s m args below meth c nL D cl A f cells slots Q pc lv (.ref x :: st) := fun H locs ls hP hD hS hl => lv_ifnonnull X.1.1 X.1.2.1 d ht (kk H locs ls hP hD hS hl)
theorem g_acmp_eq (X : g_X p s m args meth c cc nL ret Ts own D cl tys A Z) {x y : Nat} {off : Int} (tgt : Nat) (d : decode cc pc = .ok (.if_acmp .eq off, 3)) (ht : (pc : Int) + off = (tgt : Int)) (kt : x = y → g_W p l e R s m args below meth c nL D cl A f cells slots Q tgt lv st) (kf : ¬ x = y → g_W p l e R s m args below meth c nL D cl A f cells slots Q (pc + 3) lv st) : g_W p l e R s m args below meth c nL D cl A f cells slots Q pc lv (.ref y :: .ref x :: st) := fun H locs ls hP hD hS hl => lv_acmp_eq (rx := some x) (ry := some y) X.1.1 X.1.2.1 d ht (fun h => kt (Option.some.inj h) H locs ls hP hD hS hl) (fun h => kf (fun z => h (congrArg some z)) H locs ls hP hD hS hl)
theorem g_acmp_ne (X : g_X p s m args meth c cc nL ret Ts own D cl tys A Z) {x y : Nat} {off : Int} (tgt : Nat) (d : decode cc pc = .ok (.if_acmp .ne off, 3)) (ht : (pc : Int) + off = (tgt : Int)) (kt : ¬ x = y → g_W p l e R s m args below meth c nL D cl A f cells slots Q tgt lv st) (kf : x = y → g_W p l e R s m args below meth c nL D cl A f cells slots Q (pc + 3) lv st) : g_W p l e R s m args below meth c nL D cl A f cells slots Q pc lv (.ref y :: .ref x :: st) := fun H locs ls hP hD hS hl => lv_acmp_ne (rx := some x) (ry := some y) X.1.1 X.1.2.1 d ht (fun h => kt (fun z => h (congrArg some z)) H locs ls hP hD hS hl) (fun h => kf (Option.some.inj h) H locs ls hP hD hS hl)
theorem g_get (X : g_X p s m args meth c cc nL ret Ts own D cl tys A Z) {ref C : String} {T : u_T} {N ci index a : Nat} {fs : List Value} {v : Value} (hin : ∀ w ∈ u_ws C T N, w ∈ Ts) (hc : cl[ci]? = some (C, T, N)) (he : f a = some (.inr (ci, fs))) (k : Nat) (hk : k < N) (hlink : Cond.fieldLink own index ref (T k).2.1 (T k).2.2.1 ∈ Ts) (hsame : ∀ x, s.fieldFound? (T k).1 (T k).2.1 (T k).2.2.1 = some x → s.fieldFound? ref (T k).2.1 (T k).2.2.1 = some x) (hv : fs[k]? = some v) (d : decode cc pc = .ok (.getfield index, 3)) (kk : g_W p l e R s m args below meth c nL D cl A f cells slots Q (pc + 3) lv (v :: st)) : g_W p l e R s m args below meth c nL D cl A f cells slots Q pc lv (.ref a :: st) := fun H locs ls hP hD hS hl => va_get X.1.1 X.1.2.1 X.1.2.2.2.2 hin X.1.2.2.2.1 X.2.1 (hP.one he) 0 rfl hc k hk (X.1.2.2.2.2 _ hlink) hsame hv d (kk H locs ls hP hD hS hl)
theorem g_getN (X : g_X p s m args meth c cc nL ret Ts own D cl tys A Z) {ref C host : String} {T : u_T} {N ci index a : Nat} {fs : List Value} {v : Value} (hin : ∀ w ∈ u_ws C T N, w ∈ Ts) (hc : cl[ci]? = some (C, T, N)) (he : f a = some (.inr (ci, fs))) (k : Nat) (hk : k < N) (hlink : (Cond.fieldLinkNest own index ref (T k).2.1 (T k).2.2.1 host).before args s = true) (hsame : ∀ x, s.fieldFound? (T k).1 (T k).2.1 (T k).2.2.1 = some x → s.fieldFound? ref (T k).2.1 (T k).2.2.1 = some x) (hv : fs[k]? = some v) (d : decode cc pc = .ok (.getfield index, 3)) (kk : g_W p l e R s m args below meth c nL D cl A f cells slots Q (pc + 3) lv (v :: st)) : g_W p l e R s m args below meth c nL D cl A f cells slots Q pc lv (.ref a :: st) := fun H locs ls hP hD hS hl => va_getN X.1.1 X.1.2.1 X.1.2.2.2.2 hin X.1.2.2.2.1 X.2.1 (hP.one he) 0 rfl hc k hk hlink hsame hv d (kk H locs ls hP hD hS hl)
theorem g_put (X : g_X p s m args meth c cc nL ret Ts own D cl tys A Z) {ref C : String} {T : u_T} {N ci index a : Nat} {fs fs2 : List Value} {v : Value} (hin : ∀ w ∈ u_ws C T N, w ∈ Ts) (ty0 : Nat → FieldType) (hty : ∀ k, k < N → parseFieldDescriptor (T k).2.2.1 = some (ty0 k)) (hnm : ∀ a, a < N → ∀ b, b < N → a ≠ b → (T a).2.1 ≠ (T b).2.1) (hc : cl[ci]? = some (C, T, N)) (he : f a = some (.inr (ci, fs))) (k : Nat) (hk : k < N) (hlink : Cond.fieldLink own index ref (T k).2.1 (T k).2.2.1 ∈ Ts) (hsame : ∀ x, s.fieldFound? (T k).1 (T k).2.1 (T k).2.2.1 = some x → s.fieldFound? ref (T k).2.1 (T k).2.2.1 = some x) (hfin : (T k).2.2.2 = false) {ty : FieldType} (hd : parseFieldDescriptor (T k).2.2.1 = some ty) (hn : narrow ty v = v) (hfit : fits ty v = true) (hlen : k < fs.length) (hfs : fs.set k v = fs2) (d : decode cc pc = .ok (.putfield index, 3)) (kk : g_W p l e R s m args below meth c nL D cl A (g_u f a (.inr (ci, fs2))) cells slots Q (pc + 3) lv st) : g_W p l e R s m args below meth c nL D cl A f cells slots Q pc lv (v :: .ref a :: st) := by
  subst hfs
  intro H locs ls hP hD hS hl
  have hap := va_apart (own := own) X.1.2.2.2.2 hin ty0 hty hnm X.2.1 hc
  obtain ⟨r, h1, cell, q1, q2, q3, q4⟩ := hP a _ he
  have hr : r = (C, T, N) := Option.some.inj (h1.symm.trans hc)
  subst hr
  obtain ⟨hSl, hfc, kC, hkC, hkind⟩ := X.2.1.1 ci _ hc
  obtain ⟨cf, kf, fi, fd, hi, hsl⟩ := hSl k hk
  have hlay := X.1.2.2.2.2 _ (hin _ (u_in_lay hk))
  unfold u_lay at hlay
  rw [if_neg (by rw [hfin]; decide)] at hlay
  have hst := (u_facts hfc hkC (u_lays X.1.2.2.2.2 hin hk) hi).1
  have h6 := u_store hfc hkC hkind hlay hi hd hn hfit
  refine W.putK X.1.1 X.1.2.1 (f := fd) ⟨X.1.2.2.2.1, X.1.2.2.2.2 _ hlink, ⟨_, _, _, hsame _ hi⟩, hst⟩ (by rw [q2]; exact h6) q1 q3 (by rw [hsl]; exact k2_hasslot (q4 k hk)) rfl rfl d fun H2 e1 e2 e3 => ?_
  rw [hsl] at e1 ⊢
  have ha : A a := hD a (by rw [he]; exact fun h => by cases h)
  exact kk H2 _ ls (hP.set ⟨_, hc, t_OB.to (V := updV (vp_V fs) k v) ⟨_, e1, q2, q3, t_set q4 hap hk v⟩ (fun j _ => vp_updV_set hlen v j)⟩ e3) (g_D.set hD ha) (hS.put e2 e3 ha) hl
theorem g_putF (X : g_X p s m args meth c cc nL ret Ts own D cl tys A Z) {ref C : String} {T : u_T} {N ci index a : Nat} {fs fs2 : List Value} {v : Value} (hin : ∀ w ∈ u_ws C T N, w ∈ Ts) (ty0 : Nat → FieldType) (hty : ∀ k, k < N → parseFieldDescriptor (T k).2.2.1 = some (ty0 k)) (hnm : ∀ a, a < N → ∀ b, b < N → a ≠ b → (T a).2.1 ≠ (T b).2.1) (hc : cl[ci]? = some (C, T, N)) (he : f a = some (.inr (ci, fs))) (k : Nat) (hk : k < N) (hlink : Cond.fieldLink own index ref (T k).2.1 (T k).2.2.1 ∈ Ts) (hsame : ∀ x, s.fieldFound? (T k).1 (T k).2.1 (T k).2.2.1 = some x → s.fieldFound? ref (T k).2.1 (T k).2.2.1 = some x) (hfin : (T k).2.2.2 = true) (hin2 : meth.name = "<init>") (hdecl : (T k).1 = own) {ty : FieldType} (hd : parseFieldDescriptor (T k).2.2.1 = some ty) (hn : narrow ty v = v) (hfit : fits ty v = true) (hlen : k < fs.length) (hfs : fs.set k v = fs2) (d : decode cc pc = .ok (.putfield index, 3)) (kk : g_W p l e R s m args below meth c nL D cl A (g_u f a (.inr (ci, fs2))) cells slots Q (pc + 3) lv st) : g_W p l e R s m args below meth c nL D cl A f cells slots Q pc lv (v :: .ref a :: st) := by
  subst hfs
  intro H locs ls hP hD hS hl
  have hap := va_apart (own := own) X.1.2.2.2.2 hin ty0 hty hnm X.2.1 hc
  obtain ⟨r, h1, cell, q1, q2, q3, q4⟩ := hP a _ he
  have hr : r = (C, T, N) := Option.some.inj (h1.symm.trans hc)
  subst hr
  obtain ⟨hSl, hfc, kC, hkC, hkind⟩ := X.2.1.1 ci _ hc
  obtain ⟨cf, kf, fi, fd, hi, hsl⟩ := hSl k hk
  have hlay := X.1.2.2.2.2 _ (hin _ (u_in_lay hk))
  unfold u_lay at hlay
  rw [if_pos hfin] at hlay
  have hst := (u_facts hfc hkC (u_lays X.1.2.2.2.2 hin hk) hi).1
  have hcf : m.cls = cf := by
    obtain ⟨_, _, c2, _, _, _, -, -, hf2, -, -, -, hown2, -⟩ := Cond.laysFinal_spec hlay
    have e1 : c2 = cf := by have := hi.symm.trans hf2; simp at this; exact this.1.symm
    rw [hdecl] at hown2
    rw [← e1]; exact Option.some.inj (X.1.2.2.2.1.symm.trans hown2)
  have h6 := u_fits hfc hkC hkind (Or.inr hlay) hi hd hn hfit
  refine W.putFinK X.1.1 X.1.2.1 X.1.2.2.2.1 (X.1.2.2.2.2 _ hlink) (hsame _ hi) hst hcf hin2 (by rw [q2]; exact h6) q1 q3 (by rw [hsl]; exact k2_hasslot (q4 k hk)) rfl rfl d fun H2 e1 e2 e3 => ?_
  rw [hsl] at e1 ⊢
  have ha : A a := hD a (by rw [he]; exact fun h => by cases h)
  exact kk H2 _ ls (hP.set ⟨_, hc, t_OB.to (V := updV (vp_V fs) k v) ⟨_, e1, q2, q3, t_set q4 hap hk v⟩ (fun j _ => vp_updV_set hlen v j)⟩ e3) (g_D.set hD ha) (hS.put e2 e3 ha) hl
theorem g_iald (X : g_X p s m args meth c cc nL ret Ts own D cl tys A Z) {a n t0 : Nat} {cA : ClassId} {g : Nat → Int32} {i v : Int32} (he : f a = some (.inl (cA, n, .inl g))) (ht : tys[t0]? = some (cA, .int)) (hi : vp_in i n) (hv : g i.toNatClampNeg = v) (d : decode cc pc = .ok (.iaload, 1)) (kk : g_W p l e R s m args below meth c nL D cl A f cells slots Q (pc + 1) lv (.int v :: st)) : g_W p l e R s m args below meth c nL D cl A f cells slots Q pc lv (.int i :: .ref a :: st) := by
  subst hv
  exact fun H locs ls hP hD hS hl => va_iald X.1.1 X.1.2.1 X.2.1 (hP.one he) 0 t0 rfl ht hi d (kk H locs ls hP hD hS hl)
theorem g_zald (X : g_X p s m args meth c cc nL ret Ts own D cl tys A Z) {a n t0 : Nat} {cA : ClassId} {g : Nat → Int32} {i v : Int32} (he : f a = some (.inl (cA, n, .inl g))) (ht : tys[t0]? = some (cA, .boolean)) (hi : vp_in i n) (hv : g i.toNatClampNeg = v) (d : decode cc pc = .ok (.baload, 1)) (kk : g_W p l e R s m args below meth c nL D cl A f cells slots Q (pc + 1) lv (.int v :: st)) : g_W p l e R s m args below meth c nL D cl A f cells slots Q pc lv (.int i :: .ref a :: st) := by
  subst hv
  exact fun H locs ls hP hD hS hl => va_zald X.1.1 X.1.2.1 X.2.1 (hP.one he) 0 t0 rfl ht hi d (kk H locs ls hP hD hS hl)
theorem g_aldq (X : g_X p s m args meth c cc nL ret Ts own D cl tys A Z) {a n t0 : Nat} {cA : ClassId} {C : String} {g : Nat → Option Nat} {i : Int32} {v : Value} (he : f a = some (.inl (cA, n, .inr (.inr (.inr (.inr g)))))) (ht : tys[t0]? = some (cA, .object C)) (hi : vp_in i n) (hv : va_rf (g i.toNatClampNeg) = v) (d : decode cc pc = .ok (.aaload, 1)) (kk : g_W p l e R s m args below meth c nL D cl A f cells slots Q (pc + 1) lv (v :: st)) : g_W p l e R s m args below meth c nL D cl A f cells slots Q pc lv (.int i :: .ref a :: st) := by
  subst hv
  exact fun H locs ls hP hD hS hl => va_aldq X.1.1 X.1.2.1 X.2.1 (hP.one he) 0 t0 rfl ht hi d (kk H locs ls hP hD hS hl)
theorem g_alen (X : g_X p s m args meth c cc nL ret Ts own D cl tys A Z) {a t0 : Nat} {cA : ClassId} {x : vp_A} {ty : FieldType} {v : Int32} (he : f a = some (.inl (cA, x))) (ht : tys[t0]? = some (cA, ty)) (hv : Int32.ofNat x.1 = v) (d : decode cc pc = .ok (.arraylength, 1)) (kk : g_W p l e R s m args below meth c nL D cl A f cells slots Q (pc + 1) lv (.int v :: st)) : g_W p l e R s m args below meth c nL D cl A f cells slots Q pc lv (.ref a :: st) := fun H locs ls hP hD hS hl => va_alen X.1.1 X.1.2.1 X.2.1 (hP.one he) 0 t0 rfl ht hv d (kk H locs ls hP hD hS hl)
theorem g_iast (X : g_X p s m args meth c cc nL ret Ts own D cl tys A Z) {a n t0 : Nat} {cA : ClassId} {g g2 : Nat → Int32} {i x : Int32} (he : f a = some (.inl (cA, n, .inl g))) (ht : tys[t0]? = some (cA, .int)) (hi : vp_in i n) (hg : upd g i.toNatClampNeg x = g2) (d : decode cc pc = .ok (.iastore, 1)) (kk : g_W p l e R s m args below meth c nL D cl A (g_u f a (.inl (cA, n, .inl g2))) cells slots Q (pc + 1) lv st) : g_W p l e R s m args below meth c nL D cl A f cells slots Q pc lv (.int x :: .int i :: .ref a :: st) := by
  subst hg
  intro H locs ls hP hD hS hl
  have ha : A a := hD a (by rw [he]; exact fun h => by cases h)
  refine W.iast X.1.1 X.1.2.1 (hP a _ he) ((X.2.1.2 t0 _ ht).1 n (fun j => .int (g j))) (fun q => by cases q) (by show ¬ (i < 0 ∨ (arrV _ _ _).slots.size ≤ _); rw [arrV_size]; exact hi) rfl rfl d fun H1 e1 z oq => ?_
  refine kk H1 _ ls (hP.set ?_ oq) (g_D.set hD ha) (hS.put z oq ha) hl
  show H1[a]? = some (vp_cell _ _)
  rw [e1]
  show some ((vp_cell _ _).setSlot _ _) = _
  rw [vp_cell_i, vp_cell_i, arrV_store]
  congr 2
  funext q
  by_cases hq : q = i.toNatClampNeg
  · subst hq
    simp [updV, upd]
  · simp [updV, upd, hq]
theorem g_zast (X : g_X p s m args meth c cc nL ret Ts own D cl tys A Z) {a n t0 : Nat} {cA : ClassId} {g g2 : Nat → Int32} {i x : Int32} (he : f a = some (.inl (cA, n, .inl g))) (ht : tys[t0]? = some (cA, .boolean)) (hi : vp_in i n) (hg : upd g i.toNatClampNeg (vp_nar .boolean x) = g2) (d : decode cc pc = .ok (.bastore, 1)) (kk : g_W p l e R s m args below meth c nL D cl A (g_u f a (.inl (cA, n, .inl g2))) cells slots Q (pc + 1) lv st) : g_W p l e R s m args below meth c nL D cl A f cells slots Q pc lv (.int x :: .int i :: .ref a :: st) := by
  subst hg
  intro H locs ls hP hD hS hl
  have ha : A a := hD a (by rw [he]; exact fun h => by cases h)
  refine W.zast X.1.1 X.1.2.1 (hP a _ he) ((X.2.1.2 t0 _ ht).1 n (fun j => .int (g j))) (fun q => by cases q) (by show ¬ (i < 0 ∨ (arrV _ _ _).slots.size ≤ _); rw [arrV_size]; exact hi) rfl rfl d fun H1 e1 z oq => ?_
  refine kk H1 _ ls (hP.set ?_ oq) (g_D.set hD ha) (hS.put z oq ha) hl
  show H1[a]? = some (vp_cell _ _)
  rw [e1]
  show some ((vp_cell _ _).setSlot _ _) = _
  rw [vp_cell_i, vp_cell_i, arrV_store]
  congr 2
  funext q
  by_cases hq : q = i.toNatClampNeg
  · subst hq
    (simp [updV, upd, vp_nar]; try rfl)
  · simp [updV, upd, hq]
theorem g_new (X : g_X p s m args meth c cc nL ret Ts own D cl tys A Z) {C : String} {T : u_T} {N ci index : Nat} {fs : List Value} (hin : ∀ w ∈ u_ws C T N, w ∈ Ts) (ty : Nat → FieldType) (hty : ∀ k, k < N → parseFieldDescriptor (T k).2.2.1 = some (ty k)) (hcl : Cond.classLink own index C ∈ Ts) (hinst : Cond.instantiable C N ∈ Ts) (hini : Cond.initialized C ∈ Ts) (hc : cl[ci]? = some (C, T, N)) (hfs : ∀ j, j < N → defaultValue (ty j) = vp_V fs j) (hcells : cells + 1 ≤ R.cells) (hslots : slots + N ≤ R.slots) (d : decode cc pc = .ok (.new index, 3)) (kk : ∀ q : Nat, f q = none → g_W p l e R s m args below meth c nL D cl A (g_u f q (.inr (ci, fs))) (cells + 1) (slots + N) Q (pc + 3) lv (.ref q :: st)) : g_W p l e R s m args below meth c nL D cl A f cells slots Q pc lv st := by
  intro H locs ls hP hD hS hl
  have hKn := X.2.1.1 ci _ hc
  refine W.newcK X.1.1 X.1.2.1 X.1.2.2.2.1 (X.1.2.2.2.2 _ hcl) (X.1.2.2.2.2 _ hinst) (X.1.2.2.2.2 _ hini) rfl d hcells hslots hKn.2.1 rfl fun H1 kC hkC e1 z1 o1 => ?_
  exact kk H.size hP.non H1 locs ls (hP.new ⟨_, hc, (u_born ty X.1.2.2.2.2 hin hKn hkC e1 hty).to hfs⟩ o1) (g_D.set hD (X.2.2.1 _ hS.1)) (hS.new z1 o1) hl
theorem g_newi (X : g_X p s m args meth c cc nL ret Ts own D cl tys A Z) {t0 : Nat} {cA : ClassId} {n : Int32} {N : Nat} (harr : Cond.arrayClass .int ∈ Ts) (ht : tys[t0]? = some (cA, .int)) (hn : ¬ n < 0) (hN : n.toNatClampNeg = N) (hb : N * componentBytes .int ≤ 536870912) (hcells : cells + 1 ≤ R.cells) (hslots : slots + N ≤ R.slots) (d : decode cc pc = .ok (.newarray .int, 2)) (kk : ∀ q : Nat, f q = none → g_W p l e R s m args below meth c nL D cl A (g_u f q (.inl (cA, N, .inl (fun _ => 0)))) (cells + 1) (slots + N) Q (pc + 2) lv (.ref q :: st)) : g_W p l e R s m args below meth c nL D cl A f cells slots Q pc lv (.int n :: st) := by
  intro H locs ls hP hD hS hl
  refine va_newaK (atype := .int) X.1.1 X.1.2.1 (X.1.2.2.2.2 _ harr) rfl d rfl hn hN hb hcells hslots rfl fun H1 cB e1 z1 o1 hAr hNm => ?_
  have hcc : cB = cA := by
    have h9 : s.vm.findClass ("[" ++ (FieldType.toString .int)) = some cA := (X.2.1.2 t0 _ ht).2
    exact Option.some.inj (hNm.symm.trans h9)
  subst hcc
  exact kk H.size hP.non H1 locs ls (hP.new (show H1[H.size]? = some (vp_cell _ _) from e1) o1) (g_D.set hD (X.2.2.1 _ hS.1)) (hS.new z1 o1) hl
theorem g_newz (X : g_X p s m args meth c cc nL ret Ts own D cl tys A Z) {t0 : Nat} {cA : ClassId} {n : Int32} {N : Nat} (harr : Cond.arrayClass .boolean ∈ Ts) (ht : tys[t0]? = some (cA, .boolean)) (hn : ¬ n < 0) (hN : n.toNatClampNeg = N) (hb : N * componentBytes .boolean ≤ 536870912) (hcells : cells + 1 ≤ R.cells) (hslots : slots + N ≤ R.slots) (d : decode cc pc = .ok (.newarray .boolean, 2)) (kk : ∀ q : Nat, f q = none → g_W p l e R s m args below meth c nL D cl A (g_u f q (.inl (cA, N, .inl (fun _ => 0)))) (cells + 1) (slots + N) Q (pc + 2) lv (.ref q :: st)) : g_W p l e R s m args below meth c nL D cl A f cells slots Q pc lv (.int n :: st) := by
  intro H locs ls hP hD hS hl
  refine va_newaK (atype := .boolean) X.1.1 X.1.2.1 (X.1.2.2.2.2 _ harr) rfl d rfl hn hN hb hcells hslots rfl fun H1 cB e1 z1 o1 hAr hNm => ?_
  have hcc : cB = cA := by
    have h9 : s.vm.findClass ("[" ++ (FieldType.toString .boolean)) = some cA := (X.2.1.2 t0 _ ht).2
    exact Option.some.inj (hNm.symm.trans h9)
  subst hcc
  exact kk H.size hP.non H1 locs ls (hP.new (show H1[H.size]? = some (vp_cell _ _) from e1) o1) (g_D.set hD (X.2.2.1 _ hS.1)) (hS.new z1 o1) hl
end GR
end
section
/-! Contracts over worlds as functions. -/
/-- what is known of the statics: it stays as the machine warms, as cells of A change, for a smaller A -/
def g_ZC (Z : (Nat → Prop) → State → Heap → Prop) : Prop :=
  (∀ (A : Nat → Prop) (u U : State) (H : Heap), u.WarmedH U.vm → Z A u H → Z A U H) ∧ (∀ (A : Nat → Prop) (U : State) (H H1 : Heap), Z A U H → (∀ a : Nat, a < H.size → ¬ A a → H1[a]? = H[a]?) → Z A U H1) ∧ ∀ (A B : Nat → Prop) (U : State) (H : Heap), Z A U H → (∀ q, B q → A q) → Z B U H
def g_Pc (D : va_G) (cl : List vw_C) (tys : List (ClassId × FieldType)) (Z : (Nat → Prop) → State → Heap → Prop) (f : g_F) (sz : Nat) (av : List Value) : Array Value → State → Prop :=
  va_Pc av (fun U => U.heap.size = sz ∧ g_P D cl f U.heap ∧ va_K D cl tys U ∧ Z (g_A f sz) U U.heap)
def g_Qc (D : va_G) (cl : List vw_C) (f : g_F) (sz : Nat) (post : Option Value → g_F → Prop) : Array Value → State → Outcome → State → Prop := fun _ st oc t =>
  (∃ (r : Option Value) (f2 : g_F), oc = .returned r ∧ post r f2 ∧ g_P D cl f2 t.heap ∧ ∀ q : Nat, f2 q ≠ none → g_A f sz q) ∧ va_F (g_A f sz) st t
def g_XC (D : va_G) (cl : List vw_C) (f : g_F) (sz : Nat) (px : String → Prop) : String → State → State → Prop := fun E st t => px E ∧ g_P D cl f t.heap ∧ va_F (g_A f sz) st t
abbrev g_ws (y : MethodName) (bytes : ByteArray) (maxL : Nat) (ret : Option FieldType) : List Cond := Cond.code y bytes maxL ret :: g_T
/-- a method's contract: from the world f, with the arguments av, it answers by 'post', or throws an E with 'px E' and leaves the world -/
def g_C (l : Launch) (y : MethodName) (bytes : ByteArray) (maxL : Nat) (ret : Option FieldType) (rm : Room) (D : va_G) (cl : List vw_C) (tys : List (ClassId × FieldType)) (Z : (Nat → Prop) → State → Heap → Prop) (av : List Value) (f : g_F) (post : Option Value → g_F → Prop) (px : String → Prop) : Prop :=
  ∀ sz : Nat, vx_Met l y (g_ws y bytes maxL ret) rm (g_Pc D cl tys Z f sz av) (g_Qc D cl f sz post) (g_XC D cl f sz px) rm.cells rm.slots (g_A f sz)
/-- what a body owes at its end -/
def g_End (below : List Frame) (D : va_G) (cl : List vw_C) (f0 : g_F) (post : Option Value → g_F → Prop) (px : String → Prop) (args : Array Value) (s : State) (rm : Room) : State → Prop :=
  vx_MQ below (g_Qc D cl f0 s.heap.size post) (g_XC D cl f0 s.heap.size px) args s rm.cells rm.slots (g_A f0 s.heap.size)
theorem g_ofW {l : Launch} {y : MethodName} {rm : Room} {D : va_G} {cl : List vw_C} {tys : List (ClassId × FieldType)} {Z : (Nat → Prop) → State → Heap → Prop} {av : List Value} {f : g_F} {post : Option Value → g_F → Prop} {px : String → Prop} {cc : ByteArray} {maxL : Nat} {ret : Option FieldType} (lv : List (Nat × Value))
    (hy : plainName y.cls = true) (hlen : (lg_sl av).length ≤ maxL) (hlv : lv_args 0 av = lv)
    (body : ∀ (p : Program) (e : Env) (s : State) (m : MethodId) (args : Array Value) (below : List Frame) (meth : Method) (c : Code), g_X p s m args meth c cc maxL ret g_T y.cls D cl tys (g_A f s.heap.size) Z → (∀ x ∈ c.exceptionTable.toList, False) → meth.name = y.name →
      g_W p l e rm s m args below meth c maxL D cl (g_A f s.heap.size) f 0 0 (g_End below D cl f post px args s rm) 0 lv []) : g_C l y cc maxL ret rm D cl tys Z av f post px := by
  intro sz
  refine vx_ofW (cc := cc) (maxL := maxL) (ret := ret) hy rfl ?_
  intro p e s m args below meth c s₁ B hml ht hv
  obtain ⟨rfl, hsz, hP, hK, hZ⟩ := hv
  subst hsz
  have hx := B.exec
  have hb := B.bytes
  have hts := atoms_spec (ws := g_ws y cc maxL ret) B.pre
  have hown : s.vm.findClass y.cls = some m.cls := findClass_of_methodNamed B.named
  have hl := lv_entry av (n := maxL) hlen
  rw [lg_entry_eq]
  rw [hlv] at hl
  exact body p e s m _ below meth c ⟨⟨hx, hb, hml, hown, fun w h => hts w (List.mem_cons_of_mem _ h)⟩, hK, fun q h => Or.inr h, B.returns, B.notSynchronized, hZ⟩ ht (name_of_methodNamed B.named B.method).1 s.heap [] _ hP (fun q h => Or.inl h) va_S.rf hl
/-- a contract that says less -/
theorem g_C.weaken {l : Launch} {y : MethodName} {bytes : ByteArray} {maxL : Nat} {ret : Option FieldType} {rm : Room} {D : va_G} {cl : List vw_C} {tys : List (ClassId × FieldType)} {Z : (Nat → Prop) → State → Heap → Prop} {av : List Value} {f : g_F} {post post2 : Option Value → g_F → Prop} {px px2 : String → Prop} (h : g_C l y bytes maxL ret rm D cl tys Z av f post px) (h1 : ∀ r f2, post r f2 → post2 r f2) (h2 : ∀ E, px E → px2 E) : g_C l y bytes maxL ret rm D cl tys Z av f post2 px2 := by
  intro sz p e a1 a2 a3 s m args below a4 a5 a6 a7
  obtain ⟨n, o, b1, b2, b3, b4⟩ := h sz p e a1 a2 a3 s m args below a4 a5 a6 a7
  refine ⟨n, o, b1, b2, b3, ?_⟩
  rcases b4 with ⟨⟨⟨r, f2, c1, c2, c3⟩, c4⟩, c5⟩ | ⟨q, c1, E, ce, L, ⟨c2, c3⟩, c4⟩
  · exact Or.inl ⟨⟨⟨r, f2, c1, h1 r f2 c2, c3⟩, c4⟩, c5⟩
  · exact Or.inr ⟨q, c1, E, ce, L, ⟨h2 E c2, c3⟩, c4⟩
/-- a contract of a method that never throws, as the calls without that case take it -/
theorem g_C.met {l : Launch} {y : MethodName} {bytes : ByteArray} {maxL : Nat} {ret : Option FieldType} {rm : Room} {D : va_G} {cl : List vw_C} {tys : List (ClassId × FieldType)} {Z : (Nat → Prop) → State → Heap → Prop} {av : List Value} {f : g_F} {post : Option Value → g_F → Prop} {px : String → Prop} (h : g_C l y bytes maxL ret rm D cl tys Z av f post px) (hx : ∀ E, ¬ px E) (sz : Nat) :
    Met l y (g_ws y bytes maxL ret) rm (g_Pc D cl tys Z f sz av) (g_Qc D cl f sz post) rm.cells rm.slots (g_A f sz) := by
  intro p e a1 a2 a3 s m args below a4 a5 a6 a7
  obtain ⟨n, o, b1, b2, b3, b4⟩ := h sz p e a1 a2 a3 s m args below a4 a5 a6 a7
  refine ⟨n, o, b1, b2, b3, ?_⟩
  rcases b4 with b4 | ⟨q, c1, E, ce, L, ⟨c2, c3⟩, c4⟩
  · exact b4
  · exact absurd c2 (hx E)
/-- what the tables say of a callee -/
def g_y (y : MethodName) (bytes : ByteArray) (maxL : Nat) (ret : Option FieldType) (n : Nat) : Prop :=
  Cond.code y bytes maxL ret ∈ g_T ∧ Cond.initialized y.cls ∈ g_T ∧ y.cls ≠ "java/lang/invoke/MethodHandle" ∧ y.cls ≠ "java/lang/invoke/VarHandle" ∧ (parseMethodDescriptor y.desc).map (fun d => d.parameters.length) = some n
section GE
variable {p : Program} {l : Launch} {e : Env} {R rm : Room} {s : State} {m : MethodId} {args : Array Value} {below : List Frame} {meth : Method} {c : Code} {cells slots : Nat} {Q : State → Prop}
variable {cc : ByteArray} {pc nL : Nat} {D : va_G} {cl : List vw_C} {tys : List (ClassId × FieldType)} {A : Nat → Prop} {f f0 : g_F} {lv lv' : List (Nat × Value)} {st : List Value} {own : String} {ret : Option FieldType} {Z : (Nat → Prop) → State → Heap → Prop} {post : Option Value → g_F → Prop} {px : String → Prop}
theorem g_iret (X : g_X p s m args meth c cc nL ret g_T own D cl tys (g_A f0 s.heap.size) Z) {v : Int32} (hr : ret = some .int) (hp : post (some (.int v)) f) (hc : cells ≤ rm.cells) (hs : slots ≤ rm.slots) (d : decode cc pc = .ok (.ireturn, 1)) : g_W p l e R s m args below meth c nL D cl (g_A f0 s.heap.size) f cells slots (g_End below D cl f0 post px args s rm) pc lv [.int v] := by
  intro H locs ls hP hD hS hl
  refine W.widen hc hs (vx_ret ?_)
  exact W.iret X.1.1 X.1.2.1 (X.2.2.2.1.trans hr) (fun t ht hW => ⟨⟨_, f, rfl, hp, by rw [ht]; exact hP, hD⟩, hS.F ht⟩) hS.2.2 d X.2.2.2.2.1
theorem g_zret (X : g_X p s m args meth c cc nL ret g_T own D cl tys (g_A f0 s.heap.size) Z) {v : Int32} (hr : ret = some .boolean) (hn : narrow .boolean (.int v) = .int v) (hp : post (some (.int v)) f) (hc : cells ≤ rm.cells) (hs : slots ≤ rm.slots) (d : decode cc pc = .ok (.ireturn, 1)) : g_W p l e R s m args below meth c nL D cl (g_A f0 s.heap.size) f cells slots (g_End below D cl f0 post px args s rm) pc lv [.int v] := by
  intro H locs ls hP hD hS hl
  refine W.widen hc hs (vx_ret ?_)
  exact W.zret X.1.1 X.1.2.1 (X.2.2.2.1.trans hr) hn (fun t ht hW => ⟨⟨_, f, rfl, hp, by rw [ht]; exact hP, hD⟩, hS.F ht⟩) hS.2.2 d X.2.2.2.2.1
theorem g_vret (X : g_X p s m args meth c cc nL ret g_T own D cl tys (g_A f0 s.heap.size) Z) (hr : ret = none) (hp : post none f) (hc : cells ≤ rm.cells) (hs : slots ≤ rm.slots) (d : decode cc pc = .ok (.return_, 1)) : g_W p l e R s m args below meth c nL D cl (g_A f0 s.heap.size) f cells slots (g_End below D cl f0 post px args s rm) pc lv [] := by
  intro H locs ls hP hD hS hl
  refine W.widen hc hs (vx_ret ?_)
  exact W.vret X.1.1 X.1.2.1 (X.2.2.2.1.trans hr) (fun t ht hW => ⟨⟨_, f, rfl, hp, by rw [ht]; exact hP, hD⟩, hS.F ht⟩) hS.2.2 d X.2.2.2.2.1
theorem g_aret (X : g_X p s m args meth c cc nL ret g_T own D cl tys (g_A f0 s.heap.size) Z) {v : Value} {rt : FieldType} (hr : ret = some rt) (hrt : (∃ n, rt = .object n) ∨ ∃ t, rt = .array t) (hv : v = .null ∨ ∃ a, v = .ref a) (hp : post (some v) f) (hc : cells ≤ rm.cells) (hs : slots ≤ rm.slots) (d : decode cc pc = .ok (.areturn, 1)) : g_W p l e R s m args below meth c nL D cl (g_A f0 s.heap.size) f cells slots (g_End below D cl f0 post px args s rm) pc lv [v] := by
  intro H locs ls hP hD hS hl
  refine W.widen hc hs (vx_ret ?_)
  exact W.aret X.1.1 X.1.2.1 (X.2.2.2.1.trans hr) hrt hv (fun t ht hW => ⟨⟨_, f, rfl, hp, by rw [ht]; exact hP, hD⟩, hS.F ht⟩) hS.2.2 d X.2.2.2.2.1
/-- what is owed where a callee has thrown -/
def g_K (p : Program) (l : Launch) (e : Env) (R : Room) (s : State) (m : MethodId) (args : Array Value) (below : List Frame) (meth : Method) (c : Code) (nL : Nat) (D : va_G) (cl : List vw_C) (A : Nat → Prop) (f : g_F) (cells slots : Nat) (Q : State → Prop) (pc : Nat) (lv : List (Nat × Value)) (rest : List Value) (px : String → Prop) : Prop :=
  ∀ (E : String) (ce : Cell) (q : Addr) (H : Heap) (locs : List Loc) (ls : Array Slot), px E → g_P D cl f H → (∀ q : Nat, f q ≠ none → A q) → va_S A s.heap H locs → lv_has ls nL lv → H[q]? = some ce → ce.vm = .none → s.vm.findClass E = some ce.cls → vx_W p l e R s m args below meth c H locs cells slots Q (F0 m pc ls rest) q
theorem g_K.no {rest : List Value} {px2 : String → Prop} (h : ∀ E, ¬ px2 E) : g_K p l e R s m args below meth c nL D cl A f cells slots Q pc lv rest px2 := fun E _ _ _ _ _ hx => absurd hx (h E)
theorem g_K.out {rest : List Value} {px2 : String → Prop} (X : g_X p s m args meth c cc nL ret g_T own D cl tys (g_A f0 s.heap.size) Z) (ht : ∀ x ∈ c.exceptionTable.toList, False) (hx : ∀ E, px2 E → px E) (hc : cells ≤ rm.cells) (hs : slots ≤ rm.slots) : g_K p l e R s m args below meth c nL D cl (g_A f0 s.heap.size) f0 cells slots (g_End below D cl f0 post px args s rm) pc lv rest px2 := by
  intro E ce q H locs ls h1 hP hD hS hl hce hcv hcl
  exact vx_out (fun x hx => absurd (ht x hx) id) X.2.2.2.2.1 hce hcv hcl (fun t ht2 hal => ⟨hx E h1, by rw [ht2]; exact hP, hS.F ht2⟩) hS.2.2 hc hs
theorem g_call (X : g_X p s m args meth c cc nL ret g_T own D cl tys A Z) {k n : Nat} {st0 rest : List Value} {a : Array Value} {px2 : String → Prop} {post2 : Option Value → g_F → Prop}
    (run : ∀ (H : Heap) (locs : List Loc) (ls : Array Slot), g_P D cl f H → va_S A s.heap H locs → lv_has ls nL lv → vx_Run p l e R s m args below meth c H locs cells slots k n (F0 m pc ls st0) rest (g_Qc D cl f H.size post2 a) (g_XC D cl f H.size px2) (g_A f H.size))
    (kx : g_K p l e R s m args below meth c nL D cl A f (cells + k) (slots + n) Q pc lv rest px2)
    (kk : ∀ (r : Option Value) (f2 : g_F), post2 r f2 → g_W p l e R s m args below meth c nL D cl A f2 (cells + k) (slots + n) Q (pc + 3) lv (r.toList ++ rest)) : g_W p l e R s m args below meth c nL D cl A f cells slots Q pc lv st0 := by
  intro H locs ls hP hD hS hl T hT Xs
  have hsub : ∀ q : Nat, g_A f H.size q → A q := fun q h => h.elim (hD q) (fun h => X.2.2.1 q (Nat.le_trans hS.1 h))
  rcases run H locs ls hP hS hl T hT Xs with ⟨v, st₀, t, T', L, h0, X', hL, e1, e2, ⟨⟨r, f2, hv, hp, hP2, hD2⟩, hF⟩, stp⟩ | ⟨q, st₀, t, T', L, E, ce, h0, X', hL, e1, e2, ⟨hp, hP2, hF⟩, hce, hcv, hcl, stp⟩
  · cases hv
    obtain ⟨k1, k2, k3⟩ := vx_keep h0 e1 hS (fun q _ => hsub q) hsub hL hF
    obtain ⟨t2, a1, b1⟩ := kk v f2 hp T'.heap (locs ++ L) ls (by rw [e1]; exact hP2) (fun q hq => hsub q (hD2 q hq)) k3 hl T' rfl X'
    exact ⟨t2, stp t2 a1, b1⟩
  · obtain ⟨k1, k2, k3⟩ := vx_keep h0 e1 hS (fun q _ => hsub q) hsub hL hF
    obtain ⟨t2, a1, b1⟩ := kx E ce q T'.heap (locs ++ L) ls hp (by rw [e1]; exact hP2) hD k3 hl (by rw [e1]; exact hce) hcv hcl T' rfl X'
    exact ⟨t2, stp.trans a1, b1⟩
theorem g_blind (hZ : g_ZC Z) {f : g_F} {sz : Nat} {av : List Value} : FrameBlind (g_Pc D cl tys Z f sz av) := by
  intro a U g mk q
  obtain ⟨q0, q1, qP, qK, qZ⟩ := q
  exact ⟨q0, q1, qP, va_K.moved (u := U) (U := U.calling g mk a) (Vm.Alike.refl U.vm) qK, hZ.1 _ U (U.calling g mk a) _ (State.WarmedH.refl U) qZ⟩
theorem g_pre (X : g_X p s m args meth c cc nL ret g_T own D cl tys A Z) (hZ : g_ZC Z) {H : Heap} {locs : List Loc} {av : List Value} (hP : g_P D cl f H) (hD : ∀ q : Nat, f q ≠ none → A q) (hS : va_S A s.heap H locs) : ∀ U : State, U.heap = H → s.WarmedH U.vm → g_Pc D cl tys Z f H.size av av.toArray U := by
  intro U hU hW
  refine ⟨rfl, by rw [hU], by rw [hU]; exact hP, va_K.moved hW.alike X.2.1, ?_⟩
  have hsub : ∀ q : Nat, g_A f H.size q → A q := fun q h => h.elim (hD q) (fun h => X.2.2.1 q (Nat.le_trans hS.1 h))
  rw [hU]
  exact hZ.2.2 _ _ _ _ (hZ.1 _ _ _ _ hW (hZ.2.1 _ _ _ _ X.2.2.2.2.2 (fun a h1 h2 => hS.2.1 a h1 h2))) hsub
theorem g_callV (X : g_X p s m args meth c cc nL ret g_T own D cl tys A Z) (hZ : g_ZC Z) {C : String} {y : MethodName} {bytes : ByteArray} {maxL n index : Nat} {ret2 : Option FieldType} {rm2 : Room} {As rest st0 : List Value} {px2 : String → Prop} {post2 : Option Value → g_F → Prop} {b ci : Nat} {fs : List Value} {cq : vw_C} (hcl : cl[ci]? = some cq) (hcq : cq.1 = C) (he : f b = some (.inr (ci, fs))) 
    (hM : g_C l y bytes maxL ret2 rm2 D cl tys Z (.ref b :: As) f post2 px2) (hy : g_y y bytes maxL ret2 n) (hin : Cond.instanceMethod y ∈ g_T) (hse : Cond.selects C y y ∈ g_T) (hlk : Cond.methodLink own index y ∈ g_T) (hn : As.length = n) (hst : st0 = As.reverse ++ .ref b :: rest) (hW : (rest.map fun v => v.category).sum ≤ 8) (d : decode cc pc = .ok (.invokevirtual index, 3)) (hR : rm2.frames + 1 ≤ R.frames ∧ 8 + (maxL + 11) + rm2.locals ≤ R.locals) (hf : cells + rm2.cells ≤ R.cells ∧ slots + rm2.slots ≤ R.slots)
    (kx : g_K p l e R s m args below meth c nL D cl A f (cells + rm2.cells) (slots + rm2.slots) Q pc lv rest px2)
    (kk : ∀ (r : Option Value) (f2 : g_F), post2 r f2 → g_W p l e R s m args below meth c nL D cl A f2 (cells + rm2.cells) (slots + rm2.slots) Q (pc + 3) lv (r.toList ++ rest)) : g_W p l e R s m args below meth c nL D cl A f cells slots Q pc lv st0 := by
  intro H locs ls hP hD hS hl
  refine g_call X (a := (Value.ref b :: As).toArray) (k := rm2.cells) (n := rm2.slots) (rest := rest) (px2 := px2) (fun H locs ls hP hS hl => ?_) kx kk H locs ls hP hD hS hl
  subst hcq
  obtain ⟨cellB, g1, g2, g3⟩ := va_recv X.2.1 (hP.one he) (ci := ci) (q0 := 0) hcl rfl
  exact vx_runV X.1 (hM H.size) ⟨(callB_of n X.1.2.2.2.2 (g_goodc hy.1) rfl rfl rfl (X.1.2.2.2.2 _ hy.2.1) (X.1.2.2.2.2 _ hlk) hy.2.2 hR), X.1.2.2.2.2 _ hin, X.1.2.2.2.2 _ hse⟩ ⟨g_blind hZ, ⟨cellB, g1, g2, g3⟩, g_pre X hZ hP hD hS⟩ rfl hn hl.1 hst (lv_room hW) d hf
theorem g_callVN (X : g_X p s m args meth c cc nL ret g_T own D cl tys A Z) (hZ : g_ZC Z) {C host : String} {y : MethodName} {bytes : ByteArray} {maxL n index : Nat} {ret2 : Option FieldType} {rm2 : Room} {As rest st0 : List Value} {px2 : String → Prop} {post2 : Option Value → g_F → Prop} {b ci : Nat} {fs : List Value} {cq : vw_C} (hcl : cl[ci]? = some cq) (hcq : cq.1 = C) (he : f b = some (.inr (ci, fs))) 
    (hM : g_C l y bytes maxL ret2 rm2 D cl tys Z (.ref b :: As) f post2 px2) (hy : g_y y bytes maxL ret2 n) (hin : Cond.instanceMethod y ∈ g_T) (hse : Cond.selects C y y ∈ g_T) (hlk : va_Nw (.methodLinkNest own index y host) s) (hno : ∀ E, ¬ px2 E) (hn : As.length = n) (hst : st0 = As.reverse ++ .ref b :: rest) (hW : (rest.map fun v => v.category).sum ≤ 8) (d : decode cc pc = .ok (.invokevirtual index, 3)) (hR : rm2.frames + 1 ≤ R.frames ∧ 8 + (maxL + 11) + rm2.locals ≤ R.locals) (hf : cells + rm2.cells ≤ R.cells ∧ slots + rm2.slots ≤ R.slots)
    
    (kk : ∀ (r : Option Value) (f2 : g_F), post2 r f2 → g_W p l e R s m args below meth c nL D cl A f2 (cells + rm2.cells) (slots + rm2.slots) Q (pc + 3) lv (r.toList ++ rest)) : g_W p l e R s m args below meth c nL D cl A f cells slots Q pc lv st0 := by
  intro H locs ls hP hD hS hl
  refine g_call X (a := (Value.ref b :: As).toArray) (k := rm2.cells) (n := rm2.slots) (rest := rest) (px2 := px2) (fun H locs ls hP hS hl => ?_) (g_K.no hno) kk H locs ls hP hD hS hl
  subst hcq
  obtain ⟨cellB, g1, g2, g3⟩ := va_recv X.2.1 (hP.one he) (ci := ci) (q0 := 0) hcl rfl
  exact fun T hT XT => Or.inl (va_runVN X.1 (hM.met hno H.size) ⟨(va_cnB n X.1.2.2.2.2 (g_goodc hy.1) rfl rfl rfl hlk (X.1.2.2.2.2 _ hy.2.1) hy.2.2 hR), X.1.2.2.2.2 _ hin, X.1.2.2.2.2 _ hse⟩ ⟨g_blind hZ, ⟨cellB, g1, g2, g3⟩, g_pre X hZ hP hD hS⟩ rfl hn hl.1 hst (lv_room hW) d hf T hT XT)
theorem g_callS (X : g_X p s m args meth c cc nL ret g_T own D cl tys A Z) (hZ : g_ZC Z) {y : MethodName} {bytes : ByteArray} {maxL n index : Nat} {ret2 : Option FieldType} {rm2 : Room} {As rest st0 : List Value} {px2 : String → Prop} {post2 : Option Value → g_F → Prop} 
    (hM : g_C l y bytes maxL ret2 rm2 D cl tys Z As f post2 px2) (hy : g_y y bytes maxL ret2 n) (hsc : Cond.static y ∈ g_T) (hlk : Cond.methodLink own index y ∈ g_T) (hn : As.length = n) (hst : st0 = As.reverse ++ rest) (hW : (rest.map fun v => v.category).sum ≤ 8) (d : decode cc pc = .ok (.invokestatic index, 3)) (hR : rm2.frames + 1 ≤ R.frames ∧ 8 + (maxL + 11) + rm2.locals ≤ R.locals) (hf : cells + rm2.cells ≤ R.cells ∧ slots + rm2.slots ≤ R.slots)
    (kx : g_K p l e R s m args below meth c nL D cl A f (cells + rm2.cells) (slots + rm2.slots) Q pc lv rest px2)
    (kk : ∀ (r : Option Value) (f2 : g_F), post2 r f2 → g_W p l e R s m args below meth c nL D cl A f2 (cells + rm2.cells) (slots + rm2.slots) Q (pc + 3) lv (r.toList ++ rest)) : g_W p l e R s m args below meth c nL D cl A f cells slots Q pc lv st0 := by
  intro H locs ls hP hD hS hl
  refine g_call X (a := As.toArray) (k := rm2.cells) (n := rm2.slots) (rest := rest) (px2 := px2) (fun H locs ls hP hS hl => ?_) kx kk H locs ls hP hD hS hl
  exact vx_runS X.1 (hM H.size) ⟨(callB_of n X.1.2.2.2.2 (g_goodc hy.1) rfl rfl rfl (X.1.2.2.2.2 _ hy.2.1) (X.1.2.2.2.2 _ hlk) hy.2.2 hR), X.1.2.2.2.2 _ hsc⟩ ⟨g_blind hZ, g_pre X hZ hP hD hS⟩ rfl hn hl.1 hst (lv_room hW) d hf
theorem g_callSN (X : g_X p s m args meth c cc nL ret g_T own D cl tys A Z) (hZ : g_ZC Z) {host : String} {y : MethodName} {bytes : ByteArray} {maxL n index : Nat} {ret2 : Option FieldType} {rm2 : Room} {As rest st0 : List Value} {px2 : String → Prop} {post2 : Option Value → g_F → Prop} 
    (hM : g_C l y bytes maxL ret2 rm2 D cl tys Z As f post2 px2) (hy : g_y y bytes maxL ret2 n) (hsc : Cond.static y ∈ g_T) (hlk : va_Nw (.methodLinkNest own index y host) s) (hno : ∀ E, ¬ px2 E) (hn : As.length = n) (hst : st0 = As.reverse ++ rest) (hW : (rest.map fun v => v.category).sum ≤ 8) (d : decode cc pc = .ok (.invokestatic index, 3)) (hR : rm2.frames + 1 ≤ R.frames ∧ 8 + (maxL + 11) + rm2.locals ≤ R.locals) (hf : cells + rm2.cells ≤ R.cells ∧ slots + rm2.slots ≤ R.slots)
    
    (kk : ∀ (r : Option Value) (f2 : g_F), post2 r f2 → g_W p l e R s m args below meth c nL D cl A f2 (cells + rm2.cells) (slots + rm2.slots) Q (pc + 3) lv (r.toList ++ rest)) : g_W p l e R s m args below meth c nL D cl A f cells slots Q pc lv st0 := by
  intro H locs ls hP hD hS hl
  refine g_call X (a := As.toArray) (k := rm2.cells) (n := rm2.slots) (rest := rest) (px2 := px2) (fun H locs ls hP hS hl => ?_) (g_K.no hno) kk H locs ls hP hD hS hl
  exact fun T hT XT => Or.inl (va_runSN X.1 (hM.met hno H.size) ⟨(va_cnB n X.1.2.2.2.2 (g_goodc hy.1) rfl rfl rfl hlk (X.1.2.2.2.2 _ hy.2.1) hy.2.2 hR), X.1.2.2.2.2 _ hsc, trivial⟩ ⟨g_blind hZ, g_pre X hZ hP hD hS⟩ rfl hn hl.1 hst (lv_room hW) d hf T hT XT)
theorem g_callI (X : g_X p s m args meth c cc nL ret g_T own D cl tys A Z) (hZ : g_ZC Z) {y : MethodName} {bytes : ByteArray} {maxL n index : Nat} {ret2 : Option FieldType} {rm2 : Room} {As rest st0 : List Value} {px2 : String → Prop} {post2 : Option Value → g_F → Prop} {b : Nat} 
    (hM : g_C l y bytes maxL none rm2 D cl tys Z (.ref b :: As) f post2 px2) (hy : g_y y bytes maxL none n) (hin : Cond.instanceMethod y ∈ g_T) (hini : y.name = "<init>") (hlk : Cond.methodLink own index y ∈ g_T) (hno : ∀ E, ¬ px2 E) (hn : As.length = n) (hst : st0 = As.reverse ++ .ref b :: rest) (hW : (rest.map fun v => v.category).sum ≤ 8) (d : decode cc pc = .ok (.invokespecial index, 3)) (hR : rm2.frames + 1 ≤ R.frames ∧ 8 + (maxL + 11) + rm2.locals ≤ R.locals) (hf : cells + rm2.cells ≤ R.cells ∧ slots + rm2.slots ≤ R.slots)
    
    (kk : ∀ (r : Option Value) (f2 : g_F), post2 r f2 → g_W p l e R s m args below meth c nL D cl A f2 (cells + rm2.cells) (slots + rm2.slots) Q (pc + 3) lv (r.toList ++ rest)) : g_W p l e R s m args below meth c nL D cl A f cells slots Q pc lv st0 := by
  intro H locs ls hP hD hS hl
  refine g_call X (a := (Value.ref b :: As).toArray) (k := rm2.cells) (n := rm2.slots) (rest := rest) (px2 := px2) (fun H locs ls hP hS hl => ?_) (g_K.no hno) kk H locs ls hP hD hS hl
  exact fun T hT XT => Or.inl (va_runI X.1 (hM.met hno H.size) ⟨(callB_of n X.1.2.2.2.2 (g_goodc hy.1) rfl rfl rfl (X.1.2.2.2.2 _ hy.2.1) (X.1.2.2.2.2 _ hlk) hy.2.2 hR), hini, X.1.2.2.2.2 _ hin⟩ ⟨g_blind hZ, g_pre X hZ hP hD hS⟩ rfl hn hl.1 hst (lv_room hW) d hf T hT XT)
end GE
end
section
def R_AL : String := "java/util/ArrayList"
def F_AL : u_T := fun k => match k with
  | 0 => ("java/util/ArrayList", "elementData", "[Ljava/lang/Object;", false)
  | 1 => ("java/util/ArrayList", "size", "I", false)
  | _ => ("java/util/AbstractList", "modCount", "I", false)
def t_AL : Nat → FieldType := fun k => match k with
  | 0 => .array (.object "java/lang/Object")
  | 1 => .int
  | _ => .int
theorem n_AL : ∀ a, a < 3 → ∀ b, b < 3 → a ≠ b → (F_AL a).2.1 ≠ (F_AL b).2.1 := by decide +kernel
theorem t_AL_ok : ∀ k, k < 3 → parseFieldDescriptor (F_AL k).2.2.1 = some (t_AL k) := by decide +kernel
theorem i_AL : ∀ w ∈ u_ws R_AL F_AL 3, w ∈ g_T := fun w h => List.mem_filter.mpr ((by decide +kernel : ∀ w ∈ u_ws R_AL F_AL 3, w ∈ lw_tbl ∧ goodWord w = true) w h)
def R_TL : String := "CaseLists$TouchLog"
def F_TL : u_T := fun k => match k with
  | 0 => ("CaseLists$TouchLog", "days", "[I", true)
  | 1 => ("CaseLists$TouchLog", "sets", "[I", true)
  | _ => ("CaseLists$TouchLog", "count", "I", false)
def t_TL : Nat → FieldType := fun k => match k with
  | 0 => .array .int
  | 1 => .array .int
  | _ => .int
theorem n_TL : ∀ a, a < 3 → ∀ b, b < 3 → a ≠ b → (F_TL a).2.1 ≠ (F_TL b).2.1 := by decide +kernel
theorem t_TL_ok : ∀ k, k < 3 → parseFieldDescriptor (F_TL k).2.2.1 = some (t_TL k) := by decide +kernel
theorem i_TL : ∀ w ∈ u_ws R_TL F_TL 3, w ∈ g_T := fun w h => List.mem_filter.mpr ((by decide +kernel : ∀ w ∈ u_ws R_TL F_TL 3, w ∈ lw_tbl ∧ goodWord w = true) w h)
def R_TU : String := "CaseLists$Tours"
def F_TU : u_T := fun k => match k with
  | 0 => ("CaseLists$Tours", "places", "[I", true)
  | 1 => ("CaseLists$Tours", "durations", "[I", true)
  | 2 => ("CaseLists$Tours", "shown", "[I", true)
  | 3 => ("CaseLists$Tours", "ways", "[I", true)
  | 4 => ("CaseLists$Tours", "rests", "[I", true)
  | _ => ("CaseLists$Tours", "count", "I", false)
def t_TU : Nat → FieldType := fun k => match k with
  | 0 => .array .int
  | 1 => .array .int
  | 2 => .array .int
  | 3 => .array .int
  | 4 => .array .int
  | _ => .int
theorem n_TU : ∀ a, a < 6 → ∀ b, b < 6 → a ≠ b → (F_TU a).2.1 ≠ (F_TU b).2.1 := by decide +kernel
theorem t_TU_ok : ∀ k, k < 6 → parseFieldDescriptor (F_TU k).2.2.1 = some (t_TU k) := by decide +kernel
theorem i_TU : ∀ w ∈ u_ws R_TU F_TU 6, w ∈ g_T := fun w h => List.mem_filter.mpr ((by decide +kernel : ∀ w ∈ u_ws R_TU F_TU 6, w ∈ lw_tbl ∧ goodWord w = true) w h)
def R_CL : String := "CaseLists"
def F_CL : u_T := fun k => match k with
  | 0 => ("CaseLists", "life", "I", true)
  | 1 => ("CaseLists", "cases", "Ljava/util/ArrayList;", true)
  | 2 => ("CaseLists", "touches", "LCaseLists$TouchLog;", true)
  | 3 => ("CaseLists", "tours", "LCaseLists$Tours;", true)
  | 4 => ("CaseLists", "planActs", "[I", true)
  | 5 => ("CaseLists", "planLength", "I", false)
  | _ => ("CaseLists", "planSeconds", "I", false)
def t_CL : Nat → FieldType := fun k => match k with
  | 0 => .int
  | 1 => .object "java/util/ArrayList"
  | 2 => .object "CaseLists$TouchLog"
  | 3 => .object "CaseLists$Tours"
  | 4 => .array .int
  | 5 => .int
  | _ => .int
theorem n_CL : ∀ a, a < 7 → ∀ b, b < 7 → a ≠ b → (F_CL a).2.1 ≠ (F_CL b).2.1 := by decide +kernel
theorem t_CL_ok : ∀ k, k < 7 → parseFieldDescriptor (F_CL k).2.2.1 = some (t_CL k) := by decide +kernel
theorem i_CL : ∀ w ∈ u_ws R_CL F_CL 7, w ∈ g_T := fun w h => List.mem_filter.mpr ((by decide +kernel : ∀ w ∈ u_ws R_CL F_CL 7, w ∈ lw_tbl ∧ goodWord w = true) w h)
def R_CS : String := "CaseLists$Case"
def F_CS : u_T := fun k => match k with
  | 0 => ("CaseLists$Case", "point", "I", true)
  | 1 => ("CaseLists$Case", "other", "I", true)
  | 2 => ("CaseLists$Case", "persons", "[I", true)
  | 3 => ("CaseLists$Case", "days", "[I", true)
  | 4 => ("CaseLists$Case", "goods", "[Z", true)
  | _ => ("CaseLists$Case", "count", "I", false)
def t_CS : Nat → FieldType := fun k => match k with
  | 0 => .int
  | 1 => .int
  | 2 => .array .int
  | 3 => .array .int
  | 4 => .array .boolean
  | _ => .int
theorem n_CS : ∀ a, a < 6 → ∀ b, b < 6 → a ≠ b → (F_CS a).2.1 ≠ (F_CS b).2.1 := by decide +kernel
theorem t_CS_ok : ∀ k, k < 6 → parseFieldDescriptor (F_CS k).2.2.1 = some (t_CS k) := by decide +kernel
theorem i_CS : ∀ w ∈ u_ws R_CS F_CS 6, w ∈ g_T := fun w h => List.mem_filter.mpr ((by decide +kernel : ∀ w ∈ u_ws R_CS F_CS 6, w ∈ lw_tbl ∧ goodWord w = true) w h)
def R_MO : String := "CaseListsModel"
def F_MO : u_T := fun k => match k with
  | 0 => ("CaseListsModel", "thrown", "I", false)
  | 1 => ("CaseListsModel", "life", "I", true)
  | 2 => ("CaseListsModel", "cases", "I", false)
  | 3 => ("CaseListsModel", "points", "[I", true)
  | 4 => ("CaseListsModel", "others", "[I", true)
  | 5 => ("CaseListsModel", "acts", "I", false)
  | 6 => ("CaseListsModel", "places", "[I", true)
  | 7 => ("CaseListsModel", "times", "[I", true)
  | 8 => ("CaseListsModel", "shown", "[I", true)
  | 9 => ("CaseListsModel", "ways", "[I", true)
  | 10 => ("CaseListsModel", "touches", "[I", true)
  | 11 => ("CaseListsModel", "counts", "[I", true)
  | 12 => ("CaseListsModel", "persons", "[I", true)
  | 13 => ("CaseListsModel", "days", "[I", true)
  | 14 => ("CaseListsModel", "goods", "[Z", true)
  | 15 => ("CaseListsModel", "planSize", "I", false)
  | 16 => ("CaseListsModel", "planTime", "I", false)
  | 17 => ("CaseListsModel", "plan", "[I", true)
  | 18 => ("CaseListsModel", "least", "[I", true)
  | _ => ("CaseListsModel", "still", "[Z", true)
def t_MO : Nat → FieldType := fun k => match k with
  | 0 => .int
  | 1 => .int
  | 2 => .int
  | 3 => .array .int
  | 4 => .array .int
  | 5 => .int
  | 6 => .array .int
  | 7 => .array .int
  | 8 => .array .int
  | 9 => .array .int
  | 10 => .array .int
  | 11 => .array .int
  | 12 => .array .int
  | 13 => .array .int
  | 14 => .array .boolean
  | 15 => .int
  | 16 => .int
  | 17 => .array .int
  | 18 => .array .int
  | _ => .array .boolean
theorem n_MO : ∀ a, a < 20 → ∀ b, b < 20 → a ≠ b → (F_MO a).2.1 ≠ (F_MO b).2.1 := by decide +kernel
theorem t_MO_ok : ∀ k, k < 20 → parseFieldDescriptor (F_MO k).2.2.1 = some (t_MO k) := by decide +kernel
theorem i_MO : ∀ w ∈ u_ws R_MO F_MO 20, w ∈ g_T := fun w h => List.mem_filter.mpr ((by decide +kernel : ∀ w ∈ u_ws R_MO F_MO 20, w ∈ lw_tbl ∧ goodWord w = true) w h)
abbrev g_cl : List vw_C := [(R_AL, F_AL, 3), (R_TL, F_TL, 3), (R_TU, F_TU, 6), (R_CL, F_CL, 7), (R_CS, F_CS, 6), (R_MO, F_MO, 20)]
abbrev b_CL_init : ByteArray := prog_1_method_1_code
def y_CL_init : MethodName := ⟨R_CL, "<init>", "(I)V"⟩
abbrev b_OJ_init : ByteArray := object_method_1_code
def y_OJ_init : MethodName := ⟨"java/lang/Object", "<init>", "()V"⟩
abbrev b_MA_min : ByteArray := prog_14_method_69_code
def y_MA_min : MethodName := ⟨"java/lang/Math", "min", "(II)I"⟩
abbrev b_MA_max : ByteArray := prog_14_method_65_code
def y_MA_max : MethodName := ⟨"java/lang/Math", "max", "(II)I"⟩
abbrev b_AL_init : ByteArray := prog_21_method_2_code
def y_AL_init : MethodName := ⟨R_AL, "<init>", "()V"⟩
abbrev b_BL_init : ByteArray := prog_20_method_1_code
def y_BL_init : MethodName := ⟨"java/util/AbstractList", "<init>", "()V"⟩
abbrev b_BC_init : ByteArray := prog_19_method_1_code
def y_BC_init : MethodName := ⟨"java/util/AbstractCollection", "<init>", "()V"⟩
abbrev b_TL_init : ByteArray := prog_3_method_1_code
def y_TL_init : MethodName := ⟨R_TL, "<init>", "()V"⟩
abbrev b_TU_init : ByteArray := prog_4_method_1_code
def y_TU_init : MethodName := ⟨R_TU, "<init>", "()V"⟩
abbrev b_CL_seconds : ByteArray := prog_1_method_10_code
def y_CL_seconds : MethodName := ⟨R_CL, "seconds", "()I"⟩
abbrev b_LW_cell : ByteArray := method_2_code
def y_LW_cell : MethodName := ⟨"CaseListsLaw", "cell", "([II)I"⟩
abbrev b_LW_fault : ByteArray := method_3_code
def y_LW_fault : MethodName := ⟨"CaseListsLaw", "fault", "(LCaseLists;II[J)I"⟩
abbrev b_CL_fault : ByteArray := prog_1_method_2_code
def y_CL_fault : MethodName := ⟨R_CL, "fault", "(II)I"⟩
abbrev b_CL_needBelow : ByteArray := prog_1_method_18_code
def y_CL_needBelow : MethodName := ⟨R_CL, "needBelow", "(II)V"⟩
abbrev b_CL_needWithin : ByteArray := prog_1_method_21_code
def y_CL_needWithin : MethodName := ⟨R_CL, "needWithin", "(III)V"⟩
abbrev b_TH_init : ByteArray := prog_18_method_1_code
def y_TH_init : MethodName := ⟨"java/lang/Throwable", "<init>", "()V"⟩
abbrev b_IA_init : ByteArray := prog_10_method_2_code
def y_IA_init : MethodName := ⟨"java/lang/IllegalArgumentException", "<init>", "(Ljava/lang/String;)V"⟩
abbrev b_RX_init : ByteArray := prog_15_method_2_code
def y_RX_init : MethodName := ⟨"java/lang/RuntimeException", "<init>", "(Ljava/lang/String;)V"⟩
abbrev b_EX_init : ByteArray := prog_9_method_2_code
def y_EX_init : MethodName := ⟨"java/lang/Exception", "<init>", "(Ljava/lang/String;)V"⟩
abbrev b_TH_init2 : ByteArray := prog_18_method_2_code
def y_TH_init2 : MethodName := ⟨"java/lang/Throwable", "<init>", "(Ljava/lang/String;)V"⟩
abbrev b_CL_needOther : ByteArray := prog_1_method_22_code
def y_CL_needOther : MethodName := ⟨R_CL, "needOther", "(II)V"⟩
abbrev b_CL_caseOf : ByteArray := prog_1_method_25_code
def y_CL_caseOf : MethodName := ⟨R_CL, "caseOf", "(II)I"⟩
abbrev b_AL_size : ByteArray := prog_21_method_8_code
def y_AL_size : MethodName := ⟨R_AL, "size", "()I"⟩
abbrev b_AL_get : ByteArray := prog_21_method_20_code
def y_AL_get : MethodName := ⟨R_AL, "get", "(I)Ljava/lang/Object;"⟩
abbrev b_OB_checkIndex : ByteArray := prog_25_method_17_code
def y_OB_checkIndex : MethodName := ⟨"java/util/Objects", "checkIndex", "(II)I"⟩
abbrev b_PR_checkIndex : ByteArray := prog_29_method_11_code
def y_PR_checkIndex : MethodName := ⟨"jdk/internal/util/Preconditions", "checkIndex", "(IILjava/util/function/BiFunction;)I"⟩
abbrev b_AL_elementData : ByteArray := prog_21_method_18_code
def y_AL_elementData : MethodName := ⟨R_AL, "elementData", "(I)Ljava/lang/Object;"⟩
abbrev b_CS_isOf : ByteArray := prog_2_method_2_code
def y_CS_isOf : MethodName := ⟨R_CS, "isOf", "(II)Z"⟩
abbrev b_CL_needRoom : ByteArray := prog_1_method_23_code
def y_CL_needRoom : MethodName := ⟨R_CL, "needRoom", "(II)V"⟩
abbrev b_IS_init : ByteArray := prog_11_method_2_code
def y_IS_init : MethodName := ⟨"java/lang/IllegalStateException", "<init>", "(Ljava/lang/String;)V"⟩
abbrev b_CS_init : ByteArray := prog_2_method_1_code
def y_CS_init : MethodName := ⟨R_CS, "<init>", "(II)V"⟩
abbrev b_AL_add : ByteArray := prog_21_method_25_code
def y_AL_add : MethodName := ⟨R_AL, "add", "(Ljava/lang/Object;)Z"⟩
abbrev b_AL_add2 : ByteArray := prog_21_method_24_code
def y_AL_add2 : MethodName := ⟨R_AL, "add", "(Ljava/lang/Object;[Ljava/lang/Object;I)V"⟩
abbrev b_AL_grow : ByteArray := prog_21_method_7_code
def y_AL_grow : MethodName := ⟨R_AL, "grow", "()[Ljava/lang/Object;"⟩
abbrev b_AL_grow2 : ByteArray := prog_21_method_6_code
def y_AL_grow2 : MethodName := ⟨R_AL, "grow", "(I)[Ljava/lang/Object;"⟩
abbrev b_AS_newLength : ByteArray := prog_28_method_27_code
def y_AS_newLength : MethodName := ⟨"jdk/internal/util/ArraysSupport", "newLength", "(III)I"⟩
abbrev b_AS_hugeLength : ByteArray := prog_28_method_28_code
def y_AS_hugeLength : MethodName := ⟨"jdk/internal/util/ArraysSupport", "hugeLength", "(II)I"⟩
abbrev b_AR_copyOf : ByteArray := prog_22_method_119_code
def y_AR_copyOf : MethodName := ⟨"java/util/Arrays", "copyOf", "([Ljava/lang/Object;I)[Ljava/lang/Object;"⟩
abbrev b_AR_copyOf2 : ByteArray := prog_22_method_120_code
def y_AR_copyOf2 : MethodName := ⟨"java/util/Arrays", "copyOf", "([Ljava/lang/Object;ILjava/lang/Class;)[Ljava/lang/Object;"⟩
abbrev b_LW_act : ByteArray := method_4_code
def y_LW_act : MethodName := ⟨"CaseListsLaw", "act", "(LCaseLists;II[J)I"⟩
abbrev b_CL_act : ByteArray := prog_1_method_3_code
def y_CL_act : MethodName := ⟨R_CL, "act", "(II)I"⟩
abbrev b_TU_actCount : ByteArray := prog_4_method_2_code
def y_TU_actCount : MethodName := ⟨R_TU, "actCount", "()I"⟩
abbrev b_TU_addAct : ByteArray := prog_4_method_3_code
def y_TU_addAct : MethodName := ⟨R_TU, "addAct", "(II)I"⟩
abbrev b_LW_shows : ByteArray := method_5_code
def y_LW_shows : MethodName := ⟨"CaseListsLaw", "shows", "(LCaseLists;IIZ[J)I"⟩
abbrev b_CL_shows : ByteArray := prog_1_method_4_code
def y_CL_shows : MethodName := ⟨R_CL, "shows", "(IIZ)Z"⟩
abbrev b_TU_setShown : ByteArray := prog_4_method_4_code
def y_TU_setShown : MethodName := ⟨R_TU, "setShown", "(IIZ)Z"⟩
abbrev b_CL_holds : ByteArray := prog_1_method_24_code
def y_CL_holds : MethodName := ⟨R_CL, "holds", "(II)Z"⟩
abbrev b_LW_way : ByteArray := method_6_code
def y_LW_way : MethodName := ⟨"CaseListsLaw", "way", "(LCaseLists;III[J)I"⟩
abbrev b_CL_way : ByteArray := prog_1_method_5_code
def y_CL_way : MethodName := ⟨R_CL, "way", "(III)I"⟩
abbrev b_TU_setWay : ByteArray := prog_4_method_5_code
def y_TU_setWay : MethodName := ⟨R_TU, "setWay", "(III)I"⟩
abbrev b_LW_change : ByteArray := method_7_code
def y_LW_change : MethodName := ⟨"CaseListsLaw", "change", "(LCaseLists;II[J)I"⟩
abbrev b_CL_change : ByteArray := prog_1_method_6_code
def y_CL_change : MethodName := ⟨R_CL, "change", "(II)I"⟩
abbrev b_CL_needDay : ByteArray := prog_1_method_19_code
def y_CL_needDay : MethodName := ⟨R_CL, "needDay", "(I)V"⟩
abbrev b_CL_casesWith : ByteArray := prog_1_method_26_code
def y_CL_casesWith : MethodName := ⟨R_CL, "casesWith", "(I)I"⟩
abbrev b_CS_has : ByteArray := prog_2_method_3_code
def y_CS_has : MethodName := ⟨R_CS, "has", "(I)Z"⟩
abbrev b_TL_note : ByteArray := prog_3_method_2_code
def y_TL_note : MethodName := ⟨R_TL, "note", "(II)V"⟩
abbrev b_IN_bitCount : ByteArray := prog_12_method_49_code
def y_IN_bitCount : MethodName := ⟨"java/lang/Integer", "bitCount", "(I)I"⟩
abbrev b_LW_result : ByteArray := method_8_code
def y_LW_result : MethodName := ⟨"CaseListsLaw", "result", "(LCaseLists;IIIZ[J)I"⟩
abbrev b_CL_result : ByteArray := prog_1_method_7_code
def y_CL_result : MethodName := ⟨R_CL, "result", "(IIIZ)I"⟩
abbrev b_CS_rowOf : ByteArray := prog_2_method_5_code
def y_CS_rowOf : MethodName := ⟨R_CS, "rowOf", "(II)I"⟩
abbrev b_CS_tell : ByteArray := prog_2_method_6_code
def y_CS_tell : MethodName := ⟨R_CS, "tell", "(IIIZ)V"⟩
abbrev b_CS_resultCount : ByteArray := prog_2_method_4_code
def y_CS_resultCount : MethodName := ⟨R_CS, "resultCount", "()I"⟩
abbrev b_LW_plan : ByteArray := method_9_code
def y_LW_plan : MethodName := ⟨"CaseListsLaw", "plan", "(LCaseLists;I[J)I"⟩
abbrev b_CL_plan : ByteArray := prog_1_method_8_code
def y_CL_plan : MethodName := ⟨R_CL, "plan", "(I)I"⟩
abbrev b_CL_unprovedCases : ByteArray := prog_1_method_27_code
def y_CL_unprovedCases : MethodName := ⟨R_CL, "unprovedCases", "(I)I"⟩
abbrev b_CL_stateOn : ByteArray := prog_1_method_29_code
def y_CL_stateOn : MethodName := ⟨R_CL, "stateOn", "(II)I"⟩
abbrev b_CL_firstCountingDay : ByteArray := prog_1_method_28_code
def y_CL_firstCountingDay : MethodName := ⟨R_CL, "firstCountingDay", "(II)I"⟩
abbrev b_TL_latest : ByteArray := prog_3_method_3_code
def y_TL_latest : MethodName := ⟨R_TL, "latest", "(II)I"⟩
abbrev b_CS_wordOf : ByteArray := prog_2_method_7_code
def y_CS_wordOf : MethodName := ⟨R_CS, "wordOf", "(III)I"⟩
abbrev b_TU_shownByAny : ByteArray := prog_4_method_6_code
def y_TU_shownByAny : MethodName := ⟨R_TU, "shownByAny", "()I"⟩
abbrev b_TU_shownBy : ByteArray := prog_4_method_10_code
def y_TU_shownBy : MethodName := ⟨R_TU, "shownBy", "(I)I"⟩
abbrev b_TU_findOrder : ByteArray := prog_4_method_8_code
def y_TU_findOrder : MethodName := ⟨R_TU, "findOrder", "(I[I)I"⟩
abbrev b_TU_weighRests : ByteArray := prog_4_method_13_code
def y_TU_weighRests : MethodName := ⟨R_TU, "weighRests", "(I)V"⟩
abbrev b_TU_covers : ByteArray := prog_4_method_11_code
def y_TU_covers : MethodName := ⟨R_TU, "covers", "(II)Z"⟩
abbrev b_TU_leastRest : ByteArray := prog_4_method_14_code
def y_TU_leastRest : MethodName := ⟨R_TU, "leastRest", "(II)I"⟩
abbrev b_TU_weightOfNext : ByteArray := prog_4_method_16_code
def y_TU_weightOfNext : MethodName := ⟨R_TU, "weightOfNext", "(III)I"⟩
abbrev b_TU_wayBetween : ByteArray := prog_4_method_12_code
def y_TU_wayBetween : MethodName := ⟨R_TU, "wayBetween", "(II)I"⟩
abbrev b_TU_weight : ByteArray := prog_4_method_17_code
def y_TU_weight : MethodName := ⟨R_TU, "weight", "(I)I"⟩
abbrev b_TU_bestFirst : ByteArray := prog_4_method_18_code
def y_TU_bestFirst : MethodName := ⟨R_TU, "bestFirst", "()I"⟩
abbrev b_TU_weightOfFirst : ByteArray := prog_4_method_15_code
def y_TU_weightOfFirst : MethodName := ⟨R_TU, "weightOfFirst", "(I)I"⟩
abbrev b_TU_bestNext : ByteArray := prog_4_method_19_code
def y_TU_bestNext : MethodName := ⟨R_TU, "bestNext", "(II)I"⟩
abbrev b_TU_secondsOf : ByteArray := prog_4_method_9_code
def y_TU_secondsOf : MethodName := ⟨R_TU, "secondsOf", "([II)I"⟩
abbrev b_LW_planned : ByteArray := method_10_code
def y_LW_planned : MethodName := ⟨"CaseListsLaw", "planned", "(LCaseLists;I[J)I"⟩
abbrev b_CL_planned : ByteArray := prog_1_method_9_code
def y_CL_planned : MethodName := ⟨R_CL, "planned", "(I)I"⟩
abbrev b_LW_from : ByteArray := method_11_code
def y_LW_from : MethodName := ⟨"CaseListsLaw", "from", "(LCaseLists;I[J)I"⟩
abbrev b_CL_from : ByteArray := prog_1_method_11_code
def y_CL_from : MethodName := ⟨R_CL, "from", "(I)I"⟩
abbrev b_TU_leastSecondsFrom : ByteArray := prog_4_method_7_code
def y_TU_leastSecondsFrom : MethodName := ⟨R_TU, "leastSecondsFrom", "(I)I"⟩
abbrev b_LW_state : ByteArray := method_12_code
def y_LW_state : MethodName := ⟨"CaseListsLaw", "state", "(LCaseLists;II[J)I"⟩
abbrev b_CL_state : ByteArray := prog_1_method_12_code
def y_CL_state : MethodName := ⟨R_CL, "state", "(II)I"⟩
abbrev b_LW_word : ByteArray := method_13_code
def y_LW_word : MethodName := ⟨"CaseListsLaw", "word", "(LCaseLists;III[J)I"⟩
abbrev b_CL_word : ByteArray := prog_1_method_13_code
def y_CL_word : MethodName := ⟨R_CL, "word", "(III)I"⟩
abbrev b_LW_listed : ByteArray := method_14_code
def y_LW_listed : MethodName := ⟨"CaseListsLaw", "listed", "(LCaseLists;III[J)I"⟩
abbrev b_CL_listed : ByteArray := prog_1_method_14_code
def y_CL_listed : MethodName := ⟨R_CL, "listed", "(III)I"⟩
abbrev b_CL_needNotNegative : ByteArray := prog_1_method_20_code
def y_CL_needNotNegative : MethodName := ⟨R_CL, "needNotNegative", "(I)V"⟩
abbrev b_LW_hidden : ByteArray := method_15_code
def y_LW_hidden : MethodName := ⟨"CaseListsLaw", "hidden", "(LCaseLists;I[J)I"⟩
abbrev b_CL_hidden : ByteArray := prog_1_method_15_code
def y_CL_hidden : MethodName := ⟨R_CL, "hidden", "(I)I"⟩
abbrev b_LW_proves : ByteArray := method_16_code
def y_LW_proves : MethodName := ⟨"CaseListsLaw", "proves", "(LCaseLists;II[J)I"⟩
abbrev b_CL_proves : ByteArray := prog_1_method_16_code
def y_CL_proves : MethodName := ⟨R_CL, "proves", "(II)I"⟩
abbrev b_CL_nextTurn : ByteArray := prog_1_method_30_code
def y_CL_nextTurn : MethodName := ⟨R_CL, "nextTurn", "(II)I"⟩
abbrev b_TL_nextBehind : ByteArray := prog_3_method_4_code
def y_TL_nextBehind : MethodName := ⟨R_TL, "nextBehind", "(II)I"⟩
abbrev b_CS_nextTurn : ByteArray := prog_2_method_8_code
def y_CS_nextTurn : MethodName := ⟨R_CS, "nextTurn", "(III)I"⟩
abbrev b_LW_touched : ByteArray := method_17_code
def y_LW_touched : MethodName := ⟨"CaseListsLaw", "touched", "(LCaseLists;II[J)I"⟩
abbrev b_CL_touched : ByteArray := prog_1_method_17_code
def y_CL_touched : MethodName := ⟨R_CL, "touched", "(II)I"⟩
abbrev b_MO_init : ByteArray := prog_6_method_1_code
def y_MO_init : MethodName := ⟨R_MO, "<init>", "(I)V"⟩
abbrev b_MO_thrown : ByteArray := prog_6_method_2_code
def y_MO_thrown : MethodName := ⟨R_MO, "thrown", "()I"⟩
abbrev b_MO_fault : ByteArray := prog_6_method_7_code
def y_MO_fault : MethodName := ⟨R_MO, "fault", "(II)I"⟩
abbrev b_MO_in : ByteArray := prog_6_method_4_code
def y_MO_in : MethodName := ⟨R_MO, "in", "(III)Z"⟩
abbrev b_MO_goes : ByteArray := prog_6_method_3_code
def y_MO_goes : MethodName := ⟨R_MO, "goes", "(ZZ)Z"⟩
abbrev b_MO_act : ByteArray := prog_6_method_8_code
def y_MO_act : MethodName := ⟨R_MO, "act", "(II)I"⟩
abbrev b_MO_shows : ByteArray := prog_6_method_9_code
def y_MO_shows : MethodName := ⟨R_MO, "shows", "(IIZ)Z"⟩
abbrev b_MO_isCase : ByteArray := prog_6_method_5_code
def y_MO_isCase : MethodName := ⟨R_MO, "isCase", "(I)Z"⟩
abbrev b_MO_way : ByteArray := prog_6_method_10_code
def y_MO_way : MethodName := ⟨R_MO, "way", "(III)I"⟩
abbrev b_MO_change : ByteArray := prog_6_method_12_code
def y_MO_change : MethodName := ⟨R_MO, "change", "(II)I"⟩
abbrev b_MO_isDay : ByteArray := prog_6_method_6_code
def y_MO_isDay : MethodName := ⟨R_MO, "isDay", "(I)Z"⟩
abbrev b_MO_result : ByteArray := prog_6_method_13_code
def y_MO_result : MethodName := ⟨R_MO, "result", "(IIIZ)I"⟩
abbrev b_MO_state : ByteArray := prog_6_method_17_code
def y_MO_state : MethodName := ⟨R_MO, "state", "(II)I"⟩
abbrev b_MO_stateOf : ByteArray := prog_6_method_16_code
def y_MO_stateOf : MethodName := ⟨R_MO, "stateOf", "(II)I"⟩
abbrev b_MO_lastTouch : ByteArray := prog_6_method_14_code
def y_MO_lastTouch : MethodName := ⟨R_MO, "lastTouch", "(II)I"⟩
abbrev b_MO_isTouched : ByteArray := prog_6_method_11_code
def y_MO_isTouched : MethodName := ⟨R_MO, "isTouched", "(II)Z"⟩
abbrev b_MO_wordOf : ByteArray := prog_6_method_15_code
def y_MO_wordOf : MethodName := ⟨R_MO, "wordOf", "(IIII)I"⟩
abbrev b_MO_word : ByteArray := prog_6_method_18_code
def y_MO_word : MethodName := ⟨R_MO, "word", "(III)I"⟩
abbrev b_MO_listed : ByteArray := prog_6_method_19_code
def y_MO_listed : MethodName := ⟨R_MO, "listed", "(III)I"⟩
abbrev b_MO_hidden : ByteArray := prog_6_method_21_code
def y_MO_hidden : MethodName := ⟨R_MO, "hidden", "(I)I"⟩
abbrev b_MO_allShown : ByteArray := prog_6_method_20_code
def y_MO_allShown : MethodName := ⟨R_MO, "allShown", "()I"⟩
abbrev b_MO_proves : ByteArray := prog_6_method_23_code
def y_MO_proves : MethodName := ⟨R_MO, "proves", "(II)I"⟩
abbrev b_MO_nextDay : ByteArray := prog_6_method_22_code
def y_MO_nextDay : MethodName := ⟨R_MO, "nextDay", "(II)I"⟩
abbrev b_MO_touched : ByteArray := prog_6_method_24_code
def y_MO_touched : MethodName := ⟨R_MO, "touched", "(II)I"⟩
abbrev b_MO_plan : ByteArray := prog_6_method_31_code
def y_MO_plan : MethodName := ⟨R_MO, "plan", "(I)I"⟩
abbrev b_MO_reckon : ByteArray := prog_6_method_27_code
def y_MO_reckon : MethodName := ⟨R_MO, "reckon", "()V"⟩
abbrev b_MO_has : ByteArray := prog_6_method_25_code
def y_MO_has : MethodName := ⟨R_MO, "has", "(II)Z"⟩
abbrev b_MO_between : ByteArray := prog_6_method_26_code
def y_MO_between : MethodName := ⟨R_MO, "between", "(II)I"⟩
abbrev b_MO_shownBy : ByteArray := prog_6_method_28_code
def y_MO_shownBy : MethodName := ⟨R_MO, "shownBy", "(I)I"⟩
abbrev b_MO_leastOf : ByteArray := prog_6_method_30_code
def y_MO_leastOf : MethodName := ⟨R_MO, "leastOf", "(I)I"⟩
abbrev b_MO_sizeOf : ByteArray := prog_6_method_29_code
def y_MO_sizeOf : MethodName := ⟨R_MO, "sizeOf", "(I)I"⟩
abbrev b_MO_order : ByteArray := prog_6_method_32_code
def y_MO_order : MethodName := ⟨R_MO, "order", "()V"⟩
abbrev b_MO_planned : ByteArray := prog_6_method_33_code
def y_MO_planned : MethodName := ⟨R_MO, "planned", "(I)I"⟩
abbrev b_MO_seconds : ByteArray := prog_6_method_34_code
def y_MO_seconds : MethodName := ⟨R_MO, "seconds", "()I"⟩
abbrev b_MO_from : ByteArray := prog_6_method_35_code
def y_MO_from : MethodName := ⟨R_MO, "from", "(I)I"⟩
end
section
theorem q_s0 : Cond.selects "java/lang/Throwable" ⟨"java/lang/Throwable", "fillInStackTrace", "(I)Ljava/lang/Throwable;"⟩ ⟨"java/lang/Throwable", "fillInStackTrace", "(I)Ljava/lang/Throwable;"⟩ ∈ g_T := g_in 0 (by decide +kernel) (by decide +kernel)
theorem q_s1 : Cond.selects "CaseLists" y_CL_caseOf y_CL_caseOf ∈ g_T := g_in 1 (by decide +kernel) (by decide +kernel)
theorem q_s2 : Cond.selects "java/util/ArrayList" y_AL_add2 y_AL_add2 ∈ g_T := g_in 2 (by decide +kernel) (by decide +kernel)
theorem q_s3 : Cond.selects "java/util/ArrayList" y_AL_grow y_AL_grow ∈ g_T := g_in 3 (by decide +kernel) (by decide +kernel)
theorem q_s4 : Cond.selects "java/util/ArrayList" y_AL_grow2 y_AL_grow2 ∈ g_T := g_in 4 (by decide +kernel) (by decide +kernel)
theorem q_s5 : Cond.selects "CaseLists" y_CL_casesWith y_CL_casesWith ∈ g_T := g_in 5 (by decide +kernel) (by decide +kernel)
theorem q_s6 : Cond.selects "CaseLists" y_CL_unprovedCases y_CL_unprovedCases ∈ g_T := g_in 6 (by decide +kernel) (by decide +kernel)
theorem q_s7 : Cond.selects "CaseLists" y_CL_stateOn y_CL_stateOn ∈ g_T := g_in 7 (by decide +kernel) (by decide +kernel)
theorem q_s8 : Cond.selects "CaseLists" y_CL_firstCountingDay y_CL_firstCountingDay ∈ g_T := g_in 8 (by decide +kernel) (by decide +kernel)
theorem q_s9 : Cond.selects "CaseLists$Tours" y_TU_shownBy y_TU_shownBy ∈ g_T := g_in 9 (by decide +kernel) (by decide +kernel)
theorem q_s10 : Cond.selects "CaseLists$Tours" y_TU_weighRests y_TU_weighRests ∈ g_T := g_in 10 (by decide +kernel) (by decide +kernel)
theorem q_s11 : Cond.selects "CaseLists$Tours" y_TU_covers y_TU_covers ∈ g_T := g_in 11 (by decide +kernel) (by decide +kernel)
theorem q_s12 : Cond.selects "CaseLists$Tours" y_TU_leastRest y_TU_leastRest ∈ g_T := g_in 12 (by decide +kernel) (by decide +kernel)
theorem q_s13 : Cond.selects "CaseLists$Tours" y_TU_weightOfNext y_TU_weightOfNext ∈ g_T := g_in 13 (by decide +kernel) (by decide +kernel)
theorem q_s14 : Cond.selects "CaseLists$Tours" y_TU_wayBetween y_TU_wayBetween ∈ g_T := g_in 14 (by decide +kernel) (by decide +kernel)
theorem q_s15 : Cond.selects "CaseLists$Tours" y_TU_bestFirst y_TU_bestFirst ∈ g_T := g_in 15 (by decide +kernel) (by decide +kernel)
theorem q_s16 : Cond.selects "CaseLists$Tours" y_TU_weightOfFirst y_TU_weightOfFirst ∈ g_T := g_in 16 (by decide +kernel) (by decide +kernel)
theorem q_s17 : Cond.selects "CaseLists$Tours" y_TU_bestNext y_TU_bestNext ∈ g_T := g_in 17 (by decide +kernel) (by decide +kernel)
theorem q_s18 : Cond.selects "CaseLists" y_CL_nextTurn y_CL_nextTurn ∈ g_T := g_in 18 (by decide +kernel) (by decide +kernel)
theorem q_s19 : Cond.selects "CaseListsModel" y_MO_goes y_MO_goes ∈ g_T := g_in 19 (by decide +kernel) (by decide +kernel)
theorem q_s20 : Cond.selects "CaseListsModel" y_MO_isCase y_MO_isCase ∈ g_T := g_in 20 (by decide +kernel) (by decide +kernel)
theorem q_s21 : Cond.selects "CaseListsModel" y_MO_stateOf y_MO_stateOf ∈ g_T := g_in 21 (by decide +kernel) (by decide +kernel)
theorem q_s22 : Cond.selects "CaseListsModel" y_MO_lastTouch y_MO_lastTouch ∈ g_T := g_in 22 (by decide +kernel) (by decide +kernel)
theorem q_s23 : Cond.selects "CaseListsModel" y_MO_isTouched y_MO_isTouched ∈ g_T := g_in 23 (by decide +kernel) (by decide +kernel)
theorem q_s24 : Cond.selects "CaseListsModel" y_MO_wordOf y_MO_wordOf ∈ g_T := g_in 24 (by decide +kernel) (by decide +kernel)
theorem q_s25 : Cond.selects "CaseListsModel" y_MO_allShown y_MO_allShown ∈ g_T := g_in 25 (by decide +kernel) (by decide +kernel)
theorem q_s26 : Cond.selects "CaseListsModel" y_MO_nextDay y_MO_nextDay ∈ g_T := g_in 26 (by decide +kernel) (by decide +kernel)
theorem q_s27 : Cond.selects "CaseListsModel" y_MO_reckon y_MO_reckon ∈ g_T := g_in 27 (by decide +kernel) (by decide +kernel)
theorem q_s28 : Cond.selects "CaseListsModel" y_MO_between y_MO_between ∈ g_T := g_in 28 (by decide +kernel) (by decide +kernel)
theorem q_s29 : Cond.selects "CaseListsModel" y_MO_shownBy y_MO_shownBy ∈ g_T := g_in 29 (by decide +kernel) (by decide +kernel)
theorem q_s30 : Cond.selects "CaseListsModel" y_MO_leastOf y_MO_leastOf ∈ g_T := g_in 30 (by decide +kernel) (by decide +kernel)
theorem q_s31 : Cond.selects "CaseListsModel" y_MO_order y_MO_order ∈ g_T := g_in 31 (by decide +kernel) (by decide +kernel)
theorem q_0 : Cond.initialized "CaseListsLaw" ∈ g_T := g_in 32 (by decide +kernel) (by decide +kernel)
theorem q_1 : Cond.initialized "CaseLists" ∈ g_T := g_in 33 (by decide +kernel) (by decide +kernel)
theorem q_2 : Cond.initialized "java/lang/Math" ∈ g_T := g_in 34 (by decide +kernel) (by decide +kernel)
theorem q_3 : Cond.initialized "java/util/AbstractCollection" ∈ g_T := g_in 35 (by decide +kernel) (by decide +kernel)
theorem q_4 : Cond.initialized "java/util/AbstractList" ∈ g_T := g_in 36 (by decide +kernel) (by decide +kernel)
theorem q_5 : Cond.initialized "java/util/ArrayList" ∈ g_T := g_in 37 (by decide +kernel) (by decide +kernel)
theorem q_6 : Cond.initialized "CaseLists$TouchLog" ∈ g_T := g_in 38 (by decide +kernel) (by decide +kernel)
theorem q_7 : Cond.initialized "CaseLists$Tours" ∈ g_T := g_in 39 (by decide +kernel) (by decide +kernel)
theorem q_8 : Cond.initialized "CaseListsModel" ∈ g_T := g_in 40 (by decide +kernel) (by decide +kernel)
theorem q_9 : Cond.initialized "java/lang/Throwable" ∈ g_T := g_in 41 (by decide +kernel) (by decide +kernel)
theorem q_10 : Cond.initialized "java/lang/Exception" ∈ g_T := g_in 42 (by decide +kernel) (by decide +kernel)
theorem q_11 : Cond.initialized "java/lang/RuntimeException" ∈ g_T := g_in 43 (by decide +kernel) (by decide +kernel)
theorem q_12 : Cond.initialized "java/lang/IllegalArgumentException" ∈ g_T := g_in 44 (by decide +kernel) (by decide +kernel)
theorem q_13 : Cond.initialized "java/util/Objects" ∈ g_T := g_in 45 (by decide +kernel) (by decide +kernel)
theorem q_14 : Cond.initialized "jdk/internal/util/Preconditions" ∈ g_T := g_in 46 (by decide +kernel) (by decide +kernel)
theorem q_15 : Cond.initialized "java/lang/IllegalStateException" ∈ g_T := g_in 47 (by decide +kernel) (by decide +kernel)
theorem q_16 : Cond.initialized "CaseLists$Case" ∈ g_T := g_in 48 (by decide +kernel) (by decide +kernel)
theorem q_17 : Cond.initialized "jdk/internal/util/ArraysSupport" ∈ g_T := g_in 49 (by decide +kernel) (by decide +kernel)
theorem q_18 : Cond.initialized "java/util/Arrays" ∈ g_T := g_in 50 (by decide +kernel) (by decide +kernel)
theorem q_19 : Cond.initialized "java/lang/System" ∈ g_T := g_in 51 (by decide +kernel) (by decide +kernel)
theorem q_20 : Cond.initialized "java/lang/Integer" ∈ g_T := g_in 52 (by decide +kernel) (by decide +kernel)
theorem q_21 : Cond.classLink "CaseListsLaw" 8 "CaseLists" ∈ g_T := g_in 53 (by decide +kernel) (by decide +kernel)
theorem q_22 : Cond.instantiable "CaseLists" 7 ∈ g_T := g_in 54 (by decide +kernel) (by decide +kernel)
theorem q_23 : Cond.methodLink "CaseListsLaw" 69 y_CL_init ∈ g_T := g_in 55 (by decide +kernel) (by decide +kernel)
theorem q_24 : Cond.instanceMethod y_CL_init ∈ g_T := g_in 56 (by decide +kernel) (by decide +kernel)
theorem q_25 : Cond.code y_CL_init prog_1_method_1_code 2 none ∈ g_T := g_in 57 (by decide +kernel) (by decide +kernel)
theorem q_26 : Cond.methodLink "CaseLists" 3 y_OJ_init ∈ g_T := g_in 58 (by decide +kernel) (by decide +kernel)
theorem q_27 : Cond.instanceMethod y_OJ_init ∈ g_T := g_in 59 (by decide +kernel) (by decide +kernel)
theorem q_28 : Cond.code y_OJ_init object_method_1_code 1 none ∈ g_T := g_in 60 (by decide +kernel) (by decide +kernel)
theorem q_29 : Cond.methodLink "CaseLists" 9 y_MA_min ∈ g_T := g_in 61 (by decide +kernel) (by decide +kernel)
theorem q_30 : Cond.static y_MA_min ∈ g_T := g_in 62 (by decide +kernel) (by decide +kernel)
theorem q_31 : Cond.code y_MA_min prog_14_method_69_code 2 (some .int) ∈ g_T := g_in 63 (by decide +kernel) (by decide +kernel)
theorem q_32 : Cond.methodLink "CaseLists" 15 y_MA_max ∈ g_T := g_in 64 (by decide +kernel) (by decide +kernel)
theorem q_33 : Cond.static y_MA_max ∈ g_T := g_in 65 (by decide +kernel) (by decide +kernel)
theorem q_34 : Cond.code y_MA_max prog_14_method_65_code 2 (some .int) ∈ g_T := g_in 66 (by decide +kernel) (by decide +kernel)
theorem q_35 : Cond.classLink "CaseLists" 22 "java/util/ArrayList" ∈ g_T := g_in 67 (by decide +kernel) (by decide +kernel)
theorem q_36 : Cond.instantiable "java/util/ArrayList" 3 ∈ g_T := g_in 68 (by decide +kernel) (by decide +kernel)
theorem q_37 : Cond.methodLink "CaseLists" 24 y_AL_init ∈ g_T := g_in 69 (by decide +kernel) (by decide +kernel)
theorem q_38 : Cond.instanceMethod y_AL_init ∈ g_T := g_in 70 (by decide +kernel) (by decide +kernel)
theorem q_39 : Cond.code y_AL_init prog_21_method_2_code 1 none ∈ g_T := g_in 71 (by decide +kernel) (by decide +kernel)
theorem q_40 : Cond.methodLink "java/util/ArrayList" 1 y_BL_init ∈ g_T := g_in 72 (by decide +kernel) (by decide +kernel)
theorem q_41 : Cond.instanceMethod y_BL_init ∈ g_T := g_in 73 (by decide +kernel) (by decide +kernel)
theorem q_42 : Cond.code y_BL_init prog_20_method_1_code 1 none ∈ g_T := g_in 74 (by decide +kernel) (by decide +kernel)
theorem q_43 : Cond.methodLink "java/util/AbstractList" 1 y_BC_init ∈ g_T := g_in 75 (by decide +kernel) (by decide +kernel)
theorem q_44 : Cond.instanceMethod y_BC_init ∈ g_T := g_in 76 (by decide +kernel) (by decide +kernel)
theorem q_45 : Cond.code y_BC_init prog_19_method_1_code 1 none ∈ g_T := g_in 77 (by decide +kernel) (by decide +kernel)
theorem q_46 : Cond.methodLink "java/util/AbstractCollection" 1 y_OJ_init ∈ g_T := g_in 78 (by decide +kernel) (by decide +kernel)
theorem q_47 : Cond.fieldLink "java/util/ArrayList" 39 "java/util/ArrayList" "DEFAULTCAPACITY_EMPTY_ELEMENTDATA" "[Ljava/lang/Object;" ∈ g_T := g_in 79 (by decide +kernel) (by decide +kernel)
theorem q_49 : Cond.fieldLink "java/util/ArrayList" 9 "java/util/ArrayList" "elementData" "[Ljava/lang/Object;" ∈ g_T := g_in 81 (by decide +kernel) (by decide +kernel)
theorem q_50 : Cond.fieldLink "java/util/ArrayList" 48 "java/util/ArrayList" "size" "I" ∈ g_T := g_in 82 (by decide +kernel) (by decide +kernel)
theorem q_51 : Cond.fieldLink "java/util/AbstractList" 7 "java/util/AbstractList" "modCount" "I" ∈ g_T := g_in 83 (by decide +kernel) (by decide +kernel)
theorem q_52 : Cond.fieldLink "java/util/ArrayList" 63 "java/util/ArrayList" "modCount" "I" ∈ g_T := g_in 84 (by decide +kernel) (by decide +kernel)
theorem q_61 : Cond.classLink "CaseLists" 29 "CaseLists$TouchLog" ∈ g_T := g_in 93 (by decide +kernel) (by decide +kernel)
theorem q_62 : Cond.instantiable "CaseLists$TouchLog" 3 ∈ g_T := g_in 94 (by decide +kernel) (by decide +kernel)
theorem q_63 : Cond.methodLink "CaseLists" 31 y_TL_init ∈ g_T := g_in 95 (by decide +kernel) (by decide +kernel)
theorem q_64 : Cond.instanceMethod y_TL_init ∈ g_T := g_in 96 (by decide +kernel) (by decide +kernel)
theorem q_65 : Cond.code y_TL_init prog_3_method_1_code 1 none ∈ g_T := g_in 97 (by decide +kernel) (by decide +kernel)
theorem q_66 : Cond.methodLink "CaseLists$TouchLog" 3 y_OJ_init ∈ g_T := g_in 98 (by decide +kernel) (by decide +kernel)
theorem q_67 : Cond.fieldLink "CaseLists$TouchLog" 9 "CaseLists$TouchLog" "days" "[I" ∈ g_T := g_in 99 (by decide +kernel) (by decide +kernel)
theorem q_68 : Cond.fieldLink "CaseLists$TouchLog" 15 "CaseLists$TouchLog" "sets" "[I" ∈ g_T := g_in 100 (by decide +kernel) (by decide +kernel)
theorem q_69 : Cond.fieldLink "CaseLists$TouchLog" 18 "CaseLists$TouchLog" "count" "I" ∈ g_T := g_in 101 (by decide +kernel) (by decide +kernel)
theorem q_77 : Cond.arrayClass .int ∈ g_T := g_in 109 (by decide +kernel) (by decide +kernel)
theorem q_78 : Cond.classLink "CaseLists" 36 "CaseLists$Tours" ∈ g_T := g_in 110 (by decide +kernel) (by decide +kernel)
theorem q_79 : Cond.instantiable "CaseLists$Tours" 6 ∈ g_T := g_in 111 (by decide +kernel) (by decide +kernel)
theorem q_80 : Cond.methodLink "CaseLists" 38 y_TU_init ∈ g_T := g_in 112 (by decide +kernel) (by decide +kernel)
theorem q_81 : Cond.instanceMethod y_TU_init ∈ g_T := g_in 113 (by decide +kernel) (by decide +kernel)
theorem q_82 : Cond.code y_TU_init prog_4_method_1_code 1 none ∈ g_T := g_in 114 (by decide +kernel) (by decide +kernel)
theorem q_83 : Cond.methodLink "CaseLists$Tours" 3 y_OJ_init ∈ g_T := g_in 115 (by decide +kernel) (by decide +kernel)
theorem q_84 : Cond.fieldLink "CaseLists$Tours" 9 "CaseLists$Tours" "places" "[I" ∈ g_T := g_in 116 (by decide +kernel) (by decide +kernel)
theorem q_85 : Cond.fieldLink "CaseLists$Tours" 15 "CaseLists$Tours" "durations" "[I" ∈ g_T := g_in 117 (by decide +kernel) (by decide +kernel)
theorem q_86 : Cond.fieldLink "CaseLists$Tours" 18 "CaseLists$Tours" "shown" "[I" ∈ g_T := g_in 118 (by decide +kernel) (by decide +kernel)
theorem q_87 : Cond.fieldLink "CaseLists$Tours" 21 "CaseLists$Tours" "ways" "[I" ∈ g_T := g_in 119 (by decide +kernel) (by decide +kernel)
theorem q_88 : Cond.fieldLink "CaseLists$Tours" 24 "CaseLists$Tours" "rests" "[I" ∈ g_T := g_in 120 (by decide +kernel) (by decide +kernel)
theorem q_89 : Cond.fieldLink "CaseLists$Tours" 27 "CaseLists$Tours" "count" "I" ∈ g_T := g_in 121 (by decide +kernel) (by decide +kernel)
theorem q_103 : Cond.fieldLink "CaseLists" 18 "CaseLists" "life" "I" ∈ g_T := g_in 135 (by decide +kernel) (by decide +kernel)
theorem q_104 : Cond.fieldLink "CaseLists" 25 "CaseLists" "cases" "Ljava/util/ArrayList;" ∈ g_T := g_in 136 (by decide +kernel) (by decide +kernel)
theorem q_105 : Cond.fieldLink "CaseLists" 32 "CaseLists" "touches" "LCaseLists$TouchLog;" ∈ g_T := g_in 137 (by decide +kernel) (by decide +kernel)
theorem q_106 : Cond.fieldLink "CaseLists" 39 "CaseLists" "tours" "LCaseLists$Tours;" ∈ g_T := g_in 138 (by decide +kernel) (by decide +kernel)
theorem q_107 : Cond.fieldLink "CaseLists" 43 "CaseLists" "planActs" "[I" ∈ g_T := g_in 139 (by decide +kernel) (by decide +kernel)
theorem q_108 : Cond.fieldLink "CaseLists" 47 "CaseLists" "planLength" "I" ∈ g_T := g_in 140 (by decide +kernel) (by decide +kernel)
theorem q_109 : Cond.fieldLink "CaseLists" 50 "CaseLists" "planSeconds" "I" ∈ g_T := g_in 141 (by decide +kernel) (by decide +kernel)
theorem q_125 : Cond.methodLink "CaseListsLaw" 108 y_CL_seconds ∈ g_T := g_in 157 (by decide +kernel) (by decide +kernel)
theorem q_126 : Cond.instanceMethod y_CL_seconds ∈ g_T := g_in 158 (by decide +kernel) (by decide +kernel)
theorem q_127 : Cond.selects "CaseLists" y_CL_seconds y_CL_seconds ∈ g_T := g_in 159 (by decide +kernel) (by decide +kernel)
theorem q_128 : Cond.code y_CL_seconds prog_1_method_10_code 1 (some .int) ∈ g_T := g_in 160 (by decide +kernel) (by decide +kernel)
theorem q_129 : Cond.methodLink "CaseListsLaw" 63 y_LW_cell ∈ g_T := g_in 161 (by decide +kernel) (by decide +kernel)
theorem q_130 : Cond.static y_LW_cell ∈ g_T := g_in 162 (by decide +kernel) (by decide +kernel)
theorem q_131 : Cond.code y_LW_cell method_2_code 2 (some .int) ∈ g_T := g_in 163 (by decide +kernel) (by decide +kernel)
theorem q_132 : Cond.methodLink "CaseListsLaw" 75 y_LW_fault ∈ g_T := g_in 164 (by decide +kernel) (by decide +kernel)
theorem q_133 : Cond.static y_LW_fault ∈ g_T := g_in 165 (by decide +kernel) (by decide +kernel)
theorem q_135 : Cond.classLink "CaseListsLaw" 13 "java/lang/IllegalArgumentException" ∈ g_T := g_in 167 (by decide +kernel) (by decide +kernel)
theorem q_136 : Cond.classLink "CaseListsLaw" 15 "java/lang/IllegalStateException" ∈ g_T := g_in 168 (by decide +kernel) (by decide +kernel)
theorem q_137 : Cond.methodLink "CaseListsLaw" 7 y_CL_fault ∈ g_T := g_in 169 (by decide +kernel) (by decide +kernel)
theorem q_138 : Cond.instanceMethod y_CL_fault ∈ g_T := g_in 170 (by decide +kernel) (by decide +kernel)
theorem q_139 : Cond.selects "CaseLists" y_CL_fault y_CL_fault ∈ g_T := g_in 171 (by decide +kernel) (by decide +kernel)
theorem q_140 : Cond.code y_CL_fault prog_1_method_2_code 4 (some .int) ∈ g_T := g_in 172 (by decide +kernel) (by decide +kernel)
theorem q_141 : Cond.methodLink "CaseLists" 53 y_CL_needBelow ∈ g_T := g_in 173 (by decide +kernel) (by decide +kernel)
theorem q_142 : Cond.static y_CL_needBelow ∈ g_T := g_in 174 (by decide +kernel) (by decide +kernel)
theorem q_143 : Cond.code y_CL_needBelow prog_1_method_18_code 2 none ∈ g_T := g_in 175 (by decide +kernel) (by decide +kernel)
theorem q_144 : Cond.methodLink "CaseLists" 78 y_CL_needWithin ∈ g_T := g_in 176 (by decide +kernel) (by decide +kernel)
theorem q_145 : Cond.static y_CL_needWithin ∈ g_T := g_in 177 (by decide +kernel) (by decide +kernel)
theorem q_146 : Cond.code y_CL_needWithin prog_1_method_21_code 3 none ∈ g_T := g_in 178 (by decide +kernel) (by decide +kernel)
theorem q_147 : Cond.classLink "CaseLists" 167 "java/lang/IllegalArgumentException" ∈ g_T := g_in 179 (by decide +kernel) (by decide +kernel)
theorem q_148 : Cond.instantiable "java/lang/IllegalArgumentException" 6 ∈ g_T := g_in 180 (by decide +kernel) (by decide +kernel)
theorem q_156 : Cond.selects "java/lang/IllegalArgumentException" ⟨"java/lang/Throwable", "fillInStackTrace", "(I)Ljava/lang/Throwable;"⟩ ⟨"java/lang/Throwable", "fillInStackTrace", "(I)Ljava/lang/Throwable;"⟩ ∈ g_T := g_in 188 (by decide +kernel) (by decide +kernel)
theorem q_157 : Cond.selects "java/lang/IllegalArgumentException" ⟨"java/lang/Throwable", "fillInStackTrace", "()Ljava/lang/Throwable;"⟩ ⟨"java/lang/Throwable", "fillInStackTrace", "()Ljava/lang/Throwable;"⟩ ∈ g_T := g_in 189 (by decide +kernel) (by decide +kernel)
theorem q_168 : Cond.fieldLink "java/lang/Throwable" 198 "java/lang/Throwable" "backtrace" "Ljava/lang/Object;" ∈ g_T := g_in 200 (by decide +kernel) (by decide +kernel)
theorem q_170 : Cond.instanceMethod y_TH_init ∈ g_T := g_in 202 (by decide +kernel) (by decide +kernel)
theorem q_171 : Cond.code y_TH_init prog_18_method_1_code 1 none ∈ g_T := g_in 203 (by decide +kernel) (by decide +kernel)
theorem q_172 : Cond.methodLink "java/lang/Throwable" 1 y_OJ_init ∈ g_T := g_in 204 (by decide +kernel) (by decide +kernel)
theorem q_173 : Cond.fieldLink "java/lang/Throwable" 13 "java/lang/Throwable" "UNASSIGNED_STACK" "[Ljava/lang/StackTraceElement;" ∈ g_T := g_in 205 (by decide +kernel) (by decide +kernel)
theorem q_175 : Cond.fieldLink "java/lang/Throwable" 20 "java/lang/Throwable" "SUPPRESSED_SENTINEL" "Ljava/util/List;" ∈ g_T := g_in 207 (by decide +kernel) (by decide +kernel)
theorem q_177 : Cond.methodLink "java/lang/Throwable" 27 ⟨"java/lang/Throwable", "fillInStackTrace", "()Ljava/lang/Throwable;"⟩ ∈ g_T := g_in 209 (by decide +kernel) (by decide +kernel)
theorem q_178 : Cond.instanceMethod ⟨"java/lang/Throwable", "fillInStackTrace", "()Ljava/lang/Throwable;"⟩ ∈ g_T := g_in 210 (by decide +kernel) (by decide +kernel)
theorem q_180 : Cond.selects "java/lang/IllegalStateException" ⟨"java/lang/Throwable", "fillInStackTrace", "()Ljava/lang/Throwable;"⟩ ⟨"java/lang/Throwable", "fillInStackTrace", "()Ljava/lang/Throwable;"⟩ ∈ g_T := g_in 212 (by decide +kernel) (by decide +kernel)
theorem q_182 : Cond.methodLink "java/lang/Throwable" 202 ⟨"java/lang/Throwable", "fillInStackTrace", "(I)Ljava/lang/Throwable;"⟩ ∈ g_T := g_in 214 (by decide +kernel) (by decide +kernel)
theorem q_184 : Cond.instanceMethod ⟨"java/lang/Throwable", "fillInStackTrace", "(I)Ljava/lang/Throwable;"⟩ ∈ g_T := g_in 216 (by decide +kernel) (by decide +kernel)
theorem q_185 : Cond.instantiable "java/lang/Throwable" 6 ∈ g_T := g_in 217 (by decide +kernel) (by decide +kernel)
theorem q_188 : Cond.methodLink "CaseLists" 171 y_IA_init ∈ g_T := g_in 220 (by decide +kernel) (by decide +kernel)
theorem q_189 : Cond.instanceMethod y_IA_init ∈ g_T := g_in 221 (by decide +kernel) (by decide +kernel)
theorem q_190 : Cond.code y_IA_init prog_10_method_2_code 2 none ∈ g_T := g_in 222 (by decide +kernel) (by decide +kernel)
theorem q_191 : Cond.methodLink "java/lang/IllegalArgumentException" 7 y_RX_init ∈ g_T := g_in 223 (by decide +kernel) (by decide +kernel)
theorem q_192 : Cond.instanceMethod y_RX_init ∈ g_T := g_in 224 (by decide +kernel) (by decide +kernel)
theorem q_193 : Cond.code y_RX_init prog_15_method_2_code 2 none ∈ g_T := g_in 225 (by decide +kernel) (by decide +kernel)
theorem q_194 : Cond.methodLink "java/lang/RuntimeException" 7 y_EX_init ∈ g_T := g_in 226 (by decide +kernel) (by decide +kernel)
theorem q_195 : Cond.instanceMethod y_EX_init ∈ g_T := g_in 227 (by decide +kernel) (by decide +kernel)
theorem q_196 : Cond.code y_EX_init prog_9_method_2_code 2 none ∈ g_T := g_in 228 (by decide +kernel) (by decide +kernel)
theorem q_197 : Cond.methodLink "java/lang/Exception" 7 y_TH_init2 ∈ g_T := g_in 229 (by decide +kernel) (by decide +kernel)
theorem q_198 : Cond.instanceMethod y_TH_init2 ∈ g_T := g_in 230 (by decide +kernel) (by decide +kernel)
theorem q_199 : Cond.code y_TH_init2 prog_18_method_2_code 2 none ∈ g_T := g_in 231 (by decide +kernel) (by decide +kernel)
theorem q_201 : Cond.fieldLink "java/lang/Throwable" 31 "java/lang/Throwable" "detailMessage" "Ljava/lang/String;" ∈ g_T := g_in 233 (by decide +kernel) (by decide +kernel)
theorem q_202 : Cond.fieldLink "java/lang/Throwable" 7 "java/lang/Throwable" "cause" "Ljava/lang/Throwable;" ∈ g_T := g_in 234 (by decide +kernel) (by decide +kernel)
theorem q_203 : Cond.fieldLink "java/lang/Throwable" 17 "java/lang/Throwable" "stackTrace" "[Ljava/lang/StackTraceElement;" ∈ g_T := g_in 235 (by decide +kernel) (by decide +kernel)
theorem q_204 : Cond.fieldLink "java/lang/Throwable" 24 "java/lang/Throwable" "suppressedExceptions" "Ljava/util/List;" ∈ g_T := g_in 236 (by decide +kernel) (by decide +kernel)
theorem q_213 : Cond.arrayClass .byte ∈ g_T := g_in 245 (by decide +kernel) (by decide +kernel)
theorem q_214 : Cond.methodLink "CaseLists" 57 y_CL_needOther ∈ g_T := g_in 246 (by decide +kernel) (by decide +kernel)
theorem q_215 : Cond.static y_CL_needOther ∈ g_T := g_in 247 (by decide +kernel) (by decide +kernel)
theorem q_216 : Cond.code y_CL_needOther prog_1_method_22_code 2 none ∈ g_T := g_in 248 (by decide +kernel) (by decide +kernel)
theorem q_218 : Cond.methodLink "CaseLists" 60 y_CL_caseOf ∈ g_T := g_in 250 (by decide +kernel) (by decide +kernel)
theorem q_220 : Cond.instanceMethod y_CL_caseOf ∈ g_T := g_in 252 (by decide +kernel) (by decide +kernel)
theorem q_221 : Cond.code y_CL_caseOf prog_1_method_25_code 4 (some .int) ∈ g_T := g_in 253 (by decide +kernel) (by decide +kernel)
theorem q_222 : Cond.methodLink "CaseLists" 63 y_AL_size ∈ g_T := g_in 254 (by decide +kernel) (by decide +kernel)
theorem q_223 : Cond.instanceMethod y_AL_size ∈ g_T := g_in 255 (by decide +kernel) (by decide +kernel)
theorem q_224 : Cond.selects "java/util/ArrayList" y_AL_size y_AL_size ∈ g_T := g_in 256 (by decide +kernel) (by decide +kernel)
theorem q_225 : Cond.code y_AL_size prog_21_method_8_code 1 (some .int) ∈ g_T := g_in 257 (by decide +kernel) (by decide +kernel)
theorem q_226 : Cond.methodLink "CaseLists" 112 y_AL_get ∈ g_T := g_in 258 (by decide +kernel) (by decide +kernel)
theorem q_227 : Cond.instanceMethod y_AL_get ∈ g_T := g_in 259 (by decide +kernel) (by decide +kernel)
theorem q_228 : Cond.selects "java/util/ArrayList" y_AL_get y_AL_get ∈ g_T := g_in 260 (by decide +kernel) (by decide +kernel)
theorem q_229 : Cond.code y_AL_get prog_21_method_20_code 2 (some (.object "java/lang/Object")) ∈ g_T := g_in 261 (by decide +kernel) (by decide +kernel)
theorem q_230 : Cond.methodLink "java/util/ArrayList" 118 y_OB_checkIndex ∈ g_T := g_in 262 (by decide +kernel) (by decide +kernel)
theorem q_231 : Cond.static y_OB_checkIndex ∈ g_T := g_in 263 (by decide +kernel) (by decide +kernel)
theorem q_232 : Cond.code y_OB_checkIndex prog_25_method_17_code 2 (some .int) ∈ g_T := g_in 264 (by decide +kernel) (by decide +kernel)
theorem q_233 : Cond.methodLink "java/util/Objects" 105 y_PR_checkIndex ∈ g_T := g_in 265 (by decide +kernel) (by decide +kernel)
theorem q_234 : Cond.static y_PR_checkIndex ∈ g_T := g_in 266 (by decide +kernel) (by decide +kernel)
theorem q_235 : Cond.code y_PR_checkIndex prog_29_method_11_code 3 (some .int) ∈ g_T := g_in 267 (by decide +kernel) (by decide +kernel)
theorem q_236 : Cond.methodLink "java/util/ArrayList" 123 y_AL_elementData ∈ g_T := g_in 268 (by decide +kernel) (by decide +kernel)
theorem q_237 : Cond.instanceMethod y_AL_elementData ∈ g_T := g_in 269 (by decide +kernel) (by decide +kernel)
theorem q_238 : Cond.selects "java/util/ArrayList" y_AL_elementData y_AL_elementData ∈ g_T := g_in 270 (by decide +kernel) (by decide +kernel)
theorem q_239 : Cond.code y_AL_elementData prog_21_method_18_code 2 (some (.object "java/lang/Object")) ∈ g_T := g_in 271 (by decide +kernel) (by decide +kernel)
theorem q_240 : Cond.classLink "CaseLists" 70 "CaseLists$Case" ∈ g_T := g_in 272 (by decide +kernel) (by decide +kernel)
theorem q_241 : Cond.methodLink "CaseLists" 181 y_CS_isOf ∈ g_T := g_in 273 (by decide +kernel) (by decide +kernel)
theorem q_242 : Cond.instanceMethod y_CS_isOf ∈ g_T := g_in 274 (by decide +kernel) (by decide +kernel)
theorem q_243 : Cond.selects "CaseLists$Case" y_CS_isOf y_CS_isOf ∈ g_T := g_in 275 (by decide +kernel) (by decide +kernel)
theorem q_244 : Cond.code y_CS_isOf prog_2_method_2_code 3 (some .boolean) ∈ g_T := g_in 276 (by decide +kernel) (by decide +kernel)
theorem q_245 : Cond.methodLink "CaseLists" 67 y_CL_needRoom ∈ g_T := g_in 277 (by decide +kernel) (by decide +kernel)
theorem q_246 : Cond.static y_CL_needRoom ∈ g_T := g_in 278 (by decide +kernel) (by decide +kernel)
theorem q_247 : Cond.code y_CL_needRoom prog_1_method_23_code 2 none ∈ g_T := g_in 279 (by decide +kernel) (by decide +kernel)
theorem q_248 : Cond.classLink "CaseLists" 176 "java/lang/IllegalStateException" ∈ g_T := g_in 280 (by decide +kernel) (by decide +kernel)
theorem q_249 : Cond.instantiable "java/lang/IllegalStateException" 6 ∈ g_T := g_in 281 (by decide +kernel) (by decide +kernel)
theorem q_251 : Cond.selects "java/lang/IllegalStateException" ⟨"java/lang/Throwable", "fillInStackTrace", "(I)Ljava/lang/Throwable;"⟩ ⟨"java/lang/Throwable", "fillInStackTrace", "(I)Ljava/lang/Throwable;"⟩ ∈ g_T := g_in 283 (by decide +kernel) (by decide +kernel)
theorem q_258 : Cond.methodLink "CaseLists" 180 y_IS_init ∈ g_T := g_in 290 (by decide +kernel) (by decide +kernel)
theorem q_259 : Cond.instanceMethod y_IS_init ∈ g_T := g_in 291 (by decide +kernel) (by decide +kernel)
theorem q_260 : Cond.code y_IS_init prog_11_method_2_code 2 none ∈ g_T := g_in 292 (by decide +kernel) (by decide +kernel)
theorem q_261 : Cond.methodLink "java/lang/IllegalStateException" 7 y_RX_init ∈ g_T := g_in 293 (by decide +kernel) (by decide +kernel)
theorem q_264 : Cond.instantiable "CaseLists$Case" 6 ∈ g_T := g_in 296 (by decide +kernel) (by decide +kernel)
theorem q_265 : Cond.methodLink "CaseLists" 72 y_CS_init ∈ g_T := g_in 297 (by decide +kernel) (by decide +kernel)
theorem q_266 : Cond.instanceMethod y_CS_init ∈ g_T := g_in 298 (by decide +kernel) (by decide +kernel)
theorem q_267 : Cond.code y_CS_init prog_2_method_1_code 3 none ∈ g_T := g_in 299 (by decide +kernel) (by decide +kernel)
theorem q_268 : Cond.methodLink "CaseLists$Case" 3 y_OJ_init ∈ g_T := g_in 300 (by decide +kernel) (by decide +kernel)
theorem q_269 : Cond.fieldLink "CaseLists$Case" 9 "CaseLists$Case" "point" "I" ∈ g_T := g_in 301 (by decide +kernel) (by decide +kernel)
theorem q_270 : Cond.fieldLink "CaseLists$Case" 15 "CaseLists$Case" "other" "I" ∈ g_T := g_in 302 (by decide +kernel) (by decide +kernel)
theorem q_271 : Cond.fieldLink "CaseLists$Case" 18 "CaseLists$Case" "persons" "[I" ∈ g_T := g_in 303 (by decide +kernel) (by decide +kernel)
theorem q_272 : Cond.fieldLink "CaseLists$Case" 22 "CaseLists$Case" "days" "[I" ∈ g_T := g_in 304 (by decide +kernel) (by decide +kernel)
theorem q_273 : Cond.fieldLink "CaseLists$Case" 25 "CaseLists$Case" "goods" "[Z" ∈ g_T := g_in 305 (by decide +kernel) (by decide +kernel)
theorem q_274 : Cond.fieldLink "CaseLists$Case" 29 "CaseLists$Case" "count" "I" ∈ g_T := g_in 306 (by decide +kernel) (by decide +kernel)
theorem q_288 : Cond.arrayClass .boolean ∈ g_T := g_in 320 (by decide +kernel) (by decide +kernel)
theorem q_289 : Cond.methodLink "CaseLists" 74 y_AL_add ∈ g_T := g_in 321 (by decide +kernel) (by decide +kernel)
theorem q_290 : Cond.instanceMethod y_AL_add ∈ g_T := g_in 322 (by decide +kernel) (by decide +kernel)
theorem q_291 : Cond.selects "java/util/ArrayList" y_AL_add y_AL_add ∈ g_T := g_in 323 (by decide +kernel) (by decide +kernel)
theorem q_292 : Cond.code y_AL_add prog_21_method_25_code 2 (some .boolean) ∈ g_T := g_in 324 (by decide +kernel) (by decide +kernel)
theorem q_293 : Cond.methodLink "java/util/ArrayList" 131 y_AL_add2 ∈ g_T := g_in 325 (by decide +kernel) (by decide +kernel)
theorem q_295 : Cond.instanceMethod y_AL_add2 ∈ g_T := g_in 327 (by decide +kernel) (by decide +kernel)
theorem q_296 : Cond.code y_AL_add2 prog_21_method_24_code 4 none ∈ g_T := g_in 328 (by decide +kernel) (by decide +kernel)
theorem q_297 : Cond.methodLink "java/util/ArrayList" 129 y_AL_grow ∈ g_T := g_in 329 (by decide +kernel) (by decide +kernel)
theorem q_299 : Cond.instanceMethod y_AL_grow ∈ g_T := g_in 331 (by decide +kernel) (by decide +kernel)
theorem q_300 : Cond.code y_AL_grow prog_21_method_7_code 1 (some (.array (.object "java/lang/Object"))) ∈ g_T := g_in 332 (by decide +kernel) (by decide +kernel)
theorem q_301 : Cond.methodLink "java/util/ArrayList" 69 y_AL_grow2 ∈ g_T := g_in 333 (by decide +kernel) (by decide +kernel)
theorem q_303 : Cond.instanceMethod y_AL_grow2 ∈ g_T := g_in 335 (by decide +kernel) (by decide +kernel)
theorem q_304 : Cond.code y_AL_grow2 prog_21_method_6_code 4 (some (.array (.object "java/lang/Object"))) ∈ g_T := g_in 336 (by decide +kernel) (by decide +kernel)
theorem q_305 : Cond.methodLink "java/util/ArrayList" 73 y_AS_newLength ∈ g_T := g_in 337 (by decide +kernel) (by decide +kernel)
theorem q_306 : Cond.static y_AS_newLength ∈ g_T := g_in 338 (by decide +kernel) (by decide +kernel)
theorem q_307 : Cond.code y_AS_newLength prog_28_method_27_code 4 (some .int) ∈ g_T := g_in 339 (by decide +kernel) (by decide +kernel)
theorem q_308 : Cond.methodLink "jdk/internal/util/ArraysSupport" 194 y_MA_max ∈ g_T := g_in 340 (by decide +kernel) (by decide +kernel)
theorem q_309 : Cond.constant "jdk/internal/util/ArraysSupport" 200 (2147483639) ∈ g_T := g_in 341 (by decide +kernel) (by decide +kernel)
theorem q_310 : Cond.methodLink "jdk/internal/util/ArraysSupport" 201 y_AS_hugeLength ∈ g_T := g_in 342 (by decide +kernel) (by decide +kernel)
theorem q_311 : Cond.static y_AS_hugeLength ∈ g_T := g_in 343 (by decide +kernel) (by decide +kernel)
theorem q_312 : Cond.code y_AS_hugeLength prog_28_method_28_code 3 (some .int) ∈ g_T := g_in 344 (by decide +kernel) (by decide +kernel)
theorem q_313 : Cond.methodLink "java/util/ArrayList" 66 y_AR_copyOf ∈ g_T := g_in 345 (by decide +kernel) (by decide +kernel)
theorem q_314 : Cond.static y_AR_copyOf ∈ g_T := g_in 346 (by decide +kernel) (by decide +kernel)
theorem q_315 : Cond.code y_AR_copyOf prog_22_method_119_code 2 (some (.array (.object "java/lang/Object"))) ∈ g_T := g_in 347 (by decide +kernel) (by decide +kernel)
theorem q_316 : Cond.methodLink "java/util/Arrays" 86 ⟨"java/lang/Object", "getClass", "()Ljava/lang/Class;"⟩ ∈ g_T := g_in 348 (by decide +kernel) (by decide +kernel)
theorem q_317 : Cond.instanceMethod ⟨"java/lang/Object", "getClass", "()Ljava/lang/Class;"⟩ ∈ g_T := g_in 349 (by decide +kernel) (by decide +kernel)
theorem q_319 : Cond.selects "CaseLists" ⟨"java/lang/Object", "getClass", "()Ljava/lang/Class;"⟩ ⟨"java/lang/Object", "getClass", "()Ljava/lang/Class;"⟩ ∈ g_T := g_in 351 (by decide +kernel) (by decide +kernel)
theorem q_320 : Cond.selects "CaseLists$Case" ⟨"java/lang/Object", "getClass", "()Ljava/lang/Class;"⟩ ⟨"java/lang/Object", "getClass", "()Ljava/lang/Class;"⟩ ∈ g_T := g_in 352 (by decide +kernel) (by decide +kernel)
theorem q_321 : Cond.selects "CaseLists$TouchLog" ⟨"java/lang/Object", "getClass", "()Ljava/lang/Class;"⟩ ⟨"java/lang/Object", "getClass", "()Ljava/lang/Class;"⟩ ∈ g_T := g_in 353 (by decide +kernel) (by decide +kernel)
theorem q_322 : Cond.selects "CaseLists$Tours" ⟨"java/lang/Object", "getClass", "()Ljava/lang/Class;"⟩ ⟨"java/lang/Object", "getClass", "()Ljava/lang/Class;"⟩ ∈ g_T := g_in 354 (by decide +kernel) (by decide +kernel)
theorem q_323 : Cond.selects "CaseListsModel" ⟨"java/lang/Object", "getClass", "()Ljava/lang/Class;"⟩ ⟨"java/lang/Object", "getClass", "()Ljava/lang/Class;"⟩ ∈ g_T := g_in 355 (by decide +kernel) (by decide +kernel)
theorem q_324 : Cond.selects "java/lang/IllegalArgumentException" ⟨"java/lang/Object", "getClass", "()Ljava/lang/Class;"⟩ ⟨"java/lang/Object", "getClass", "()Ljava/lang/Class;"⟩ ∈ g_T := g_in 356 (by decide +kernel) (by decide +kernel)
theorem q_325 : Cond.selects "java/lang/IllegalStateException" ⟨"java/lang/Object", "getClass", "()Ljava/lang/Class;"⟩ ⟨"java/lang/Object", "getClass", "()Ljava/lang/Class;"⟩ ∈ g_T := g_in 357 (by decide +kernel) (by decide +kernel)
theorem q_326 : Cond.selects "java/util/ArrayList" ⟨"java/lang/Object", "getClass", "()Ljava/lang/Class;"⟩ ⟨"java/lang/Object", "getClass", "()Ljava/lang/Class;"⟩ ∈ g_T := g_in 358 (by decide +kernel) (by decide +kernel)
theorem q_328 : Cond.methodLink "java/util/Arrays" 300 y_AR_copyOf2 ∈ g_T := g_in 360 (by decide +kernel) (by decide +kernel)
theorem q_329 : Cond.static y_AR_copyOf2 ∈ g_T := g_in 361 (by decide +kernel) (by decide +kernel)
theorem q_330 : Cond.code y_AR_copyOf2 prog_22_method_120_code 4 (some (.array (.object "java/lang/Object"))) ∈ g_T := g_in 362 (by decide +kernel) (by decide +kernel)
theorem q_331 : Cond.classLink "java/util/Arrays" 110 "[Ljava/lang/Object;" ∈ g_T := g_in 363 (by decide +kernel) (by decide +kernel)
theorem q_333 : Cond.classLink "java/util/Arrays" 2 "java/lang/Object" ∈ g_T := g_in 365 (by decide +kernel) (by decide +kernel)
theorem q_334 : Cond.methodLink "java/util/Arrays" 304 y_MA_min ∈ g_T := g_in 366 (by decide +kernel) (by decide +kernel)
theorem q_335 : Cond.methodLink "java/util/Arrays" 150 ⟨"java/lang/System", "arraycopy", "(Ljava/lang/Object;ILjava/lang/Object;II)V"⟩ ∈ g_T := g_in 367 (by decide +kernel) (by decide +kernel)
theorem q_336 : Cond.static ⟨"java/lang/System", "arraycopy", "(Ljava/lang/Object;ILjava/lang/Object;II)V"⟩ ∈ g_T := g_in 368 (by decide +kernel) (by decide +kernel)
theorem q_338 : Cond.methodLink "java/util/ArrayList" 79 y_MA_max ∈ g_T := g_in 370 (by decide +kernel) (by decide +kernel)
theorem q_339 : Cond.classLink "java/util/ArrayList" 7 "java/lang/Object" ∈ g_T := g_in 371 (by decide +kernel) (by decide +kernel)
theorem q_340 : Cond.methodLink "CaseListsLaw" 83 y_LW_act ∈ g_T := g_in 372 (by decide +kernel) (by decide +kernel)
theorem q_341 : Cond.static y_LW_act ∈ g_T := g_in 373 (by decide +kernel) (by decide +kernel)
theorem q_343 : Cond.methodLink "CaseListsLaw" 17 y_CL_act ∈ g_T := g_in 375 (by decide +kernel) (by decide +kernel)
theorem q_344 : Cond.instanceMethod y_CL_act ∈ g_T := g_in 376 (by decide +kernel) (by decide +kernel)
theorem q_345 : Cond.selects "CaseLists" y_CL_act y_CL_act ∈ g_T := g_in 377 (by decide +kernel) (by decide +kernel)
theorem q_346 : Cond.code y_CL_act prog_1_method_3_code 3 (some .int) ∈ g_T := g_in 378 (by decide +kernel) (by decide +kernel)
theorem q_347 : Cond.methodLink "CaseLists" 82 y_TU_actCount ∈ g_T := g_in 379 (by decide +kernel) (by decide +kernel)
theorem q_348 : Cond.instanceMethod y_TU_actCount ∈ g_T := g_in 380 (by decide +kernel) (by decide +kernel)
theorem q_349 : Cond.selects "CaseLists$Tours" y_TU_actCount y_TU_actCount ∈ g_T := g_in 381 (by decide +kernel) (by decide +kernel)
theorem q_350 : Cond.code y_TU_actCount prog_4_method_2_code 1 (some .int) ∈ g_T := g_in 382 (by decide +kernel) (by decide +kernel)
theorem q_351 : Cond.methodLink "CaseLists" 85 y_TU_addAct ∈ g_T := g_in 383 (by decide +kernel) (by decide +kernel)
theorem q_352 : Cond.instanceMethod y_TU_addAct ∈ g_T := g_in 384 (by decide +kernel) (by decide +kernel)
theorem q_353 : Cond.selects "CaseLists$Tours" y_TU_addAct y_TU_addAct ∈ g_T := g_in 385 (by decide +kernel) (by decide +kernel)
theorem q_354 : Cond.code y_TU_addAct prog_4_method_3_code 3 (some .int) ∈ g_T := g_in 386 (by decide +kernel) (by decide +kernel)
theorem q_355 : Cond.methodLink "CaseListsLaw" 86 y_LW_shows ∈ g_T := g_in 387 (by decide +kernel) (by decide +kernel)
theorem q_356 : Cond.static y_LW_shows ∈ g_T := g_in 388 (by decide +kernel) (by decide +kernel)
theorem q_358 : Cond.methodLink "CaseListsLaw" 20 y_CL_shows ∈ g_T := g_in 390 (by decide +kernel) (by decide +kernel)
theorem q_359 : Cond.instanceMethod y_CL_shows ∈ g_T := g_in 391 (by decide +kernel) (by decide +kernel)
theorem q_360 : Cond.selects "CaseLists" y_CL_shows y_CL_shows ∈ g_T := g_in 392 (by decide +kernel) (by decide +kernel)
theorem q_361 : Cond.code y_CL_shows prog_1_method_4_code 4 (some .boolean) ∈ g_T := g_in 393 (by decide +kernel) (by decide +kernel)
theorem q_362 : Cond.methodLink "CaseLists" 88 y_TU_setShown ∈ g_T := g_in 394 (by decide +kernel) (by decide +kernel)
theorem q_363 : Cond.instanceMethod y_TU_setShown ∈ g_T := g_in 395 (by decide +kernel) (by decide +kernel)
theorem q_364 : Cond.selects "CaseLists$Tours" y_TU_setShown y_TU_setShown ∈ g_T := g_in 396 (by decide +kernel) (by decide +kernel)
theorem q_365 : Cond.code y_TU_setShown prog_4_method_4_code 5 (some .boolean) ∈ g_T := g_in 397 (by decide +kernel) (by decide +kernel)
theorem q_367 : Cond.static y_CL_holds ∈ g_T := g_in 399 (by decide +kernel) (by decide +kernel)
theorem q_368 : Cond.code y_CL_holds prog_1_method_24_code 2 (some .boolean) ∈ g_T := g_in 400 (by decide +kernel) (by decide +kernel)
theorem q_369 : Cond.methodLink "CaseListsLaw" 90 y_LW_way ∈ g_T := g_in 401 (by decide +kernel) (by decide +kernel)
theorem q_370 : Cond.static y_LW_way ∈ g_T := g_in 402 (by decide +kernel) (by decide +kernel)
theorem q_372 : Cond.methodLink "CaseListsLaw" 24 y_CL_way ∈ g_T := g_in 404 (by decide +kernel) (by decide +kernel)
theorem q_373 : Cond.instanceMethod y_CL_way ∈ g_T := g_in 405 (by decide +kernel) (by decide +kernel)
theorem q_374 : Cond.selects "CaseLists" y_CL_way y_CL_way ∈ g_T := g_in 406 (by decide +kernel) (by decide +kernel)
theorem q_375 : Cond.code y_CL_way prog_1_method_5_code 4 (some .int) ∈ g_T := g_in 407 (by decide +kernel) (by decide +kernel)
theorem q_376 : Cond.methodLink "CaseLists" 92 y_TU_setWay ∈ g_T := g_in 408 (by decide +kernel) (by decide +kernel)
theorem q_377 : Cond.instanceMethod y_TU_setWay ∈ g_T := g_in 409 (by decide +kernel) (by decide +kernel)
theorem q_378 : Cond.selects "CaseLists$Tours" y_TU_setWay y_TU_setWay ∈ g_T := g_in 410 (by decide +kernel) (by decide +kernel)
theorem q_379 : Cond.code y_TU_setWay prog_4_method_5_code 5 (some .int) ∈ g_T := g_in 411 (by decide +kernel) (by decide +kernel)
theorem q_380 : Cond.methodLink "CaseListsLaw" 94 y_LW_change ∈ g_T := g_in 412 (by decide +kernel) (by decide +kernel)
theorem q_381 : Cond.static y_LW_change ∈ g_T := g_in 413 (by decide +kernel) (by decide +kernel)
theorem q_383 : Cond.methodLink "CaseListsLaw" 28 y_CL_change ∈ g_T := g_in 415 (by decide +kernel) (by decide +kernel)
theorem q_384 : Cond.instanceMethod y_CL_change ∈ g_T := g_in 416 (by decide +kernel) (by decide +kernel)
theorem q_385 : Cond.selects "CaseLists" y_CL_change y_CL_change ∈ g_T := g_in 417 (by decide +kernel) (by decide +kernel)
theorem q_386 : Cond.code y_CL_change prog_1_method_6_code 4 (some .int) ∈ g_T := g_in 418 (by decide +kernel) (by decide +kernel)
theorem q_387 : Cond.methodLink "CaseLists" 96 y_CL_needDay ∈ g_T := g_in 419 (by decide +kernel) (by decide +kernel)
theorem q_388 : Cond.static y_CL_needDay ∈ g_T := g_in 420 (by decide +kernel) (by decide +kernel)
theorem q_389 : Cond.code y_CL_needDay prog_1_method_19_code 1 none ∈ g_T := g_in 421 (by decide +kernel) (by decide +kernel)
theorem q_390 : Cond.constant "CaseLists" 165 (100000) ∈ g_T := g_in 422 (by decide +kernel) (by decide +kernel)
theorem q_391 : Cond.methodLink "CaseLists" 100 y_CL_casesWith ∈ g_T := g_in 423 (by decide +kernel) (by decide +kernel)
theorem q_393 : Cond.instanceMethod y_CL_casesWith ∈ g_T := g_in 425 (by decide +kernel) (by decide +kernel)
theorem q_394 : Cond.code y_CL_casesWith prog_1_method_26_code 4 (some .int) ∈ g_T := g_in 426 (by decide +kernel) (by decide +kernel)
theorem q_395 : Cond.methodLink "CaseLists" 184 y_CS_has ∈ g_T := g_in 427 (by decide +kernel) (by decide +kernel)
theorem q_396 : Cond.instanceMethod y_CS_has ∈ g_T := g_in 428 (by decide +kernel) (by decide +kernel)
theorem q_397 : Cond.selects "CaseLists$Case" y_CS_has y_CS_has ∈ g_T := g_in 429 (by decide +kernel) (by decide +kernel)
theorem q_398 : Cond.code y_CS_has prog_2_method_3_code 2 (some .boolean) ∈ g_T := g_in 430 (by decide +kernel) (by decide +kernel)
theorem q_399 : Cond.methodLink "CaseLists" 104 y_TL_note ∈ g_T := g_in 431 (by decide +kernel) (by decide +kernel)
end
section
theorem q_400 : Cond.instanceMethod y_TL_note ∈ g_T := g_in 432 (by decide +kernel) (by decide +kernel)
theorem q_401 : Cond.selects "CaseLists$TouchLog" y_TL_note y_TL_note ∈ g_T := g_in 433 (by decide +kernel) (by decide +kernel)
theorem q_402 : Cond.code y_TL_note prog_3_method_2_code 4 none ∈ g_T := g_in 434 (by decide +kernel) (by decide +kernel)
theorem q_403 : Cond.methodLink "CaseLists" 107 y_IN_bitCount ∈ g_T := g_in 435 (by decide +kernel) (by decide +kernel)
theorem q_404 : Cond.static y_IN_bitCount ∈ g_T := g_in 436 (by decide +kernel) (by decide +kernel)
theorem q_405 : Cond.code y_IN_bitCount prog_12_method_49_code 1 (some .int) ∈ g_T := g_in 437 (by decide +kernel) (by decide +kernel)
theorem q_406 : Cond.constant "java/lang/Integer" 265 (1431655765) ∈ g_T := g_in 438 (by decide +kernel) (by decide +kernel)
theorem q_407 : Cond.constant "java/lang/Integer" 266 (858993459) ∈ g_T := g_in 439 (by decide +kernel) (by decide +kernel)
theorem q_408 : Cond.constant "java/lang/Integer" 267 (252645135) ∈ g_T := g_in 440 (by decide +kernel) (by decide +kernel)
theorem q_409 : Cond.methodLink "CaseListsLaw" 97 y_LW_result ∈ g_T := g_in 441 (by decide +kernel) (by decide +kernel)
theorem q_410 : Cond.static y_LW_result ∈ g_T := g_in 442 (by decide +kernel) (by decide +kernel)
theorem q_412 : Cond.methodLink "CaseListsLaw" 31 y_CL_result ∈ g_T := g_in 444 (by decide +kernel) (by decide +kernel)
theorem q_413 : Cond.instanceMethod y_CL_result ∈ g_T := g_in 445 (by decide +kernel) (by decide +kernel)
theorem q_414 : Cond.selects "CaseLists" y_CL_result y_CL_result ∈ g_T := g_in 446 (by decide +kernel) (by decide +kernel)
theorem q_415 : Cond.code y_CL_result prog_1_method_7_code 7 (some .int) ∈ g_T := g_in 447 (by decide +kernel) (by decide +kernel)
theorem q_416 : Cond.methodLink "CaseLists" 116 y_CS_rowOf ∈ g_T := g_in 448 (by decide +kernel) (by decide +kernel)
theorem q_417 : Cond.instanceMethod y_CS_rowOf ∈ g_T := g_in 449 (by decide +kernel) (by decide +kernel)
theorem q_418 : Cond.selects "CaseLists$Case" y_CS_rowOf y_CS_rowOf ∈ g_T := g_in 450 (by decide +kernel) (by decide +kernel)
theorem q_419 : Cond.code y_CS_rowOf prog_2_method_5_code 4 (some .int) ∈ g_T := g_in 451 (by decide +kernel) (by decide +kernel)
theorem q_420 : Cond.methodLink "CaseLists" 119 y_CS_tell ∈ g_T := g_in 452 (by decide +kernel) (by decide +kernel)
theorem q_421 : Cond.instanceMethod y_CS_tell ∈ g_T := g_in 453 (by decide +kernel) (by decide +kernel)
theorem q_422 : Cond.selects "CaseLists$Case" y_CS_tell y_CS_tell ∈ g_T := g_in 454 (by decide +kernel) (by decide +kernel)
theorem q_423 : Cond.code y_CS_tell prog_2_method_6_code 5 none ∈ g_T := g_in 455 (by decide +kernel) (by decide +kernel)
theorem q_424 : Cond.methodLink "CaseLists$Case" 32 y_MA_max ∈ g_T := g_in 456 (by decide +kernel) (by decide +kernel)
theorem q_425 : Cond.methodLink "CaseLists" 123 y_CS_resultCount ∈ g_T := g_in 457 (by decide +kernel) (by decide +kernel)
theorem q_426 : Cond.instanceMethod y_CS_resultCount ∈ g_T := g_in 458 (by decide +kernel) (by decide +kernel)
theorem q_427 : Cond.selects "CaseLists$Case" y_CS_resultCount y_CS_resultCount ∈ g_T := g_in 459 (by decide +kernel) (by decide +kernel)
theorem q_428 : Cond.code y_CS_resultCount prog_2_method_4_code 1 (some .int) ∈ g_T := g_in 460 (by decide +kernel) (by decide +kernel)
theorem q_429 : Cond.methodLink "CaseListsLaw" 101 y_LW_plan ∈ g_T := g_in 461 (by decide +kernel) (by decide +kernel)
theorem q_430 : Cond.static y_LW_plan ∈ g_T := g_in 462 (by decide +kernel) (by decide +kernel)
theorem q_432 : Cond.methodLink "CaseListsLaw" 35 y_CL_plan ∈ g_T := g_in 464 (by decide +kernel) (by decide +kernel)
theorem q_433 : Cond.instanceMethod y_CL_plan ∈ g_T := g_in 465 (by decide +kernel) (by decide +kernel)
theorem q_434 : Cond.selects "CaseLists" y_CL_plan y_CL_plan ∈ g_T := g_in 466 (by decide +kernel) (by decide +kernel)
theorem q_435 : Cond.code y_CL_plan prog_1_method_8_code 3 (some .int) ∈ g_T := g_in 467 (by decide +kernel) (by decide +kernel)
theorem q_436 : Cond.methodLink "CaseLists" 126 y_CL_unprovedCases ∈ g_T := g_in 468 (by decide +kernel) (by decide +kernel)
theorem q_438 : Cond.instanceMethod y_CL_unprovedCases ∈ g_T := g_in 470 (by decide +kernel) (by decide +kernel)
theorem q_439 : Cond.code y_CL_unprovedCases prog_1_method_27_code 4 (some .int) ∈ g_T := g_in 471 (by decide +kernel) (by decide +kernel)
theorem q_440 : Cond.methodLink "CaseLists" 143 y_CL_stateOn ∈ g_T := g_in 472 (by decide +kernel) (by decide +kernel)
theorem q_442 : Cond.instanceMethod y_CL_stateOn ∈ g_T := g_in 474 (by decide +kernel) (by decide +kernel)
theorem q_443 : Cond.code y_CL_stateOn prog_1_method_29_code 9 (some .int) ∈ g_T := g_in 475 (by decide +kernel) (by decide +kernel)
theorem q_444 : Cond.methodLink "CaseLists" 146 y_CL_firstCountingDay ∈ g_T := g_in 476 (by decide +kernel) (by decide +kernel)
theorem q_446 : Cond.instanceMethod y_CL_firstCountingDay ∈ g_T := g_in 478 (by decide +kernel) (by decide +kernel)
theorem q_447 : Cond.code y_CL_firstCountingDay prog_1_method_28_code 3 (some .int) ∈ g_T := g_in 479 (by decide +kernel) (by decide +kernel)
theorem q_448 : Cond.methodLink "CaseLists" 162 y_TL_latest ∈ g_T := g_in 480 (by decide +kernel) (by decide +kernel)
theorem q_449 : Cond.instanceMethod y_TL_latest ∈ g_T := g_in 481 (by decide +kernel) (by decide +kernel)
theorem q_450 : Cond.selects "CaseLists$TouchLog" y_TL_latest y_TL_latest ∈ g_T := g_in 482 (by decide +kernel) (by decide +kernel)
theorem q_451 : Cond.code y_TL_latest prog_3_method_3_code 5 (some .int) ∈ g_T := g_in 483 (by decide +kernel) (by decide +kernel)
theorem q_453 : Cond.methodLink "CaseLists" 149 y_CS_wordOf ∈ g_T := g_in 485 (by decide +kernel) (by decide +kernel)
theorem q_454 : Cond.instanceMethod y_CS_wordOf ∈ g_T := g_in 486 (by decide +kernel) (by decide +kernel)
theorem q_455 : Cond.selects "CaseLists$Case" y_CS_wordOf y_CS_wordOf ∈ g_T := g_in 487 (by decide +kernel) (by decide +kernel)
theorem q_456 : Cond.code y_CS_wordOf prog_2_method_7_code 7 (some .int) ∈ g_T := g_in 488 (by decide +kernel) (by decide +kernel)
theorem q_457 : Cond.methodLink "CaseLists" 129 y_TU_shownByAny ∈ g_T := g_in 489 (by decide +kernel) (by decide +kernel)
theorem q_458 : Cond.instanceMethod y_TU_shownByAny ∈ g_T := g_in 490 (by decide +kernel) (by decide +kernel)
theorem q_459 : Cond.selects "CaseLists$Tours" y_TU_shownByAny y_TU_shownByAny ∈ g_T := g_in 491 (by decide +kernel) (by decide +kernel)
theorem q_460 : Cond.code y_TU_shownByAny prog_4_method_6_code 1 (some .int) ∈ g_T := g_in 492 (by decide +kernel) (by decide +kernel)
theorem q_461 : Cond.methodLink "CaseLists$Tours" 35 y_TU_shownBy ∈ g_T := g_in 493 (by decide +kernel) (by decide +kernel)
theorem q_463 : Cond.instanceMethod y_TU_shownBy ∈ g_T := g_in 495 (by decide +kernel) (by decide +kernel)
theorem q_464 : Cond.code y_TU_shownBy prog_4_method_10_code 4 (some .int) ∈ g_T := g_in 496 (by decide +kernel) (by decide +kernel)
theorem q_465 : Cond.methodLink "CaseLists" 132 y_TU_findOrder ∈ g_T := g_in 497 (by decide +kernel) (by decide +kernel)
theorem q_466 : Cond.instanceMethod y_TU_findOrder ∈ g_T := g_in 498 (by decide +kernel) (by decide +kernel)
theorem q_467 : Cond.selects "CaseLists$Tours" y_TU_findOrder y_TU_findOrder ∈ g_T := g_in 499 (by decide +kernel) (by decide +kernel)
theorem q_468 : Cond.code y_TU_findOrder prog_4_method_8_code 7 (some .int) ∈ g_T := g_in 500 (by decide +kernel) (by decide +kernel)
theorem q_469 : Cond.methodLink "CaseLists$Tours" 43 y_TU_weighRests ∈ g_T := g_in 501 (by decide +kernel) (by decide +kernel)
theorem q_471 : Cond.instanceMethod y_TU_weighRests ∈ g_T := g_in 503 (by decide +kernel) (by decide +kernel)
theorem q_472 : Cond.code y_TU_weighRests prog_4_method_13_code 5 none ∈ g_T := g_in 504 (by decide +kernel) (by decide +kernel)
theorem q_473 : Cond.methodLink "CaseLists$Tours" 50 y_TU_covers ∈ g_T := g_in 505 (by decide +kernel) (by decide +kernel)
theorem q_475 : Cond.instanceMethod y_TU_covers ∈ g_T := g_in 507 (by decide +kernel) (by decide +kernel)
theorem q_476 : Cond.code y_TU_covers prog_4_method_11_code 3 (some .boolean) ∈ g_T := g_in 508 (by decide +kernel) (by decide +kernel)
theorem q_477 : Cond.methodLink "CaseLists$Tours" 63 y_TU_leastRest ∈ g_T := g_in 509 (by decide +kernel) (by decide +kernel)
theorem q_479 : Cond.instanceMethod y_TU_leastRest ∈ g_T := g_in 511 (by decide +kernel) (by decide +kernel)
theorem q_480 : Cond.code y_TU_leastRest prog_4_method_14_code 5 (some .int) ∈ g_T := g_in 512 (by decide +kernel) (by decide +kernel)
theorem q_481 : Cond.constant "CaseLists$Tours" 66 (268435456) ∈ g_T := g_in 513 (by decide +kernel) (by decide +kernel)
theorem q_482 : Cond.methodLink "CaseLists$Tours" 67 y_TU_weightOfNext ∈ g_T := g_in 514 (by decide +kernel) (by decide +kernel)
theorem q_484 : Cond.instanceMethod y_TU_weightOfNext ∈ g_T := g_in 516 (by decide +kernel) (by decide +kernel)
theorem q_485 : Cond.code y_TU_weightOfNext prog_4_method_16_code 5 (some .int) ∈ g_T := g_in 517 (by decide +kernel) (by decide +kernel)
theorem q_486 : Cond.methodLink "CaseLists$Tours" 60 y_TU_wayBetween ∈ g_T := g_in 518 (by decide +kernel) (by decide +kernel)
theorem q_488 : Cond.instanceMethod y_TU_wayBetween ∈ g_T := g_in 520 (by decide +kernel) (by decide +kernel)
theorem q_489 : Cond.code y_TU_wayBetween prog_4_method_12_code 3 (some .int) ∈ g_T := g_in 521 (by decide +kernel) (by decide +kernel)
theorem q_490 : Cond.methodLink "CaseLists$Tours" 76 y_TU_weight ∈ g_T := g_in 522 (by decide +kernel) (by decide +kernel)
theorem q_491 : Cond.static y_TU_weight ∈ g_T := g_in 523 (by decide +kernel) (by decide +kernel)
theorem q_492 : Cond.code y_TU_weight prog_4_method_17_code 1 (some .int) ∈ g_T := g_in 524 (by decide +kernel) (by decide +kernel)
theorem q_493 : Cond.methodLink "CaseLists$Tours" 71 y_MA_min ∈ g_T := g_in 525 (by decide +kernel) (by decide +kernel)
theorem q_494 : Cond.methodLink "CaseLists$Tours" 53 y_TU_bestFirst ∈ g_T := g_in 526 (by decide +kernel) (by decide +kernel)
theorem q_496 : Cond.instanceMethod y_TU_bestFirst ∈ g_T := g_in 528 (by decide +kernel) (by decide +kernel)
theorem q_497 : Cond.code y_TU_bestFirst prog_4_method_18_code 5 (some .int) ∈ g_T := g_in 529 (by decide +kernel) (by decide +kernel)
theorem q_498 : Cond.methodLink "CaseLists$Tours" 47 y_TU_weightOfFirst ∈ g_T := g_in 530 (by decide +kernel) (by decide +kernel)
theorem q_500 : Cond.instanceMethod y_TU_weightOfFirst ∈ g_T := g_in 532 (by decide +kernel) (by decide +kernel)
theorem q_501 : Cond.code y_TU_weightOfFirst prog_4_method_15_code 2 (some .int) ∈ g_T := g_in 533 (by decide +kernel) (by decide +kernel)
theorem q_502 : Cond.methodLink "CaseLists$Tours" 56 y_TU_bestNext ∈ g_T := g_in 534 (by decide +kernel) (by decide +kernel)
theorem q_504 : Cond.instanceMethod y_TU_bestNext ∈ g_T := g_in 536 (by decide +kernel) (by decide +kernel)
theorem q_505 : Cond.code y_TU_bestNext prog_4_method_19_code 7 (some .int) ∈ g_T := g_in 537 (by decide +kernel) (by decide +kernel)
theorem q_506 : Cond.methodLink "CaseLists" 136 y_TU_secondsOf ∈ g_T := g_in 538 (by decide +kernel) (by decide +kernel)
theorem q_507 : Cond.instanceMethod y_TU_secondsOf ∈ g_T := g_in 539 (by decide +kernel) (by decide +kernel)
theorem q_508 : Cond.selects "CaseLists$Tours" y_TU_secondsOf y_TU_secondsOf ∈ g_T := g_in 540 (by decide +kernel) (by decide +kernel)
theorem q_509 : Cond.code y_TU_secondsOf prog_4_method_9_code 5 (some .int) ∈ g_T := g_in 541 (by decide +kernel) (by decide +kernel)
theorem q_510 : Cond.methodLink "CaseListsLaw" 105 y_LW_planned ∈ g_T := g_in 542 (by decide +kernel) (by decide +kernel)
theorem q_511 : Cond.static y_LW_planned ∈ g_T := g_in 543 (by decide +kernel) (by decide +kernel)
theorem q_513 : Cond.methodLink "CaseListsLaw" 39 y_CL_planned ∈ g_T := g_in 545 (by decide +kernel) (by decide +kernel)
theorem q_514 : Cond.instanceMethod y_CL_planned ∈ g_T := g_in 546 (by decide +kernel) (by decide +kernel)
theorem q_515 : Cond.selects "CaseLists" y_CL_planned y_CL_planned ∈ g_T := g_in 547 (by decide +kernel) (by decide +kernel)
theorem q_516 : Cond.code y_CL_planned prog_1_method_9_code 2 (some .int) ∈ g_T := g_in 548 (by decide +kernel) (by decide +kernel)
theorem q_517 : Cond.methodLink "CaseListsLaw" 112 y_LW_from ∈ g_T := g_in 549 (by decide +kernel) (by decide +kernel)
theorem q_518 : Cond.static y_LW_from ∈ g_T := g_in 550 (by decide +kernel) (by decide +kernel)
theorem q_520 : Cond.methodLink "CaseListsLaw" 42 y_CL_from ∈ g_T := g_in 552 (by decide +kernel) (by decide +kernel)
theorem q_521 : Cond.instanceMethod y_CL_from ∈ g_T := g_in 553 (by decide +kernel) (by decide +kernel)
theorem q_522 : Cond.selects "CaseLists" y_CL_from y_CL_from ∈ g_T := g_in 554 (by decide +kernel) (by decide +kernel)
theorem q_523 : Cond.code y_CL_from prog_1_method_11_code 2 (some .int) ∈ g_T := g_in 555 (by decide +kernel) (by decide +kernel)
theorem q_524 : Cond.methodLink "CaseLists" 140 y_TU_leastSecondsFrom ∈ g_T := g_in 556 (by decide +kernel) (by decide +kernel)
theorem q_525 : Cond.instanceMethod y_TU_leastSecondsFrom ∈ g_T := g_in 557 (by decide +kernel) (by decide +kernel)
theorem q_526 : Cond.selects "CaseLists$Tours" y_TU_leastSecondsFrom y_TU_leastSecondsFrom ∈ g_T := g_in 558 (by decide +kernel) (by decide +kernel)
theorem q_527 : Cond.code y_TU_leastSecondsFrom prog_4_method_7_code 2 (some .int) ∈ g_T := g_in 559 (by decide +kernel) (by decide +kernel)
theorem q_528 : Cond.methodLink "CaseLists$Tours" 39 y_TU_shownByAny ∈ g_T := g_in 560 (by decide +kernel) (by decide +kernel)
theorem q_529 : Cond.methodLink "CaseListsLaw" 115 y_LW_state ∈ g_T := g_in 561 (by decide +kernel) (by decide +kernel)
theorem q_530 : Cond.static y_LW_state ∈ g_T := g_in 562 (by decide +kernel) (by decide +kernel)
theorem q_532 : Cond.methodLink "CaseListsLaw" 45 y_CL_state ∈ g_T := g_in 564 (by decide +kernel) (by decide +kernel)
theorem q_533 : Cond.instanceMethod y_CL_state ∈ g_T := g_in 565 (by decide +kernel) (by decide +kernel)
theorem q_534 : Cond.selects "CaseLists" y_CL_state y_CL_state ∈ g_T := g_in 566 (by decide +kernel) (by decide +kernel)
theorem q_535 : Cond.code y_CL_state prog_1_method_12_code 3 (some .int) ∈ g_T := g_in 567 (by decide +kernel) (by decide +kernel)
theorem q_536 : Cond.methodLink "CaseListsLaw" 118 y_LW_word ∈ g_T := g_in 568 (by decide +kernel) (by decide +kernel)
theorem q_537 : Cond.static y_LW_word ∈ g_T := g_in 569 (by decide +kernel) (by decide +kernel)
theorem q_539 : Cond.methodLink "CaseListsLaw" 48 y_CL_word ∈ g_T := g_in 571 (by decide +kernel) (by decide +kernel)
theorem q_540 : Cond.instanceMethod y_CL_word ∈ g_T := g_in 572 (by decide +kernel) (by decide +kernel)
theorem q_541 : Cond.selects "CaseLists" y_CL_word y_CL_word ∈ g_T := g_in 573 (by decide +kernel) (by decide +kernel)
theorem q_542 : Cond.code y_CL_word prog_1_method_13_code 4 (some .int) ∈ g_T := g_in 574 (by decide +kernel) (by decide +kernel)
theorem q_543 : Cond.methodLink "CaseListsLaw" 121 y_LW_listed ∈ g_T := g_in 575 (by decide +kernel) (by decide +kernel)
theorem q_544 : Cond.static y_LW_listed ∈ g_T := g_in 576 (by decide +kernel) (by decide +kernel)
theorem q_546 : Cond.methodLink "CaseListsLaw" 51 y_CL_listed ∈ g_T := g_in 578 (by decide +kernel) (by decide +kernel)
theorem q_547 : Cond.instanceMethod y_CL_listed ∈ g_T := g_in 579 (by decide +kernel) (by decide +kernel)
theorem q_548 : Cond.selects "CaseLists" y_CL_listed y_CL_listed ∈ g_T := g_in 580 (by decide +kernel) (by decide +kernel)
theorem q_549 : Cond.code y_CL_listed prog_1_method_14_code 6 (some .int) ∈ g_T := g_in 581 (by decide +kernel) (by decide +kernel)
theorem q_550 : Cond.methodLink "CaseLists" 152 y_CL_needNotNegative ∈ g_T := g_in 582 (by decide +kernel) (by decide +kernel)
theorem q_551 : Cond.static y_CL_needNotNegative ∈ g_T := g_in 583 (by decide +kernel) (by decide +kernel)
theorem q_552 : Cond.code y_CL_needNotNegative prog_1_method_20_code 1 none ∈ g_T := g_in 584 (by decide +kernel) (by decide +kernel)
theorem q_553 : Cond.constant "CaseLists" 166 (2147483647) ∈ g_T := g_in 585 (by decide +kernel) (by decide +kernel)
theorem q_554 : Cond.methodLink "CaseListsLaw" 124 y_LW_hidden ∈ g_T := g_in 586 (by decide +kernel) (by decide +kernel)
theorem q_555 : Cond.static y_LW_hidden ∈ g_T := g_in 587 (by decide +kernel) (by decide +kernel)
theorem q_557 : Cond.methodLink "CaseListsLaw" 54 y_CL_hidden ∈ g_T := g_in 589 (by decide +kernel) (by decide +kernel)
theorem q_558 : Cond.instanceMethod y_CL_hidden ∈ g_T := g_in 590 (by decide +kernel) (by decide +kernel)
theorem q_559 : Cond.selects "CaseLists" y_CL_hidden y_CL_hidden ∈ g_T := g_in 591 (by decide +kernel) (by decide +kernel)
theorem q_560 : Cond.code y_CL_hidden prog_1_method_15_code 5 (some .int) ∈ g_T := g_in 592 (by decide +kernel) (by decide +kernel)
theorem q_561 : Cond.methodLink "CaseLists" 155 y_CL_holds ∈ g_T := g_in 593 (by decide +kernel) (by decide +kernel)
theorem q_562 : Cond.methodLink "CaseListsLaw" 127 y_LW_proves ∈ g_T := g_in 594 (by decide +kernel) (by decide +kernel)
theorem q_563 : Cond.static y_LW_proves ∈ g_T := g_in 595 (by decide +kernel) (by decide +kernel)
theorem q_565 : Cond.methodLink "CaseListsLaw" 57 y_CL_proves ∈ g_T := g_in 597 (by decide +kernel) (by decide +kernel)
theorem q_566 : Cond.instanceMethod y_CL_proves ∈ g_T := g_in 598 (by decide +kernel) (by decide +kernel)
theorem q_567 : Cond.selects "CaseLists" y_CL_proves y_CL_proves ∈ g_T := g_in 599 (by decide +kernel) (by decide +kernel)
theorem q_568 : Cond.code y_CL_proves prog_1_method_16_code 5 (some .int) ∈ g_T := g_in 600 (by decide +kernel) (by decide +kernel)
theorem q_569 : Cond.methodLink "CaseLists" 159 y_CL_nextTurn ∈ g_T := g_in 601 (by decide +kernel) (by decide +kernel)
theorem q_571 : Cond.instanceMethod y_CL_nextTurn ∈ g_T := g_in 603 (by decide +kernel) (by decide +kernel)
theorem q_572 : Cond.code y_CL_nextTurn prog_1_method_30_code 5 (some .int) ∈ g_T := g_in 604 (by decide +kernel) (by decide +kernel)
theorem q_573 : Cond.constant "CaseLists" 188 (105001) ∈ g_T := g_in 605 (by decide +kernel) (by decide +kernel)
theorem q_574 : Cond.methodLink "CaseLists" 189 y_TL_nextBehind ∈ g_T := g_in 606 (by decide +kernel) (by decide +kernel)
theorem q_575 : Cond.instanceMethod y_TL_nextBehind ∈ g_T := g_in 607 (by decide +kernel) (by decide +kernel)
theorem q_576 : Cond.selects "CaseLists$TouchLog" y_TL_nextBehind y_TL_nextBehind ∈ g_T := g_in 608 (by decide +kernel) (by decide +kernel)
theorem q_577 : Cond.code y_TL_nextBehind prog_3_method_4_code 6 (some .int) ∈ g_T := g_in 609 (by decide +kernel) (by decide +kernel)
theorem q_578 : Cond.methodLink "CaseLists" 192 y_CS_nextTurn ∈ g_T := g_in 610 (by decide +kernel) (by decide +kernel)
theorem q_579 : Cond.instanceMethod y_CS_nextTurn ∈ g_T := g_in 611 (by decide +kernel) (by decide +kernel)
theorem q_580 : Cond.selects "CaseLists$Case" y_CS_nextTurn y_CS_nextTurn ∈ g_T := g_in 612 (by decide +kernel) (by decide +kernel)
theorem q_581 : Cond.code y_CS_nextTurn prog_2_method_8_code 7 (some .int) ∈ g_T := g_in 613 (by decide +kernel) (by decide +kernel)
theorem q_582 : Cond.methodLink "CaseLists$Case" 38 y_MA_min ∈ g_T := g_in 614 (by decide +kernel) (by decide +kernel)
theorem q_583 : Cond.methodLink "CaseListsLaw" 130 y_LW_touched ∈ g_T := g_in 615 (by decide +kernel) (by decide +kernel)
theorem q_584 : Cond.static y_LW_touched ∈ g_T := g_in 616 (by decide +kernel) (by decide +kernel)
theorem q_586 : Cond.methodLink "CaseListsLaw" 60 y_CL_touched ∈ g_T := g_in 618 (by decide +kernel) (by decide +kernel)
theorem q_587 : Cond.instanceMethod y_CL_touched ∈ g_T := g_in 619 (by decide +kernel) (by decide +kernel)
theorem q_588 : Cond.selects "CaseLists" y_CL_touched y_CL_touched ∈ g_T := g_in 620 (by decide +kernel) (by decide +kernel)
theorem q_589 : Cond.code y_CL_touched prog_1_method_17_code 3 (some .int) ∈ g_T := g_in 621 (by decide +kernel) (by decide +kernel)
theorem q_590 : Cond.classLink "CaseListsLaw" 72 "CaseListsModel" ∈ g_T := g_in 622 (by decide +kernel) (by decide +kernel)
theorem q_591 : Cond.instantiable "CaseListsModel" 20 ∈ g_T := g_in 623 (by decide +kernel) (by decide +kernel)
theorem q_592 : Cond.methodLink "CaseListsLaw" 74 y_MO_init ∈ g_T := g_in 624 (by decide +kernel) (by decide +kernel)
theorem q_593 : Cond.instanceMethod y_MO_init ∈ g_T := g_in 625 (by decide +kernel) (by decide +kernel)
theorem q_594 : Cond.code y_MO_init prog_6_method_1_code 2 none ∈ g_T := g_in 626 (by decide +kernel) (by decide +kernel)
theorem q_595 : Cond.methodLink "CaseListsModel" 1 y_OJ_init ∈ g_T := g_in 627 (by decide +kernel) (by decide +kernel)
theorem q_596 : Cond.constant "CaseListsModel" 28 (75024) ∈ g_T := g_in 628 (by decide +kernel) (by decide +kernel)
theorem q_597 : Cond.fieldLink "CaseListsModel" 58 "CaseListsModel" "thrown" "I" ∈ g_T := g_in 629 (by decide +kernel) (by decide +kernel)
theorem q_598 : Cond.fieldLink "CaseListsModel" 54 "CaseListsModel" "life" "I" ∈ g_T := g_in 630 (by decide +kernel) (by decide +kernel)
theorem q_599 : Cond.fieldLink "CaseListsModel" 61 "CaseListsModel" "cases" "I" ∈ g_T := g_in 631 (by decide +kernel) (by decide +kernel)
theorem q_600 : Cond.fieldLink "CaseListsModel" 7 "CaseListsModel" "points" "[I" ∈ g_T := g_in 632 (by decide +kernel) (by decide +kernel)
theorem q_601 : Cond.fieldLink "CaseListsModel" 13 "CaseListsModel" "others" "[I" ∈ g_T := g_in 633 (by decide +kernel) (by decide +kernel)
theorem q_602 : Cond.fieldLink "CaseListsModel" 73 "CaseListsModel" "acts" "I" ∈ g_T := g_in 634 (by decide +kernel) (by decide +kernel)
theorem q_603 : Cond.fieldLink "CaseListsModel" 16 "CaseListsModel" "places" "[I" ∈ g_T := g_in 635 (by decide +kernel) (by decide +kernel)
theorem q_604 : Cond.fieldLink "CaseListsModel" 19 "CaseListsModel" "times" "[I" ∈ g_T := g_in 636 (by decide +kernel) (by decide +kernel)
theorem q_605 : Cond.fieldLink "CaseListsModel" 22 "CaseListsModel" "shown" "[I" ∈ g_T := g_in 637 (by decide +kernel) (by decide +kernel)
theorem q_606 : Cond.fieldLink "CaseListsModel" 25 "CaseListsModel" "ways" "[I" ∈ g_T := g_in 638 (by decide +kernel) (by decide +kernel)
theorem q_607 : Cond.fieldLink "CaseListsModel" 29 "CaseListsModel" "touches" "[I" ∈ g_T := g_in 639 (by decide +kernel) (by decide +kernel)
theorem q_608 : Cond.fieldLink "CaseListsModel" 32 "CaseListsModel" "counts" "[I" ∈ g_T := g_in 640 (by decide +kernel) (by decide +kernel)
theorem q_609 : Cond.fieldLink "CaseListsModel" 35 "CaseListsModel" "persons" "[I" ∈ g_T := g_in 641 (by decide +kernel) (by decide +kernel)
theorem q_610 : Cond.fieldLink "CaseListsModel" 38 "CaseListsModel" "days" "[I" ∈ g_T := g_in 642 (by decide +kernel) (by decide +kernel)
theorem q_611 : Cond.fieldLink "CaseListsModel" 41 "CaseListsModel" "goods" "[Z" ∈ g_T := g_in 643 (by decide +kernel) (by decide +kernel)
theorem q_612 : Cond.fieldLink "CaseListsModel" 118 "CaseListsModel" "planSize" "I" ∈ g_T := g_in 644 (by decide +kernel) (by decide +kernel)
theorem q_613 : Cond.fieldLink "CaseListsModel" 115 "CaseListsModel" "planTime" "I" ∈ g_T := g_in 645 (by decide +kernel) (by decide +kernel)
theorem q_614 : Cond.fieldLink "CaseListsModel" 45 "CaseListsModel" "plan" "[I" ∈ g_T := g_in 646 (by decide +kernel) (by decide +kernel)
theorem q_615 : Cond.fieldLink "CaseListsModel" 48 "CaseListsModel" "least" "[I" ∈ g_T := g_in 647 (by decide +kernel) (by decide +kernel)
theorem q_616 : Cond.fieldLink "CaseListsModel" 51 "CaseListsModel" "still" "[Z" ∈ g_T := g_in 648 (by decide +kernel) (by decide +kernel)
theorem q_658 : Cond.methodLink "CaseListsLaw" 79 y_MO_thrown ∈ g_T := g_in 690 (by decide +kernel) (by decide +kernel)
theorem q_659 : Cond.instanceMethod y_MO_thrown ∈ g_T := g_in 691 (by decide +kernel) (by decide +kernel)
theorem q_660 : Cond.selects "CaseListsModel" y_MO_thrown y_MO_thrown ∈ g_T := g_in 692 (by decide +kernel) (by decide +kernel)
theorem q_661 : Cond.code y_MO_thrown prog_6_method_2_code 1 (some .int) ∈ g_T := g_in 693 (by decide +kernel) (by decide +kernel)
theorem q_662 : Cond.methodLink "CaseListsLaw" 78 y_MO_fault ∈ g_T := g_in 694 (by decide +kernel) (by decide +kernel)
theorem q_663 : Cond.instanceMethod y_MO_fault ∈ g_T := g_in 695 (by decide +kernel) (by decide +kernel)
theorem q_664 : Cond.selects "CaseListsModel" y_MO_fault y_MO_fault ∈ g_T := g_in 696 (by decide +kernel) (by decide +kernel)
theorem q_665 : Cond.code y_MO_fault prog_6_method_7_code 7 (some .int) ∈ g_T := g_in 697 (by decide +kernel) (by decide +kernel)
theorem q_666 : Cond.methodLink "CaseListsModel" 64 y_MO_in ∈ g_T := g_in 698 (by decide +kernel) (by decide +kernel)
theorem q_667 : Cond.static y_MO_in ∈ g_T := g_in 699 (by decide +kernel) (by decide +kernel)
theorem q_668 : Cond.code y_MO_in prog_6_method_4_code 3 (some .boolean) ∈ g_T := g_in 700 (by decide +kernel) (by decide +kernel)
theorem q_669 : Cond.methodLink "CaseListsModel" 69 y_MO_goes ∈ g_T := g_in 701 (by decide +kernel) (by decide +kernel)
theorem q_671 : Cond.instanceMethod y_MO_goes ∈ g_T := g_in 703 (by decide +kernel) (by decide +kernel)
theorem q_672 : Cond.code y_MO_goes prog_6_method_3_code 3 (some .boolean) ∈ g_T := g_in 704 (by decide +kernel) (by decide +kernel)
theorem q_673 : Cond.methodLink "CaseListsLaw" 85 y_MO_act ∈ g_T := g_in 705 (by decide +kernel) (by decide +kernel)
theorem q_674 : Cond.instanceMethod y_MO_act ∈ g_T := g_in 706 (by decide +kernel) (by decide +kernel)
theorem q_675 : Cond.selects "CaseListsModel" y_MO_act y_MO_act ∈ g_T := g_in 707 (by decide +kernel) (by decide +kernel)
theorem q_676 : Cond.code y_MO_act prog_6_method_8_code 3 (some .int) ∈ g_T := g_in 708 (by decide +kernel) (by decide +kernel)
theorem q_677 : Cond.methodLink "CaseListsLaw" 89 y_MO_shows ∈ g_T := g_in 709 (by decide +kernel) (by decide +kernel)
theorem q_678 : Cond.instanceMethod y_MO_shows ∈ g_T := g_in 710 (by decide +kernel) (by decide +kernel)
theorem q_679 : Cond.selects "CaseListsModel" y_MO_shows y_MO_shows ∈ g_T := g_in 711 (by decide +kernel) (by decide +kernel)
theorem q_680 : Cond.code y_MO_shows prog_6_method_9_code 5 (some .boolean) ∈ g_T := g_in 712 (by decide +kernel) (by decide +kernel)
theorem q_681 : Cond.methodLink "CaseListsModel" 76 y_MO_isCase ∈ g_T := g_in 713 (by decide +kernel) (by decide +kernel)
theorem q_683 : Cond.instanceMethod y_MO_isCase ∈ g_T := g_in 715 (by decide +kernel) (by decide +kernel)
theorem q_684 : Cond.code y_MO_isCase prog_6_method_5_code 2 (some .boolean) ∈ g_T := g_in 716 (by decide +kernel) (by decide +kernel)
theorem q_685 : Cond.methodLink "CaseListsLaw" 93 y_MO_way ∈ g_T := g_in 717 (by decide +kernel) (by decide +kernel)
theorem q_686 : Cond.instanceMethod y_MO_way ∈ g_T := g_in 718 (by decide +kernel) (by decide +kernel)
theorem q_687 : Cond.selects "CaseListsModel" y_MO_way y_MO_way ∈ g_T := g_in 719 (by decide +kernel) (by decide +kernel)
theorem q_688 : Cond.code y_MO_way prog_6_method_10_code 5 (some .int) ∈ g_T := g_in 720 (by decide +kernel) (by decide +kernel)
theorem q_689 : Cond.methodLink "CaseListsLaw" 96 y_MO_change ∈ g_T := g_in 721 (by decide +kernel) (by decide +kernel)
theorem q_690 : Cond.instanceMethod y_MO_change ∈ g_T := g_in 722 (by decide +kernel) (by decide +kernel)
theorem q_691 : Cond.selects "CaseListsModel" y_MO_change y_MO_change ∈ g_T := g_in 723 (by decide +kernel) (by decide +kernel)
theorem q_692 : Cond.code y_MO_change prog_6_method_12_code 5 (some .int) ∈ g_T := g_in 724 (by decide +kernel) (by decide +kernel)
theorem q_693 : Cond.methodLink "CaseListsModel" 80 y_MO_isDay ∈ g_T := g_in 725 (by decide +kernel) (by decide +kernel)
theorem q_694 : Cond.static y_MO_isDay ∈ g_T := g_in 726 (by decide +kernel) (by decide +kernel)
theorem q_695 : Cond.code y_MO_isDay prog_6_method_6_code 1 (some .boolean) ∈ g_T := g_in 727 (by decide +kernel) (by decide +kernel)
theorem q_696 : Cond.constant "CaseListsModel" 68 (100000) ∈ g_T := g_in 728 (by decide +kernel) (by decide +kernel)
theorem q_697 : Cond.methodLink "CaseListsLaw" 100 y_MO_result ∈ g_T := g_in 729 (by decide +kernel) (by decide +kernel)
theorem q_698 : Cond.instanceMethod y_MO_result ∈ g_T := g_in 730 (by decide +kernel) (by decide +kernel)
theorem q_699 : Cond.selects "CaseListsModel" y_MO_result y_MO_result ∈ g_T := g_in 731 (by decide +kernel) (by decide +kernel)
theorem q_700 : Cond.code y_MO_result prog_6_method_13_code 9 (some .int) ∈ g_T := g_in 732 (by decide +kernel) (by decide +kernel)
theorem q_701 : Cond.methodLink "CaseListsLaw" 117 y_MO_state ∈ g_T := g_in 733 (by decide +kernel) (by decide +kernel)
theorem q_702 : Cond.instanceMethod y_MO_state ∈ g_T := g_in 734 (by decide +kernel) (by decide +kernel)
theorem q_703 : Cond.selects "CaseListsModel" y_MO_state y_MO_state ∈ g_T := g_in 735 (by decide +kernel) (by decide +kernel)
theorem q_704 : Cond.code y_MO_state prog_6_method_17_code 3 (some .int) ∈ g_T := g_in 736 (by decide +kernel) (by decide +kernel)
theorem q_705 : Cond.methodLink "CaseListsModel" 95 y_MO_stateOf ∈ g_T := g_in 737 (by decide +kernel) (by decide +kernel)
theorem q_707 : Cond.instanceMethod y_MO_stateOf ∈ g_T := g_in 739 (by decide +kernel) (by decide +kernel)
theorem q_708 : Cond.code y_MO_stateOf prog_6_method_16_code 8 (some .int) ∈ g_T := g_in 740 (by decide +kernel) (by decide +kernel)
theorem q_709 : Cond.methodLink "CaseListsModel" 87 y_MO_lastTouch ∈ g_T := g_in 741 (by decide +kernel) (by decide +kernel)
theorem q_711 : Cond.instanceMethod y_MO_lastTouch ∈ g_T := g_in 743 (by decide +kernel) (by decide +kernel)
theorem q_712 : Cond.code y_MO_lastTouch prog_6_method_14_code 4 (some .int) ∈ g_T := g_in 744 (by decide +kernel) (by decide +kernel)
theorem q_713 : Cond.methodLink "CaseListsModel" 83 y_MO_isTouched ∈ g_T := g_in 745 (by decide +kernel) (by decide +kernel)
theorem q_715 : Cond.instanceMethod y_MO_isTouched ∈ g_T := g_in 747 (by decide +kernel) (by decide +kernel)
theorem q_716 : Cond.code y_MO_isTouched prog_6_method_11_code 3 (some .boolean) ∈ g_T := g_in 748 (by decide +kernel) (by decide +kernel)
theorem q_717 : Cond.methodLink "CaseListsModel" 91 y_MO_wordOf ∈ g_T := g_in 749 (by decide +kernel) (by decide +kernel)
theorem q_719 : Cond.instanceMethod y_MO_wordOf ∈ g_T := g_in 751 (by decide +kernel) (by decide +kernel)
theorem q_720 : Cond.code y_MO_wordOf prog_6_method_15_code 9 (some .int) ∈ g_T := g_in 752 (by decide +kernel) (by decide +kernel)
theorem q_721 : Cond.methodLink "CaseListsLaw" 120 y_MO_word ∈ g_T := g_in 753 (by decide +kernel) (by decide +kernel)
theorem q_722 : Cond.instanceMethod y_MO_word ∈ g_T := g_in 754 (by decide +kernel) (by decide +kernel)
theorem q_723 : Cond.selects "CaseListsModel" y_MO_word y_MO_word ∈ g_T := g_in 755 (by decide +kernel) (by decide +kernel)
theorem q_724 : Cond.code y_MO_word prog_6_method_18_code 4 (some .int) ∈ g_T := g_in 756 (by decide +kernel) (by decide +kernel)
theorem q_725 : Cond.methodLink "CaseListsLaw" 123 y_MO_listed ∈ g_T := g_in 757 (by decide +kernel) (by decide +kernel)
theorem q_726 : Cond.instanceMethod y_MO_listed ∈ g_T := g_in 758 (by decide +kernel) (by decide +kernel)
theorem q_727 : Cond.selects "CaseListsModel" y_MO_listed y_MO_listed ∈ g_T := g_in 759 (by decide +kernel) (by decide +kernel)
theorem q_728 : Cond.code y_MO_listed prog_6_method_19_code 6 (some .int) ∈ g_T := g_in 760 (by decide +kernel) (by decide +kernel)
theorem q_729 : Cond.methodLink "CaseListsLaw" 126 y_MO_hidden ∈ g_T := g_in 761 (by decide +kernel) (by decide +kernel)
theorem q_730 : Cond.instanceMethod y_MO_hidden ∈ g_T := g_in 762 (by decide +kernel) (by decide +kernel)
theorem q_731 : Cond.selects "CaseListsModel" y_MO_hidden y_MO_hidden ∈ g_T := g_in 763 (by decide +kernel) (by decide +kernel)
theorem q_732 : Cond.code y_MO_hidden prog_6_method_21_code 4 (some .int) ∈ g_T := g_in 764 (by decide +kernel) (by decide +kernel)
theorem q_733 : Cond.methodLink "CaseListsModel" 98 y_MO_allShown ∈ g_T := g_in 765 (by decide +kernel) (by decide +kernel)
theorem q_735 : Cond.instanceMethod y_MO_allShown ∈ g_T := g_in 767 (by decide +kernel) (by decide +kernel)
theorem q_736 : Cond.code y_MO_allShown prog_6_method_20_code 3 (some .int) ∈ g_T := g_in 768 (by decide +kernel) (by decide +kernel)
theorem q_737 : Cond.methodLink "CaseListsLaw" 129 y_MO_proves ∈ g_T := g_in 769 (by decide +kernel) (by decide +kernel)
theorem q_738 : Cond.instanceMethod y_MO_proves ∈ g_T := g_in 770 (by decide +kernel) (by decide +kernel)
theorem q_739 : Cond.selects "CaseListsModel" y_MO_proves y_MO_proves ∈ g_T := g_in 771 (by decide +kernel) (by decide +kernel)
theorem q_740 : Cond.code y_MO_proves prog_6_method_23_code 4 (some .int) ∈ g_T := g_in 772 (by decide +kernel) (by decide +kernel)
theorem q_741 : Cond.methodLink "CaseListsModel" 103 y_MO_nextDay ∈ g_T := g_in 773 (by decide +kernel) (by decide +kernel)
theorem q_743 : Cond.instanceMethod y_MO_nextDay ∈ g_T := g_in 775 (by decide +kernel) (by decide +kernel)
theorem q_744 : Cond.code y_MO_nextDay prog_6_method_22_code 6 (some .int) ∈ g_T := g_in 776 (by decide +kernel) (by decide +kernel)
theorem q_745 : Cond.constant "CaseListsModel" 102 (1000000000) ∈ g_T := g_in 777 (by decide +kernel) (by decide +kernel)
theorem q_746 : Cond.methodLink "CaseListsLaw" 132 y_MO_touched ∈ g_T := g_in 778 (by decide +kernel) (by decide +kernel)
theorem q_747 : Cond.instanceMethod y_MO_touched ∈ g_T := g_in 779 (by decide +kernel) (by decide +kernel)
theorem q_748 : Cond.selects "CaseListsModel" y_MO_touched y_MO_touched ∈ g_T := g_in 780 (by decide +kernel) (by decide +kernel)
theorem q_749 : Cond.code y_MO_touched prog_6_method_24_code 3 (some .int) ∈ g_T := g_in 781 (by decide +kernel) (by decide +kernel)
theorem q_750 : Cond.methodLink "CaseListsLaw" 104 y_MO_plan ∈ g_T := g_in 782 (by decide +kernel) (by decide +kernel)
theorem q_751 : Cond.instanceMethod y_MO_plan ∈ g_T := g_in 783 (by decide +kernel) (by decide +kernel)
theorem q_752 : Cond.selects "CaseListsModel" y_MO_plan y_MO_plan ∈ g_T := g_in 784 (by decide +kernel) (by decide +kernel)
theorem q_753 : Cond.code y_MO_plan prog_6_method_31_code 7 (some .int) ∈ g_T := g_in 785 (by decide +kernel) (by decide +kernel)
theorem q_754 : Cond.methodLink "CaseListsModel" 112 y_MO_reckon ∈ g_T := g_in 786 (by decide +kernel) (by decide +kernel)
theorem q_756 : Cond.instanceMethod y_MO_reckon ∈ g_T := g_in 788 (by decide +kernel) (by decide +kernel)
theorem q_757 : Cond.code y_MO_reckon prog_6_method_27_code 7 none ∈ g_T := g_in 789 (by decide +kernel) (by decide +kernel)
theorem q_758 : Cond.methodLink "CaseListsModel" 106 y_MO_has ∈ g_T := g_in 790 (by decide +kernel) (by decide +kernel)
theorem q_759 : Cond.static y_MO_has ∈ g_T := g_in 791 (by decide +kernel) (by decide +kernel)
theorem q_760 : Cond.code y_MO_has prog_6_method_25_code 2 (some .boolean) ∈ g_T := g_in 792 (by decide +kernel) (by decide +kernel)
theorem q_761 : Cond.methodLink "CaseListsModel" 109 y_MO_between ∈ g_T := g_in 793 (by decide +kernel) (by decide +kernel)
theorem q_763 : Cond.instanceMethod y_MO_between ∈ g_T := g_in 795 (by decide +kernel) (by decide +kernel)
theorem q_764 : Cond.code y_MO_between prog_6_method_26_code 3 (some .int) ∈ g_T := g_in 796 (by decide +kernel) (by decide +kernel)
theorem q_765 : Cond.methodLink "CaseListsModel" 121 y_MO_shownBy ∈ g_T := g_in 797 (by decide +kernel) (by decide +kernel)
theorem q_767 : Cond.instanceMethod y_MO_shownBy ∈ g_T := g_in 799 (by decide +kernel) (by decide +kernel)
theorem q_768 : Cond.code y_MO_shownBy prog_6_method_28_code 4 (some .int) ∈ g_T := g_in 800 (by decide +kernel) (by decide +kernel)
theorem q_769 : Cond.methodLink "CaseListsModel" 125 y_MO_leastOf ∈ g_T := g_in 801 (by decide +kernel) (by decide +kernel)
theorem q_771 : Cond.instanceMethod y_MO_leastOf ∈ g_T := g_in 803 (by decide +kernel) (by decide +kernel)
theorem q_772 : Cond.code y_MO_leastOf prog_6_method_30_code 4 (some .int) ∈ g_T := g_in 804 (by decide +kernel) (by decide +kernel)
theorem q_773 : Cond.methodLink "CaseListsModel" 128 y_MO_sizeOf ∈ g_T := g_in 805 (by decide +kernel) (by decide +kernel)
theorem q_774 : Cond.static y_MO_sizeOf ∈ g_T := g_in 806 (by decide +kernel) (by decide +kernel)
theorem q_775 : Cond.code y_MO_sizeOf prog_6_method_29_code 3 (some .int) ∈ g_T := g_in 807 (by decide +kernel) (by decide +kernel)
theorem q_776 : Cond.methodLink "CaseListsModel" 131 y_MO_order ∈ g_T := g_in 808 (by decide +kernel) (by decide +kernel)
theorem q_778 : Cond.instanceMethod y_MO_order ∈ g_T := g_in 810 (by decide +kernel) (by decide +kernel)
theorem q_779 : Cond.code y_MO_order prog_6_method_32_code 9 none ∈ g_T := g_in 811 (by decide +kernel) (by decide +kernel)
theorem q_780 : Cond.methodLink "CaseListsLaw" 107 y_MO_planned ∈ g_T := g_in 812 (by decide +kernel) (by decide +kernel)
theorem q_781 : Cond.instanceMethod y_MO_planned ∈ g_T := g_in 813 (by decide +kernel) (by decide +kernel)
theorem q_782 : Cond.selects "CaseListsModel" y_MO_planned y_MO_planned ∈ g_T := g_in 814 (by decide +kernel) (by decide +kernel)
theorem q_783 : Cond.code y_MO_planned prog_6_method_33_code 2 (some .int) ∈ g_T := g_in 815 (by decide +kernel) (by decide +kernel)
theorem q_784 : Cond.methodLink "CaseListsLaw" 111 y_MO_seconds ∈ g_T := g_in 816 (by decide +kernel) (by decide +kernel)
theorem q_785 : Cond.instanceMethod y_MO_seconds ∈ g_T := g_in 817 (by decide +kernel) (by decide +kernel)
theorem q_786 : Cond.selects "CaseListsModel" y_MO_seconds y_MO_seconds ∈ g_T := g_in 818 (by decide +kernel) (by decide +kernel)
theorem q_787 : Cond.code y_MO_seconds prog_6_method_34_code 1 (some .int) ∈ g_T := g_in 819 (by decide +kernel) (by decide +kernel)
theorem q_788 : Cond.methodLink "CaseListsLaw" 114 y_MO_from ∈ g_T := g_in 820 (by decide +kernel) (by decide +kernel)
theorem q_789 : Cond.instanceMethod y_MO_from ∈ g_T := g_in 821 (by decide +kernel) (by decide +kernel)
theorem q_790 : Cond.selects "CaseListsModel" y_MO_from y_MO_from ∈ g_T := g_in 822 (by decide +kernel) (by decide +kernel)
theorem q_791 : Cond.code y_MO_from prog_6_method_35_code 5 (some .int) ∈ g_T := g_in 823 (by decide +kernel) (by decide +kernel)
theorem q_792 : Cond.arrayClass .long ∈ g_T := g_in 824 (by decide +kernel) (by decide +kernel)
theorem q_796 : Cond.selects "[Ljava/lang/Object;" ⟨"java/lang/Object", "getClass", "()Ljava/lang/Class;"⟩ ⟨"java/lang/Object", "getClass", "()Ljava/lang/Class;"⟩ ∈ g_T := g_in 828 (by decide +kernel) (by decide +kernel)
end
section
theorem v_CL_init : g_y y_CL_init b_CL_init 2 none 1 := ⟨q_25, q_1, by decide +kernel, by decide +kernel, by decide +kernel⟩
theorem v_MA_min : g_y y_MA_min b_MA_min 2 (some .int) 2 := ⟨q_31, q_2, by decide +kernel, by decide +kernel, by decide +kernel⟩
theorem v_MA_max : g_y y_MA_max b_MA_max 2 (some .int) 2 := ⟨q_34, q_2, by decide +kernel, by decide +kernel, by decide +kernel⟩
theorem v_AL_init : g_y y_AL_init b_AL_init 1 none 0 := ⟨q_39, q_5, by decide +kernel, by decide +kernel, by decide +kernel⟩
theorem v_BL_init : g_y y_BL_init b_BL_init 1 none 0 := ⟨q_42, q_4, by decide +kernel, by decide +kernel, by decide +kernel⟩
theorem v_BC_init : g_y y_BC_init b_BC_init 1 none 0 := ⟨q_45, q_3, by decide +kernel, by decide +kernel, by decide +kernel⟩
theorem v_TL_init : g_y y_TL_init b_TL_init 1 none 0 := ⟨q_65, q_6, by decide +kernel, by decide +kernel, by decide +kernel⟩
theorem v_TU_init : g_y y_TU_init b_TU_init 1 none 0 := ⟨q_82, q_7, by decide +kernel, by decide +kernel, by decide +kernel⟩
theorem v_CL_seconds : g_y y_CL_seconds b_CL_seconds 1 (some .int) 0 := ⟨q_128, q_1, by decide +kernel, by decide +kernel, by decide +kernel⟩
theorem v_LW_cell : g_y y_LW_cell b_LW_cell 2 (some .int) 2 := ⟨q_131, q_0, by decide +kernel, by decide +kernel, by decide +kernel⟩
theorem v_CL_fault : g_y y_CL_fault b_CL_fault 4 (some .int) 2 := ⟨q_140, q_1, by decide +kernel, by decide +kernel, by decide +kernel⟩
theorem v_CL_needBelow : g_y y_CL_needBelow b_CL_needBelow 2 none 2 := ⟨q_143, q_1, by decide +kernel, by decide +kernel, by decide +kernel⟩
theorem v_CL_needWithin : g_y y_CL_needWithin b_CL_needWithin 3 none 3 := ⟨q_146, q_1, by decide +kernel, by decide +kernel, by decide +kernel⟩
theorem v_TH_init : g_y y_TH_init b_TH_init 1 none 0 := ⟨q_171, q_9, by decide +kernel, by decide +kernel, by decide +kernel⟩
theorem v_IA_init : g_y y_IA_init b_IA_init 2 none 1 := ⟨q_190, q_12, by decide +kernel, by decide +kernel, by decide +kernel⟩
theorem v_RX_init : g_y y_RX_init b_RX_init 2 none 1 := ⟨q_193, q_11, by decide +kernel, by decide +kernel, by decide +kernel⟩
theorem v_EX_init : g_y y_EX_init b_EX_init 2 none 1 := ⟨q_196, q_10, by decide +kernel, by decide +kernel, by decide +kernel⟩
theorem v_TH_init2 : g_y y_TH_init2 b_TH_init2 2 none 1 := ⟨q_199, q_9, by decide +kernel, by decide +kernel, by decide +kernel⟩
theorem v_CL_needOther : g_y y_CL_needOther b_CL_needOther 2 none 2 := ⟨q_216, q_1, by decide +kernel, by decide +kernel, by decide +kernel⟩
theorem v_CL_caseOf : g_y y_CL_caseOf b_CL_caseOf 4 (some .int) 2 := ⟨q_221, q_1, by decide +kernel, by decide +kernel, by decide +kernel⟩
theorem v_AL_size : g_y y_AL_size b_AL_size 1 (some .int) 0 := ⟨q_225, q_5, by decide +kernel, by decide +kernel, by decide +kernel⟩
theorem v_AL_get : g_y y_AL_get b_AL_get 2 (some (.object "java/lang/Object")) 1 := ⟨q_229, q_5, by decide +kernel, by decide +kernel, by decide +kernel⟩
theorem v_OB_checkIndex : g_y y_OB_checkIndex b_OB_checkIndex 2 (some .int) 2 := ⟨q_232, q_13, by decide +kernel, by decide +kernel, by decide +kernel⟩
theorem v_PR_checkIndex : g_y y_PR_checkIndex b_PR_checkIndex 3 (some .int) 3 := ⟨q_235, q_14, by decide +kernel, by decide +kernel, by decide +kernel⟩
theorem v_AL_elementData : g_y y_AL_elementData b_AL_elementData 2 (some (.object "java/lang/Object")) 1 := ⟨q_239, q_5, by decide +kernel, by decide +kernel, by decide +kernel⟩
theorem v_CS_isOf : g_y y_CS_isOf b_CS_isOf 3 (some .boolean) 2 := ⟨q_244, q_16, by decide +kernel, by decide +kernel, by decide +kernel⟩
theorem v_CL_needRoom : g_y y_CL_needRoom b_CL_needRoom 2 none 2 := ⟨q_247, q_1, by decide +kernel, by decide +kernel, by decide +kernel⟩
theorem v_IS_init : g_y y_IS_init b_IS_init 2 none 1 := ⟨q_260, q_15, by decide +kernel, by decide +kernel, by decide +kernel⟩
theorem v_CS_init : g_y y_CS_init b_CS_init 3 none 2 := ⟨q_267, q_16, by decide +kernel, by decide +kernel, by decide +kernel⟩
theorem v_AL_add : g_y y_AL_add b_AL_add 2 (some .boolean) 1 := ⟨q_292, q_5, by decide +kernel, by decide +kernel, by decide +kernel⟩
theorem v_AL_add2 : g_y y_AL_add2 b_AL_add2 4 none 3 := ⟨q_296, q_5, by decide +kernel, by decide +kernel, by decide +kernel⟩
theorem v_AL_grow : g_y y_AL_grow b_AL_grow 1 (some (.array (.object "java/lang/Object"))) 0 := ⟨q_300, q_5, by decide +kernel, by decide +kernel, by decide +kernel⟩
theorem v_AL_grow2 : g_y y_AL_grow2 b_AL_grow2 4 (some (.array (.object "java/lang/Object"))) 1 := ⟨q_304, q_5, by decide +kernel, by decide +kernel, by decide +kernel⟩
theorem v_AS_newLength : g_y y_AS_newLength b_AS_newLength 4 (some .int) 3 := ⟨q_307, q_17, by decide +kernel, by decide +kernel, by decide +kernel⟩
theorem v_AS_hugeLength : g_y y_AS_hugeLength b_AS_hugeLength 3 (some .int) 2 := ⟨q_312, q_17, by decide +kernel, by decide +kernel, by decide +kernel⟩
theorem v_AR_copyOf : g_y y_AR_copyOf b_AR_copyOf 2 (some (.array (.object "java/lang/Object"))) 2 := ⟨q_315, q_18, by decide +kernel, by decide +kernel, by decide +kernel⟩
theorem v_AR_copyOf2 : g_y y_AR_copyOf2 b_AR_copyOf2 4 (some (.array (.object "java/lang/Object"))) 3 := ⟨q_330, q_18, by decide +kernel, by decide +kernel, by decide +kernel⟩
theorem v_CL_act : g_y y_CL_act b_CL_act 3 (some .int) 2 := ⟨q_346, q_1, by decide +kernel, by decide +kernel, by decide +kernel⟩
theorem v_TU_actCount : g_y y_TU_actCount b_TU_actCount 1 (some .int) 0 := ⟨q_350, q_7, by decide +kernel, by decide +kernel, by decide +kernel⟩
theorem v_TU_addAct : g_y y_TU_addAct b_TU_addAct 3 (some .int) 2 := ⟨q_354, q_7, by decide +kernel, by decide +kernel, by decide +kernel⟩
theorem v_CL_shows : g_y y_CL_shows b_CL_shows 4 (some .boolean) 3 := ⟨q_361, q_1, by decide +kernel, by decide +kernel, by decide +kernel⟩
theorem v_TU_setShown : g_y y_TU_setShown b_TU_setShown 5 (some .boolean) 3 := ⟨q_365, q_7, by decide +kernel, by decide +kernel, by decide +kernel⟩
theorem v_CL_holds : g_y y_CL_holds b_CL_holds 2 (some .boolean) 2 := ⟨q_368, q_1, by decide +kernel, by decide +kernel, by decide +kernel⟩
theorem v_CL_way : g_y y_CL_way b_CL_way 4 (some .int) 3 := ⟨q_375, q_1, by decide +kernel, by decide +kernel, by decide +kernel⟩
theorem v_TU_setWay : g_y y_TU_setWay b_TU_setWay 5 (some .int) 3 := ⟨q_379, q_7, by decide +kernel, by decide +kernel, by decide +kernel⟩
theorem v_CL_change : g_y y_CL_change b_CL_change 4 (some .int) 2 := ⟨q_386, q_1, by decide +kernel, by decide +kernel, by decide +kernel⟩
theorem v_CL_needDay : g_y y_CL_needDay b_CL_needDay 1 none 1 := ⟨q_389, q_1, by decide +kernel, by decide +kernel, by decide +kernel⟩
theorem v_CL_casesWith : g_y y_CL_casesWith b_CL_casesWith 4 (some .int) 1 := ⟨q_394, q_1, by decide +kernel, by decide +kernel, by decide +kernel⟩
theorem v_CS_has : g_y y_CS_has b_CS_has 2 (some .boolean) 1 := ⟨q_398, q_16, by decide +kernel, by decide +kernel, by decide +kernel⟩
theorem v_TL_note : g_y y_TL_note b_TL_note 4 none 2 := ⟨q_402, q_6, by decide +kernel, by decide +kernel, by decide +kernel⟩
theorem v_IN_bitCount : g_y y_IN_bitCount b_IN_bitCount 1 (some .int) 1 := ⟨q_405, q_20, by decide +kernel, by decide +kernel, by decide +kernel⟩
theorem v_CL_result : g_y y_CL_result b_CL_result 7 (some .int) 4 := ⟨q_415, q_1, by decide +kernel, by decide +kernel, by decide +kernel⟩
theorem v_CS_rowOf : g_y y_CS_rowOf b_CS_rowOf 4 (some .int) 2 := ⟨q_419, q_16, by decide +kernel, by decide +kernel, by decide +kernel⟩
theorem v_CS_tell : g_y y_CS_tell b_CS_tell 5 none 4 := ⟨q_423, q_16, by decide +kernel, by decide +kernel, by decide +kernel⟩
theorem v_CS_resultCount : g_y y_CS_resultCount b_CS_resultCount 1 (some .int) 0 := ⟨q_428, q_16, by decide +kernel, by decide +kernel, by decide +kernel⟩
theorem v_CL_plan : g_y y_CL_plan b_CL_plan 3 (some .int) 1 := ⟨q_435, q_1, by decide +kernel, by decide +kernel, by decide +kernel⟩
theorem v_CL_unprovedCases : g_y y_CL_unprovedCases b_CL_unprovedCases 4 (some .int) 1 := ⟨q_439, q_1, by decide +kernel, by decide +kernel, by decide +kernel⟩
theorem v_CL_stateOn : g_y y_CL_stateOn b_CL_stateOn 9 (some .int) 2 := ⟨q_443, q_1, by decide +kernel, by decide +kernel, by decide +kernel⟩
theorem v_CL_firstCountingDay : g_y y_CL_firstCountingDay b_CL_firstCountingDay 3 (some .int) 2 := ⟨q_447, q_1, by decide +kernel, by decide +kernel, by decide +kernel⟩
theorem v_TL_latest : g_y y_TL_latest b_TL_latest 5 (some .int) 2 := ⟨q_451, q_6, by decide +kernel, by decide +kernel, by decide +kernel⟩
theorem v_CS_wordOf : g_y y_CS_wordOf b_CS_wordOf 7 (some .int) 3 := ⟨q_456, q_16, by decide +kernel, by decide +kernel, by decide +kernel⟩
theorem v_TU_shownByAny : g_y y_TU_shownByAny b_TU_shownByAny 1 (some .int) 0 := ⟨q_460, q_7, by decide +kernel, by decide +kernel, by decide +kernel⟩
theorem v_TU_shownBy : g_y y_TU_shownBy b_TU_shownBy 4 (some .int) 1 := ⟨q_464, q_7, by decide +kernel, by decide +kernel, by decide +kernel⟩
theorem v_TU_findOrder : g_y y_TU_findOrder b_TU_findOrder 7 (some .int) 2 := ⟨q_468, q_7, by decide +kernel, by decide +kernel, by decide +kernel⟩
theorem v_TU_weighRests : g_y y_TU_weighRests b_TU_weighRests 5 none 1 := ⟨q_472, q_7, by decide +kernel, by decide +kernel, by decide +kernel⟩
theorem v_TU_covers : g_y y_TU_covers b_TU_covers 3 (some .boolean) 2 := ⟨q_476, q_7, by decide +kernel, by decide +kernel, by decide +kernel⟩
theorem v_TU_leastRest : g_y y_TU_leastRest b_TU_leastRest 5 (some .int) 2 := ⟨q_480, q_7, by decide +kernel, by decide +kernel, by decide +kernel⟩
theorem v_TU_weightOfNext : g_y y_TU_weightOfNext b_TU_weightOfNext 5 (some .int) 3 := ⟨q_485, q_7, by decide +kernel, by decide +kernel, by decide +kernel⟩
theorem v_TU_wayBetween : g_y y_TU_wayBetween b_TU_wayBetween 3 (some .int) 2 := ⟨q_489, q_7, by decide +kernel, by decide +kernel, by decide +kernel⟩
theorem v_TU_weight : g_y y_TU_weight b_TU_weight 1 (some .int) 1 := ⟨q_492, q_7, by decide +kernel, by decide +kernel, by decide +kernel⟩
theorem v_TU_bestFirst : g_y y_TU_bestFirst b_TU_bestFirst 5 (some .int) 0 := ⟨q_497, q_7, by decide +kernel, by decide +kernel, by decide +kernel⟩
theorem v_TU_weightOfFirst : g_y y_TU_weightOfFirst b_TU_weightOfFirst 2 (some .int) 1 := ⟨q_501, q_7, by decide +kernel, by decide +kernel, by decide +kernel⟩
theorem v_TU_bestNext : g_y y_TU_bestNext b_TU_bestNext 7 (some .int) 2 := ⟨q_505, q_7, by decide +kernel, by decide +kernel, by decide +kernel⟩
theorem v_TU_secondsOf : g_y y_TU_secondsOf b_TU_secondsOf 5 (some .int) 2 := ⟨q_509, q_7, by decide +kernel, by decide +kernel, by decide +kernel⟩
theorem v_CL_planned : g_y y_CL_planned b_CL_planned 2 (some .int) 1 := ⟨q_516, q_1, by decide +kernel, by decide +kernel, by decide +kernel⟩
theorem v_CL_from : g_y y_CL_from b_CL_from 2 (some .int) 1 := ⟨q_523, q_1, by decide +kernel, by decide +kernel, by decide +kernel⟩
theorem v_TU_leastSecondsFrom : g_y y_TU_leastSecondsFrom b_TU_leastSecondsFrom 2 (some .int) 1 := ⟨q_527, q_7, by decide +kernel, by decide +kernel, by decide +kernel⟩
theorem v_CL_state : g_y y_CL_state b_CL_state 3 (some .int) 2 := ⟨q_535, q_1, by decide +kernel, by decide +kernel, by decide +kernel⟩
theorem v_CL_word : g_y y_CL_word b_CL_word 4 (some .int) 3 := ⟨q_542, q_1, by decide +kernel, by decide +kernel, by decide +kernel⟩
theorem v_CL_listed : g_y y_CL_listed b_CL_listed 6 (some .int) 3 := ⟨q_549, q_1, by decide +kernel, by decide +kernel, by decide +kernel⟩
theorem v_CL_needNotNegative : g_y y_CL_needNotNegative b_CL_needNotNegative 1 none 1 := ⟨q_552, q_1, by decide +kernel, by decide +kernel, by decide +kernel⟩
theorem v_CL_hidden : g_y y_CL_hidden b_CL_hidden 5 (some .int) 1 := ⟨q_560, q_1, by decide +kernel, by decide +kernel, by decide +kernel⟩
theorem v_CL_proves : g_y y_CL_proves b_CL_proves 5 (some .int) 2 := ⟨q_568, q_1, by decide +kernel, by decide +kernel, by decide +kernel⟩
theorem v_CL_nextTurn : g_y y_CL_nextTurn b_CL_nextTurn 5 (some .int) 2 := ⟨q_572, q_1, by decide +kernel, by decide +kernel, by decide +kernel⟩
theorem v_TL_nextBehind : g_y y_TL_nextBehind b_TL_nextBehind 6 (some .int) 2 := ⟨q_577, q_6, by decide +kernel, by decide +kernel, by decide +kernel⟩
theorem v_CS_nextTurn : g_y y_CS_nextTurn b_CS_nextTurn 7 (some .int) 3 := ⟨q_581, q_16, by decide +kernel, by decide +kernel, by decide +kernel⟩
theorem v_CL_touched : g_y y_CL_touched b_CL_touched 3 (some .int) 2 := ⟨q_589, q_1, by decide +kernel, by decide +kernel, by decide +kernel⟩
theorem v_MO_init : g_y y_MO_init b_MO_init 2 none 1 := ⟨q_594, q_8, by decide +kernel, by decide +kernel, by decide +kernel⟩
theorem v_MO_thrown : g_y y_MO_thrown b_MO_thrown 1 (some .int) 0 := ⟨q_661, q_8, by decide +kernel, by decide +kernel, by decide +kernel⟩
theorem v_MO_fault : g_y y_MO_fault b_MO_fault 7 (some .int) 2 := ⟨q_665, q_8, by decide +kernel, by decide +kernel, by decide +kernel⟩
theorem v_MO_in : g_y y_MO_in b_MO_in 3 (some .boolean) 3 := ⟨q_668, q_8, by decide +kernel, by decide +kernel, by decide +kernel⟩
theorem v_MO_goes : g_y y_MO_goes b_MO_goes 3 (some .boolean) 2 := ⟨q_672, q_8, by decide +kernel, by decide +kernel, by decide +kernel⟩
theorem v_MO_act : g_y y_MO_act b_MO_act 3 (some .int) 2 := ⟨q_676, q_8, by decide +kernel, by decide +kernel, by decide +kernel⟩
theorem v_MO_shows : g_y y_MO_shows b_MO_shows 5 (some .boolean) 3 := ⟨q_680, q_8, by decide +kernel, by decide +kernel, by decide +kernel⟩
theorem v_MO_isCase : g_y y_MO_isCase b_MO_isCase 2 (some .boolean) 1 := ⟨q_684, q_8, by decide +kernel, by decide +kernel, by decide +kernel⟩
theorem v_MO_way : g_y y_MO_way b_MO_way 5 (some .int) 3 := ⟨q_688, q_8, by decide +kernel, by decide +kernel, by decide +kernel⟩
theorem v_MO_change : g_y y_MO_change b_MO_change 5 (some .int) 2 := ⟨q_692, q_8, by decide +kernel, by decide +kernel, by decide +kernel⟩
theorem v_MO_isDay : g_y y_MO_isDay b_MO_isDay 1 (some .boolean) 1 := ⟨q_695, q_8, by decide +kernel, by decide +kernel, by decide +kernel⟩
theorem v_MO_result : g_y y_MO_result b_MO_result 9 (some .int) 4 := ⟨q_700, q_8, by decide +kernel, by decide +kernel, by decide +kernel⟩
theorem v_MO_state : g_y y_MO_state b_MO_state 3 (some .int) 2 := ⟨q_704, q_8, by decide +kernel, by decide +kernel, by decide +kernel⟩
theorem v_MO_stateOf : g_y y_MO_stateOf b_MO_stateOf 8 (some .int) 2 := ⟨q_708, q_8, by decide +kernel, by decide +kernel, by decide +kernel⟩
theorem v_MO_lastTouch : g_y y_MO_lastTouch b_MO_lastTouch 4 (some .int) 2 := ⟨q_712, q_8, by decide +kernel, by decide +kernel, by decide +kernel⟩
theorem v_MO_isTouched : g_y y_MO_isTouched b_MO_isTouched 3 (some .boolean) 2 := ⟨q_716, q_8, by decide +kernel, by decide +kernel, by decide +kernel⟩
theorem v_MO_wordOf : g_y y_MO_wordOf b_MO_wordOf 9 (some .int) 4 := ⟨q_720, q_8, by decide +kernel, by decide +kernel, by decide +kernel⟩
theorem v_MO_word : g_y y_MO_word b_MO_word 4 (some .int) 3 := ⟨q_724, q_8, by decide +kernel, by decide +kernel, by decide +kernel⟩
theorem v_MO_listed : g_y y_MO_listed b_MO_listed 6 (some .int) 3 := ⟨q_728, q_8, by decide +kernel, by decide +kernel, by decide +kernel⟩
theorem v_MO_hidden : g_y y_MO_hidden b_MO_hidden 4 (some .int) 1 := ⟨q_732, q_8, by decide +kernel, by decide +kernel, by decide +kernel⟩
theorem v_MO_allShown : g_y y_MO_allShown b_MO_allShown 3 (some .int) 0 := ⟨q_736, q_8, by decide +kernel, by decide +kernel, by decide +kernel⟩
theorem v_MO_proves : g_y y_MO_proves b_MO_proves 4 (some .int) 2 := ⟨q_740, q_8, by decide +kernel, by decide +kernel, by decide +kernel⟩
theorem v_MO_nextDay : g_y y_MO_nextDay b_MO_nextDay 6 (some .int) 2 := ⟨q_744, q_8, by decide +kernel, by decide +kernel, by decide +kernel⟩
theorem v_MO_touched : g_y y_MO_touched b_MO_touched 3 (some .int) 2 := ⟨q_749, q_8, by decide +kernel, by decide +kernel, by decide +kernel⟩
theorem v_MO_plan : g_y y_MO_plan b_MO_plan 7 (some .int) 1 := ⟨q_753, q_8, by decide +kernel, by decide +kernel, by decide +kernel⟩
theorem v_MO_reckon : g_y y_MO_reckon b_MO_reckon 7 none 0 := ⟨q_757, q_8, by decide +kernel, by decide +kernel, by decide +kernel⟩
theorem v_MO_has : g_y y_MO_has b_MO_has 2 (some .boolean) 2 := ⟨q_760, q_8, by decide +kernel, by decide +kernel, by decide +kernel⟩
theorem v_MO_between : g_y y_MO_between b_MO_between 3 (some .int) 2 := ⟨q_764, q_8, by decide +kernel, by decide +kernel, by decide +kernel⟩
theorem v_MO_shownBy : g_y y_MO_shownBy b_MO_shownBy 4 (some .int) 1 := ⟨q_768, q_8, by decide +kernel, by decide +kernel, by decide +kernel⟩
theorem v_MO_leastOf : g_y y_MO_leastOf b_MO_leastOf 4 (some .int) 1 := ⟨q_772, q_8, by decide +kernel, by decide +kernel, by decide +kernel⟩
theorem v_MO_sizeOf : g_y y_MO_sizeOf b_MO_sizeOf 3 (some .int) 1 := ⟨q_775, q_8, by decide +kernel, by decide +kernel, by decide +kernel⟩
theorem v_MO_order : g_y y_MO_order b_MO_order 9 none 0 := ⟨q_779, q_8, by decide +kernel, by decide +kernel, by decide +kernel⟩
theorem v_MO_planned : g_y y_MO_planned b_MO_planned 2 (some .int) 1 := ⟨q_783, q_8, by decide +kernel, by decide +kernel, by decide +kernel⟩
theorem v_MO_seconds : g_y y_MO_seconds b_MO_seconds 1 (some .int) 0 := ⟨q_787, q_8, by decide +kernel, by decide +kernel, by decide +kernel⟩
theorem v_MO_from : g_y y_MO_from b_MO_from 5 (some .int) 1 := ⟨q_791, q_8, by decide +kernel, by decide +kernel, by decide +kernel⟩
end
section
theorem d_CL_init_0 : decode b_CL_init 0 = .ok (.aload_n 0, 1) := by decide +kernel
theorem d_CL_init_1 : decode b_CL_init 1 = .ok (.invokespecial 3, 3) := by decide +kernel
theorem d_CL_init_4 : decode b_CL_init 4 = .ok (.aload_n 0, 1) := by decide +kernel
theorem d_CL_init_5 : decode b_CL_init 5 = .ok (.iconst 1, 1) := by decide +kernel
theorem d_CL_init_6 : decode b_CL_init 6 = .ok (.sipush 5000, 3) := by decide +kernel
theorem d_CL_init_9 : decode b_CL_init 9 = .ok (.iload_n 1, 1) := by decide +kernel
theorem d_CL_init_10 : decode b_CL_init 10 = .ok (.invokestatic 9, 3) := by decide +kernel
theorem d_CL_init_13 : decode b_CL_init 13 = .ok (.invokestatic 15, 3) := by decide +kernel
theorem d_CL_init_16 : decode b_CL_init 16 = .ok (.putfield 18, 3) := by decide +kernel
theorem d_CL_init_19 : decode b_CL_init 19 = .ok (.aload_n 0, 1) := by decide +kernel
theorem d_CL_init_20 : decode b_CL_init 20 = .ok (.new 22, 3) := by decide +kernel
theorem d_CL_init_23 : decode b_CL_init 23 = .ok (.dup, 1) := by decide +kernel
theorem d_CL_init_24 : decode b_CL_init 24 = .ok (.invokespecial 24, 3) := by decide +kernel
theorem d_CL_init_27 : decode b_CL_init 27 = .ok (.putfield 25, 3) := by decide +kernel
theorem d_CL_init_30 : decode b_CL_init 30 = .ok (.aload_n 0, 1) := by decide +kernel
theorem d_CL_init_31 : decode b_CL_init 31 = .ok (.new 29, 3) := by decide +kernel
theorem d_CL_init_34 : decode b_CL_init 34 = .ok (.dup, 1) := by decide +kernel
theorem d_CL_init_35 : decode b_CL_init 35 = .ok (.invokespecial 31, 3) := by decide +kernel
theorem d_CL_init_38 : decode b_CL_init 38 = .ok (.putfield 32, 3) := by decide +kernel
theorem d_CL_init_41 : decode b_CL_init 41 = .ok (.aload_n 0, 1) := by decide +kernel
theorem d_CL_init_42 : decode b_CL_init 42 = .ok (.new 36, 3) := by decide +kernel
theorem d_CL_init_45 : decode b_CL_init 45 = .ok (.dup, 1) := by decide +kernel
theorem d_CL_init_46 : decode b_CL_init 46 = .ok (.invokespecial 38, 3) := by decide +kernel
theorem d_CL_init_49 : decode b_CL_init 49 = .ok (.putfield 39, 3) := by decide +kernel
theorem d_CL_init_52 : decode b_CL_init 52 = .ok (.aload_n 0, 1) := by decide +kernel
theorem d_CL_init_53 : decode b_CL_init 53 = .ok (.bipush 8, 2) := by decide +kernel
theorem d_CL_init_55 : decode b_CL_init 55 = .ok (.newarray .int, 2) := by decide +kernel
theorem d_CL_init_57 : decode b_CL_init 57 = .ok (.putfield 43, 3) := by decide +kernel
theorem d_CL_init_60 : decode b_CL_init 60 = .ok (.aload_n 0, 1) := by decide +kernel
theorem d_CL_init_61 : decode b_CL_init 61 = .ok (.iconst 0, 1) := by decide +kernel
theorem d_CL_init_62 : decode b_CL_init 62 = .ok (.putfield 47, 3) := by decide +kernel
theorem d_CL_init_65 : decode b_CL_init 65 = .ok (.aload_n 0, 1) := by decide +kernel
theorem d_CL_init_66 : decode b_CL_init 66 = .ok (.iconst 0, 1) := by decide +kernel
theorem d_CL_init_67 : decode b_CL_init 67 = .ok (.putfield 50, 3) := by decide +kernel
theorem d_CL_init_70 : decode b_CL_init 70 = .ok (.return_, 1) := by decide +kernel
theorem d_TL_init_0 : decode b_TL_init 0 = .ok (.aload_n 0, 1) := by decide +kernel
theorem d_TL_init_1 : decode b_TL_init 1 = .ok (.invokespecial 3, 3) := by decide +kernel
theorem d_TL_init_4 : decode b_TL_init 4 = .ok (.aload_n 0, 1) := by decide +kernel
theorem d_TL_init_5 : decode b_TL_init 5 = .ok (.sipush 512, 3) := by decide +kernel
theorem d_TL_init_8 : decode b_TL_init 8 = .ok (.newarray .int, 2) := by decide +kernel
theorem d_TL_init_10 : decode b_TL_init 10 = .ok (.putfield 9, 3) := by decide +kernel
theorem d_TL_init_13 : decode b_TL_init 13 = .ok (.aload_n 0, 1) := by decide +kernel
theorem d_TL_init_14 : decode b_TL_init 14 = .ok (.sipush 512, 3) := by decide +kernel
theorem d_TL_init_17 : decode b_TL_init 17 = .ok (.newarray .int, 2) := by decide +kernel
theorem d_TL_init_19 : decode b_TL_init 19 = .ok (.putfield 15, 3) := by decide +kernel
theorem d_TL_init_22 : decode b_TL_init 22 = .ok (.aload_n 0, 1) := by decide +kernel
theorem d_TL_init_23 : decode b_TL_init 23 = .ok (.iconst 0, 1) := by decide +kernel
theorem d_TL_init_24 : decode b_TL_init 24 = .ok (.putfield 18, 3) := by decide +kernel
theorem d_TL_init_27 : decode b_TL_init 27 = .ok (.return_, 1) := by decide +kernel
theorem d_TU_init_0 : decode b_TU_init 0 = .ok (.aload_n 0, 1) := by decide +kernel
theorem d_TU_init_1 : decode b_TU_init 1 = .ok (.invokespecial 3, 3) := by decide +kernel
theorem d_TU_init_4 : decode b_TU_init 4 = .ok (.aload_n 0, 1) := by decide +kernel
theorem d_TU_init_5 : decode b_TU_init 5 = .ok (.bipush 8, 2) := by decide +kernel
theorem d_TU_init_7 : decode b_TU_init 7 = .ok (.newarray .int, 2) := by decide +kernel
theorem d_TU_init_9 : decode b_TU_init 9 = .ok (.putfield 9, 3) := by decide +kernel
theorem d_TU_init_12 : decode b_TU_init 12 = .ok (.aload_n 0, 1) := by decide +kernel
theorem d_TU_init_13 : decode b_TU_init 13 = .ok (.bipush 8, 2) := by decide +kernel
theorem d_TU_init_15 : decode b_TU_init 15 = .ok (.newarray .int, 2) := by decide +kernel
theorem d_TU_init_17 : decode b_TU_init 17 = .ok (.putfield 15, 3) := by decide +kernel
theorem d_TU_init_20 : decode b_TU_init 20 = .ok (.aload_n 0, 1) := by decide +kernel
theorem d_TU_init_21 : decode b_TU_init 21 = .ok (.bipush 8, 2) := by decide +kernel
theorem d_TU_init_23 : decode b_TU_init 23 = .ok (.newarray .int, 2) := by decide +kernel
theorem d_TU_init_25 : decode b_TU_init 25 = .ok (.putfield 18, 3) := by decide +kernel
theorem d_TU_init_28 : decode b_TU_init 28 = .ok (.aload_n 0, 1) := by decide +kernel
theorem d_TU_init_29 : decode b_TU_init 29 = .ok (.bipush 100, 2) := by decide +kernel
theorem d_TU_init_31 : decode b_TU_init 31 = .ok (.newarray .int, 2) := by decide +kernel
theorem d_TU_init_33 : decode b_TU_init 33 = .ok (.putfield 21, 3) := by decide +kernel
theorem d_TU_init_36 : decode b_TU_init 36 = .ok (.aload_n 0, 1) := by decide +kernel
theorem d_TU_init_37 : decode b_TU_init 37 = .ok (.sipush 2048, 3) := by decide +kernel
theorem d_TU_init_40 : decode b_TU_init 40 = .ok (.newarray .int, 2) := by decide +kernel
theorem d_TU_init_42 : decode b_TU_init 42 = .ok (.putfield 24, 3) := by decide +kernel
theorem d_TU_init_45 : decode b_TU_init 45 = .ok (.aload_n 0, 1) := by decide +kernel
theorem d_TU_init_46 : decode b_TU_init 46 = .ok (.iconst 0, 1) := by decide +kernel
theorem d_TU_init_47 : decode b_TU_init 47 = .ok (.putfield 27, 3) := by decide +kernel
theorem d_TU_init_50 : decode b_TU_init 50 = .ok (.return_, 1) := by decide +kernel
theorem d_CL_seconds_0 : decode b_CL_seconds 0 = .ok (.aload_n 0, 1) := by decide +kernel
theorem d_CL_seconds_1 : decode b_CL_seconds 1 = .ok (.getfield 50, 3) := by decide +kernel
theorem d_CL_seconds_4 : decode b_CL_seconds 4 = .ok (.ireturn, 1) := by decide +kernel
theorem d_CL_fault_0 : decode b_CL_fault 0 = .ok (.iload_n 1, 1) := by decide +kernel
theorem d_CL_fault_1 : decode b_CL_fault 1 = .ok (.bipush 30, 2) := by decide +kernel
theorem d_CL_fault_3 : decode b_CL_fault 3 = .ok (.invokestatic 53, 3) := by decide +kernel
theorem d_CL_fault_6 : decode b_CL_fault 6 = .ok (.iload_n 2, 1) := by decide +kernel
theorem d_CL_fault_7 : decode b_CL_fault 7 = .ok (.iconst (-1), 1) := by decide +kernel
theorem d_CL_fault_8 : decode b_CL_fault 8 = .ok (.if_icmp .eq 9, 3) := by decide +kernel
theorem d_CL_fault_11 : decode b_CL_fault 11 = .ok (.iload_n 2, 1) := by decide +kernel
theorem d_CL_fault_12 : decode b_CL_fault 12 = .ok (.bipush 30, 2) := by decide +kernel
theorem d_CL_fault_14 : decode b_CL_fault 14 = .ok (.invokestatic 53, 3) := by decide +kernel
theorem d_CL_fault_17 : decode b_CL_fault 17 = .ok (.iload_n 1, 1) := by decide +kernel
theorem d_CL_fault_18 : decode b_CL_fault 18 = .ok (.iload_n 2, 1) := by decide +kernel
theorem d_CL_fault_19 : decode b_CL_fault 19 = .ok (.invokestatic 57, 3) := by decide +kernel
theorem d_CL_fault_22 : decode b_CL_fault 22 = .ok (.aload_n 0, 1) := by decide +kernel
theorem d_CL_fault_23 : decode b_CL_fault 23 = .ok (.iload_n 1, 1) := by decide +kernel
theorem d_CL_fault_24 : decode b_CL_fault 24 = .ok (.iload_n 2, 1) := by decide +kernel
theorem d_CL_fault_25 : decode b_CL_fault 25 = .ok (.invokevirtual 60, 3) := by decide +kernel
theorem d_CL_fault_28 : decode b_CL_fault 28 = .ok (.istore_n 3, 1) := by decide +kernel
theorem d_CL_fault_29 : decode b_CL_fault 29 = .ok (.iload_n 3, 1) := by decide +kernel
theorem d_CL_fault_30 : decode b_CL_fault 30 = .ok (.iconst (-1), 1) := by decide +kernel
theorem d_CL_fault_31 : decode b_CL_fault 31 = .ok (.if_icmp .eq 5, 3) := by decide +kernel
theorem d_CL_fault_34 : decode b_CL_fault 34 = .ok (.iload_n 3, 1) := by decide +kernel
theorem d_CL_fault_35 : decode b_CL_fault 35 = .ok (.ireturn, 1) := by decide +kernel
theorem d_CL_fault_36 : decode b_CL_fault 36 = .ok (.aload_n 0, 1) := by decide +kernel
theorem d_CL_fault_37 : decode b_CL_fault 37 = .ok (.getfield 25, 3) := by decide +kernel
theorem d_CL_fault_40 : decode b_CL_fault 40 = .ok (.invokevirtual 63, 3) := by decide +kernel
theorem d_CL_fault_43 : decode b_CL_fault 43 = .ok (.bipush 24, 2) := by decide +kernel
theorem d_CL_fault_45 : decode b_CL_fault 45 = .ok (.invokestatic 67, 3) := by decide +kernel
theorem d_CL_fault_48 : decode b_CL_fault 48 = .ok (.aload_n 0, 1) := by decide +kernel
theorem d_CL_fault_49 : decode b_CL_fault 49 = .ok (.getfield 25, 3) := by decide +kernel
theorem d_CL_fault_52 : decode b_CL_fault 52 = .ok (.new 70, 3) := by decide +kernel
theorem d_CL_fault_55 : decode b_CL_fault 55 = .ok (.dup, 1) := by decide +kernel
theorem d_CL_fault_56 : decode b_CL_fault 56 = .ok (.iload_n 1, 1) := by decide +kernel
theorem d_CL_fault_57 : decode b_CL_fault 57 = .ok (.iload_n 2, 1) := by decide +kernel
theorem d_CL_fault_58 : decode b_CL_fault 58 = .ok (.invokespecial 72, 3) := by decide +kernel
theorem d_CL_fault_61 : decode b_CL_fault 61 = .ok (.invokevirtual 74, 3) := by decide +kernel
theorem d_CL_fault_64 : decode b_CL_fault 64 = .ok (.pop, 1) := by decide +kernel
theorem d_CL_fault_65 : decode b_CL_fault 65 = .ok (.aload_n 0, 1) := by decide +kernel
theorem d_CL_fault_66 : decode b_CL_fault 66 = .ok (.getfield 25, 3) := by decide +kernel
theorem d_CL_fault_69 : decode b_CL_fault 69 = .ok (.invokevirtual 63, 3) := by decide +kernel
theorem d_CL_fault_72 : decode b_CL_fault 72 = .ok (.iconst 1, 1) := by decide +kernel
theorem d_CL_fault_73 : decode b_CL_fault 73 = .ok (.isub, 1) := by decide +kernel
theorem d_CL_fault_74 : decode b_CL_fault 74 = .ok (.ireturn, 1) := by decide +kernel
theorem d_CL_needBelow_0 : decode b_CL_needBelow 0 = .ok (.iload_n 0, 1) := by decide +kernel
theorem d_CL_needBelow_1 : decode b_CL_needBelow 1 = .ok (.iconst 0, 1) := by decide +kernel
theorem d_CL_needBelow_2 : decode b_CL_needBelow 2 = .ok (.iload_n 1, 1) := by decide +kernel
theorem d_CL_needBelow_3 : decode b_CL_needBelow 3 = .ok (.iconst 1, 1) := by decide +kernel
theorem d_CL_needBelow_4 : decode b_CL_needBelow 4 = .ok (.isub, 1) := by decide +kernel
theorem d_CL_needBelow_5 : decode b_CL_needBelow 5 = .ok (.invokestatic 78, 3) := by decide +kernel
theorem d_CL_needBelow_8 : decode b_CL_needBelow 8 = .ok (.return_, 1) := by decide +kernel
theorem d_CL_needWithin_0 : decode b_CL_needWithin 0 = .ok (.iload_n 0, 1) := by decide +kernel
theorem d_CL_needWithin_1 : decode b_CL_needWithin 1 = .ok (.iload_n 1, 1) := by decide +kernel
theorem d_CL_needWithin_2 : decode b_CL_needWithin 2 = .ok (.if_icmp .lt 8, 3) := by decide +kernel
theorem d_CL_needWithin_5 : decode b_CL_needWithin 5 = .ok (.iload_n 0, 1) := by decide +kernel
theorem d_CL_needWithin_6 : decode b_CL_needWithin 6 = .ok (.iload_n 2, 1) := by decide +kernel
theorem d_CL_needWithin_7 : decode b_CL_needWithin 7 = .ok (.if_icmp .le 13, 3) := by decide +kernel
theorem d_CL_needWithin_10 : decode b_CL_needWithin 10 = .ok (.new 167, 3) := by decide +kernel
theorem d_CL_needWithin_13 : decode b_CL_needWithin 13 = .ok (.dup, 1) := by decide +kernel
theorem d_CL_needWithin_14 : decode b_CL_needWithin 14 = .ok (.ldc 169, 2) := by decide +kernel
theorem d_CL_needWithin_16 : decode b_CL_needWithin 16 = .ok (.invokespecial 171, 3) := by decide +kernel
theorem d_CL_needWithin_19 : decode b_CL_needWithin 19 = .ok (.athrow, 1) := by decide +kernel
theorem d_CL_needWithin_20 : decode b_CL_needWithin 20 = .ok (.return_, 1) := by decide +kernel
theorem d_CL_needOther_0 : decode b_CL_needOther 0 = .ok (.iload_n 0, 1) := by decide +kernel
theorem d_CL_needOther_1 : decode b_CL_needOther 1 = .ok (.iload_n 1, 1) := by decide +kernel
theorem d_CL_needOther_2 : decode b_CL_needOther 2 = .ok (.if_icmp .ne 13, 3) := by decide +kernel
theorem d_CL_needOther_5 : decode b_CL_needOther 5 = .ok (.new 167, 3) := by decide +kernel
theorem d_CL_needOther_8 : decode b_CL_needOther 8 = .ok (.dup, 1) := by decide +kernel
theorem d_CL_needOther_9 : decode b_CL_needOther 9 = .ok (.ldc 174, 2) := by decide +kernel
theorem d_CL_needOther_11 : decode b_CL_needOther 11 = .ok (.invokespecial 171, 3) := by decide +kernel
theorem d_CL_needOther_14 : decode b_CL_needOther 14 = .ok (.athrow, 1) := by decide +kernel
theorem d_CL_needOther_15 : decode b_CL_needOther 15 = .ok (.return_, 1) := by decide +kernel
theorem d_CL_caseOf_0 : decode b_CL_caseOf 0 = .ok (.iconst 0, 1) := by decide +kernel
theorem d_CL_caseOf_1 : decode b_CL_caseOf 1 = .ok (.istore_n 3, 1) := by decide +kernel
theorem d_CL_caseOf_2 : decode b_CL_caseOf 2 = .ok (.iload_n 3, 1) := by decide +kernel
theorem d_CL_caseOf_3 : decode b_CL_caseOf 3 = .ok (.aload_n 0, 1) := by decide +kernel
theorem d_CL_caseOf_4 : decode b_CL_caseOf 4 = .ok (.getfield 25, 3) := by decide +kernel
theorem d_CL_caseOf_7 : decode b_CL_caseOf 7 = .ok (.invokevirtual 63, 3) := by decide +kernel
theorem d_CL_caseOf_10 : decode b_CL_caseOf 10 = .ok (.if_icmp .ge 30, 3) := by decide +kernel
theorem d_CL_caseOf_13 : decode b_CL_caseOf 13 = .ok (.aload_n 0, 1) := by decide +kernel
theorem d_CL_caseOf_14 : decode b_CL_caseOf 14 = .ok (.getfield 25, 3) := by decide +kernel
theorem d_CL_caseOf_17 : decode b_CL_caseOf 17 = .ok (.iload_n 3, 1) := by decide +kernel
theorem d_CL_caseOf_18 : decode b_CL_caseOf 18 = .ok (.invokevirtual 112, 3) := by decide +kernel
theorem d_CL_caseOf_21 : decode b_CL_caseOf 21 = .ok (.checkcast 70, 3) := by decide +kernel
theorem d_CL_caseOf_24 : decode b_CL_caseOf 24 = .ok (.iload_n 1, 1) := by decide +kernel
theorem d_CL_caseOf_25 : decode b_CL_caseOf 25 = .ok (.iload_n 2, 1) := by decide +kernel
theorem d_CL_caseOf_26 : decode b_CL_caseOf 26 = .ok (.invokevirtual 181, 3) := by decide +kernel
theorem d_CL_caseOf_29 : decode b_CL_caseOf 29 = .ok (.ifCond .eq 5, 3) := by decide +kernel
theorem d_CL_caseOf_32 : decode b_CL_caseOf 32 = .ok (.iload_n 3, 1) := by decide +kernel
theorem d_CL_caseOf_33 : decode b_CL_caseOf 33 = .ok (.ireturn, 1) := by decide +kernel
theorem d_CL_caseOf_34 : decode b_CL_caseOf 34 = .ok (.iinc 3 1, 3) := by decide +kernel
theorem d_CL_caseOf_37 : decode b_CL_caseOf 37 = .ok (.goto (-35), 3) := by decide +kernel
theorem d_CL_caseOf_40 : decode b_CL_caseOf 40 = .ok (.iconst (-1), 1) := by decide +kernel
theorem d_CL_caseOf_41 : decode b_CL_caseOf 41 = .ok (.ireturn, 1) := by decide +kernel
theorem d_CS_isOf_0 : decode b_CS_isOf 0 = .ok (.aload_n 0, 1) := by decide +kernel
theorem d_CS_isOf_1 : decode b_CS_isOf 1 = .ok (.getfield 9, 3) := by decide +kernel
theorem d_CS_isOf_4 : decode b_CS_isOf 4 = .ok (.iload_n 1, 1) := by decide +kernel
theorem d_CS_isOf_5 : decode b_CS_isOf 5 = .ok (.if_icmp .ne 11, 3) := by decide +kernel
theorem d_CS_isOf_8 : decode b_CS_isOf 8 = .ok (.aload_n 0, 1) := by decide +kernel
theorem d_CS_isOf_9 : decode b_CS_isOf 9 = .ok (.getfield 15, 3) := by decide +kernel
theorem d_CS_isOf_12 : decode b_CS_isOf 12 = .ok (.iload_n 2, 1) := by decide +kernel
theorem d_CS_isOf_13 : decode b_CS_isOf 13 = .ok (.if_icmp .eq 19, 3) := by decide +kernel
theorem d_CS_isOf_16 : decode b_CS_isOf 16 = .ok (.aload_n 0, 1) := by decide +kernel
theorem d_CS_isOf_17 : decode b_CS_isOf 17 = .ok (.getfield 9, 3) := by decide +kernel
theorem d_CS_isOf_20 : decode b_CS_isOf 20 = .ok (.iload_n 2, 1) := by decide +kernel
theorem d_CS_isOf_21 : decode b_CS_isOf 21 = .ok (.if_icmp .ne 15, 3) := by decide +kernel
theorem d_CS_isOf_24 : decode b_CS_isOf 24 = .ok (.aload_n 0, 1) := by decide +kernel
theorem d_CS_isOf_25 : decode b_CS_isOf 25 = .ok (.getfield 15, 3) := by decide +kernel
theorem d_CS_isOf_28 : decode b_CS_isOf 28 = .ok (.iload_n 1, 1) := by decide +kernel
theorem d_CS_isOf_29 : decode b_CS_isOf 29 = .ok (.if_icmp .ne 7, 3) := by decide +kernel
theorem d_CS_isOf_32 : decode b_CS_isOf 32 = .ok (.iconst 1, 1) := by decide +kernel
theorem d_CS_isOf_33 : decode b_CS_isOf 33 = .ok (.goto 4, 3) := by decide +kernel
theorem d_CS_isOf_36 : decode b_CS_isOf 36 = .ok (.iconst 0, 1) := by decide +kernel
theorem d_CS_isOf_37 : decode b_CS_isOf 37 = .ok (.ireturn, 1) := by decide +kernel
theorem d_CL_needRoom_0 : decode b_CL_needRoom 0 = .ok (.iload_n 0, 1) := by decide +kernel
theorem d_CL_needRoom_1 : decode b_CL_needRoom 1 = .ok (.iload_n 1, 1) := by decide +kernel
theorem d_CL_needRoom_2 : decode b_CL_needRoom 2 = .ok (.if_icmp .lt 13, 3) := by decide +kernel
theorem d_CL_needRoom_5 : decode b_CL_needRoom 5 = .ok (.new 176, 3) := by decide +kernel
theorem d_CL_needRoom_8 : decode b_CL_needRoom 8 = .ok (.dup, 1) := by decide +kernel
theorem d_CL_needRoom_9 : decode b_CL_needRoom 9 = .ok (.ldc 178, 2) := by decide +kernel
theorem d_CL_needRoom_11 : decode b_CL_needRoom 11 = .ok (.invokespecial 180, 3) := by decide +kernel
theorem d_CL_needRoom_14 : decode b_CL_needRoom 14 = .ok (.athrow, 1) := by decide +kernel
theorem d_CL_needRoom_15 : decode b_CL_needRoom 15 = .ok (.return_, 1) := by decide +kernel
theorem d_CS_init_0 : decode b_CS_init 0 = .ok (.aload_n 0, 1) := by decide +kernel
theorem d_CS_init_1 : decode b_CS_init 1 = .ok (.invokespecial 3, 3) := by decide +kernel
theorem d_CS_init_4 : decode b_CS_init 4 = .ok (.aload_n 0, 1) := by decide +kernel
theorem d_CS_init_5 : decode b_CS_init 5 = .ok (.iload_n 1, 1) := by decide +kernel
theorem d_CS_init_6 : decode b_CS_init 6 = .ok (.putfield 9, 3) := by decide +kernel
theorem d_CS_init_9 : decode b_CS_init 9 = .ok (.aload_n 0, 1) := by decide +kernel
theorem d_CS_init_10 : decode b_CS_init 10 = .ok (.iload_n 2, 1) := by decide +kernel
theorem d_CS_init_11 : decode b_CS_init 11 = .ok (.putfield 15, 3) := by decide +kernel
theorem d_CS_init_14 : decode b_CS_init 14 = .ok (.aload_n 0, 1) := by decide +kernel
theorem d_CS_init_15 : decode b_CS_init 15 = .ok (.bipush 32, 2) := by decide +kernel
theorem d_CS_init_17 : decode b_CS_init 17 = .ok (.newarray .int, 2) := by decide +kernel
theorem d_CS_init_19 : decode b_CS_init 19 = .ok (.putfield 18, 3) := by decide +kernel
theorem d_CS_init_22 : decode b_CS_init 22 = .ok (.aload_n 0, 1) := by decide +kernel
theorem d_CS_init_23 : decode b_CS_init 23 = .ok (.bipush 32, 2) := by decide +kernel
theorem d_CS_init_25 : decode b_CS_init 25 = .ok (.newarray .int, 2) := by decide +kernel
theorem d_CS_init_27 : decode b_CS_init 27 = .ok (.putfield 22, 3) := by decide +kernel
theorem d_CS_init_30 : decode b_CS_init 30 = .ok (.aload_n 0, 1) := by decide +kernel
theorem d_CS_init_31 : decode b_CS_init 31 = .ok (.bipush 32, 2) := by decide +kernel
theorem d_CS_init_33 : decode b_CS_init 33 = .ok (.newarray .boolean, 2) := by decide +kernel
theorem d_CS_init_35 : decode b_CS_init 35 = .ok (.putfield 25, 3) := by decide +kernel
theorem d_CS_init_38 : decode b_CS_init 38 = .ok (.aload_n 0, 1) := by decide +kernel
theorem d_CS_init_39 : decode b_CS_init 39 = .ok (.iconst 0, 1) := by decide +kernel
theorem d_CS_init_40 : decode b_CS_init 40 = .ok (.putfield 29, 3) := by decide +kernel
theorem d_CS_init_43 : decode b_CS_init 43 = .ok (.return_, 1) := by decide +kernel
theorem d_CL_act_0 : decode b_CL_act 0 = .ok (.iload_n 1, 1) := by decide +kernel
theorem d_CL_act_1 : decode b_CL_act 1 = .ok (.bipush 10, 2) := by decide +kernel
theorem d_CL_act_3 : decode b_CL_act 3 = .ok (.invokestatic 53, 3) := by decide +kernel
theorem d_CL_act_6 : decode b_CL_act 6 = .ok (.iload_n 2, 1) := by decide +kernel
theorem d_CL_act_7 : decode b_CL_act 7 = .ok (.iconst 1, 1) := by decide +kernel
theorem d_CL_act_8 : decode b_CL_act 8 = .ok (.sipush 10000, 3) := by decide +kernel
theorem d_CL_act_11 : decode b_CL_act 11 = .ok (.invokestatic 78, 3) := by decide +kernel
theorem d_CL_act_14 : decode b_CL_act 14 = .ok (.aload_n 0, 1) := by decide +kernel
theorem d_CL_act_15 : decode b_CL_act 15 = .ok (.getfield 39, 3) := by decide +kernel
theorem d_CL_act_18 : decode b_CL_act 18 = .ok (.invokevirtual 82, 3) := by decide +kernel
theorem d_CL_act_21 : decode b_CL_act 21 = .ok (.bipush 8, 2) := by decide +kernel
theorem d_CL_act_23 : decode b_CL_act 23 = .ok (.invokestatic 67, 3) := by decide +kernel
theorem d_CL_act_26 : decode b_CL_act 26 = .ok (.aload_n 0, 1) := by decide +kernel
theorem d_CL_act_27 : decode b_CL_act 27 = .ok (.getfield 39, 3) := by decide +kernel
theorem d_CL_act_30 : decode b_CL_act 30 = .ok (.iload_n 1, 1) := by decide +kernel
theorem d_CL_act_31 : decode b_CL_act 31 = .ok (.iload_n 2, 1) := by decide +kernel
theorem d_CL_act_32 : decode b_CL_act 32 = .ok (.invokevirtual 85, 3) := by decide +kernel
theorem d_CL_act_35 : decode b_CL_act 35 = .ok (.ireturn, 1) := by decide +kernel
theorem d_TU_actCount_0 : decode b_TU_actCount 0 = .ok (.aload_n 0, 1) := by decide +kernel
theorem d_TU_actCount_1 : decode b_TU_actCount 1 = .ok (.getfield 27, 3) := by decide +kernel
theorem d_TU_actCount_4 : decode b_TU_actCount 4 = .ok (.ireturn, 1) := by decide +kernel
theorem d_TU_addAct_0 : decode b_TU_addAct 0 = .ok (.aload_n 0, 1) := by decide +kernel
theorem d_TU_addAct_1 : decode b_TU_addAct 1 = .ok (.getfield 27, 3) := by decide +kernel
theorem d_TU_addAct_4 : decode b_TU_addAct 4 = .ok (.bipush 8, 2) := by decide +kernel
theorem d_TU_addAct_6 : decode b_TU_addAct 6 = .ok (.if_icmp .lt 5, 3) := by decide +kernel
theorem d_TU_addAct_9 : decode b_TU_addAct 9 = .ok (.iconst (-1), 1) := by decide +kernel
theorem d_TU_addAct_10 : decode b_TU_addAct 10 = .ok (.ireturn, 1) := by decide +kernel
theorem d_TU_addAct_11 : decode b_TU_addAct 11 = .ok (.aload_n 0, 1) := by decide +kernel
theorem d_TU_addAct_12 : decode b_TU_addAct 12 = .ok (.getfield 9, 3) := by decide +kernel
theorem d_TU_addAct_15 : decode b_TU_addAct 15 = .ok (.aload_n 0, 1) := by decide +kernel
theorem d_TU_addAct_16 : decode b_TU_addAct 16 = .ok (.getfield 27, 3) := by decide +kernel
theorem d_TU_addAct_19 : decode b_TU_addAct 19 = .ok (.iload_n 1, 1) := by decide +kernel
theorem d_TU_addAct_20 : decode b_TU_addAct 20 = .ok (.iastore, 1) := by decide +kernel
theorem d_TU_addAct_21 : decode b_TU_addAct 21 = .ok (.aload_n 0, 1) := by decide +kernel
theorem d_TU_addAct_22 : decode b_TU_addAct 22 = .ok (.getfield 15, 3) := by decide +kernel
theorem d_TU_addAct_25 : decode b_TU_addAct 25 = .ok (.aload_n 0, 1) := by decide +kernel
theorem d_TU_addAct_26 : decode b_TU_addAct 26 = .ok (.getfield 27, 3) := by decide +kernel
theorem d_TU_addAct_29 : decode b_TU_addAct 29 = .ok (.iload_n 2, 1) := by decide +kernel
theorem d_TU_addAct_30 : decode b_TU_addAct 30 = .ok (.iastore, 1) := by decide +kernel
theorem d_TU_addAct_31 : decode b_TU_addAct 31 = .ok (.aload_n 0, 1) := by decide +kernel
theorem d_TU_addAct_32 : decode b_TU_addAct 32 = .ok (.dup, 1) := by decide +kernel
theorem d_TU_addAct_33 : decode b_TU_addAct 33 = .ok (.getfield 27, 3) := by decide +kernel
theorem d_TU_addAct_36 : decode b_TU_addAct 36 = .ok (.iconst 1, 1) := by decide +kernel
theorem d_TU_addAct_37 : decode b_TU_addAct 37 = .ok (.iadd, 1) := by decide +kernel
theorem d_TU_addAct_38 : decode b_TU_addAct 38 = .ok (.putfield 27, 3) := by decide +kernel
theorem d_TU_addAct_41 : decode b_TU_addAct 41 = .ok (.aload_n 0, 1) := by decide +kernel
theorem d_TU_addAct_42 : decode b_TU_addAct 42 = .ok (.getfield 27, 3) := by decide +kernel
theorem d_TU_addAct_45 : decode b_TU_addAct 45 = .ok (.iconst 1, 1) := by decide +kernel
theorem d_TU_addAct_46 : decode b_TU_addAct 46 = .ok (.isub, 1) := by decide +kernel
theorem d_TU_addAct_47 : decode b_TU_addAct 47 = .ok (.ireturn, 1) := by decide +kernel
theorem d_CL_shows_0 : decode b_CL_shows 0 = .ok (.iload_n 1, 1) := by decide +kernel
theorem d_CL_shows_1 : decode b_CL_shows 1 = .ok (.aload_n 0, 1) := by decide +kernel
theorem d_CL_shows_2 : decode b_CL_shows 2 = .ok (.getfield 39, 3) := by decide +kernel
theorem d_CL_shows_5 : decode b_CL_shows 5 = .ok (.invokevirtual 82, 3) := by decide +kernel
theorem d_CL_shows_8 : decode b_CL_shows 8 = .ok (.invokestatic 53, 3) := by decide +kernel
theorem d_CL_shows_11 : decode b_CL_shows 11 = .ok (.iload_n 2, 1) := by decide +kernel
theorem d_CL_shows_12 : decode b_CL_shows 12 = .ok (.aload_n 0, 1) := by decide +kernel
theorem d_CL_shows_13 : decode b_CL_shows 13 = .ok (.getfield 25, 3) := by decide +kernel
theorem d_CL_shows_16 : decode b_CL_shows 16 = .ok (.invokevirtual 63, 3) := by decide +kernel
theorem d_CL_shows_19 : decode b_CL_shows 19 = .ok (.invokestatic 53, 3) := by decide +kernel
theorem d_CL_shows_22 : decode b_CL_shows 22 = .ok (.aload_n 0, 1) := by decide +kernel
theorem d_CL_shows_23 : decode b_CL_shows 23 = .ok (.getfield 39, 3) := by decide +kernel
theorem d_CL_shows_26 : decode b_CL_shows 26 = .ok (.iload_n 1, 1) := by decide +kernel
theorem d_CL_shows_27 : decode b_CL_shows 27 = .ok (.iload_n 2, 1) := by decide +kernel
theorem d_CL_shows_28 : decode b_CL_shows 28 = .ok (.iload_n 3, 1) := by decide +kernel
theorem d_CL_shows_29 : decode b_CL_shows 29 = .ok (.invokevirtual 88, 3) := by decide +kernel
theorem d_CL_shows_32 : decode b_CL_shows 32 = .ok (.ireturn, 1) := by decide +kernel
theorem d_TU_setShown_0 : decode b_TU_setShown 0 = .ok (.aload_n 0, 1) := by decide +kernel
theorem d_TU_setShown_1 : decode b_TU_setShown 1 = .ok (.getfield 18, 3) := by decide +kernel
theorem d_TU_setShown_4 : decode b_TU_setShown 4 = .ok (.iload_n 1, 1) := by decide +kernel
theorem d_TU_setShown_5 : decode b_TU_setShown 5 = .ok (.iaload, 1) := by decide +kernel
theorem d_TU_setShown_6 : decode b_TU_setShown 6 = .ok (.iload_n 2, 1) := by decide +kernel
theorem d_TU_setShown_7 : decode b_TU_setShown 7 = .ok (.invokestatic 31, 3) := by decide +kernel
theorem d_TU_setShown_10 : decode b_TU_setShown 10 = .ok (.istore 4, 2) := by decide +kernel
theorem d_TU_setShown_12 : decode b_TU_setShown 12 = .ok (.iload_n 3, 1) := by decide +kernel
theorem d_TU_setShown_13 : decode b_TU_setShown 13 = .ok (.ifCond .eq 18, 3) := by decide +kernel
theorem d_TU_setShown_16 : decode b_TU_setShown 16 = .ok (.aload_n 0, 1) := by decide +kernel
theorem d_TU_setShown_17 : decode b_TU_setShown 17 = .ok (.getfield 18, 3) := by decide +kernel
theorem d_TU_setShown_20 : decode b_TU_setShown 20 = .ok (.iload_n 1, 1) := by decide +kernel
theorem d_TU_setShown_21 : decode b_TU_setShown 21 = .ok (.dup2, 1) := by decide +kernel
theorem d_TU_setShown_22 : decode b_TU_setShown 22 = .ok (.iaload, 1) := by decide +kernel
theorem d_TU_setShown_23 : decode b_TU_setShown 23 = .ok (.iconst 1, 1) := by decide +kernel
theorem d_TU_setShown_24 : decode b_TU_setShown 24 = .ok (.iload_n 2, 1) := by decide +kernel
theorem d_TU_setShown_25 : decode b_TU_setShown 25 = .ok (.ishl, 1) := by decide +kernel
theorem d_TU_setShown_26 : decode b_TU_setShown 26 = .ok (.ior, 1) := by decide +kernel
theorem d_TU_setShown_27 : decode b_TU_setShown 27 = .ok (.iastore, 1) := by decide +kernel
theorem d_TU_setShown_28 : decode b_TU_setShown 28 = .ok (.goto 17, 3) := by decide +kernel
theorem d_TU_setShown_31 : decode b_TU_setShown 31 = .ok (.aload_n 0, 1) := by decide +kernel
theorem d_TU_setShown_32 : decode b_TU_setShown 32 = .ok (.getfield 18, 3) := by decide +kernel
theorem d_TU_setShown_35 : decode b_TU_setShown 35 = .ok (.iload_n 1, 1) := by decide +kernel
theorem d_TU_setShown_36 : decode b_TU_setShown 36 = .ok (.dup2, 1) := by decide +kernel
theorem d_TU_setShown_37 : decode b_TU_setShown 37 = .ok (.iaload, 1) := by decide +kernel
theorem d_TU_setShown_38 : decode b_TU_setShown 38 = .ok (.iconst 1, 1) := by decide +kernel
theorem d_TU_setShown_39 : decode b_TU_setShown 39 = .ok (.iload_n 2, 1) := by decide +kernel
theorem d_TU_setShown_40 : decode b_TU_setShown 40 = .ok (.ishl, 1) := by decide +kernel
theorem d_TU_setShown_41 : decode b_TU_setShown 41 = .ok (.iconst (-1), 1) := by decide +kernel
theorem d_TU_setShown_42 : decode b_TU_setShown 42 = .ok (.ixor, 1) := by decide +kernel
theorem d_TU_setShown_43 : decode b_TU_setShown 43 = .ok (.iand, 1) := by decide +kernel
theorem d_TU_setShown_44 : decode b_TU_setShown 44 = .ok (.iastore, 1) := by decide +kernel
theorem d_TU_setShown_45 : decode b_TU_setShown 45 = .ok (.iload 4, 2) := by decide +kernel
theorem d_TU_setShown_47 : decode b_TU_setShown 47 = .ok (.ireturn, 1) := by decide +kernel
theorem d_CL_holds_0 : decode b_CL_holds 0 = .ok (.iload_n 0, 1) := by decide +kernel
theorem d_CL_holds_1 : decode b_CL_holds 1 = .ok (.iconst 1, 1) := by decide +kernel
theorem d_CL_holds_2 : decode b_CL_holds 2 = .ok (.iload_n 1, 1) := by decide +kernel
theorem d_CL_holds_3 : decode b_CL_holds 3 = .ok (.ishl, 1) := by decide +kernel
theorem d_CL_holds_4 : decode b_CL_holds 4 = .ok (.iand, 1) := by decide +kernel
theorem d_CL_holds_5 : decode b_CL_holds 5 = .ok (.ifCond .eq 7, 3) := by decide +kernel
theorem d_CL_holds_8 : decode b_CL_holds 8 = .ok (.iconst 1, 1) := by decide +kernel
theorem d_CL_holds_9 : decode b_CL_holds 9 = .ok (.goto 4, 3) := by decide +kernel
theorem d_CL_holds_12 : decode b_CL_holds 12 = .ok (.iconst 0, 1) := by decide +kernel
theorem d_CL_holds_13 : decode b_CL_holds 13 = .ok (.ireturn, 1) := by decide +kernel
theorem d_CL_way_0 : decode b_CL_way 0 = .ok (.iload_n 1, 1) := by decide +kernel
theorem d_CL_way_1 : decode b_CL_way 1 = .ok (.bipush 10, 2) := by decide +kernel
theorem d_CL_way_3 : decode b_CL_way 3 = .ok (.invokestatic 53, 3) := by decide +kernel
theorem d_CL_way_6 : decode b_CL_way 6 = .ok (.iload_n 2, 1) := by decide +kernel
theorem d_CL_way_7 : decode b_CL_way 7 = .ok (.bipush 10, 2) := by decide +kernel
theorem d_CL_way_9 : decode b_CL_way 9 = .ok (.invokestatic 53, 3) := by decide +kernel
theorem d_CL_way_12 : decode b_CL_way 12 = .ok (.iload_n 1, 1) := by decide +kernel
theorem d_CL_way_13 : decode b_CL_way 13 = .ok (.iload_n 2, 1) := by decide +kernel
theorem d_CL_way_14 : decode b_CL_way 14 = .ok (.invokestatic 57, 3) := by decide +kernel
theorem d_CL_way_17 : decode b_CL_way 17 = .ok (.iload_n 3, 1) := by decide +kernel
theorem d_CL_way_18 : decode b_CL_way 18 = .ok (.iconst 0, 1) := by decide +kernel
theorem d_CL_way_19 : decode b_CL_way 19 = .ok (.sipush 10000, 3) := by decide +kernel
theorem d_CL_way_22 : decode b_CL_way 22 = .ok (.invokestatic 78, 3) := by decide +kernel
theorem d_CL_way_25 : decode b_CL_way 25 = .ok (.aload_n 0, 1) := by decide +kernel
theorem d_CL_way_26 : decode b_CL_way 26 = .ok (.getfield 39, 3) := by decide +kernel
theorem d_CL_way_29 : decode b_CL_way 29 = .ok (.iload_n 1, 1) := by decide +kernel
theorem d_CL_way_30 : decode b_CL_way 30 = .ok (.iload_n 2, 1) := by decide +kernel
theorem d_CL_way_31 : decode b_CL_way 31 = .ok (.iload_n 3, 1) := by decide +kernel
theorem d_CL_way_32 : decode b_CL_way 32 = .ok (.invokevirtual 92, 3) := by decide +kernel
theorem d_CL_way_35 : decode b_CL_way 35 = .ok (.ireturn, 1) := by decide +kernel
theorem d_TU_setWay_0 : decode b_TU_setWay 0 = .ok (.aload_n 0, 1) := by decide +kernel
theorem d_TU_setWay_1 : decode b_TU_setWay 1 = .ok (.getfield 21, 3) := by decide +kernel
theorem d_TU_setWay_4 : decode b_TU_setWay 4 = .ok (.iload_n 1, 1) := by decide +kernel
theorem d_TU_setWay_5 : decode b_TU_setWay 5 = .ok (.bipush 10, 2) := by decide +kernel
theorem d_TU_setWay_7 : decode b_TU_setWay 7 = .ok (.imul, 1) := by decide +kernel
theorem d_TU_setWay_8 : decode b_TU_setWay 8 = .ok (.iload_n 2, 1) := by decide +kernel
theorem d_TU_setWay_9 : decode b_TU_setWay 9 = .ok (.iadd, 1) := by decide +kernel
theorem d_TU_setWay_10 : decode b_TU_setWay 10 = .ok (.iaload, 1) := by decide +kernel
theorem d_TU_setWay_11 : decode b_TU_setWay 11 = .ok (.istore 4, 2) := by decide +kernel
theorem d_TU_setWay_13 : decode b_TU_setWay 13 = .ok (.aload_n 0, 1) := by decide +kernel
theorem d_TU_setWay_14 : decode b_TU_setWay 14 = .ok (.getfield 21, 3) := by decide +kernel
theorem d_TU_setWay_17 : decode b_TU_setWay 17 = .ok (.iload_n 1, 1) := by decide +kernel
theorem d_TU_setWay_18 : decode b_TU_setWay 18 = .ok (.bipush 10, 2) := by decide +kernel
theorem d_TU_setWay_20 : decode b_TU_setWay 20 = .ok (.imul, 1) := by decide +kernel
theorem d_TU_setWay_21 : decode b_TU_setWay 21 = .ok (.iload_n 2, 1) := by decide +kernel
theorem d_TU_setWay_22 : decode b_TU_setWay 22 = .ok (.iadd, 1) := by decide +kernel
theorem d_TU_setWay_23 : decode b_TU_setWay 23 = .ok (.iload_n 3, 1) := by decide +kernel
theorem d_TU_setWay_24 : decode b_TU_setWay 24 = .ok (.iastore, 1) := by decide +kernel
theorem d_TU_setWay_25 : decode b_TU_setWay 25 = .ok (.aload_n 0, 1) := by decide +kernel
theorem d_TU_setWay_26 : decode b_TU_setWay 26 = .ok (.getfield 21, 3) := by decide +kernel
theorem d_TU_setWay_29 : decode b_TU_setWay 29 = .ok (.iload_n 2, 1) := by decide +kernel
theorem d_TU_setWay_30 : decode b_TU_setWay 30 = .ok (.bipush 10, 2) := by decide +kernel
theorem d_TU_setWay_32 : decode b_TU_setWay 32 = .ok (.imul, 1) := by decide +kernel
theorem d_TU_setWay_33 : decode b_TU_setWay 33 = .ok (.iload_n 1, 1) := by decide +kernel
theorem d_TU_setWay_34 : decode b_TU_setWay 34 = .ok (.iadd, 1) := by decide +kernel
theorem d_TU_setWay_35 : decode b_TU_setWay 35 = .ok (.iload_n 3, 1) := by decide +kernel
theorem d_TU_setWay_36 : decode b_TU_setWay 36 = .ok (.iastore, 1) := by decide +kernel
theorem d_TU_setWay_37 : decode b_TU_setWay 37 = .ok (.iload 4, 2) := by decide +kernel
theorem d_TU_setWay_39 : decode b_TU_setWay 39 = .ok (.ireturn, 1) := by decide +kernel
theorem d_CL_change_0 : decode b_CL_change 0 = .ok (.iload_n 1, 1) := by decide +kernel
theorem d_CL_change_1 : decode b_CL_change 1 = .ok (.bipush 30, 2) := by decide +kernel
theorem d_CL_change_3 : decode b_CL_change 3 = .ok (.invokestatic 53, 3) := by decide +kernel
theorem d_CL_change_6 : decode b_CL_change 6 = .ok (.iload_n 2, 1) := by decide +kernel
theorem d_CL_change_7 : decode b_CL_change 7 = .ok (.invokestatic 96, 3) := by decide +kernel
theorem d_CL_change_10 : decode b_CL_change 10 = .ok (.aload_n 0, 1) := by decide +kernel
theorem d_CL_change_11 : decode b_CL_change 11 = .ok (.iload_n 1, 1) := by decide +kernel
theorem d_CL_change_12 : decode b_CL_change 12 = .ok (.invokevirtual 100, 3) := by decide +kernel
theorem d_CL_change_15 : decode b_CL_change 15 = .ok (.istore_n 3, 1) := by decide +kernel
theorem d_CL_change_16 : decode b_CL_change 16 = .ok (.aload_n 0, 1) := by decide +kernel
theorem d_CL_change_17 : decode b_CL_change 17 = .ok (.getfield 32, 3) := by decide +kernel
theorem d_CL_change_20 : decode b_CL_change 20 = .ok (.iload_n 2, 1) := by decide +kernel
theorem d_CL_change_21 : decode b_CL_change 21 = .ok (.iload_n 3, 1) := by decide +kernel
theorem d_CL_change_22 : decode b_CL_change 22 = .ok (.invokevirtual 104, 3) := by decide +kernel
theorem d_CL_change_25 : decode b_CL_change 25 = .ok (.iload_n 3, 1) := by decide +kernel
theorem d_CL_change_26 : decode b_CL_change 26 = .ok (.invokestatic 107, 3) := by decide +kernel
theorem d_CL_change_29 : decode b_CL_change 29 = .ok (.ireturn, 1) := by decide +kernel
theorem d_CL_needDay_0 : decode b_CL_needDay 0 = .ok (.iload_n 0, 1) := by decide +kernel
theorem d_CL_needDay_1 : decode b_CL_needDay 1 = .ok (.iconst 0, 1) := by decide +kernel
theorem d_CL_needDay_2 : decode b_CL_needDay 2 = .ok (.ldc 165, 2) := by decide +kernel
theorem d_CL_needDay_4 : decode b_CL_needDay 4 = .ok (.invokestatic 78, 3) := by decide +kernel
theorem d_CL_needDay_7 : decode b_CL_needDay 7 = .ok (.return_, 1) := by decide +kernel
theorem d_CL_casesWith_0 : decode b_CL_casesWith 0 = .ok (.iconst 0, 1) := by decide +kernel
theorem d_CL_casesWith_1 : decode b_CL_casesWith 1 = .ok (.istore_n 2, 1) := by decide +kernel
theorem d_CL_casesWith_2 : decode b_CL_casesWith 2 = .ok (.iconst 0, 1) := by decide +kernel
theorem d_CL_casesWith_3 : decode b_CL_casesWith 3 = .ok (.istore_n 3, 1) := by decide +kernel
theorem d_CL_casesWith_4 : decode b_CL_casesWith 4 = .ok (.iload_n 3, 1) := by decide +kernel
theorem d_CL_casesWith_5 : decode b_CL_casesWith 5 = .ok (.aload_n 0, 1) := by decide +kernel
theorem d_CL_casesWith_6 : decode b_CL_casesWith 6 = .ok (.getfield 25, 3) := by decide +kernel
theorem d_CL_casesWith_9 : decode b_CL_casesWith 9 = .ok (.invokevirtual 63, 3) := by decide +kernel
theorem d_CL_casesWith_12 : decode b_CL_casesWith 12 = .ok (.if_icmp .ge 33, 3) := by decide +kernel
theorem d_CL_casesWith_15 : decode b_CL_casesWith 15 = .ok (.aload_n 0, 1) := by decide +kernel
theorem d_CL_casesWith_16 : decode b_CL_casesWith 16 = .ok (.getfield 25, 3) := by decide +kernel
theorem d_CL_casesWith_19 : decode b_CL_casesWith 19 = .ok (.iload_n 3, 1) := by decide +kernel
theorem d_CL_casesWith_20 : decode b_CL_casesWith 20 = .ok (.invokevirtual 112, 3) := by decide +kernel
theorem d_CL_casesWith_23 : decode b_CL_casesWith 23 = .ok (.checkcast 70, 3) := by decide +kernel
theorem d_CL_casesWith_26 : decode b_CL_casesWith 26 = .ok (.iload_n 1, 1) := by decide +kernel
theorem d_CL_casesWith_27 : decode b_CL_casesWith 27 = .ok (.invokevirtual 184, 3) := by decide +kernel
theorem d_CL_casesWith_30 : decode b_CL_casesWith 30 = .ok (.ifCond .eq 9, 3) := by decide +kernel
theorem d_CL_casesWith_33 : decode b_CL_casesWith 33 = .ok (.iload_n 2, 1) := by decide +kernel
theorem d_CL_casesWith_34 : decode b_CL_casesWith 34 = .ok (.iconst 1, 1) := by decide +kernel
theorem d_CL_casesWith_35 : decode b_CL_casesWith 35 = .ok (.iload_n 3, 1) := by decide +kernel
theorem d_CL_casesWith_36 : decode b_CL_casesWith 36 = .ok (.ishl, 1) := by decide +kernel
theorem d_CL_casesWith_37 : decode b_CL_casesWith 37 = .ok (.ior, 1) := by decide +kernel
theorem d_CL_casesWith_38 : decode b_CL_casesWith 38 = .ok (.istore_n 2, 1) := by decide +kernel
theorem d_CL_casesWith_39 : decode b_CL_casesWith 39 = .ok (.iinc 3 1, 3) := by decide +kernel
theorem d_CL_casesWith_42 : decode b_CL_casesWith 42 = .ok (.goto (-38), 3) := by decide +kernel
theorem d_CL_casesWith_45 : decode b_CL_casesWith 45 = .ok (.iload_n 2, 1) := by decide +kernel
theorem d_CL_casesWith_46 : decode b_CL_casesWith 46 = .ok (.ireturn, 1) := by decide +kernel
theorem d_CS_has_0 : decode b_CS_has 0 = .ok (.aload_n 0, 1) := by decide +kernel
theorem d_CS_has_1 : decode b_CS_has 1 = .ok (.getfield 9, 3) := by decide +kernel
theorem d_CS_has_4 : decode b_CS_has 4 = .ok (.iload_n 1, 1) := by decide +kernel
theorem d_CS_has_5 : decode b_CS_has 5 = .ok (.if_icmp .eq 11, 3) := by decide +kernel
theorem d_CS_has_8 : decode b_CS_has 8 = .ok (.aload_n 0, 1) := by decide +kernel
theorem d_CS_has_9 : decode b_CS_has 9 = .ok (.getfield 15, 3) := by decide +kernel
theorem d_CS_has_12 : decode b_CS_has 12 = .ok (.iload_n 1, 1) := by decide +kernel
theorem d_CS_has_13 : decode b_CS_has 13 = .ok (.if_icmp .ne 7, 3) := by decide +kernel
theorem d_CS_has_16 : decode b_CS_has 16 = .ok (.iconst 1, 1) := by decide +kernel
theorem d_CS_has_17 : decode b_CS_has 17 = .ok (.goto 4, 3) := by decide +kernel
theorem d_CS_has_20 : decode b_CS_has 20 = .ok (.iconst 0, 1) := by decide +kernel
theorem d_CS_has_21 : decode b_CS_has 21 = .ok (.ireturn, 1) := by decide +kernel
theorem d_TL_note_0 : decode b_TL_note 0 = .ok (.iconst 0, 1) := by decide +kernel
theorem d_TL_note_1 : decode b_TL_note 1 = .ok (.istore_n 3, 1) := by decide +kernel
theorem d_TL_note_2 : decode b_TL_note 2 = .ok (.iload_n 3, 1) := by decide +kernel
theorem d_TL_note_3 : decode b_TL_note 3 = .ok (.aload_n 0, 1) := by decide +kernel
theorem d_TL_note_4 : decode b_TL_note 4 = .ok (.getfield 18, 3) := by decide +kernel
theorem d_TL_note_7 : decode b_TL_note 7 = .ok (.if_icmp .ge 30, 3) := by decide +kernel
theorem d_TL_note_10 : decode b_TL_note 10 = .ok (.aload_n 0, 1) := by decide +kernel
theorem d_TL_note_11 : decode b_TL_note 11 = .ok (.getfield 9, 3) := by decide +kernel
theorem d_TL_note_14 : decode b_TL_note 14 = .ok (.iload_n 3, 1) := by decide +kernel
theorem d_TL_note_15 : decode b_TL_note 15 = .ok (.iaload, 1) := by decide +kernel
theorem d_TL_note_16 : decode b_TL_note 16 = .ok (.iload_n 1, 1) := by decide +kernel
theorem d_TL_note_17 : decode b_TL_note 17 = .ok (.if_icmp .ne 14, 3) := by decide +kernel
theorem d_TL_note_20 : decode b_TL_note 20 = .ok (.aload_n 0, 1) := by decide +kernel
theorem d_TL_note_21 : decode b_TL_note 21 = .ok (.getfield 15, 3) := by decide +kernel
theorem d_TL_note_24 : decode b_TL_note 24 = .ok (.iload_n 3, 1) := by decide +kernel
theorem d_TL_note_25 : decode b_TL_note 25 = .ok (.dup2, 1) := by decide +kernel
theorem d_TL_note_26 : decode b_TL_note 26 = .ok (.iaload, 1) := by decide +kernel
theorem d_TL_note_27 : decode b_TL_note 27 = .ok (.iload_n 2, 1) := by decide +kernel
theorem d_TL_note_28 : decode b_TL_note 28 = .ok (.ior, 1) := by decide +kernel
theorem d_TL_note_29 : decode b_TL_note 29 = .ok (.iastore, 1) := by decide +kernel
theorem d_TL_note_30 : decode b_TL_note 30 = .ok (.return_, 1) := by decide +kernel
theorem d_TL_note_31 : decode b_TL_note 31 = .ok (.iinc 3 1, 3) := by decide +kernel
theorem d_TL_note_34 : decode b_TL_note 34 = .ok (.goto (-32), 3) := by decide +kernel
theorem d_TL_note_37 : decode b_TL_note 37 = .ok (.iload_n 2, 1) := by decide +kernel
theorem d_TL_note_38 : decode b_TL_note 38 = .ok (.ifCond .eq 43, 3) := by decide +kernel
theorem d_TL_note_41 : decode b_TL_note 41 = .ok (.aload_n 0, 1) := by decide +kernel
theorem d_TL_note_42 : decode b_TL_note 42 = .ok (.getfield 18, 3) := by decide +kernel
theorem d_TL_note_45 : decode b_TL_note 45 = .ok (.sipush 512, 3) := by decide +kernel
theorem d_TL_note_48 : decode b_TL_note 48 = .ok (.if_icmp .ge 33, 3) := by decide +kernel
theorem d_TL_note_51 : decode b_TL_note 51 = .ok (.aload_n 0, 1) := by decide +kernel
theorem d_TL_note_52 : decode b_TL_note 52 = .ok (.getfield 9, 3) := by decide +kernel
theorem d_TL_note_55 : decode b_TL_note 55 = .ok (.aload_n 0, 1) := by decide +kernel
theorem d_TL_note_56 : decode b_TL_note 56 = .ok (.getfield 18, 3) := by decide +kernel
theorem d_TL_note_59 : decode b_TL_note 59 = .ok (.iload_n 1, 1) := by decide +kernel
theorem d_TL_note_60 : decode b_TL_note 60 = .ok (.iastore, 1) := by decide +kernel
theorem d_TL_note_61 : decode b_TL_note 61 = .ok (.aload_n 0, 1) := by decide +kernel
theorem d_TL_note_62 : decode b_TL_note 62 = .ok (.getfield 15, 3) := by decide +kernel
theorem d_TL_note_65 : decode b_TL_note 65 = .ok (.aload_n 0, 1) := by decide +kernel
theorem d_TL_note_66 : decode b_TL_note 66 = .ok (.getfield 18, 3) := by decide +kernel
theorem d_TL_note_69 : decode b_TL_note 69 = .ok (.iload_n 2, 1) := by decide +kernel
theorem d_TL_note_70 : decode b_TL_note 70 = .ok (.iastore, 1) := by decide +kernel
theorem d_TL_note_71 : decode b_TL_note 71 = .ok (.aload_n 0, 1) := by decide +kernel
theorem d_TL_note_72 : decode b_TL_note 72 = .ok (.dup, 1) := by decide +kernel
theorem d_TL_note_73 : decode b_TL_note 73 = .ok (.getfield 18, 3) := by decide +kernel
theorem d_TL_note_76 : decode b_TL_note 76 = .ok (.iconst 1, 1) := by decide +kernel
theorem d_TL_note_77 : decode b_TL_note 77 = .ok (.iadd, 1) := by decide +kernel
theorem d_TL_note_78 : decode b_TL_note 78 = .ok (.putfield 18, 3) := by decide +kernel
theorem d_TL_note_81 : decode b_TL_note 81 = .ok (.return_, 1) := by decide +kernel
theorem d_CL_result_0 : decode b_CL_result 0 = .ok (.iload_n 1, 1) := by decide +kernel
theorem d_CL_result_1 : decode b_CL_result 1 = .ok (.aload_n 0, 1) := by decide +kernel
theorem d_CL_result_2 : decode b_CL_result 2 = .ok (.getfield 25, 3) := by decide +kernel
theorem d_CL_result_5 : decode b_CL_result 5 = .ok (.invokevirtual 63, 3) := by decide +kernel
theorem d_CL_result_8 : decode b_CL_result 8 = .ok (.invokestatic 53, 3) := by decide +kernel
theorem d_CL_result_11 : decode b_CL_result 11 = .ok (.iload_n 2, 1) := by decide +kernel
theorem d_CL_result_12 : decode b_CL_result 12 = .ok (.bipush 10, 2) := by decide +kernel
theorem d_CL_result_14 : decode b_CL_result 14 = .ok (.invokestatic 53, 3) := by decide +kernel
theorem d_CL_result_17 : decode b_CL_result 17 = .ok (.iload_n 3, 1) := by decide +kernel
theorem d_CL_result_18 : decode b_CL_result 18 = .ok (.invokestatic 96, 3) := by decide +kernel
theorem d_CL_result_21 : decode b_CL_result 21 = .ok (.aload_n 0, 1) := by decide +kernel
theorem d_CL_result_22 : decode b_CL_result 22 = .ok (.getfield 25, 3) := by decide +kernel
theorem d_CL_result_25 : decode b_CL_result 25 = .ok (.iload_n 1, 1) := by decide +kernel
theorem d_CL_result_26 : decode b_CL_result 26 = .ok (.invokevirtual 112, 3) := by decide +kernel
theorem d_CL_result_29 : decode b_CL_result 29 = .ok (.checkcast 70, 3) := by decide +kernel
theorem d_CL_result_32 : decode b_CL_result 32 = .ok (.astore 5, 2) := by decide +kernel
theorem d_CL_result_34 : decode b_CL_result 34 = .ok (.aload 5, 2) := by decide +kernel
theorem d_CL_result_36 : decode b_CL_result 36 = .ok (.iload_n 2, 1) := by decide +kernel
theorem d_CL_result_37 : decode b_CL_result 37 = .ok (.iload_n 3, 1) := by decide +kernel
theorem d_CL_result_38 : decode b_CL_result 38 = .ok (.invokevirtual 116, 3) := by decide +kernel
theorem d_CL_result_41 : decode b_CL_result 41 = .ok (.istore 6, 2) := by decide +kernel
theorem d_CL_result_43 : decode b_CL_result 43 = .ok (.iload 6, 2) := by decide +kernel
theorem d_CL_result_45 : decode b_CL_result 45 = .ok (.bipush 32, 2) := by decide +kernel
theorem d_CL_result_47 : decode b_CL_result 47 = .ok (.invokestatic 67, 3) := by decide +kernel
theorem d_CL_result_50 : decode b_CL_result 50 = .ok (.aload 5, 2) := by decide +kernel
theorem d_CL_result_52 : decode b_CL_result 52 = .ok (.iload 6, 2) := by decide +kernel
theorem d_CL_result_54 : decode b_CL_result 54 = .ok (.iload_n 2, 1) := by decide +kernel
theorem d_CL_result_55 : decode b_CL_result 55 = .ok (.iload_n 3, 1) := by decide +kernel
theorem d_CL_result_56 : decode b_CL_result 56 = .ok (.iload 4, 2) := by decide +kernel
theorem d_CL_result_58 : decode b_CL_result 58 = .ok (.invokevirtual 119, 3) := by decide +kernel
theorem d_CL_result_61 : decode b_CL_result 61 = .ok (.aload 5, 2) := by decide +kernel
theorem d_CL_result_63 : decode b_CL_result 63 = .ok (.invokevirtual 123, 3) := by decide +kernel
theorem d_CL_result_66 : decode b_CL_result 66 = .ok (.ireturn, 1) := by decide +kernel
theorem d_CS_rowOf_0 : decode b_CS_rowOf 0 = .ok (.iconst 0, 1) := by decide +kernel
theorem d_CS_rowOf_1 : decode b_CS_rowOf 1 = .ok (.istore_n 3, 1) := by decide +kernel
theorem d_CS_rowOf_2 : decode b_CS_rowOf 2 = .ok (.iload_n 3, 1) := by decide +kernel
theorem d_CS_rowOf_3 : decode b_CS_rowOf 3 = .ok (.aload_n 0, 1) := by decide +kernel
theorem d_CS_rowOf_4 : decode b_CS_rowOf 4 = .ok (.getfield 29, 3) := by decide +kernel
theorem d_CS_rowOf_7 : decode b_CS_rowOf 7 = .ok (.if_icmp .ge 31, 3) := by decide +kernel
theorem d_CS_rowOf_10 : decode b_CS_rowOf 10 = .ok (.aload_n 0, 1) := by decide +kernel
theorem d_CS_rowOf_11 : decode b_CS_rowOf 11 = .ok (.getfield 18, 3) := by decide +kernel
theorem d_CS_rowOf_14 : decode b_CS_rowOf 14 = .ok (.iload_n 3, 1) := by decide +kernel
theorem d_CS_rowOf_15 : decode b_CS_rowOf 15 = .ok (.iaload, 1) := by decide +kernel
theorem d_CS_rowOf_16 : decode b_CS_rowOf 16 = .ok (.iload_n 1, 1) := by decide +kernel
theorem d_CS_rowOf_17 : decode b_CS_rowOf 17 = .ok (.if_icmp .ne 15, 3) := by decide +kernel
theorem d_CS_rowOf_20 : decode b_CS_rowOf 20 = .ok (.aload_n 0, 1) := by decide +kernel
theorem d_CS_rowOf_21 : decode b_CS_rowOf 21 = .ok (.getfield 22, 3) := by decide +kernel
theorem d_CS_rowOf_24 : decode b_CS_rowOf 24 = .ok (.iload_n 3, 1) := by decide +kernel
theorem d_CS_rowOf_25 : decode b_CS_rowOf 25 = .ok (.iaload, 1) := by decide +kernel
theorem d_CS_rowOf_26 : decode b_CS_rowOf 26 = .ok (.iload_n 2, 1) := by decide +kernel
theorem d_CS_rowOf_27 : decode b_CS_rowOf 27 = .ok (.if_icmp .ne 5, 3) := by decide +kernel
theorem d_CS_rowOf_30 : decode b_CS_rowOf 30 = .ok (.iload_n 3, 1) := by decide +kernel
theorem d_CS_rowOf_31 : decode b_CS_rowOf 31 = .ok (.ireturn, 1) := by decide +kernel
theorem d_CS_rowOf_32 : decode b_CS_rowOf 32 = .ok (.iinc 3 1, 3) := by decide +kernel
theorem d_CS_rowOf_35 : decode b_CS_rowOf 35 = .ok (.goto (-33), 3) := by decide +kernel
theorem d_CS_rowOf_38 : decode b_CS_rowOf 38 = .ok (.aload_n 0, 1) := by decide +kernel
theorem d_CS_rowOf_39 : decode b_CS_rowOf 39 = .ok (.getfield 29, 3) := by decide +kernel
theorem d_CS_rowOf_42 : decode b_CS_rowOf 42 = .ok (.ireturn, 1) := by decide +kernel
theorem d_CS_tell_0 : decode b_CS_tell 0 = .ok (.iload_n 1, 1) := by decide +kernel
theorem d_CS_tell_1 : decode b_CS_tell 1 = .ok (.ifCond .lt 9, 3) := by decide +kernel
theorem d_CS_tell_4 : decode b_CS_tell 4 = .ok (.iload_n 1, 1) := by decide +kernel
theorem d_CS_tell_5 : decode b_CS_tell 5 = .ok (.bipush 32, 2) := by decide +kernel
theorem d_CS_tell_7 : decode b_CS_tell 7 = .ok (.if_icmp .lt 4, 3) := by decide +kernel
theorem d_CS_tell_10 : decode b_CS_tell 10 = .ok (.return_, 1) := by decide +kernel
theorem d_CS_tell_11 : decode b_CS_tell 11 = .ok (.aload_n 0, 1) := by decide +kernel
theorem d_CS_tell_12 : decode b_CS_tell 12 = .ok (.getfield 18, 3) := by decide +kernel
theorem d_CS_tell_15 : decode b_CS_tell 15 = .ok (.iload_n 1, 1) := by decide +kernel
theorem d_CS_tell_16 : decode b_CS_tell 16 = .ok (.iload_n 2, 1) := by decide +kernel
theorem d_CS_tell_17 : decode b_CS_tell 17 = .ok (.iastore, 1) := by decide +kernel
theorem d_CS_tell_18 : decode b_CS_tell 18 = .ok (.aload_n 0, 1) := by decide +kernel
theorem d_CS_tell_19 : decode b_CS_tell 19 = .ok (.getfield 22, 3) := by decide +kernel
theorem d_CS_tell_22 : decode b_CS_tell 22 = .ok (.iload_n 1, 1) := by decide +kernel
theorem d_CS_tell_23 : decode b_CS_tell 23 = .ok (.iload_n 3, 1) := by decide +kernel
theorem d_CS_tell_24 : decode b_CS_tell 24 = .ok (.iastore, 1) := by decide +kernel
theorem d_CS_tell_25 : decode b_CS_tell 25 = .ok (.aload_n 0, 1) := by decide +kernel
theorem d_CS_tell_26 : decode b_CS_tell 26 = .ok (.getfield 25, 3) := by decide +kernel
theorem d_CS_tell_29 : decode b_CS_tell 29 = .ok (.iload_n 1, 1) := by decide +kernel
theorem d_CS_tell_30 : decode b_CS_tell 30 = .ok (.iload 4, 2) := by decide +kernel
theorem d_CS_tell_32 : decode b_CS_tell 32 = .ok (.bastore, 1) := by decide +kernel
theorem d_CS_tell_33 : decode b_CS_tell 33 = .ok (.aload_n 0, 1) := by decide +kernel
theorem d_CS_tell_34 : decode b_CS_tell 34 = .ok (.aload_n 0, 1) := by decide +kernel
theorem d_CS_tell_35 : decode b_CS_tell 35 = .ok (.getfield 29, 3) := by decide +kernel
theorem d_CS_tell_38 : decode b_CS_tell 38 = .ok (.iload_n 1, 1) := by decide +kernel
theorem d_CS_tell_39 : decode b_CS_tell 39 = .ok (.iconst 1, 1) := by decide +kernel
theorem d_CS_tell_40 : decode b_CS_tell 40 = .ok (.iadd, 1) := by decide +kernel
theorem d_CS_tell_41 : decode b_CS_tell 41 = .ok (.invokestatic 32, 3) := by decide +kernel
theorem d_CS_tell_44 : decode b_CS_tell 44 = .ok (.putfield 29, 3) := by decide +kernel
theorem d_CS_tell_47 : decode b_CS_tell 47 = .ok (.return_, 1) := by decide +kernel
theorem d_CS_resultCount_0 : decode b_CS_resultCount 0 = .ok (.aload_n 0, 1) := by decide +kernel
theorem d_CS_resultCount_1 : decode b_CS_resultCount 1 = .ok (.getfield 29, 3) := by decide +kernel
theorem d_CS_resultCount_4 : decode b_CS_resultCount 4 = .ok (.ireturn, 1) := by decide +kernel
theorem d_CL_plan_0 : decode b_CL_plan 0 = .ok (.iload_n 1, 1) := by decide +kernel
theorem d_CL_plan_1 : decode b_CL_plan 1 = .ok (.invokestatic 96, 3) := by decide +kernel
theorem d_CL_plan_4 : decode b_CL_plan 4 = .ok (.aload_n 0, 1) := by decide +kernel
theorem d_CL_plan_5 : decode b_CL_plan 5 = .ok (.iload_n 1, 1) := by decide +kernel
theorem d_CL_plan_6 : decode b_CL_plan 6 = .ok (.invokevirtual 126, 3) := by decide +kernel
theorem d_CL_plan_9 : decode b_CL_plan 9 = .ok (.aload_n 0, 1) := by decide +kernel
theorem d_CL_plan_10 : decode b_CL_plan 10 = .ok (.getfield 39, 3) := by decide +kernel
theorem d_CL_plan_13 : decode b_CL_plan 13 = .ok (.invokevirtual 129, 3) := by decide +kernel
theorem d_CL_plan_16 : decode b_CL_plan 16 = .ok (.iand, 1) := by decide +kernel
theorem d_CL_plan_17 : decode b_CL_plan 17 = .ok (.istore_n 2, 1) := by decide +kernel
theorem d_CL_plan_18 : decode b_CL_plan 18 = .ok (.aload_n 0, 1) := by decide +kernel
theorem d_CL_plan_19 : decode b_CL_plan 19 = .ok (.aload_n 0, 1) := by decide +kernel
theorem d_CL_plan_20 : decode b_CL_plan 20 = .ok (.getfield 39, 3) := by decide +kernel
theorem d_CL_plan_23 : decode b_CL_plan 23 = .ok (.iload_n 2, 1) := by decide +kernel
theorem d_CL_plan_24 : decode b_CL_plan 24 = .ok (.aload_n 0, 1) := by decide +kernel
theorem d_CL_plan_25 : decode b_CL_plan 25 = .ok (.getfield 43, 3) := by decide +kernel
theorem d_CL_plan_28 : decode b_CL_plan 28 = .ok (.invokevirtual 132, 3) := by decide +kernel
theorem d_CL_plan_31 : decode b_CL_plan 31 = .ok (.putfield 47, 3) := by decide +kernel
theorem d_CL_plan_34 : decode b_CL_plan 34 = .ok (.aload_n 0, 1) := by decide +kernel
theorem d_CL_plan_35 : decode b_CL_plan 35 = .ok (.aload_n 0, 1) := by decide +kernel
theorem d_CL_plan_36 : decode b_CL_plan 36 = .ok (.getfield 39, 3) := by decide +kernel
theorem d_CL_plan_39 : decode b_CL_plan 39 = .ok (.aload_n 0, 1) := by decide +kernel
theorem d_CL_plan_40 : decode b_CL_plan 40 = .ok (.getfield 43, 3) := by decide +kernel
theorem d_CL_plan_43 : decode b_CL_plan 43 = .ok (.aload_n 0, 1) := by decide +kernel
theorem d_CL_plan_44 : decode b_CL_plan 44 = .ok (.getfield 47, 3) := by decide +kernel
theorem d_CL_plan_47 : decode b_CL_plan 47 = .ok (.invokevirtual 136, 3) := by decide +kernel
theorem d_CL_plan_50 : decode b_CL_plan 50 = .ok (.putfield 50, 3) := by decide +kernel
theorem d_CL_plan_53 : decode b_CL_plan 53 = .ok (.aload_n 0, 1) := by decide +kernel
theorem d_CL_plan_54 : decode b_CL_plan 54 = .ok (.getfield 47, 3) := by decide +kernel
theorem d_CL_plan_57 : decode b_CL_plan 57 = .ok (.ireturn, 1) := by decide +kernel
theorem d_CL_unprovedCases_0 : decode b_CL_unprovedCases 0 = .ok (.iconst 0, 1) := by decide +kernel
theorem d_CL_unprovedCases_1 : decode b_CL_unprovedCases 1 = .ok (.istore_n 2, 1) := by decide +kernel
theorem d_CL_unprovedCases_2 : decode b_CL_unprovedCases 2 = .ok (.iconst 0, 1) := by decide +kernel
theorem d_CL_unprovedCases_3 : decode b_CL_unprovedCases 3 = .ok (.istore_n 3, 1) := by decide +kernel
theorem d_CL_unprovedCases_4 : decode b_CL_unprovedCases 4 = .ok (.iload_n 3, 1) := by decide +kernel
theorem d_CL_unprovedCases_5 : decode b_CL_unprovedCases 5 = .ok (.aload_n 0, 1) := by decide +kernel
theorem d_CL_unprovedCases_6 : decode b_CL_unprovedCases 6 = .ok (.getfield 25, 3) := by decide +kernel
theorem d_CL_unprovedCases_9 : decode b_CL_unprovedCases 9 = .ok (.invokevirtual 63, 3) := by decide +kernel
theorem d_CL_unprovedCases_12 : decode b_CL_unprovedCases 12 = .ok (.if_icmp .ge 25, 3) := by decide +kernel
theorem d_CL_unprovedCases_15 : decode b_CL_unprovedCases 15 = .ok (.aload_n 0, 1) := by decide +kernel
theorem d_CL_unprovedCases_16 : decode b_CL_unprovedCases 16 = .ok (.iload_n 3, 1) := by decide +kernel
theorem d_CL_unprovedCases_17 : decode b_CL_unprovedCases 17 = .ok (.iload_n 1, 1) := by decide +kernel
theorem d_CL_unprovedCases_18 : decode b_CL_unprovedCases 18 = .ok (.invokevirtual 143, 3) := by decide +kernel
theorem d_CL_unprovedCases_21 : decode b_CL_unprovedCases 21 = .ok (.iconst 3, 1) := by decide +kernel
theorem d_CL_unprovedCases_22 : decode b_CL_unprovedCases 22 = .ok (.if_icmp .eq 9, 3) := by decide +kernel
theorem d_CL_unprovedCases_25 : decode b_CL_unprovedCases 25 = .ok (.iload_n 2, 1) := by decide +kernel
theorem d_CL_unprovedCases_26 : decode b_CL_unprovedCases 26 = .ok (.iconst 1, 1) := by decide +kernel
theorem d_CL_unprovedCases_27 : decode b_CL_unprovedCases 27 = .ok (.iload_n 3, 1) := by decide +kernel
theorem d_CL_unprovedCases_28 : decode b_CL_unprovedCases 28 = .ok (.ishl, 1) := by decide +kernel
theorem d_CL_unprovedCases_29 : decode b_CL_unprovedCases 29 = .ok (.ior, 1) := by decide +kernel
theorem d_CL_unprovedCases_30 : decode b_CL_unprovedCases 30 = .ok (.istore_n 2, 1) := by decide +kernel
theorem d_CL_unprovedCases_31 : decode b_CL_unprovedCases 31 = .ok (.iinc 3 1, 3) := by decide +kernel
theorem d_CL_unprovedCases_34 : decode b_CL_unprovedCases 34 = .ok (.goto (-30), 3) := by decide +kernel
theorem d_CL_unprovedCases_37 : decode b_CL_unprovedCases 37 = .ok (.iload_n 2, 1) := by decide +kernel
theorem d_CL_unprovedCases_38 : decode b_CL_unprovedCases 38 = .ok (.ireturn, 1) := by decide +kernel
theorem d_CL_stateOn_0 : decode b_CL_stateOn 0 = .ok (.aload_n 0, 1) := by decide +kernel
theorem d_CL_stateOn_1 : decode b_CL_stateOn 1 = .ok (.getfield 25, 3) := by decide +kernel
theorem d_CL_stateOn_4 : decode b_CL_stateOn 4 = .ok (.iload_n 1, 1) := by decide +kernel
theorem d_CL_stateOn_5 : decode b_CL_stateOn 5 = .ok (.invokevirtual 112, 3) := by decide +kernel
theorem d_CL_stateOn_8 : decode b_CL_stateOn 8 = .ok (.checkcast 70, 3) := by decide +kernel
theorem d_CL_stateOn_11 : decode b_CL_stateOn 11 = .ok (.astore_n 3, 1) := by decide +kernel
theorem d_CL_stateOn_12 : decode b_CL_stateOn 12 = .ok (.aload_n 0, 1) := by decide +kernel
theorem d_CL_stateOn_13 : decode b_CL_stateOn 13 = .ok (.iload_n 1, 1) := by decide +kernel
theorem d_CL_stateOn_14 : decode b_CL_stateOn 14 = .ok (.iload_n 2, 1) := by decide +kernel
theorem d_CL_stateOn_15 : decode b_CL_stateOn 15 = .ok (.invokevirtual 146, 3) := by decide +kernel
theorem d_CL_stateOn_18 : decode b_CL_stateOn 18 = .ok (.istore 4, 2) := by decide +kernel
theorem d_CL_stateOn_20 : decode b_CL_stateOn 20 = .ok (.iconst 0, 1) := by decide +kernel
theorem d_CL_stateOn_21 : decode b_CL_stateOn 21 = .ok (.istore 5, 2) := by decide +kernel
theorem d_CL_stateOn_23 : decode b_CL_stateOn 23 = .ok (.iconst 0, 1) := by decide +kernel
theorem d_CL_stateOn_24 : decode b_CL_stateOn 24 = .ok (.istore 6, 2) := by decide +kernel
theorem d_CL_stateOn_26 : decode b_CL_stateOn 26 = .ok (.iconst 0, 1) := by decide +kernel
theorem d_CL_stateOn_27 : decode b_CL_stateOn 27 = .ok (.istore 7, 2) := by decide +kernel
theorem d_CL_stateOn_29 : decode b_CL_stateOn 29 = .ok (.iload 7, 2) := by decide +kernel
theorem d_CL_stateOn_31 : decode b_CL_stateOn 31 = .ok (.bipush 10, 2) := by decide +kernel
theorem d_CL_stateOn_33 : decode b_CL_stateOn 33 = .ok (.if_icmp .ge 40, 3) := by decide +kernel
theorem d_CL_stateOn_36 : decode b_CL_stateOn 36 = .ok (.aload_n 3, 1) := by decide +kernel
theorem d_CL_stateOn_37 : decode b_CL_stateOn 37 = .ok (.iload 7, 2) := by decide +kernel
theorem d_CL_stateOn_39 : decode b_CL_stateOn 39 = .ok (.iload 4, 2) := by decide +kernel
theorem d_CL_stateOn_41 : decode b_CL_stateOn 41 = .ok (.iload_n 2, 1) := by decide +kernel
theorem d_CL_stateOn_42 : decode b_CL_stateOn 42 = .ok (.invokevirtual 149, 3) := by decide +kernel
theorem d_CL_stateOn_45 : decode b_CL_stateOn 45 = .ok (.istore 8, 2) := by decide +kernel
theorem d_CL_stateOn_47 : decode b_CL_stateOn 47 = .ok (.iload 8, 2) := by decide +kernel
theorem d_CL_stateOn_49 : decode b_CL_stateOn 49 = .ok (.iconst 1, 1) := by decide +kernel
theorem d_CL_stateOn_50 : decode b_CL_stateOn 50 = .ok (.if_icmp .ne 9, 3) := by decide +kernel
theorem d_CL_stateOn_53 : decode b_CL_stateOn 53 = .ok (.iinc 5 1, 3) := by decide +kernel
theorem d_CL_stateOn_56 : decode b_CL_stateOn 56 = .ok (.goto 11, 3) := by decide +kernel
theorem d_CL_stateOn_59 : decode b_CL_stateOn 59 = .ok (.iload 8, 2) := by decide +kernel
theorem d_CL_stateOn_61 : decode b_CL_stateOn 61 = .ok (.ifCond .ne 6, 3) := by decide +kernel
theorem d_CL_stateOn_64 : decode b_CL_stateOn 64 = .ok (.iinc 6 1, 3) := by decide +kernel
theorem d_CL_stateOn_67 : decode b_CL_stateOn 67 = .ok (.iinc 7 1, 3) := by decide +kernel
theorem d_CL_stateOn_70 : decode b_CL_stateOn 70 = .ok (.goto (-41), 3) := by decide +kernel
theorem d_CL_stateOn_73 : decode b_CL_stateOn 73 = .ok (.iload 6, 2) := by decide +kernel
theorem d_CL_stateOn_75 : decode b_CL_stateOn 75 = .ok (.ifCond .le 14, 3) := by decide +kernel
theorem d_CL_stateOn_78 : decode b_CL_stateOn 78 = .ok (.iload 5, 2) := by decide +kernel
theorem d_CL_stateOn_80 : decode b_CL_stateOn 80 = .ok (.ifCond .le 7, 3) := by decide +kernel
theorem d_CL_stateOn_83 : decode b_CL_stateOn 83 = .ok (.iconst 2, 1) := by decide +kernel
theorem d_CL_stateOn_84 : decode b_CL_stateOn 84 = .ok (.goto 4, 3) := by decide +kernel
theorem d_CL_stateOn_87 : decode b_CL_stateOn 87 = .ok (.iconst 1, 1) := by decide +kernel
theorem d_CL_stateOn_88 : decode b_CL_stateOn 88 = .ok (.ireturn, 1) := by decide +kernel
theorem d_CL_stateOn_89 : decode b_CL_stateOn 89 = .ok (.iload 5, 2) := by decide +kernel
theorem d_CL_stateOn_91 : decode b_CL_stateOn 91 = .ok (.iconst 2, 1) := by decide +kernel
theorem d_CL_stateOn_92 : decode b_CL_stateOn 92 = .ok (.if_icmp .lt 7, 3) := by decide +kernel
theorem d_CL_stateOn_95 : decode b_CL_stateOn 95 = .ok (.iconst 3, 1) := by decide +kernel
theorem d_CL_stateOn_96 : decode b_CL_stateOn 96 = .ok (.goto 4, 3) := by decide +kernel
theorem d_CL_stateOn_99 : decode b_CL_stateOn 99 = .ok (.iconst 0, 1) := by decide +kernel
theorem d_CL_stateOn_100 : decode b_CL_stateOn 100 = .ok (.ireturn, 1) := by decide +kernel
theorem d_CL_firstCountingDay_0 : decode b_CL_firstCountingDay 0 = .ok (.iload_n 2, 1) := by decide +kernel
theorem d_CL_firstCountingDay_1 : decode b_CL_firstCountingDay 1 = .ok (.aload_n 0, 1) := by decide +kernel
theorem d_CL_firstCountingDay_2 : decode b_CL_firstCountingDay 2 = .ok (.getfield 18, 3) := by decide +kernel
theorem d_CL_firstCountingDay_5 : decode b_CL_firstCountingDay 5 = .ok (.isub, 1) := by decide +kernel
theorem d_CL_firstCountingDay_6 : decode b_CL_firstCountingDay 6 = .ok (.aload_n 0, 1) := by decide +kernel
theorem d_CL_firstCountingDay_7 : decode b_CL_firstCountingDay 7 = .ok (.getfield 32, 3) := by decide +kernel
theorem d_CL_firstCountingDay_10 : decode b_CL_firstCountingDay 10 = .ok (.iload_n 1, 1) := by decide +kernel
theorem d_CL_firstCountingDay_11 : decode b_CL_firstCountingDay 11 = .ok (.iload_n 2, 1) := by decide +kernel
theorem d_CL_firstCountingDay_12 : decode b_CL_firstCountingDay 12 = .ok (.invokevirtual 162, 3) := by decide +kernel
theorem d_CL_firstCountingDay_15 : decode b_CL_firstCountingDay 15 = .ok (.iconst 1, 1) := by decide +kernel
theorem d_CL_firstCountingDay_16 : decode b_CL_firstCountingDay 16 = .ok (.iadd, 1) := by decide +kernel
theorem d_CL_firstCountingDay_17 : decode b_CL_firstCountingDay 17 = .ok (.invokestatic 15, 3) := by decide +kernel
theorem d_CL_firstCountingDay_20 : decode b_CL_firstCountingDay 20 = .ok (.ireturn, 1) := by decide +kernel
theorem d_TL_latest_0 : decode b_TL_latest 0 = .ok (.iconst (-1), 1) := by decide +kernel
theorem d_TL_latest_1 : decode b_TL_latest 1 = .ok (.istore_n 3, 1) := by decide +kernel
theorem d_TL_latest_2 : decode b_TL_latest 2 = .ok (.iconst 0, 1) := by decide +kernel
theorem d_TL_latest_3 : decode b_TL_latest 3 = .ok (.istore 4, 2) := by decide +kernel
theorem d_TL_latest_5 : decode b_TL_latest 5 = .ok (.iload 4, 2) := by decide +kernel
theorem d_TL_latest_7 : decode b_TL_latest 7 = .ok (.aload_n 0, 1) := by decide +kernel
theorem d_TL_latest_8 : decode b_TL_latest 8 = .ok (.getfield 18, 3) := by decide +kernel
theorem d_TL_latest_11 : decode b_TL_latest 11 = .ok (.if_icmp .ge 53, 3) := by decide +kernel
theorem d_TL_latest_14 : decode b_TL_latest 14 = .ok (.aload_n 0, 1) := by decide +kernel
theorem d_TL_latest_15 : decode b_TL_latest 15 = .ok (.getfield 9, 3) := by decide +kernel
theorem d_TL_latest_18 : decode b_TL_latest 18 = .ok (.iload 4, 2) := by decide +kernel
theorem d_TL_latest_20 : decode b_TL_latest 20 = .ok (.iaload, 1) := by decide +kernel
theorem d_TL_latest_21 : decode b_TL_latest 21 = .ok (.iload_n 2, 1) := by decide +kernel
theorem d_TL_latest_22 : decode b_TL_latest 22 = .ok (.if_icmp .gt 36, 3) := by decide +kernel
theorem d_TL_latest_25 : decode b_TL_latest 25 = .ok (.aload_n 0, 1) := by decide +kernel
theorem d_TL_latest_26 : decode b_TL_latest 26 = .ok (.getfield 9, 3) := by decide +kernel
theorem d_TL_latest_29 : decode b_TL_latest 29 = .ok (.iload 4, 2) := by decide +kernel
theorem d_TL_latest_31 : decode b_TL_latest 31 = .ok (.iaload, 1) := by decide +kernel
theorem d_TL_latest_32 : decode b_TL_latest 32 = .ok (.iload_n 3, 1) := by decide +kernel
theorem d_TL_latest_33 : decode b_TL_latest 33 = .ok (.if_icmp .le 25, 3) := by decide +kernel
theorem d_TL_latest_36 : decode b_TL_latest 36 = .ok (.aload_n 0, 1) := by decide +kernel
theorem d_TL_latest_37 : decode b_TL_latest 37 = .ok (.getfield 15, 3) := by decide +kernel
theorem d_TL_latest_40 : decode b_TL_latest 40 = .ok (.iload 4, 2) := by decide +kernel
theorem d_TL_latest_42 : decode b_TL_latest 42 = .ok (.iaload, 1) := by decide +kernel
theorem d_TL_latest_43 : decode b_TL_latest 43 = .ok (.iload_n 1, 1) := by decide +kernel
theorem d_TL_latest_44 : decode b_TL_latest 44 = .ok (.invokestatic 22, 3) := by decide +kernel
theorem d_TL_latest_47 : decode b_TL_latest 47 = .ok (.ifCond .eq 11, 3) := by decide +kernel
theorem d_TL_latest_50 : decode b_TL_latest 50 = .ok (.aload_n 0, 1) := by decide +kernel
theorem d_TL_latest_51 : decode b_TL_latest 51 = .ok (.getfield 9, 3) := by decide +kernel
theorem d_TL_latest_54 : decode b_TL_latest 54 = .ok (.iload 4, 2) := by decide +kernel
theorem d_TL_latest_56 : decode b_TL_latest 56 = .ok (.iaload, 1) := by decide +kernel
theorem d_TL_latest_57 : decode b_TL_latest 57 = .ok (.istore_n 3, 1) := by decide +kernel
theorem d_TL_latest_58 : decode b_TL_latest 58 = .ok (.iinc 4 1, 3) := by decide +kernel
theorem d_TL_latest_61 : decode b_TL_latest 61 = .ok (.goto (-56), 3) := by decide +kernel
theorem d_TL_latest_64 : decode b_TL_latest 64 = .ok (.iload_n 3, 1) := by decide +kernel
theorem d_TL_latest_65 : decode b_TL_latest 65 = .ok (.ireturn, 1) := by decide +kernel
theorem d_CS_wordOf_0 : decode b_CS_wordOf 0 = .ok (.iconst (-1), 1) := by decide +kernel
theorem d_CS_wordOf_1 : decode b_CS_wordOf 1 = .ok (.istore 4, 2) := by decide +kernel
theorem d_CS_wordOf_3 : decode b_CS_wordOf 3 = .ok (.iconst (-1), 1) := by decide +kernel
theorem d_CS_wordOf_4 : decode b_CS_wordOf 4 = .ok (.istore 5, 2) := by decide +kernel
theorem d_CS_wordOf_6 : decode b_CS_wordOf 6 = .ok (.iconst 0, 1) := by decide +kernel
theorem d_CS_wordOf_7 : decode b_CS_wordOf 7 = .ok (.istore 6, 2) := by decide +kernel
theorem d_CS_wordOf_9 : decode b_CS_wordOf 9 = .ok (.iload 6, 2) := by decide +kernel
theorem d_CS_wordOf_11 : decode b_CS_wordOf 11 = .ok (.aload_n 0, 1) := by decide +kernel
theorem d_CS_wordOf_12 : decode b_CS_wordOf 12 = .ok (.getfield 29, 3) := by decide +kernel
theorem d_CS_wordOf_15 : decode b_CS_wordOf 15 = .ok (.if_icmp .ge 80, 3) := by decide +kernel
theorem d_CS_wordOf_18 : decode b_CS_wordOf 18 = .ok (.aload_n 0, 1) := by decide +kernel
theorem d_CS_wordOf_19 : decode b_CS_wordOf 19 = .ok (.getfield 18, 3) := by decide +kernel
theorem d_CS_wordOf_22 : decode b_CS_wordOf 22 = .ok (.iload 6, 2) := by decide +kernel
theorem d_CS_wordOf_24 : decode b_CS_wordOf 24 = .ok (.iaload, 1) := by decide +kernel
theorem d_CS_wordOf_25 : decode b_CS_wordOf 25 = .ok (.iload_n 1, 1) := by decide +kernel
theorem d_CS_wordOf_26 : decode b_CS_wordOf 26 = .ok (.if_icmp .ne 63, 3) := by decide +kernel
theorem d_CS_wordOf_29 : decode b_CS_wordOf 29 = .ok (.aload_n 0, 1) := by decide +kernel
theorem d_CS_wordOf_30 : decode b_CS_wordOf 30 = .ok (.getfield 22, 3) := by decide +kernel
theorem d_CS_wordOf_33 : decode b_CS_wordOf 33 = .ok (.iload 6, 2) := by decide +kernel
theorem d_CS_wordOf_35 : decode b_CS_wordOf 35 = .ok (.iaload, 1) := by decide +kernel
theorem d_CS_wordOf_36 : decode b_CS_wordOf 36 = .ok (.iload_n 2, 1) := by decide +kernel
theorem d_CS_wordOf_37 : decode b_CS_wordOf 37 = .ok (.if_icmp .lt 52, 3) := by decide +kernel
theorem d_CS_wordOf_40 : decode b_CS_wordOf 40 = .ok (.aload_n 0, 1) := by decide +kernel
theorem d_CS_wordOf_41 : decode b_CS_wordOf 41 = .ok (.getfield 22, 3) := by decide +kernel
theorem d_CS_wordOf_44 : decode b_CS_wordOf 44 = .ok (.iload 6, 2) := by decide +kernel
theorem d_CS_wordOf_46 : decode b_CS_wordOf 46 = .ok (.iaload, 1) := by decide +kernel
theorem d_CS_wordOf_47 : decode b_CS_wordOf 47 = .ok (.iload_n 3, 1) := by decide +kernel
theorem d_CS_wordOf_48 : decode b_CS_wordOf 48 = .ok (.if_icmp .gt 41, 3) := by decide +kernel
theorem d_CS_wordOf_51 : decode b_CS_wordOf 51 = .ok (.aload_n 0, 1) := by decide +kernel
theorem d_CS_wordOf_52 : decode b_CS_wordOf 52 = .ok (.getfield 22, 3) := by decide +kernel
theorem d_CS_wordOf_55 : decode b_CS_wordOf 55 = .ok (.iload 6, 2) := by decide +kernel
theorem d_CS_wordOf_57 : decode b_CS_wordOf 57 = .ok (.iaload, 1) := by decide +kernel
theorem d_CS_wordOf_58 : decode b_CS_wordOf 58 = .ok (.iload 4, 2) := by decide +kernel
theorem d_CS_wordOf_60 : decode b_CS_wordOf 60 = .ok (.if_icmp .le 29, 3) := by decide +kernel
theorem d_CS_wordOf_63 : decode b_CS_wordOf 63 = .ok (.aload_n 0, 1) := by decide +kernel
theorem d_CS_wordOf_64 : decode b_CS_wordOf 64 = .ok (.getfield 22, 3) := by decide +kernel
theorem d_CS_wordOf_67 : decode b_CS_wordOf 67 = .ok (.iload 6, 2) := by decide +kernel
theorem d_CS_wordOf_69 : decode b_CS_wordOf 69 = .ok (.iaload, 1) := by decide +kernel
theorem d_CS_wordOf_70 : decode b_CS_wordOf 70 = .ok (.istore 4, 2) := by decide +kernel
theorem d_CS_wordOf_72 : decode b_CS_wordOf 72 = .ok (.aload_n 0, 1) := by decide +kernel
theorem d_CS_wordOf_73 : decode b_CS_wordOf 73 = .ok (.getfield 25, 3) := by decide +kernel
theorem d_CS_wordOf_76 : decode b_CS_wordOf 76 = .ok (.iload 6, 2) := by decide +kernel
theorem d_CS_wordOf_78 : decode b_CS_wordOf 78 = .ok (.baload, 1) := by decide +kernel
theorem d_CS_wordOf_79 : decode b_CS_wordOf 79 = .ok (.ifCond .eq 7, 3) := by decide +kernel
theorem d_CS_wordOf_82 : decode b_CS_wordOf 82 = .ok (.iconst 1, 1) := by decide +kernel
theorem d_CS_wordOf_83 : decode b_CS_wordOf 83 = .ok (.goto 4, 3) := by decide +kernel
theorem d_CS_wordOf_86 : decode b_CS_wordOf 86 = .ok (.iconst 0, 1) := by decide +kernel
theorem d_CS_wordOf_87 : decode b_CS_wordOf 87 = .ok (.istore 5, 2) := by decide +kernel
theorem d_CS_wordOf_89 : decode b_CS_wordOf 89 = .ok (.iinc 6 1, 3) := by decide +kernel
theorem d_CS_wordOf_92 : decode b_CS_wordOf 92 = .ok (.goto (-83), 3) := by decide +kernel
theorem d_CS_wordOf_95 : decode b_CS_wordOf 95 = .ok (.iload 5, 2) := by decide +kernel
theorem d_CS_wordOf_97 : decode b_CS_wordOf 97 = .ok (.ireturn, 1) := by decide +kernel
theorem d_TU_shownByAny_0 : decode b_TU_shownByAny 0 = .ok (.aload_n 0, 1) := by decide +kernel
theorem d_TU_shownByAny_1 : decode b_TU_shownByAny 1 = .ok (.iconst 1, 1) := by decide +kernel
theorem d_TU_shownByAny_2 : decode b_TU_shownByAny 2 = .ok (.aload_n 0, 1) := by decide +kernel
theorem d_TU_shownByAny_3 : decode b_TU_shownByAny 3 = .ok (.getfield 27, 3) := by decide +kernel
theorem d_TU_shownByAny_6 : decode b_TU_shownByAny 6 = .ok (.ishl, 1) := by decide +kernel
theorem d_TU_shownByAny_7 : decode b_TU_shownByAny 7 = .ok (.iconst 1, 1) := by decide +kernel
theorem d_TU_shownByAny_8 : decode b_TU_shownByAny 8 = .ok (.isub, 1) := by decide +kernel
theorem d_TU_shownByAny_9 : decode b_TU_shownByAny 9 = .ok (.invokevirtual 35, 3) := by decide +kernel
theorem d_TU_shownByAny_12 : decode b_TU_shownByAny 12 = .ok (.ireturn, 1) := by decide +kernel
theorem d_TU_shownBy_0 : decode b_TU_shownBy 0 = .ok (.iconst 0, 1) := by decide +kernel
theorem d_TU_shownBy_1 : decode b_TU_shownBy 1 = .ok (.istore_n 2, 1) := by decide +kernel
theorem d_TU_shownBy_2 : decode b_TU_shownBy 2 = .ok (.iconst 0, 1) := by decide +kernel
theorem d_TU_shownBy_3 : decode b_TU_shownBy 3 = .ok (.istore_n 3, 1) := by decide +kernel
theorem d_TU_shownBy_4 : decode b_TU_shownBy 4 = .ok (.iload_n 3, 1) := by decide +kernel
theorem d_TU_shownBy_5 : decode b_TU_shownBy 5 = .ok (.aload_n 0, 1) := by decide +kernel
theorem d_TU_shownBy_6 : decode b_TU_shownBy 6 = .ok (.getfield 27, 3) := by decide +kernel
theorem d_TU_shownBy_9 : decode b_TU_shownBy 9 = .ok (.if_icmp .ge 26, 3) := by decide +kernel
theorem d_TU_shownBy_12 : decode b_TU_shownBy 12 = .ok (.iload_n 1, 1) := by decide +kernel
theorem d_TU_shownBy_13 : decode b_TU_shownBy 13 = .ok (.iload_n 3, 1) := by decide +kernel
theorem d_TU_shownBy_14 : decode b_TU_shownBy 14 = .ok (.invokestatic 31, 3) := by decide +kernel
theorem d_TU_shownBy_17 : decode b_TU_shownBy 17 = .ok (.ifCond .eq 12, 3) := by decide +kernel
theorem d_TU_shownBy_20 : decode b_TU_shownBy 20 = .ok (.iload_n 2, 1) := by decide +kernel
theorem d_TU_shownBy_21 : decode b_TU_shownBy 21 = .ok (.aload_n 0, 1) := by decide +kernel
theorem d_TU_shownBy_22 : decode b_TU_shownBy 22 = .ok (.getfield 18, 3) := by decide +kernel
theorem d_TU_shownBy_25 : decode b_TU_shownBy 25 = .ok (.iload_n 3, 1) := by decide +kernel
theorem d_TU_shownBy_26 : decode b_TU_shownBy 26 = .ok (.iaload, 1) := by decide +kernel
theorem d_TU_shownBy_27 : decode b_TU_shownBy 27 = .ok (.ior, 1) := by decide +kernel
theorem d_TU_shownBy_28 : decode b_TU_shownBy 28 = .ok (.istore_n 2, 1) := by decide +kernel
theorem d_TU_shownBy_29 : decode b_TU_shownBy 29 = .ok (.iinc 3 1, 3) := by decide +kernel
theorem d_TU_shownBy_32 : decode b_TU_shownBy 32 = .ok (.goto (-28), 3) := by decide +kernel
theorem d_TU_shownBy_35 : decode b_TU_shownBy 35 = .ok (.iload_n 2, 1) := by decide +kernel
theorem d_TU_shownBy_36 : decode b_TU_shownBy 36 = .ok (.ireturn, 1) := by decide +kernel
theorem d_TU_findOrder_0 : decode b_TU_findOrder 0 = .ok (.aload_n 0, 1) := by decide +kernel
theorem d_TU_findOrder_1 : decode b_TU_findOrder 1 = .ok (.iload_n 1, 1) := by decide +kernel
theorem d_TU_findOrder_2 : decode b_TU_findOrder 2 = .ok (.invokevirtual 43, 3) := by decide +kernel
theorem d_TU_findOrder_5 : decode b_TU_findOrder 5 = .ok (.iconst 0, 1) := by decide +kernel
theorem d_TU_findOrder_6 : decode b_TU_findOrder 6 = .ok (.istore_n 3, 1) := by decide +kernel
theorem d_TU_findOrder_7 : decode b_TU_findOrder 7 = .ok (.iconst 0, 1) := by decide +kernel
theorem d_TU_findOrder_8 : decode b_TU_findOrder 8 = .ok (.istore 4, 2) := by decide +kernel
theorem d_TU_findOrder_10 : decode b_TU_findOrder 10 = .ok (.iconst 0, 1) := by decide +kernel
theorem d_TU_findOrder_11 : decode b_TU_findOrder 11 = .ok (.istore 5, 2) := by decide +kernel
theorem d_TU_findOrder_13 : decode b_TU_findOrder 13 = .ok (.iload 5, 2) := by decide +kernel
theorem d_TU_findOrder_15 : decode b_TU_findOrder 15 = .ok (.aload_n 0, 1) := by decide +kernel
theorem d_TU_findOrder_16 : decode b_TU_findOrder 16 = .ok (.getfield 27, 3) := by decide +kernel
theorem d_TU_findOrder_19 : decode b_TU_findOrder 19 = .ok (.if_icmp .ge 78, 3) := by decide +kernel
theorem d_TU_findOrder_22 : decode b_TU_findOrder 22 = .ok (.iload 5, 2) := by decide +kernel
theorem d_TU_findOrder_24 : decode b_TU_findOrder 24 = .ok (.aload_n 2, 1) := by decide +kernel
theorem d_TU_findOrder_25 : decode b_TU_findOrder 25 = .ok (.arraylength, 1) := by decide +kernel
theorem d_TU_findOrder_26 : decode b_TU_findOrder 26 = .ok (.if_icmp .ge 71, 3) := by decide +kernel
theorem d_TU_findOrder_29 : decode b_TU_findOrder 29 = .ok (.aload_n 0, 1) := by decide +kernel
theorem d_TU_findOrder_30 : decode b_TU_findOrder 30 = .ok (.iload_n 3, 1) := by decide +kernel
theorem d_TU_findOrder_31 : decode b_TU_findOrder 31 = .ok (.iload_n 1, 1) := by decide +kernel
theorem d_TU_findOrder_32 : decode b_TU_findOrder 32 = .ok (.invokevirtual 50, 3) := by decide +kernel
theorem d_TU_findOrder_35 : decode b_TU_findOrder 35 = .ok (.ifCond .eq 6, 3) := by decide +kernel
theorem d_TU_findOrder_38 : decode b_TU_findOrder 38 = .ok (.iload 4, 2) := by decide +kernel
theorem d_TU_findOrder_40 : decode b_TU_findOrder 40 = .ok (.ireturn, 1) := by decide +kernel
theorem d_TU_findOrder_41 : decode b_TU_findOrder 41 = .ok (.iload 4, 2) := by decide +kernel
theorem d_TU_findOrder_43 : decode b_TU_findOrder 43 = .ok (.ifCond .ne 10, 3) := by decide +kernel
theorem d_TU_findOrder_46 : decode b_TU_findOrder 46 = .ok (.aload_n 0, 1) := by decide +kernel
theorem d_TU_findOrder_47 : decode b_TU_findOrder 47 = .ok (.invokevirtual 53, 3) := by decide +kernel
theorem d_TU_findOrder_50 : decode b_TU_findOrder 50 = .ok (.goto 14, 3) := by decide +kernel
theorem d_TU_findOrder_53 : decode b_TU_findOrder 53 = .ok (.aload_n 0, 1) := by decide +kernel
theorem d_TU_findOrder_54 : decode b_TU_findOrder 54 = .ok (.iload_n 3, 1) := by decide +kernel
theorem d_TU_findOrder_55 : decode b_TU_findOrder 55 = .ok (.aload_n 2, 1) := by decide +kernel
theorem d_TU_findOrder_56 : decode b_TU_findOrder 56 = .ok (.iload 4, 2) := by decide +kernel
theorem d_TU_findOrder_58 : decode b_TU_findOrder 58 = .ok (.iconst 1, 1) := by decide +kernel
theorem d_TU_findOrder_59 : decode b_TU_findOrder 59 = .ok (.isub, 1) := by decide +kernel
theorem d_TU_findOrder_60 : decode b_TU_findOrder 60 = .ok (.iaload, 1) := by decide +kernel
theorem d_TU_findOrder_61 : decode b_TU_findOrder 61 = .ok (.invokevirtual 56, 3) := by decide +kernel
theorem d_TU_findOrder_64 : decode b_TU_findOrder 64 = .ok (.istore 6, 2) := by decide +kernel
theorem d_TU_findOrder_66 : decode b_TU_findOrder 66 = .ok (.iload 6, 2) := by decide +kernel
theorem d_TU_findOrder_68 : decode b_TU_findOrder 68 = .ok (.iconst (-1), 1) := by decide +kernel
theorem d_TU_findOrder_69 : decode b_TU_findOrder 69 = .ok (.if_icmp .ne 6, 3) := by decide +kernel
theorem d_TU_findOrder_72 : decode b_TU_findOrder 72 = .ok (.iload 4, 2) := by decide +kernel
theorem d_TU_findOrder_74 : decode b_TU_findOrder 74 = .ok (.ireturn, 1) := by decide +kernel
theorem d_TU_findOrder_75 : decode b_TU_findOrder 75 = .ok (.aload_n 2, 1) := by decide +kernel
theorem d_TU_findOrder_76 : decode b_TU_findOrder 76 = .ok (.iload 4, 2) := by decide +kernel
theorem d_TU_findOrder_78 : decode b_TU_findOrder 78 = .ok (.iload 6, 2) := by decide +kernel
theorem d_TU_findOrder_80 : decode b_TU_findOrder 80 = .ok (.iastore, 1) := by decide +kernel
theorem d_TU_findOrder_81 : decode b_TU_findOrder 81 = .ok (.iinc 4 1, 3) := by decide +kernel
theorem d_TU_findOrder_84 : decode b_TU_findOrder 84 = .ok (.iload_n 3, 1) := by decide +kernel
theorem d_TU_findOrder_85 : decode b_TU_findOrder 85 = .ok (.iconst 1, 1) := by decide +kernel
theorem d_TU_findOrder_86 : decode b_TU_findOrder 86 = .ok (.iload 6, 2) := by decide +kernel
theorem d_TU_findOrder_88 : decode b_TU_findOrder 88 = .ok (.ishl, 1) := by decide +kernel
theorem d_TU_findOrder_89 : decode b_TU_findOrder 89 = .ok (.ior, 1) := by decide +kernel
theorem d_TU_findOrder_90 : decode b_TU_findOrder 90 = .ok (.istore_n 3, 1) := by decide +kernel
theorem d_TU_findOrder_91 : decode b_TU_findOrder 91 = .ok (.iinc 5 1, 3) := by decide +kernel
theorem d_TU_findOrder_94 : decode b_TU_findOrder 94 = .ok (.goto (-81), 3) := by decide +kernel
theorem d_TU_findOrder_97 : decode b_TU_findOrder 97 = .ok (.iload 4, 2) := by decide +kernel
theorem d_TU_findOrder_99 : decode b_TU_findOrder 99 = .ok (.ireturn, 1) := by decide +kernel
theorem d_TU_weighRests_0 : decode b_TU_weighRests 0 = .ok (.iconst 1, 1) := by decide +kernel
theorem d_TU_weighRests_1 : decode b_TU_weighRests 1 = .ok (.aload_n 0, 1) := by decide +kernel
theorem d_TU_weighRests_2 : decode b_TU_weighRests 2 = .ok (.getfield 27, 3) := by decide +kernel
theorem d_TU_weighRests_5 : decode b_TU_weighRests 5 = .ok (.ishl, 1) := by decide +kernel
theorem d_TU_weighRests_6 : decode b_TU_weighRests 6 = .ok (.iconst 1, 1) := by decide +kernel
theorem d_TU_weighRests_7 : decode b_TU_weighRests 7 = .ok (.isub, 1) := by decide +kernel
theorem d_TU_weighRests_8 : decode b_TU_weighRests 8 = .ok (.istore_n 2, 1) := by decide +kernel
theorem d_TU_weighRests_9 : decode b_TU_weighRests 9 = .ok (.iload_n 2, 1) := by decide +kernel
theorem d_TU_weighRests_10 : decode b_TU_weighRests 10 = .ok (.ifCond .le 70, 3) := by decide +kernel
theorem d_TU_weighRests_13 : decode b_TU_weighRests 13 = .ok (.aload_n 0, 1) := by decide +kernel
theorem d_TU_weighRests_14 : decode b_TU_weighRests 14 = .ok (.iload_n 2, 1) := by decide +kernel
theorem d_TU_weighRests_15 : decode b_TU_weighRests 15 = .ok (.iload_n 1, 1) := by decide +kernel
theorem d_TU_weighRests_16 : decode b_TU_weighRests 16 = .ok (.invokevirtual 50, 3) := by decide +kernel
theorem d_TU_weighRests_19 : decode b_TU_weighRests 19 = .ok (.istore_n 3, 1) := by decide +kernel
theorem d_TU_weighRests_20 : decode b_TU_weighRests 20 = .ok (.iconst 0, 1) := by decide +kernel
theorem d_TU_weighRests_21 : decode b_TU_weighRests 21 = .ok (.istore 4, 2) := by decide +kernel
theorem d_TU_weighRests_23 : decode b_TU_weighRests 23 = .ok (.iload 4, 2) := by decide +kernel
theorem d_TU_weighRests_25 : decode b_TU_weighRests 25 = .ok (.aload_n 0, 1) := by decide +kernel
theorem d_TU_weighRests_26 : decode b_TU_weighRests 26 = .ok (.getfield 27, 3) := by decide +kernel
theorem d_TU_weighRests_29 : decode b_TU_weighRests 29 = .ok (.if_icmp .ge 45, 3) := by decide +kernel
theorem d_TU_weighRests_32 : decode b_TU_weighRests 32 = .ok (.iload_n 2, 1) := by decide +kernel
theorem d_TU_weighRests_33 : decode b_TU_weighRests 33 = .ok (.iload 4, 2) := by decide +kernel
theorem d_TU_weighRests_35 : decode b_TU_weighRests 35 = .ok (.invokestatic 31, 3) := by decide +kernel
theorem d_TU_weighRests_38 : decode b_TU_weighRests 38 = .ok (.ifCond .eq 30, 3) := by decide +kernel
theorem d_TU_weighRests_41 : decode b_TU_weighRests 41 = .ok (.aload_n 0, 1) := by decide +kernel
theorem d_TU_weighRests_42 : decode b_TU_weighRests 42 = .ok (.getfield 24, 3) := by decide +kernel
theorem d_TU_weighRests_45 : decode b_TU_weighRests 45 = .ok (.iload_n 2, 1) := by decide +kernel
theorem d_TU_weighRests_46 : decode b_TU_weighRests 46 = .ok (.bipush 8, 2) := by decide +kernel
theorem d_TU_weighRests_48 : decode b_TU_weighRests 48 = .ok (.imul, 1) := by decide +kernel
theorem d_TU_weighRests_49 : decode b_TU_weighRests 49 = .ok (.iload 4, 2) := by decide +kernel
theorem d_TU_weighRests_51 : decode b_TU_weighRests 51 = .ok (.iadd, 1) := by decide +kernel
theorem d_TU_weighRests_52 : decode b_TU_weighRests 52 = .ok (.iload_n 3, 1) := by decide +kernel
theorem d_TU_weighRests_53 : decode b_TU_weighRests 53 = .ok (.ifCond .eq 7, 3) := by decide +kernel
theorem d_TU_weighRests_56 : decode b_TU_weighRests 56 = .ok (.iconst 0, 1) := by decide +kernel
theorem d_TU_weighRests_57 : decode b_TU_weighRests 57 = .ok (.goto 10, 3) := by decide +kernel
theorem d_TU_weighRests_60 : decode b_TU_weighRests 60 = .ok (.aload_n 0, 1) := by decide +kernel
theorem d_TU_weighRests_61 : decode b_TU_weighRests 61 = .ok (.iload_n 2, 1) := by decide +kernel
theorem d_TU_weighRests_62 : decode b_TU_weighRests 62 = .ok (.iload 4, 2) := by decide +kernel
theorem d_TU_weighRests_64 : decode b_TU_weighRests 64 = .ok (.invokevirtual 63, 3) := by decide +kernel
theorem d_TU_weighRests_67 : decode b_TU_weighRests 67 = .ok (.iastore, 1) := by decide +kernel
theorem d_TU_weighRests_68 : decode b_TU_weighRests 68 = .ok (.iinc 4 1, 3) := by decide +kernel
theorem d_TU_weighRests_71 : decode b_TU_weighRests 71 = .ok (.goto (-48), 3) := by decide +kernel
theorem d_TU_weighRests_74 : decode b_TU_weighRests 74 = .ok (.iinc 2 (-1), 3) := by decide +kernel
theorem d_TU_weighRests_77 : decode b_TU_weighRests 77 = .ok (.goto (-68), 3) := by decide +kernel
theorem d_TU_weighRests_80 : decode b_TU_weighRests 80 = .ok (.return_, 1) := by decide +kernel
theorem d_TU_covers_0 : decode b_TU_covers 0 = .ok (.iload_n 2, 1) := by decide +kernel
theorem d_TU_covers_1 : decode b_TU_covers 1 = .ok (.aload_n 0, 1) := by decide +kernel
theorem d_TU_covers_2 : decode b_TU_covers 2 = .ok (.iload_n 1, 1) := by decide +kernel
theorem d_TU_covers_3 : decode b_TU_covers 3 = .ok (.invokevirtual 35, 3) := by decide +kernel
theorem d_TU_covers_6 : decode b_TU_covers 6 = .ok (.iconst (-1), 1) := by decide +kernel
theorem d_TU_covers_7 : decode b_TU_covers 7 = .ok (.ixor, 1) := by decide +kernel
theorem d_TU_covers_8 : decode b_TU_covers 8 = .ok (.iand, 1) := by decide +kernel
theorem d_TU_covers_9 : decode b_TU_covers 9 = .ok (.ifCond .ne 7, 3) := by decide +kernel
theorem d_TU_covers_12 : decode b_TU_covers 12 = .ok (.iconst 1, 1) := by decide +kernel
theorem d_TU_covers_13 : decode b_TU_covers 13 = .ok (.goto 4, 3) := by decide +kernel
theorem d_TU_covers_16 : decode b_TU_covers 16 = .ok (.iconst 0, 1) := by decide +kernel
theorem d_TU_covers_17 : decode b_TU_covers 17 = .ok (.ireturn, 1) := by decide +kernel
theorem d_TU_leastRest_0 : decode b_TU_leastRest 0 = .ok (.ldc 66, 2) := by decide +kernel
theorem d_TU_leastRest_2 : decode b_TU_leastRest 2 = .ok (.istore_n 3, 1) := by decide +kernel
theorem d_TU_leastRest_3 : decode b_TU_leastRest 3 = .ok (.iconst 0, 1) := by decide +kernel
theorem d_TU_leastRest_4 : decode b_TU_leastRest 4 = .ok (.istore 4, 2) := by decide +kernel
theorem d_TU_leastRest_6 : decode b_TU_leastRest 6 = .ok (.iload 4, 2) := by decide +kernel
theorem d_TU_leastRest_8 : decode b_TU_leastRest 8 = .ok (.aload_n 0, 1) := by decide +kernel
theorem d_TU_leastRest_9 : decode b_TU_leastRest 9 = .ok (.getfield 27, 3) := by decide +kernel
theorem d_TU_leastRest_12 : decode b_TU_leastRest 12 = .ok (.if_icmp .ge 31, 3) := by decide +kernel
theorem d_TU_leastRest_15 : decode b_TU_leastRest 15 = .ok (.iload_n 1, 1) := by decide +kernel
theorem d_TU_leastRest_16 : decode b_TU_leastRest 16 = .ok (.iload 4, 2) := by decide +kernel
theorem d_TU_leastRest_18 : decode b_TU_leastRest 18 = .ok (.invokestatic 31, 3) := by decide +kernel
theorem d_TU_leastRest_21 : decode b_TU_leastRest 21 = .ok (.ifCond .ne 16, 3) := by decide +kernel
theorem d_TU_leastRest_24 : decode b_TU_leastRest 24 = .ok (.iload_n 3, 1) := by decide +kernel
theorem d_TU_leastRest_25 : decode b_TU_leastRest 25 = .ok (.aload_n 0, 1) := by decide +kernel
theorem d_TU_leastRest_26 : decode b_TU_leastRest 26 = .ok (.iload_n 1, 1) := by decide +kernel
theorem d_TU_leastRest_27 : decode b_TU_leastRest 27 = .ok (.iload_n 2, 1) := by decide +kernel
theorem d_TU_leastRest_28 : decode b_TU_leastRest 28 = .ok (.iload 4, 2) := by decide +kernel
theorem d_TU_leastRest_30 : decode b_TU_leastRest 30 = .ok (.invokevirtual 67, 3) := by decide +kernel
theorem d_TU_leastRest_33 : decode b_TU_leastRest 33 = .ok (.invokestatic 71, 3) := by decide +kernel
theorem d_TU_leastRest_36 : decode b_TU_leastRest 36 = .ok (.istore_n 3, 1) := by decide +kernel
theorem d_TU_leastRest_37 : decode b_TU_leastRest 37 = .ok (.iinc 4 1, 3) := by decide +kernel
theorem d_TU_leastRest_40 : decode b_TU_leastRest 40 = .ok (.goto (-34), 3) := by decide +kernel
theorem d_TU_leastRest_43 : decode b_TU_leastRest 43 = .ok (.iload_n 3, 1) := by decide +kernel
theorem d_TU_leastRest_44 : decode b_TU_leastRest 44 = .ok (.ireturn, 1) := by decide +kernel
theorem d_TU_weightOfNext_0 : decode b_TU_weightOfNext 0 = .ok (.aload_n 0, 1) := by decide +kernel
theorem d_TU_weightOfNext_1 : decode b_TU_weightOfNext 1 = .ok (.iload_n 2, 1) := by decide +kernel
theorem d_TU_weightOfNext_2 : decode b_TU_weightOfNext 2 = .ok (.iload_n 3, 1) := by decide +kernel
theorem d_TU_weightOfNext_3 : decode b_TU_weightOfNext 3 = .ok (.invokevirtual 60, 3) := by decide +kernel
theorem d_TU_weightOfNext_6 : decode b_TU_weightOfNext 6 = .ok (.aload_n 0, 1) := by decide +kernel
theorem d_TU_weightOfNext_7 : decode b_TU_weightOfNext 7 = .ok (.getfield 15, 3) := by decide +kernel
theorem d_TU_weightOfNext_10 : decode b_TU_weightOfNext 10 = .ok (.iload_n 3, 1) := by decide +kernel
theorem d_TU_weightOfNext_11 : decode b_TU_weightOfNext 11 = .ok (.iaload, 1) := by decide +kernel
theorem d_TU_weightOfNext_12 : decode b_TU_weightOfNext 12 = .ok (.iadd, 1) := by decide +kernel
theorem d_TU_weightOfNext_13 : decode b_TU_weightOfNext 13 = .ok (.invokestatic 76, 3) := by decide +kernel
theorem d_TU_weightOfNext_16 : decode b_TU_weightOfNext 16 = .ok (.istore 4, 2) := by decide +kernel
theorem d_TU_weightOfNext_18 : decode b_TU_weightOfNext 18 = .ok (.iload 4, 2) := by decide +kernel
theorem d_TU_weightOfNext_20 : decode b_TU_weightOfNext 20 = .ok (.aload_n 0, 1) := by decide +kernel
theorem d_TU_weightOfNext_21 : decode b_TU_weightOfNext 21 = .ok (.getfield 24, 3) := by decide +kernel
theorem d_TU_weightOfNext_24 : decode b_TU_weightOfNext 24 = .ok (.iload_n 1, 1) := by decide +kernel
theorem d_TU_weightOfNext_25 : decode b_TU_weightOfNext 25 = .ok (.iconst 1, 1) := by decide +kernel
theorem d_TU_weightOfNext_26 : decode b_TU_weightOfNext 26 = .ok (.iload_n 3, 1) := by decide +kernel
theorem d_TU_weightOfNext_27 : decode b_TU_weightOfNext 27 = .ok (.ishl, 1) := by decide +kernel
theorem d_TU_weightOfNext_28 : decode b_TU_weightOfNext 28 = .ok (.ior, 1) := by decide +kernel
theorem d_TU_weightOfNext_29 : decode b_TU_weightOfNext 29 = .ok (.bipush 8, 2) := by decide +kernel
theorem d_TU_weightOfNext_31 : decode b_TU_weightOfNext 31 = .ok (.imul, 1) := by decide +kernel
theorem d_TU_weightOfNext_32 : decode b_TU_weightOfNext 32 = .ok (.iload_n 3, 1) := by decide +kernel
theorem d_TU_weightOfNext_33 : decode b_TU_weightOfNext 33 = .ok (.iadd, 1) := by decide +kernel
theorem d_TU_weightOfNext_34 : decode b_TU_weightOfNext 34 = .ok (.iaload, 1) := by decide +kernel
theorem d_TU_weightOfNext_35 : decode b_TU_weightOfNext 35 = .ok (.iadd, 1) := by decide +kernel
theorem d_TU_weightOfNext_36 : decode b_TU_weightOfNext 36 = .ok (.ireturn, 1) := by decide +kernel
theorem d_TU_wayBetween_0 : decode b_TU_wayBetween 0 = .ok (.aload_n 0, 1) := by decide +kernel
theorem d_TU_wayBetween_1 : decode b_TU_wayBetween 1 = .ok (.getfield 21, 3) := by decide +kernel
theorem d_TU_wayBetween_4 : decode b_TU_wayBetween 4 = .ok (.aload_n 0, 1) := by decide +kernel
theorem d_TU_wayBetween_5 : decode b_TU_wayBetween 5 = .ok (.getfield 9, 3) := by decide +kernel
theorem d_TU_wayBetween_8 : decode b_TU_wayBetween 8 = .ok (.iload_n 1, 1) := by decide +kernel
theorem d_TU_wayBetween_9 : decode b_TU_wayBetween 9 = .ok (.iaload, 1) := by decide +kernel
theorem d_TU_wayBetween_10 : decode b_TU_wayBetween 10 = .ok (.bipush 10, 2) := by decide +kernel
theorem d_TU_wayBetween_12 : decode b_TU_wayBetween 12 = .ok (.imul, 1) := by decide +kernel
theorem d_TU_wayBetween_13 : decode b_TU_wayBetween 13 = .ok (.aload_n 0, 1) := by decide +kernel
theorem d_TU_wayBetween_14 : decode b_TU_wayBetween 14 = .ok (.getfield 9, 3) := by decide +kernel
theorem d_TU_wayBetween_17 : decode b_TU_wayBetween 17 = .ok (.iload_n 2, 1) := by decide +kernel
theorem d_TU_wayBetween_18 : decode b_TU_wayBetween 18 = .ok (.iaload, 1) := by decide +kernel
theorem d_TU_wayBetween_19 : decode b_TU_wayBetween 19 = .ok (.iadd, 1) := by decide +kernel
theorem d_TU_wayBetween_20 : decode b_TU_wayBetween 20 = .ok (.iaload, 1) := by decide +kernel
theorem d_TU_wayBetween_21 : decode b_TU_wayBetween 21 = .ok (.ireturn, 1) := by decide +kernel
theorem d_TU_weight_0 : decode b_TU_weight 0 = .ok (.iload_n 0, 1) := by decide +kernel
theorem d_TU_weight_1 : decode b_TU_weight 1 = .ok (.iconst 4, 1) := by decide +kernel
theorem d_TU_weight_2 : decode b_TU_weight 2 = .ok (.ishl, 1) := by decide +kernel
theorem d_TU_weight_3 : decode b_TU_weight 3 = .ok (.iconst 1, 1) := by decide +kernel
theorem d_TU_weight_4 : decode b_TU_weight 4 = .ok (.iadd, 1) := by decide +kernel
theorem d_TU_weight_5 : decode b_TU_weight 5 = .ok (.ireturn, 1) := by decide +kernel
theorem d_TU_bestFirst_0 : decode b_TU_bestFirst 0 = .ok (.iconst (-1), 1) := by decide +kernel
theorem d_TU_bestFirst_1 : decode b_TU_bestFirst 1 = .ok (.istore_n 1, 1) := by decide +kernel
theorem d_TU_bestFirst_2 : decode b_TU_bestFirst 2 = .ok (.ldc 66, 2) := by decide +kernel
theorem d_TU_bestFirst_4 : decode b_TU_bestFirst 4 = .ok (.istore_n 2, 1) := by decide +kernel
theorem d_TU_bestFirst_5 : decode b_TU_bestFirst 5 = .ok (.iconst 0, 1) := by decide +kernel
theorem d_TU_bestFirst_6 : decode b_TU_bestFirst 6 = .ok (.istore_n 3, 1) := by decide +kernel
theorem d_TU_bestFirst_7 : decode b_TU_bestFirst 7 = .ok (.iload_n 3, 1) := by decide +kernel
theorem d_TU_bestFirst_8 : decode b_TU_bestFirst 8 = .ok (.aload_n 0, 1) := by decide +kernel
theorem d_TU_bestFirst_9 : decode b_TU_bestFirst 9 = .ok (.getfield 27, 3) := by decide +kernel
theorem d_TU_bestFirst_12 : decode b_TU_bestFirst 12 = .ok (.if_icmp .ge 27, 3) := by decide +kernel
theorem d_TU_bestFirst_15 : decode b_TU_bestFirst 15 = .ok (.aload_n 0, 1) := by decide +kernel
theorem d_TU_bestFirst_16 : decode b_TU_bestFirst 16 = .ok (.iload_n 3, 1) := by decide +kernel
theorem d_TU_bestFirst_17 : decode b_TU_bestFirst 17 = .ok (.invokevirtual 47, 3) := by decide +kernel
theorem d_TU_bestFirst_20 : decode b_TU_bestFirst 20 = .ok (.istore 4, 2) := by decide +kernel
theorem d_TU_bestFirst_22 : decode b_TU_bestFirst 22 = .ok (.iload 4, 2) := by decide +kernel
theorem d_TU_bestFirst_24 : decode b_TU_bestFirst 24 = .ok (.iload_n 2, 1) := by decide +kernel
theorem d_TU_bestFirst_25 : decode b_TU_bestFirst 25 = .ok (.if_icmp .ge 8, 3) := by decide +kernel
theorem d_TU_bestFirst_28 : decode b_TU_bestFirst 28 = .ok (.iload 4, 2) := by decide +kernel
theorem d_TU_bestFirst_30 : decode b_TU_bestFirst 30 = .ok (.istore_n 2, 1) := by decide +kernel
theorem d_TU_bestFirst_31 : decode b_TU_bestFirst 31 = .ok (.iload_n 3, 1) := by decide +kernel
theorem d_TU_bestFirst_32 : decode b_TU_bestFirst 32 = .ok (.istore_n 1, 1) := by decide +kernel
theorem d_TU_bestFirst_33 : decode b_TU_bestFirst 33 = .ok (.iinc 3 1, 3) := by decide +kernel
theorem d_TU_bestFirst_36 : decode b_TU_bestFirst 36 = .ok (.goto (-29), 3) := by decide +kernel
theorem d_TU_bestFirst_39 : decode b_TU_bestFirst 39 = .ok (.iload_n 1, 1) := by decide +kernel
theorem d_TU_bestFirst_40 : decode b_TU_bestFirst 40 = .ok (.ireturn, 1) := by decide +kernel
theorem d_TU_weightOfFirst_0 : decode b_TU_weightOfFirst 0 = .ok (.aload_n 0, 1) := by decide +kernel
theorem d_TU_weightOfFirst_1 : decode b_TU_weightOfFirst 1 = .ok (.getfield 15, 3) := by decide +kernel
theorem d_TU_weightOfFirst_4 : decode b_TU_weightOfFirst 4 = .ok (.iload_n 1, 1) := by decide +kernel
theorem d_TU_weightOfFirst_5 : decode b_TU_weightOfFirst 5 = .ok (.iaload, 1) := by decide +kernel
theorem d_TU_weightOfFirst_6 : decode b_TU_weightOfFirst 6 = .ok (.invokestatic 76, 3) := by decide +kernel
theorem d_TU_weightOfFirst_9 : decode b_TU_weightOfFirst 9 = .ok (.aload_n 0, 1) := by decide +kernel
theorem d_TU_weightOfFirst_10 : decode b_TU_weightOfFirst 10 = .ok (.getfield 24, 3) := by decide +kernel
theorem d_TU_weightOfFirst_13 : decode b_TU_weightOfFirst 13 = .ok (.iconst 1, 1) := by decide +kernel
theorem d_TU_weightOfFirst_14 : decode b_TU_weightOfFirst 14 = .ok (.iload_n 1, 1) := by decide +kernel
theorem d_TU_weightOfFirst_15 : decode b_TU_weightOfFirst 15 = .ok (.ishl, 1) := by decide +kernel
theorem d_TU_weightOfFirst_16 : decode b_TU_weightOfFirst 16 = .ok (.bipush 8, 2) := by decide +kernel
theorem d_TU_weightOfFirst_18 : decode b_TU_weightOfFirst 18 = .ok (.imul, 1) := by decide +kernel
theorem d_TU_weightOfFirst_19 : decode b_TU_weightOfFirst 19 = .ok (.iload_n 1, 1) := by decide +kernel
theorem d_TU_weightOfFirst_20 : decode b_TU_weightOfFirst 20 = .ok (.iadd, 1) := by decide +kernel
theorem d_TU_weightOfFirst_21 : decode b_TU_weightOfFirst 21 = .ok (.iaload, 1) := by decide +kernel
theorem d_TU_weightOfFirst_22 : decode b_TU_weightOfFirst 22 = .ok (.iadd, 1) := by decide +kernel
theorem d_TU_weightOfFirst_23 : decode b_TU_weightOfFirst 23 = .ok (.ireturn, 1) := by decide +kernel
theorem d_TU_bestNext_0 : decode b_TU_bestNext 0 = .ok (.iconst (-1), 1) := by decide +kernel
theorem d_TU_bestNext_1 : decode b_TU_bestNext 1 = .ok (.istore_n 3, 1) := by decide +kernel
theorem d_TU_bestNext_2 : decode b_TU_bestNext 2 = .ok (.ldc 66, 2) := by decide +kernel
theorem d_TU_bestNext_4 : decode b_TU_bestNext 4 = .ok (.istore 4, 2) := by decide +kernel
theorem d_TU_bestNext_6 : decode b_TU_bestNext 6 = .ok (.iconst 0, 1) := by decide +kernel
theorem d_TU_bestNext_7 : decode b_TU_bestNext 7 = .ok (.istore 5, 2) := by decide +kernel
theorem d_TU_bestNext_9 : decode b_TU_bestNext 9 = .ok (.iload 5, 2) := by decide +kernel
theorem d_TU_bestNext_11 : decode b_TU_bestNext 11 = .ok (.aload_n 0, 1) := by decide +kernel
theorem d_TU_bestNext_12 : decode b_TU_bestNext 12 = .ok (.getfield 27, 3) := by decide +kernel
theorem d_TU_bestNext_15 : decode b_TU_bestNext 15 = .ok (.if_icmp .ge 47, 3) := by decide +kernel
theorem d_TU_bestNext_18 : decode b_TU_bestNext 18 = .ok (.iload_n 1, 1) := by decide +kernel
theorem d_TU_bestNext_19 : decode b_TU_bestNext 19 = .ok (.iload 5, 2) := by decide +kernel
theorem d_TU_bestNext_21 : decode b_TU_bestNext 21 = .ok (.invokestatic 31, 3) := by decide +kernel
theorem d_TU_bestNext_24 : decode b_TU_bestNext 24 = .ok (.ifCond .eq 8, 3) := by decide +kernel
theorem d_TU_bestNext_27 : decode b_TU_bestNext 27 = .ok (.ldc 66, 2) := by decide +kernel
theorem d_TU_bestNext_29 : decode b_TU_bestNext 29 = .ok (.goto 11, 3) := by decide +kernel
theorem d_TU_bestNext_32 : decode b_TU_bestNext 32 = .ok (.aload_n 0, 1) := by decide +kernel
theorem d_TU_bestNext_33 : decode b_TU_bestNext 33 = .ok (.iload_n 1, 1) := by decide +kernel
theorem d_TU_bestNext_34 : decode b_TU_bestNext 34 = .ok (.iload_n 2, 1) := by decide +kernel
theorem d_TU_bestNext_35 : decode b_TU_bestNext 35 = .ok (.iload 5, 2) := by decide +kernel
theorem d_TU_bestNext_37 : decode b_TU_bestNext 37 = .ok (.invokevirtual 67, 3) := by decide +kernel
theorem d_TU_bestNext_40 : decode b_TU_bestNext 40 = .ok (.istore 6, 2) := by decide +kernel
theorem d_TU_bestNext_42 : decode b_TU_bestNext 42 = .ok (.iload 6, 2) := by decide +kernel
theorem d_TU_bestNext_44 : decode b_TU_bestNext 44 = .ok (.iload 4, 2) := by decide +kernel
theorem d_TU_bestNext_46 : decode b_TU_bestNext 46 = .ok (.if_icmp .ge 10, 3) := by decide +kernel
theorem d_TU_bestNext_49 : decode b_TU_bestNext 49 = .ok (.iload 6, 2) := by decide +kernel
theorem d_TU_bestNext_51 : decode b_TU_bestNext 51 = .ok (.istore 4, 2) := by decide +kernel
theorem d_TU_bestNext_53 : decode b_TU_bestNext 53 = .ok (.iload 5, 2) := by decide +kernel
theorem d_TU_bestNext_55 : decode b_TU_bestNext 55 = .ok (.istore_n 3, 1) := by decide +kernel
theorem d_TU_bestNext_56 : decode b_TU_bestNext 56 = .ok (.iinc 5 1, 3) := by decide +kernel
theorem d_TU_bestNext_59 : decode b_TU_bestNext 59 = .ok (.goto (-50), 3) := by decide +kernel
theorem d_TU_bestNext_62 : decode b_TU_bestNext 62 = .ok (.iload_n 3, 1) := by decide +kernel
theorem d_TU_bestNext_63 : decode b_TU_bestNext 63 = .ok (.ireturn, 1) := by decide +kernel
theorem d_TU_secondsOf_0 : decode b_TU_secondsOf 0 = .ok (.iconst 0, 1) := by decide +kernel
theorem d_TU_secondsOf_1 : decode b_TU_secondsOf 1 = .ok (.istore_n 3, 1) := by decide +kernel
theorem d_TU_secondsOf_2 : decode b_TU_secondsOf 2 = .ok (.iconst 0, 1) := by decide +kernel
theorem d_TU_secondsOf_3 : decode b_TU_secondsOf 3 = .ok (.istore 4, 2) := by decide +kernel
theorem d_TU_secondsOf_5 : decode b_TU_secondsOf 5 = .ok (.iload 4, 2) := by decide +kernel
theorem d_TU_secondsOf_7 : decode b_TU_secondsOf 7 = .ok (.iload_n 2, 1) := by decide +kernel
theorem d_TU_secondsOf_8 : decode b_TU_secondsOf 8 = .ok (.if_icmp .ge 50, 3) := by decide +kernel
theorem d_TU_secondsOf_11 : decode b_TU_secondsOf 11 = .ok (.iload 4, 2) := by decide +kernel
theorem d_TU_secondsOf_13 : decode b_TU_secondsOf 13 = .ok (.aload_n 1, 1) := by decide +kernel
theorem d_TU_secondsOf_14 : decode b_TU_secondsOf 14 = .ok (.arraylength, 1) := by decide +kernel
theorem d_TU_secondsOf_15 : decode b_TU_secondsOf 15 = .ok (.if_icmp .ge 43, 3) := by decide +kernel
theorem d_TU_secondsOf_18 : decode b_TU_secondsOf 18 = .ok (.iload_n 3, 1) := by decide +kernel
theorem d_TU_secondsOf_19 : decode b_TU_secondsOf 19 = .ok (.aload_n 0, 1) := by decide +kernel
theorem d_TU_secondsOf_20 : decode b_TU_secondsOf 20 = .ok (.getfield 15, 3) := by decide +kernel
theorem d_TU_secondsOf_23 : decode b_TU_secondsOf 23 = .ok (.aload_n 1, 1) := by decide +kernel
theorem d_TU_secondsOf_24 : decode b_TU_secondsOf 24 = .ok (.iload 4, 2) := by decide +kernel
theorem d_TU_secondsOf_26 : decode b_TU_secondsOf 26 = .ok (.iaload, 1) := by decide +kernel
theorem d_TU_secondsOf_27 : decode b_TU_secondsOf 27 = .ok (.iaload, 1) := by decide +kernel
theorem d_TU_secondsOf_28 : decode b_TU_secondsOf 28 = .ok (.iadd, 1) := by decide +kernel
theorem d_TU_secondsOf_29 : decode b_TU_secondsOf 29 = .ok (.istore_n 3, 1) := by decide +kernel
theorem d_TU_secondsOf_30 : decode b_TU_secondsOf 30 = .ok (.iload 4, 2) := by decide +kernel
theorem d_TU_secondsOf_32 : decode b_TU_secondsOf 32 = .ok (.ifCond .le 20, 3) := by decide +kernel
theorem d_TU_secondsOf_35 : decode b_TU_secondsOf 35 = .ok (.iload_n 3, 1) := by decide +kernel
theorem d_TU_secondsOf_36 : decode b_TU_secondsOf 36 = .ok (.aload_n 0, 1) := by decide +kernel
theorem d_TU_secondsOf_37 : decode b_TU_secondsOf 37 = .ok (.aload_n 1, 1) := by decide +kernel
theorem d_TU_secondsOf_38 : decode b_TU_secondsOf 38 = .ok (.iload 4, 2) := by decide +kernel
theorem d_TU_secondsOf_40 : decode b_TU_secondsOf 40 = .ok (.iconst 1, 1) := by decide +kernel
theorem d_TU_secondsOf_41 : decode b_TU_secondsOf 41 = .ok (.isub, 1) := by decide +kernel
theorem d_TU_secondsOf_42 : decode b_TU_secondsOf 42 = .ok (.iaload, 1) := by decide +kernel
theorem d_TU_secondsOf_43 : decode b_TU_secondsOf 43 = .ok (.aload_n 1, 1) := by decide +kernel
theorem d_TU_secondsOf_44 : decode b_TU_secondsOf 44 = .ok (.iload 4, 2) := by decide +kernel
theorem d_TU_secondsOf_46 : decode b_TU_secondsOf 46 = .ok (.iaload, 1) := by decide +kernel
theorem d_TU_secondsOf_47 : decode b_TU_secondsOf 47 = .ok (.invokevirtual 60, 3) := by decide +kernel
theorem d_TU_secondsOf_50 : decode b_TU_secondsOf 50 = .ok (.iadd, 1) := by decide +kernel
theorem d_TU_secondsOf_51 : decode b_TU_secondsOf 51 = .ok (.istore_n 3, 1) := by decide +kernel
theorem d_TU_secondsOf_52 : decode b_TU_secondsOf 52 = .ok (.iinc 4 1, 3) := by decide +kernel
theorem d_TU_secondsOf_55 : decode b_TU_secondsOf 55 = .ok (.goto (-50), 3) := by decide +kernel
theorem d_TU_secondsOf_58 : decode b_TU_secondsOf 58 = .ok (.iload_n 3, 1) := by decide +kernel
theorem d_TU_secondsOf_59 : decode b_TU_secondsOf 59 = .ok (.ireturn, 1) := by decide +kernel
theorem d_CL_planned_0 : decode b_CL_planned 0 = .ok (.iload_n 1, 1) := by decide +kernel
theorem d_CL_planned_1 : decode b_CL_planned 1 = .ok (.aload_n 0, 1) := by decide +kernel
theorem d_CL_planned_2 : decode b_CL_planned 2 = .ok (.getfield 47, 3) := by decide +kernel
theorem d_CL_planned_5 : decode b_CL_planned 5 = .ok (.invokestatic 53, 3) := by decide +kernel
theorem d_CL_planned_8 : decode b_CL_planned 8 = .ok (.aload_n 0, 1) := by decide +kernel
theorem d_CL_planned_9 : decode b_CL_planned 9 = .ok (.getfield 43, 3) := by decide +kernel
theorem d_CL_planned_12 : decode b_CL_planned 12 = .ok (.iload_n 1, 1) := by decide +kernel
theorem d_CL_planned_13 : decode b_CL_planned 13 = .ok (.iaload, 1) := by decide +kernel
theorem d_CL_planned_14 : decode b_CL_planned 14 = .ok (.ireturn, 1) := by decide +kernel
theorem d_CL_from_0 : decode b_CL_from 0 = .ok (.iload_n 1, 1) := by decide +kernel
theorem d_CL_from_1 : decode b_CL_from 1 = .ok (.aload_n 0, 1) := by decide +kernel
theorem d_CL_from_2 : decode b_CL_from 2 = .ok (.getfield 39, 3) := by decide +kernel
theorem d_CL_from_5 : decode b_CL_from 5 = .ok (.invokevirtual 82, 3) := by decide +kernel
theorem d_CL_from_8 : decode b_CL_from 8 = .ok (.invokestatic 53, 3) := by decide +kernel
theorem d_CL_from_11 : decode b_CL_from 11 = .ok (.aload_n 0, 1) := by decide +kernel
theorem d_CL_from_12 : decode b_CL_from 12 = .ok (.getfield 39, 3) := by decide +kernel
theorem d_CL_from_15 : decode b_CL_from 15 = .ok (.iload_n 1, 1) := by decide +kernel
theorem d_CL_from_16 : decode b_CL_from 16 = .ok (.invokevirtual 140, 3) := by decide +kernel
theorem d_CL_from_19 : decode b_CL_from 19 = .ok (.ireturn, 1) := by decide +kernel
theorem d_TU_leastSecondsFrom_0 : decode b_TU_leastSecondsFrom 0 = .ok (.aload_n 0, 1) := by decide +kernel
theorem d_TU_leastSecondsFrom_1 : decode b_TU_leastSecondsFrom 1 = .ok (.getfield 18, 3) := by decide +kernel
theorem d_TU_leastSecondsFrom_4 : decode b_TU_leastSecondsFrom 4 = .ok (.iload_n 1, 1) := by decide +kernel
theorem d_TU_leastSecondsFrom_5 : decode b_TU_leastSecondsFrom 5 = .ok (.iaload, 1) := by decide +kernel
theorem d_TU_leastSecondsFrom_6 : decode b_TU_leastSecondsFrom 6 = .ok (.ifCond .ne 5, 3) := by decide +kernel
theorem d_TU_leastSecondsFrom_9 : decode b_TU_leastSecondsFrom 9 = .ok (.iconst (-1), 1) := by decide +kernel
theorem d_TU_leastSecondsFrom_10 : decode b_TU_leastSecondsFrom 10 = .ok (.ireturn, 1) := by decide +kernel
theorem d_TU_leastSecondsFrom_11 : decode b_TU_leastSecondsFrom 11 = .ok (.aload_n 0, 1) := by decide +kernel
theorem d_TU_leastSecondsFrom_12 : decode b_TU_leastSecondsFrom 12 = .ok (.aload_n 0, 1) := by decide +kernel
theorem d_TU_leastSecondsFrom_13 : decode b_TU_leastSecondsFrom 13 = .ok (.invokevirtual 39, 3) := by decide +kernel
theorem d_TU_leastSecondsFrom_16 : decode b_TU_leastSecondsFrom 16 = .ok (.invokevirtual 43, 3) := by decide +kernel
theorem d_TU_leastSecondsFrom_19 : decode b_TU_leastSecondsFrom 19 = .ok (.aload_n 0, 1) := by decide +kernel
theorem d_TU_leastSecondsFrom_20 : decode b_TU_leastSecondsFrom 20 = .ok (.iload_n 1, 1) := by decide +kernel
theorem d_TU_leastSecondsFrom_21 : decode b_TU_leastSecondsFrom 21 = .ok (.invokevirtual 47, 3) := by decide +kernel
theorem d_TU_leastSecondsFrom_24 : decode b_TU_leastSecondsFrom 24 = .ok (.iconst 4, 1) := by decide +kernel
theorem d_TU_leastSecondsFrom_25 : decode b_TU_leastSecondsFrom 25 = .ok (.ishr, 1) := by decide +kernel
theorem d_TU_leastSecondsFrom_26 : decode b_TU_leastSecondsFrom 26 = .ok (.ireturn, 1) := by decide +kernel
theorem d_CL_state_0 : decode b_CL_state 0 = .ok (.iload_n 1, 1) := by decide +kernel
theorem d_CL_state_1 : decode b_CL_state 1 = .ok (.aload_n 0, 1) := by decide +kernel
theorem d_CL_state_2 : decode b_CL_state 2 = .ok (.getfield 25, 3) := by decide +kernel
theorem d_CL_state_5 : decode b_CL_state 5 = .ok (.invokevirtual 63, 3) := by decide +kernel
theorem d_CL_state_8 : decode b_CL_state 8 = .ok (.invokestatic 53, 3) := by decide +kernel
theorem d_CL_state_11 : decode b_CL_state 11 = .ok (.iload_n 2, 1) := by decide +kernel
theorem d_CL_state_12 : decode b_CL_state 12 = .ok (.invokestatic 96, 3) := by decide +kernel
theorem d_CL_state_15 : decode b_CL_state 15 = .ok (.aload_n 0, 1) := by decide +kernel
theorem d_CL_state_16 : decode b_CL_state 16 = .ok (.iload_n 1, 1) := by decide +kernel
theorem d_CL_state_17 : decode b_CL_state 17 = .ok (.iload_n 2, 1) := by decide +kernel
theorem d_CL_state_18 : decode b_CL_state 18 = .ok (.invokevirtual 143, 3) := by decide +kernel
theorem d_CL_state_21 : decode b_CL_state 21 = .ok (.ireturn, 1) := by decide +kernel
theorem d_CL_word_0 : decode b_CL_word 0 = .ok (.iload_n 1, 1) := by decide +kernel
theorem d_CL_word_1 : decode b_CL_word 1 = .ok (.aload_n 0, 1) := by decide +kernel
theorem d_CL_word_2 : decode b_CL_word 2 = .ok (.getfield 25, 3) := by decide +kernel
theorem d_CL_word_5 : decode b_CL_word 5 = .ok (.invokevirtual 63, 3) := by decide +kernel
theorem d_CL_word_8 : decode b_CL_word 8 = .ok (.invokestatic 53, 3) := by decide +kernel
theorem d_CL_word_11 : decode b_CL_word 11 = .ok (.iload_n 2, 1) := by decide +kernel
theorem d_CL_word_12 : decode b_CL_word 12 = .ok (.bipush 10, 2) := by decide +kernel
theorem d_CL_word_14 : decode b_CL_word 14 = .ok (.invokestatic 53, 3) := by decide +kernel
theorem d_CL_word_17 : decode b_CL_word 17 = .ok (.iload_n 3, 1) := by decide +kernel
theorem d_CL_word_18 : decode b_CL_word 18 = .ok (.invokestatic 96, 3) := by decide +kernel
theorem d_CL_word_21 : decode b_CL_word 21 = .ok (.aload_n 0, 1) := by decide +kernel
theorem d_CL_word_22 : decode b_CL_word 22 = .ok (.getfield 25, 3) := by decide +kernel
theorem d_CL_word_25 : decode b_CL_word 25 = .ok (.iload_n 1, 1) := by decide +kernel
theorem d_CL_word_26 : decode b_CL_word 26 = .ok (.invokevirtual 112, 3) := by decide +kernel
theorem d_CL_word_29 : decode b_CL_word 29 = .ok (.checkcast 70, 3) := by decide +kernel
theorem d_CL_word_32 : decode b_CL_word 32 = .ok (.iload_n 2, 1) := by decide +kernel
theorem d_CL_word_33 : decode b_CL_word 33 = .ok (.aload_n 0, 1) := by decide +kernel
theorem d_CL_word_34 : decode b_CL_word 34 = .ok (.iload_n 1, 1) := by decide +kernel
theorem d_CL_word_35 : decode b_CL_word 35 = .ok (.iload_n 3, 1) := by decide +kernel
theorem d_CL_word_36 : decode b_CL_word 36 = .ok (.invokevirtual 146, 3) := by decide +kernel
theorem d_CL_word_39 : decode b_CL_word 39 = .ok (.iload_n 3, 1) := by decide +kernel
theorem d_CL_word_40 : decode b_CL_word 40 = .ok (.invokevirtual 149, 3) := by decide +kernel
theorem d_CL_word_43 : decode b_CL_word 43 = .ok (.ireturn, 1) := by decide +kernel
theorem d_CL_listed_0 : decode b_CL_listed 0 = .ok (.iload_n 1, 1) := by decide +kernel
theorem d_CL_listed_1 : decode b_CL_listed 1 = .ok (.iconst 4, 1) := by decide +kernel
theorem d_CL_listed_2 : decode b_CL_listed 2 = .ok (.invokestatic 53, 3) := by decide +kernel
theorem d_CL_listed_5 : decode b_CL_listed 5 = .ok (.iload_n 2, 1) := by decide +kernel
theorem d_CL_listed_6 : decode b_CL_listed 6 = .ok (.invokestatic 96, 3) := by decide +kernel
theorem d_CL_listed_9 : decode b_CL_listed 9 = .ok (.iload_n 3, 1) := by decide +kernel
theorem d_CL_listed_10 : decode b_CL_listed 10 = .ok (.invokestatic 152, 3) := by decide +kernel
theorem d_CL_listed_13 : decode b_CL_listed 13 = .ok (.iload_n 3, 1) := by decide +kernel
theorem d_CL_listed_14 : decode b_CL_listed 14 = .ok (.istore 4, 2) := by decide +kernel
theorem d_CL_listed_16 : decode b_CL_listed 16 = .ok (.iconst 0, 1) := by decide +kernel
theorem d_CL_listed_17 : decode b_CL_listed 17 = .ok (.istore 5, 2) := by decide +kernel
theorem d_CL_listed_19 : decode b_CL_listed 19 = .ok (.iload 5, 2) := by decide +kernel
theorem d_CL_listed_21 : decode b_CL_listed 21 = .ok (.aload_n 0, 1) := by decide +kernel
theorem d_CL_listed_22 : decode b_CL_listed 22 = .ok (.getfield 25, 3) := by decide +kernel
theorem d_CL_listed_25 : decode b_CL_listed 25 = .ok (.invokevirtual 63, 3) := by decide +kernel
theorem d_CL_listed_28 : decode b_CL_listed 28 = .ok (.if_icmp .ge 31, 3) := by decide +kernel
theorem d_CL_listed_31 : decode b_CL_listed 31 = .ok (.aload_n 0, 1) := by decide +kernel
theorem d_CL_listed_32 : decode b_CL_listed 32 = .ok (.iload 5, 2) := by decide +kernel
theorem d_CL_listed_34 : decode b_CL_listed 34 = .ok (.iload_n 2, 1) := by decide +kernel
theorem d_CL_listed_35 : decode b_CL_listed 35 = .ok (.invokevirtual 143, 3) := by decide +kernel
theorem d_CL_listed_38 : decode b_CL_listed 38 = .ok (.iload_n 1, 1) := by decide +kernel
theorem d_CL_listed_39 : decode b_CL_listed 39 = .ok (.if_icmp .ne 14, 3) := by decide +kernel
theorem d_CL_listed_42 : decode b_CL_listed 42 = .ok (.iload 4, 2) := by decide +kernel
theorem d_CL_listed_44 : decode b_CL_listed 44 = .ok (.ifCond .ne 6, 3) := by decide +kernel
theorem d_CL_listed_47 : decode b_CL_listed 47 = .ok (.iload 5, 2) := by decide +kernel
theorem d_CL_listed_49 : decode b_CL_listed 49 = .ok (.ireturn, 1) := by decide +kernel
theorem d_CL_listed_50 : decode b_CL_listed 50 = .ok (.iinc 4 (-1), 3) := by decide +kernel
theorem d_CL_listed_53 : decode b_CL_listed 53 = .ok (.iinc 5 1, 3) := by decide +kernel
theorem d_CL_listed_56 : decode b_CL_listed 56 = .ok (.goto (-37), 3) := by decide +kernel
theorem d_CL_listed_59 : decode b_CL_listed 59 = .ok (.iconst (-1), 1) := by decide +kernel
theorem d_CL_listed_60 : decode b_CL_listed 60 = .ok (.ireturn, 1) := by decide +kernel
theorem d_CL_needNotNegative_0 : decode b_CL_needNotNegative 0 = .ok (.iload_n 0, 1) := by decide +kernel
theorem d_CL_needNotNegative_1 : decode b_CL_needNotNegative 1 = .ok (.iconst 0, 1) := by decide +kernel
theorem d_CL_needNotNegative_2 : decode b_CL_needNotNegative 2 = .ok (.ldc 166, 2) := by decide +kernel
theorem d_CL_needNotNegative_4 : decode b_CL_needNotNegative 4 = .ok (.invokestatic 78, 3) := by decide +kernel
theorem d_CL_needNotNegative_7 : decode b_CL_needNotNegative 7 = .ok (.return_, 1) := by decide +kernel
theorem d_CL_hidden_0 : decode b_CL_hidden 0 = .ok (.iload_n 1, 1) := by decide +kernel
theorem d_CL_hidden_1 : decode b_CL_hidden 1 = .ok (.invokestatic 152, 3) := by decide +kernel
theorem d_CL_hidden_4 : decode b_CL_hidden 4 = .ok (.aload_n 0, 1) := by decide +kernel
theorem d_CL_hidden_5 : decode b_CL_hidden 5 = .ok (.getfield 39, 3) := by decide +kernel
theorem d_CL_hidden_8 : decode b_CL_hidden 8 = .ok (.invokevirtual 129, 3) := by decide +kernel
theorem d_CL_hidden_11 : decode b_CL_hidden 11 = .ok (.istore_n 2, 1) := by decide +kernel
theorem d_CL_hidden_12 : decode b_CL_hidden 12 = .ok (.iload_n 1, 1) := by decide +kernel
theorem d_CL_hidden_13 : decode b_CL_hidden 13 = .ok (.istore_n 3, 1) := by decide +kernel
theorem d_CL_hidden_14 : decode b_CL_hidden 14 = .ok (.iconst 0, 1) := by decide +kernel
theorem d_CL_hidden_15 : decode b_CL_hidden 15 = .ok (.istore 4, 2) := by decide +kernel
theorem d_CL_hidden_17 : decode b_CL_hidden 17 = .ok (.iload 4, 2) := by decide +kernel
theorem d_CL_hidden_19 : decode b_CL_hidden 19 = .ok (.aload_n 0, 1) := by decide +kernel
theorem d_CL_hidden_20 : decode b_CL_hidden 20 = .ok (.getfield 25, 3) := by decide +kernel
theorem d_CL_hidden_23 : decode b_CL_hidden 23 = .ok (.invokevirtual 63, 3) := by decide +kernel
theorem d_CL_hidden_26 : decode b_CL_hidden 26 = .ok (.if_icmp .ge 28, 3) := by decide +kernel
theorem d_CL_hidden_29 : decode b_CL_hidden 29 = .ok (.iload_n 2, 1) := by decide +kernel
theorem d_CL_hidden_30 : decode b_CL_hidden 30 = .ok (.iload 4, 2) := by decide +kernel
theorem d_CL_hidden_32 : decode b_CL_hidden 32 = .ok (.invokestatic 155, 3) := by decide +kernel
theorem d_CL_hidden_35 : decode b_CL_hidden 35 = .ok (.ifCond .ne 13, 3) := by decide +kernel
theorem d_CL_hidden_38 : decode b_CL_hidden 38 = .ok (.iload_n 3, 1) := by decide +kernel
theorem d_CL_hidden_39 : decode b_CL_hidden 39 = .ok (.ifCond .ne 6, 3) := by decide +kernel
theorem d_CL_hidden_42 : decode b_CL_hidden 42 = .ok (.iload 4, 2) := by decide +kernel
theorem d_CL_hidden_44 : decode b_CL_hidden 44 = .ok (.ireturn, 1) := by decide +kernel
theorem d_CL_hidden_45 : decode b_CL_hidden 45 = .ok (.iinc 3 (-1), 3) := by decide +kernel
theorem d_CL_hidden_48 : decode b_CL_hidden 48 = .ok (.iinc 4 1, 3) := by decide +kernel
theorem d_CL_hidden_51 : decode b_CL_hidden 51 = .ok (.goto (-34), 3) := by decide +kernel
theorem d_CL_hidden_54 : decode b_CL_hidden 54 = .ok (.iconst (-1), 1) := by decide +kernel
theorem d_CL_hidden_55 : decode b_CL_hidden 55 = .ok (.ireturn, 1) := by decide +kernel
theorem d_CL_proves_0 : decode b_CL_proves 0 = .ok (.iload_n 1, 1) := by decide +kernel
theorem d_CL_proves_1 : decode b_CL_proves 1 = .ok (.aload_n 0, 1) := by decide +kernel
theorem d_CL_proves_2 : decode b_CL_proves 2 = .ok (.getfield 25, 3) := by decide +kernel
theorem d_CL_proves_5 : decode b_CL_proves 5 = .ok (.invokevirtual 63, 3) := by decide +kernel
theorem d_CL_proves_8 : decode b_CL_proves 8 = .ok (.invokestatic 53, 3) := by decide +kernel
theorem d_CL_proves_11 : decode b_CL_proves 11 = .ok (.iload_n 2, 1) := by decide +kernel
theorem d_CL_proves_12 : decode b_CL_proves 12 = .ok (.invokestatic 96, 3) := by decide +kernel
theorem d_CL_proves_15 : decode b_CL_proves 15 = .ok (.iload_n 2, 1) := by decide +kernel
theorem d_CL_proves_16 : decode b_CL_proves 16 = .ok (.istore_n 3, 1) := by decide +kernel
theorem d_CL_proves_17 : decode b_CL_proves 17 = .ok (.iconst 0, 1) := by decide +kernel
theorem d_CL_proves_18 : decode b_CL_proves 18 = .ok (.istore 4, 2) := by decide +kernel
theorem d_CL_proves_20 : decode b_CL_proves 20 = .ok (.iload 4, 2) := by decide +kernel
theorem d_CL_proves_22 : decode b_CL_proves 22 = .ok (.sipush 576, 3) := by decide +kernel
theorem d_CL_proves_25 : decode b_CL_proves 25 = .ok (.if_icmp .gt 28, 3) := by decide +kernel
theorem d_CL_proves_28 : decode b_CL_proves 28 = .ok (.aload_n 0, 1) := by decide +kernel
theorem d_CL_proves_29 : decode b_CL_proves 29 = .ok (.iload_n 1, 1) := by decide +kernel
theorem d_CL_proves_30 : decode b_CL_proves 30 = .ok (.iload_n 3, 1) := by decide +kernel
theorem d_CL_proves_31 : decode b_CL_proves 31 = .ok (.invokevirtual 143, 3) := by decide +kernel
theorem d_CL_proves_34 : decode b_CL_proves 34 = .ok (.iconst 3, 1) := by decide +kernel
theorem d_CL_proves_35 : decode b_CL_proves 35 = .ok (.if_icmp .eq 5, 3) := by decide +kernel
theorem d_CL_proves_38 : decode b_CL_proves 38 = .ok (.iload_n 3, 1) := by decide +kernel
theorem d_CL_proves_39 : decode b_CL_proves 39 = .ok (.ireturn, 1) := by decide +kernel
theorem d_CL_proves_40 : decode b_CL_proves 40 = .ok (.aload_n 0, 1) := by decide +kernel
theorem d_CL_proves_41 : decode b_CL_proves 41 = .ok (.iload_n 1, 1) := by decide +kernel
theorem d_CL_proves_42 : decode b_CL_proves 42 = .ok (.iload_n 3, 1) := by decide +kernel
theorem d_CL_proves_43 : decode b_CL_proves 43 = .ok (.invokevirtual 159, 3) := by decide +kernel
theorem d_CL_proves_46 : decode b_CL_proves 46 = .ok (.istore_n 3, 1) := by decide +kernel
theorem d_CL_proves_47 : decode b_CL_proves 47 = .ok (.iinc 4 1, 3) := by decide +kernel
theorem d_CL_proves_50 : decode b_CL_proves 50 = .ok (.goto (-30), 3) := by decide +kernel
theorem d_CL_proves_53 : decode b_CL_proves 53 = .ok (.iload_n 3, 1) := by decide +kernel
theorem d_CL_proves_54 : decode b_CL_proves 54 = .ok (.ireturn, 1) := by decide +kernel
theorem d_CL_nextTurn_0 : decode b_CL_nextTurn 0 = .ok (.ldc 188, 2) := by decide +kernel
theorem d_CL_nextTurn_2 : decode b_CL_nextTurn 2 = .ok (.istore_n 3, 1) := by decide +kernel
theorem d_CL_nextTurn_3 : decode b_CL_nextTurn 3 = .ok (.aload_n 0, 1) := by decide +kernel
theorem d_CL_nextTurn_4 : decode b_CL_nextTurn 4 = .ok (.getfield 32, 3) := by decide +kernel
theorem d_CL_nextTurn_7 : decode b_CL_nextTurn 7 = .ok (.iload_n 1, 1) := by decide +kernel
theorem d_CL_nextTurn_8 : decode b_CL_nextTurn 8 = .ok (.iload_n 2, 1) := by decide +kernel
theorem d_CL_nextTurn_9 : decode b_CL_nextTurn 9 = .ok (.invokevirtual 189, 3) := by decide +kernel
theorem d_CL_nextTurn_12 : decode b_CL_nextTurn 12 = .ok (.istore 4, 2) := by decide +kernel
theorem d_CL_nextTurn_14 : decode b_CL_nextTurn 14 = .ok (.iload 4, 2) := by decide +kernel
theorem d_CL_nextTurn_16 : decode b_CL_nextTurn 16 = .ok (.iconst (-1), 1) := by decide +kernel
theorem d_CL_nextTurn_17 : decode b_CL_nextTurn 17 = .ok (.if_icmp .eq 10, 3) := by decide +kernel
theorem d_CL_nextTurn_20 : decode b_CL_nextTurn 20 = .ok (.iload_n 3, 1) := by decide +kernel
theorem d_CL_nextTurn_21 : decode b_CL_nextTurn 21 = .ok (.iload 4, 2) := by decide +kernel
theorem d_CL_nextTurn_23 : decode b_CL_nextTurn 23 = .ok (.invokestatic 9, 3) := by decide +kernel
theorem d_CL_nextTurn_26 : decode b_CL_nextTurn 26 = .ok (.istore_n 3, 1) := by decide +kernel
theorem d_CL_nextTurn_27 : decode b_CL_nextTurn 27 = .ok (.aload_n 0, 1) := by decide +kernel
theorem d_CL_nextTurn_28 : decode b_CL_nextTurn 28 = .ok (.getfield 25, 3) := by decide +kernel
theorem d_CL_nextTurn_31 : decode b_CL_nextTurn 31 = .ok (.iload_n 1, 1) := by decide +kernel
theorem d_CL_nextTurn_32 : decode b_CL_nextTurn 32 = .ok (.invokevirtual 112, 3) := by decide +kernel
theorem d_CL_nextTurn_35 : decode b_CL_nextTurn 35 = .ok (.checkcast 70, 3) := by decide +kernel
theorem d_CL_nextTurn_38 : decode b_CL_nextTurn 38 = .ok (.iload_n 2, 1) := by decide +kernel
theorem d_CL_nextTurn_39 : decode b_CL_nextTurn 39 = .ok (.aload_n 0, 1) := by decide +kernel
theorem d_CL_nextTurn_40 : decode b_CL_nextTurn 40 = .ok (.getfield 18, 3) := by decide +kernel
theorem d_CL_nextTurn_43 : decode b_CL_nextTurn 43 = .ok (.iload_n 3, 1) := by decide +kernel
theorem d_CL_nextTurn_44 : decode b_CL_nextTurn 44 = .ok (.invokevirtual 192, 3) := by decide +kernel
theorem d_CL_nextTurn_47 : decode b_CL_nextTurn 47 = .ok (.ireturn, 1) := by decide +kernel
theorem d_TL_nextBehind_0 : decode b_TL_nextBehind 0 = .ok (.iconst (-1), 1) := by decide +kernel
theorem d_TL_nextBehind_1 : decode b_TL_nextBehind 1 = .ok (.istore_n 3, 1) := by decide +kernel
theorem d_TL_nextBehind_2 : decode b_TL_nextBehind 2 = .ok (.iconst 0, 1) := by decide +kernel
theorem d_TL_nextBehind_3 : decode b_TL_nextBehind 3 = .ok (.istore 4, 2) := by decide +kernel
theorem d_TL_nextBehind_5 : decode b_TL_nextBehind 5 = .ok (.iload 4, 2) := by decide +kernel
theorem d_TL_nextBehind_7 : decode b_TL_nextBehind 7 = .ok (.aload_n 0, 1) := by decide +kernel
theorem d_TL_nextBehind_8 : decode b_TL_nextBehind 8 = .ok (.getfield 18, 3) := by decide +kernel
theorem d_TL_nextBehind_11 : decode b_TL_nextBehind 11 = .ok (.if_icmp .ge 70, 3) := by decide +kernel
theorem d_TL_nextBehind_14 : decode b_TL_nextBehind 14 = .ok (.iload_n 3, 1) := by decide +kernel
theorem d_TL_nextBehind_15 : decode b_TL_nextBehind 15 = .ok (.iconst (-1), 1) := by decide +kernel
theorem d_TL_nextBehind_16 : decode b_TL_nextBehind 16 = .ok (.if_icmp .eq 14, 3) := by decide +kernel
theorem d_TL_nextBehind_19 : decode b_TL_nextBehind 19 = .ok (.aload_n 0, 1) := by decide +kernel
theorem d_TL_nextBehind_20 : decode b_TL_nextBehind 20 = .ok (.getfield 9, 3) := by decide +kernel
theorem d_TL_nextBehind_23 : decode b_TL_nextBehind 23 = .ok (.iload 4, 2) := by decide +kernel
theorem d_TL_nextBehind_25 : decode b_TL_nextBehind 25 = .ok (.iaload, 1) := by decide +kernel
theorem d_TL_nextBehind_26 : decode b_TL_nextBehind 26 = .ok (.iload_n 3, 1) := by decide +kernel
theorem d_TL_nextBehind_27 : decode b_TL_nextBehind 27 = .ok (.if_icmp .ge 7, 3) := by decide +kernel
theorem d_TL_nextBehind_30 : decode b_TL_nextBehind 30 = .ok (.iconst 1, 1) := by decide +kernel
theorem d_TL_nextBehind_31 : decode b_TL_nextBehind 31 = .ok (.goto 4, 3) := by decide +kernel
theorem d_TL_nextBehind_34 : decode b_TL_nextBehind 34 = .ok (.iconst 0, 1) := by decide +kernel
theorem d_TL_nextBehind_35 : decode b_TL_nextBehind 35 = .ok (.istore 5, 2) := by decide +kernel
theorem d_TL_nextBehind_37 : decode b_TL_nextBehind 37 = .ok (.aload_n 0, 1) := by decide +kernel
theorem d_TL_nextBehind_38 : decode b_TL_nextBehind 38 = .ok (.getfield 9, 3) := by decide +kernel
theorem d_TL_nextBehind_41 : decode b_TL_nextBehind 41 = .ok (.iload 4, 2) := by decide +kernel
theorem d_TL_nextBehind_43 : decode b_TL_nextBehind 43 = .ok (.iaload, 1) := by decide +kernel
theorem d_TL_nextBehind_44 : decode b_TL_nextBehind 44 = .ok (.iload_n 2, 1) := by decide +kernel
theorem d_TL_nextBehind_45 : decode b_TL_nextBehind 45 = .ok (.if_icmp .le 30, 3) := by decide +kernel
theorem d_TL_nextBehind_48 : decode b_TL_nextBehind 48 = .ok (.iload 5, 2) := by decide +kernel
theorem d_TL_nextBehind_50 : decode b_TL_nextBehind 50 = .ok (.ifCond .eq 25, 3) := by decide +kernel
theorem d_TL_nextBehind_53 : decode b_TL_nextBehind 53 = .ok (.aload_n 0, 1) := by decide +kernel
theorem d_TL_nextBehind_54 : decode b_TL_nextBehind 54 = .ok (.getfield 15, 3) := by decide +kernel
theorem d_TL_nextBehind_57 : decode b_TL_nextBehind 57 = .ok (.iload 4, 2) := by decide +kernel
theorem d_TL_nextBehind_59 : decode b_TL_nextBehind 59 = .ok (.iaload, 1) := by decide +kernel
theorem d_TL_nextBehind_60 : decode b_TL_nextBehind 60 = .ok (.iload_n 1, 1) := by decide +kernel
theorem d_TL_nextBehind_61 : decode b_TL_nextBehind 61 = .ok (.invokestatic 22, 3) := by decide +kernel
theorem d_TL_nextBehind_64 : decode b_TL_nextBehind 64 = .ok (.ifCond .eq 11, 3) := by decide +kernel
theorem d_TL_nextBehind_67 : decode b_TL_nextBehind 67 = .ok (.aload_n 0, 1) := by decide +kernel
theorem d_TL_nextBehind_68 : decode b_TL_nextBehind 68 = .ok (.getfield 9, 3) := by decide +kernel
theorem d_TL_nextBehind_71 : decode b_TL_nextBehind 71 = .ok (.iload 4, 2) := by decide +kernel
theorem d_TL_nextBehind_73 : decode b_TL_nextBehind 73 = .ok (.iaload, 1) := by decide +kernel
theorem d_TL_nextBehind_74 : decode b_TL_nextBehind 74 = .ok (.istore_n 3, 1) := by decide +kernel
theorem d_TL_nextBehind_75 : decode b_TL_nextBehind 75 = .ok (.iinc 4 1, 3) := by decide +kernel
theorem d_TL_nextBehind_78 : decode b_TL_nextBehind 78 = .ok (.goto (-73), 3) := by decide +kernel
theorem d_TL_nextBehind_81 : decode b_TL_nextBehind 81 = .ok (.iload_n 3, 1) := by decide +kernel
theorem d_TL_nextBehind_82 : decode b_TL_nextBehind 82 = .ok (.ireturn, 1) := by decide +kernel
theorem d_CS_nextTurn_0 : decode b_CS_nextTurn 0 = .ok (.iload_n 3, 1) := by decide +kernel
theorem d_CS_nextTurn_1 : decode b_CS_nextTurn 1 = .ok (.istore 4, 2) := by decide +kernel
theorem d_CS_nextTurn_3 : decode b_CS_nextTurn 3 = .ok (.iconst 0, 1) := by decide +kernel
theorem d_CS_nextTurn_4 : decode b_CS_nextTurn 4 = .ok (.istore 5, 2) := by decide +kernel
theorem d_CS_nextTurn_6 : decode b_CS_nextTurn 6 = .ok (.iload 5, 2) := by decide +kernel
theorem d_CS_nextTurn_8 : decode b_CS_nextTurn 8 = .ok (.aload_n 0, 1) := by decide +kernel
theorem d_CS_nextTurn_9 : decode b_CS_nextTurn 9 = .ok (.getfield 29, 3) := by decide +kernel
theorem d_CS_nextTurn_12 : decode b_CS_nextTurn 12 = .ok (.if_icmp .ge 65, 3) := by decide +kernel
theorem d_CS_nextTurn_15 : decode b_CS_nextTurn 15 = .ok (.aload_n 0, 1) := by decide +kernel
theorem d_CS_nextTurn_16 : decode b_CS_nextTurn 16 = .ok (.getfield 22, 3) := by decide +kernel
theorem d_CS_nextTurn_19 : decode b_CS_nextTurn 19 = .ok (.iload 5, 2) := by decide +kernel
theorem d_CS_nextTurn_21 : decode b_CS_nextTurn 21 = .ok (.iaload, 1) := by decide +kernel
theorem d_CS_nextTurn_22 : decode b_CS_nextTurn 22 = .ok (.iload_n 2, 1) := by decide +kernel
theorem d_CS_nextTurn_23 : decode b_CS_nextTurn 23 = .ok (.iadd, 1) := by decide +kernel
theorem d_CS_nextTurn_24 : decode b_CS_nextTurn 24 = .ok (.iconst 1, 1) := by decide +kernel
theorem d_CS_nextTurn_25 : decode b_CS_nextTurn 25 = .ok (.iadd, 1) := by decide +kernel
theorem d_CS_nextTurn_26 : decode b_CS_nextTurn 26 = .ok (.istore 6, 2) := by decide +kernel
theorem d_CS_nextTurn_28 : decode b_CS_nextTurn 28 = .ok (.aload_n 0, 1) := by decide +kernel
theorem d_CS_nextTurn_29 : decode b_CS_nextTurn 29 = .ok (.getfield 22, 3) := by decide +kernel
theorem d_CS_nextTurn_32 : decode b_CS_nextTurn 32 = .ok (.iload 5, 2) := by decide +kernel
theorem d_CS_nextTurn_34 : decode b_CS_nextTurn 34 = .ok (.iaload, 1) := by decide +kernel
theorem d_CS_nextTurn_35 : decode b_CS_nextTurn 35 = .ok (.iload_n 1, 1) := by decide +kernel
theorem d_CS_nextTurn_36 : decode b_CS_nextTurn 36 = .ok (.if_icmp .le 20, 3) := by decide +kernel
theorem d_CS_nextTurn_39 : decode b_CS_nextTurn 39 = .ok (.iload 4, 2) := by decide +kernel
theorem d_CS_nextTurn_41 : decode b_CS_nextTurn 41 = .ok (.aload_n 0, 1) := by decide +kernel
theorem d_CS_nextTurn_42 : decode b_CS_nextTurn 42 = .ok (.getfield 22, 3) := by decide +kernel
theorem d_CS_nextTurn_45 : decode b_CS_nextTurn 45 = .ok (.iload 5, 2) := by decide +kernel
theorem d_CS_nextTurn_47 : decode b_CS_nextTurn 47 = .ok (.iaload, 1) := by decide +kernel
theorem d_CS_nextTurn_48 : decode b_CS_nextTurn 48 = .ok (.invokestatic 38, 3) := by decide +kernel
theorem d_CS_nextTurn_51 : decode b_CS_nextTurn 51 = .ok (.istore 4, 2) := by decide +kernel
theorem d_CS_nextTurn_53 : decode b_CS_nextTurn 53 = .ok (.goto 18, 3) := by decide +kernel
theorem d_CS_nextTurn_56 : decode b_CS_nextTurn 56 = .ok (.iload 6, 2) := by decide +kernel
theorem d_CS_nextTurn_58 : decode b_CS_nextTurn 58 = .ok (.iload_n 1, 1) := by decide +kernel
theorem d_CS_nextTurn_59 : decode b_CS_nextTurn 59 = .ok (.if_icmp .le 12, 3) := by decide +kernel
theorem d_CS_nextTurn_62 : decode b_CS_nextTurn 62 = .ok (.iload 4, 2) := by decide +kernel
theorem d_CS_nextTurn_64 : decode b_CS_nextTurn 64 = .ok (.iload 6, 2) := by decide +kernel
theorem d_CS_nextTurn_66 : decode b_CS_nextTurn 66 = .ok (.invokestatic 38, 3) := by decide +kernel
theorem d_CS_nextTurn_69 : decode b_CS_nextTurn 69 = .ok (.istore 4, 2) := by decide +kernel
theorem d_CS_nextTurn_71 : decode b_CS_nextTurn 71 = .ok (.iinc 5 1, 3) := by decide +kernel
theorem d_CS_nextTurn_74 : decode b_CS_nextTurn 74 = .ok (.goto (-68), 3) := by decide +kernel
theorem d_CS_nextTurn_77 : decode b_CS_nextTurn 77 = .ok (.iload 4, 2) := by decide +kernel
theorem d_CS_nextTurn_79 : decode b_CS_nextTurn 79 = .ok (.ireturn, 1) := by decide +kernel
theorem d_CL_touched_0 : decode b_CL_touched 0 = .ok (.iload_n 1, 1) := by decide +kernel
theorem d_CL_touched_1 : decode b_CL_touched 1 = .ok (.aload_n 0, 1) := by decide +kernel
theorem d_CL_touched_2 : decode b_CL_touched 2 = .ok (.getfield 25, 3) := by decide +kernel
theorem d_CL_touched_5 : decode b_CL_touched 5 = .ok (.invokevirtual 63, 3) := by decide +kernel
theorem d_CL_touched_8 : decode b_CL_touched 8 = .ok (.invokestatic 53, 3) := by decide +kernel
theorem d_CL_touched_11 : decode b_CL_touched 11 = .ok (.iload_n 2, 1) := by decide +kernel
theorem d_CL_touched_12 : decode b_CL_touched 12 = .ok (.invokestatic 96, 3) := by decide +kernel
theorem d_CL_touched_15 : decode b_CL_touched 15 = .ok (.aload_n 0, 1) := by decide +kernel
theorem d_CL_touched_16 : decode b_CL_touched 16 = .ok (.getfield 32, 3) := by decide +kernel
theorem d_CL_touched_19 : decode b_CL_touched 19 = .ok (.iload_n 1, 1) := by decide +kernel
theorem d_CL_touched_20 : decode b_CL_touched 20 = .ok (.iload_n 2, 1) := by decide +kernel
theorem d_CL_touched_21 : decode b_CL_touched 21 = .ok (.invokevirtual 162, 3) := by decide +kernel
theorem d_CL_touched_24 : decode b_CL_touched 24 = .ok (.ireturn, 1) := by decide +kernel
end
section
theorem d_MO_init_0 : decode b_MO_init 0 = .ok (.aload_n 0, 1) := by decide +kernel
theorem d_MO_init_1 : decode b_MO_init 1 = .ok (.invokespecial 1, 3) := by decide +kernel
theorem d_MO_init_4 : decode b_MO_init 4 = .ok (.aload_n 0, 1) := by decide +kernel
theorem d_MO_init_5 : decode b_MO_init 5 = .ok (.bipush 24, 2) := by decide +kernel
theorem d_MO_init_7 : decode b_MO_init 7 = .ok (.newarray .int, 2) := by decide +kernel
theorem d_MO_init_9 : decode b_MO_init 9 = .ok (.putfield 7, 3) := by decide +kernel
theorem d_MO_init_12 : decode b_MO_init 12 = .ok (.aload_n 0, 1) := by decide +kernel
theorem d_MO_init_13 : decode b_MO_init 13 = .ok (.bipush 24, 2) := by decide +kernel
theorem d_MO_init_15 : decode b_MO_init 15 = .ok (.newarray .int, 2) := by decide +kernel
theorem d_MO_init_17 : decode b_MO_init 17 = .ok (.putfield 13, 3) := by decide +kernel
theorem d_MO_init_20 : decode b_MO_init 20 = .ok (.aload_n 0, 1) := by decide +kernel
theorem d_MO_init_21 : decode b_MO_init 21 = .ok (.bipush 8, 2) := by decide +kernel
theorem d_MO_init_23 : decode b_MO_init 23 = .ok (.newarray .int, 2) := by decide +kernel
theorem d_MO_init_25 : decode b_MO_init 25 = .ok (.putfield 16, 3) := by decide +kernel
theorem d_MO_init_28 : decode b_MO_init 28 = .ok (.aload_n 0, 1) := by decide +kernel
theorem d_MO_init_29 : decode b_MO_init 29 = .ok (.bipush 8, 2) := by decide +kernel
theorem d_MO_init_31 : decode b_MO_init 31 = .ok (.newarray .int, 2) := by decide +kernel
theorem d_MO_init_33 : decode b_MO_init 33 = .ok (.putfield 19, 3) := by decide +kernel
theorem d_MO_init_36 : decode b_MO_init 36 = .ok (.aload_n 0, 1) := by decide +kernel
theorem d_MO_init_37 : decode b_MO_init 37 = .ok (.bipush 8, 2) := by decide +kernel
theorem d_MO_init_39 : decode b_MO_init 39 = .ok (.newarray .int, 2) := by decide +kernel
theorem d_MO_init_41 : decode b_MO_init 41 = .ok (.putfield 22, 3) := by decide +kernel
theorem d_MO_init_44 : decode b_MO_init 44 = .ok (.aload_n 0, 1) := by decide +kernel
theorem d_MO_init_45 : decode b_MO_init 45 = .ok (.bipush 100, 2) := by decide +kernel
theorem d_MO_init_47 : decode b_MO_init 47 = .ok (.newarray .int, 2) := by decide +kernel
theorem d_MO_init_49 : decode b_MO_init 49 = .ok (.putfield 25, 3) := by decide +kernel
theorem d_MO_init_52 : decode b_MO_init 52 = .ok (.aload_n 0, 1) := by decide +kernel
theorem d_MO_init_53 : decode b_MO_init 53 = .ok (.ldc 28, 2) := by decide +kernel
theorem d_MO_init_55 : decode b_MO_init 55 = .ok (.newarray .int, 2) := by decide +kernel
theorem d_MO_init_57 : decode b_MO_init 57 = .ok (.putfield 29, 3) := by decide +kernel
theorem d_MO_init_60 : decode b_MO_init 60 = .ok (.aload_n 0, 1) := by decide +kernel
theorem d_MO_init_61 : decode b_MO_init 61 = .ok (.bipush 24, 2) := by decide +kernel
theorem d_MO_init_63 : decode b_MO_init 63 = .ok (.newarray .int, 2) := by decide +kernel
theorem d_MO_init_65 : decode b_MO_init 65 = .ok (.putfield 32, 3) := by decide +kernel
theorem d_MO_init_68 : decode b_MO_init 68 = .ok (.aload_n 0, 1) := by decide +kernel
theorem d_MO_init_69 : decode b_MO_init 69 = .ok (.sipush 768, 3) := by decide +kernel
theorem d_MO_init_72 : decode b_MO_init 72 = .ok (.newarray .int, 2) := by decide +kernel
theorem d_MO_init_74 : decode b_MO_init 74 = .ok (.putfield 35, 3) := by decide +kernel
theorem d_MO_init_77 : decode b_MO_init 77 = .ok (.aload_n 0, 1) := by decide +kernel
theorem d_MO_init_78 : decode b_MO_init 78 = .ok (.sipush 768, 3) := by decide +kernel
theorem d_MO_init_81 : decode b_MO_init 81 = .ok (.newarray .int, 2) := by decide +kernel
theorem d_MO_init_83 : decode b_MO_init 83 = .ok (.putfield 38, 3) := by decide +kernel
theorem d_MO_init_86 : decode b_MO_init 86 = .ok (.aload_n 0, 1) := by decide +kernel
theorem d_MO_init_87 : decode b_MO_init 87 = .ok (.sipush 768, 3) := by decide +kernel
theorem d_MO_init_90 : decode b_MO_init 90 = .ok (.newarray .boolean, 2) := by decide +kernel
theorem d_MO_init_92 : decode b_MO_init 92 = .ok (.putfield 41, 3) := by decide +kernel
theorem d_MO_init_95 : decode b_MO_init 95 = .ok (.aload_n 0, 1) := by decide +kernel
theorem d_MO_init_96 : decode b_MO_init 96 = .ok (.bipush 8, 2) := by decide +kernel
theorem d_MO_init_98 : decode b_MO_init 98 = .ok (.newarray .int, 2) := by decide +kernel
theorem d_MO_init_100 : decode b_MO_init 100 = .ok (.putfield 45, 3) := by decide +kernel
theorem d_MO_init_103 : decode b_MO_init 103 = .ok (.aload_n 0, 1) := by decide +kernel
theorem d_MO_init_104 : decode b_MO_init 104 = .ok (.sipush 2048, 3) := by decide +kernel
theorem d_MO_init_107 : decode b_MO_init 107 = .ok (.newarray .int, 2) := by decide +kernel
theorem d_MO_init_109 : decode b_MO_init 109 = .ok (.putfield 48, 3) := by decide +kernel
theorem d_MO_init_112 : decode b_MO_init 112 = .ok (.aload_n 0, 1) := by decide +kernel
theorem d_MO_init_113 : decode b_MO_init 113 = .ok (.sipush 256, 3) := by decide +kernel
theorem d_MO_init_116 : decode b_MO_init 116 = .ok (.newarray .boolean, 2) := by decide +kernel
theorem d_MO_init_118 : decode b_MO_init 118 = .ok (.putfield 51, 3) := by decide +kernel
theorem d_MO_init_121 : decode b_MO_init 121 = .ok (.aload_n 0, 1) := by decide +kernel
theorem d_MO_init_122 : decode b_MO_init 122 = .ok (.iload_n 1, 1) := by decide +kernel
theorem d_MO_init_123 : decode b_MO_init 123 = .ok (.iconst 1, 1) := by decide +kernel
theorem d_MO_init_124 : decode b_MO_init 124 = .ok (.if_icmp .ge 7, 3) := by decide +kernel
theorem d_MO_init_127 : decode b_MO_init 127 = .ok (.iconst 1, 1) := by decide +kernel
theorem d_MO_init_128 : decode b_MO_init 128 = .ok (.goto 17, 3) := by decide +kernel
theorem d_MO_init_131 : decode b_MO_init 131 = .ok (.iload_n 1, 1) := by decide +kernel
theorem d_MO_init_132 : decode b_MO_init 132 = .ok (.sipush 5000, 3) := by decide +kernel
theorem d_MO_init_135 : decode b_MO_init 135 = .ok (.if_icmp .le 9, 3) := by decide +kernel
theorem d_MO_init_138 : decode b_MO_init 138 = .ok (.sipush 5000, 3) := by decide +kernel
theorem d_MO_init_141 : decode b_MO_init 141 = .ok (.goto 4, 3) := by decide +kernel
theorem d_MO_init_144 : decode b_MO_init 144 = .ok (.iload_n 1, 1) := by decide +kernel
theorem d_MO_init_145 : decode b_MO_init 145 = .ok (.putfield 54, 3) := by decide +kernel
theorem d_MO_init_148 : decode b_MO_init 148 = .ok (.return_, 1) := by decide +kernel
theorem d_MO_thrown_0 : decode b_MO_thrown 0 = .ok (.aload_n 0, 1) := by decide +kernel
theorem d_MO_thrown_1 : decode b_MO_thrown 1 = .ok (.getfield 58, 3) := by decide +kernel
theorem d_MO_thrown_4 : decode b_MO_thrown 4 = .ok (.ireturn, 1) := by decide +kernel
theorem d_MO_fault_0 : decode b_MO_fault 0 = .ok (.iload_n 1, 1) := by decide +kernel
theorem d_MO_fault_1 : decode b_MO_fault 1 = .ok (.iconst 0, 1) := by decide +kernel
theorem d_MO_fault_2 : decode b_MO_fault 2 = .ok (.bipush 29, 2) := by decide +kernel
theorem d_MO_fault_4 : decode b_MO_fault 4 = .ok (.invokestatic 64, 3) := by decide +kernel
theorem d_MO_fault_7 : decode b_MO_fault 7 = .ok (.ifCond .eq 27, 3) := by decide +kernel
theorem d_MO_fault_10 : decode b_MO_fault 10 = .ok (.iload_n 2, 1) := by decide +kernel
theorem d_MO_fault_11 : decode b_MO_fault 11 = .ok (.iconst (-1), 1) := by decide +kernel
theorem d_MO_fault_12 : decode b_MO_fault 12 = .ok (.if_icmp .eq 13, 3) := by decide +kernel
theorem d_MO_fault_15 : decode b_MO_fault 15 = .ok (.iload_n 2, 1) := by decide +kernel
theorem d_MO_fault_16 : decode b_MO_fault 16 = .ok (.iconst 0, 1) := by decide +kernel
theorem d_MO_fault_17 : decode b_MO_fault 17 = .ok (.bipush 29, 2) := by decide +kernel
theorem d_MO_fault_19 : decode b_MO_fault 19 = .ok (.invokestatic 64, 3) := by decide +kernel
theorem d_MO_fault_22 : decode b_MO_fault 22 = .ok (.ifCond .eq 12, 3) := by decide +kernel
theorem d_MO_fault_25 : decode b_MO_fault 25 = .ok (.iload_n 1, 1) := by decide +kernel
theorem d_MO_fault_26 : decode b_MO_fault 26 = .ok (.iload_n 2, 1) := by decide +kernel
theorem d_MO_fault_27 : decode b_MO_fault 27 = .ok (.if_icmp .eq 7, 3) := by decide +kernel
theorem d_MO_fault_30 : decode b_MO_fault 30 = .ok (.iconst 1, 1) := by decide +kernel
theorem d_MO_fault_31 : decode b_MO_fault 31 = .ok (.goto 4, 3) := by decide +kernel
theorem d_MO_fault_34 : decode b_MO_fault 34 = .ok (.iconst 0, 1) := by decide +kernel
theorem d_MO_fault_35 : decode b_MO_fault 35 = .ok (.istore_n 3, 1) := by decide +kernel
theorem d_MO_fault_36 : decode b_MO_fault 36 = .ok (.iconst (-1), 1) := by decide +kernel
theorem d_MO_fault_37 : decode b_MO_fault 37 = .ok (.istore 4, 2) := by decide +kernel
theorem d_MO_fault_39 : decode b_MO_fault 39 = .ok (.iconst 0, 1) := by decide +kernel
theorem d_MO_fault_40 : decode b_MO_fault 40 = .ok (.istore 5, 2) := by decide +kernel
theorem d_MO_fault_42 : decode b_MO_fault 42 = .ok (.iload 5, 2) := by decide +kernel
theorem d_MO_fault_44 : decode b_MO_fault 44 = .ok (.aload_n 0, 1) := by decide +kernel
theorem d_MO_fault_45 : decode b_MO_fault 45 = .ok (.getfield 61, 3) := by decide +kernel
theorem d_MO_fault_48 : decode b_MO_fault 48 = .ok (.if_icmp .ge 78, 3) := by decide +kernel
theorem d_MO_fault_51 : decode b_MO_fault 51 = .ok (.aload_n 0, 1) := by decide +kernel
theorem d_MO_fault_52 : decode b_MO_fault 52 = .ok (.getfield 7, 3) := by decide +kernel
theorem d_MO_fault_55 : decode b_MO_fault 55 = .ok (.iload 5, 2) := by decide +kernel
theorem d_MO_fault_57 : decode b_MO_fault 57 = .ok (.iaload, 1) := by decide +kernel
theorem d_MO_fault_58 : decode b_MO_fault 58 = .ok (.iload_n 1, 1) := by decide +kernel
theorem d_MO_fault_59 : decode b_MO_fault 59 = .ok (.if_icmp .ne 14, 3) := by decide +kernel
theorem d_MO_fault_62 : decode b_MO_fault 62 = .ok (.aload_n 0, 1) := by decide +kernel
theorem d_MO_fault_63 : decode b_MO_fault 63 = .ok (.getfield 13, 3) := by decide +kernel
theorem d_MO_fault_66 : decode b_MO_fault 66 = .ok (.iload 5, 2) := by decide +kernel
theorem d_MO_fault_68 : decode b_MO_fault 68 = .ok (.iaload, 1) := by decide +kernel
theorem d_MO_fault_69 : decode b_MO_fault 69 = .ok (.iload_n 2, 1) := by decide +kernel
theorem d_MO_fault_70 : decode b_MO_fault 70 = .ok (.if_icmp .eq 25, 3) := by decide +kernel
theorem d_MO_fault_73 : decode b_MO_fault 73 = .ok (.aload_n 0, 1) := by decide +kernel
theorem d_MO_fault_74 : decode b_MO_fault 74 = .ok (.getfield 7, 3) := by decide +kernel
theorem d_MO_fault_77 : decode b_MO_fault 77 = .ok (.iload 5, 2) := by decide +kernel
theorem d_MO_fault_79 : decode b_MO_fault 79 = .ok (.iaload, 1) := by decide +kernel
theorem d_MO_fault_80 : decode b_MO_fault 80 = .ok (.iload_n 2, 1) := by decide +kernel
theorem d_MO_fault_81 : decode b_MO_fault 81 = .ok (.if_icmp .ne 18, 3) := by decide +kernel
theorem d_MO_fault_84 : decode b_MO_fault 84 = .ok (.aload_n 0, 1) := by decide +kernel
theorem d_MO_fault_85 : decode b_MO_fault 85 = .ok (.getfield 13, 3) := by decide +kernel
theorem d_MO_fault_88 : decode b_MO_fault 88 = .ok (.iload 5, 2) := by decide +kernel
theorem d_MO_fault_90 : decode b_MO_fault 90 = .ok (.iaload, 1) := by decide +kernel
theorem d_MO_fault_91 : decode b_MO_fault 91 = .ok (.iload_n 1, 1) := by decide +kernel
theorem d_MO_fault_92 : decode b_MO_fault 92 = .ok (.if_icmp .ne 7, 3) := by decide +kernel
theorem d_MO_fault_95 : decode b_MO_fault 95 = .ok (.iconst 1, 1) := by decide +kernel
theorem d_MO_fault_96 : decode b_MO_fault 96 = .ok (.goto 4, 3) := by decide +kernel
theorem d_MO_fault_99 : decode b_MO_fault 99 = .ok (.iconst 0, 1) := by decide +kernel
theorem d_MO_fault_100 : decode b_MO_fault 100 = .ok (.istore 6, 2) := by decide +kernel
theorem d_MO_fault_102 : decode b_MO_fault 102 = .ok (.iload_n 3, 1) := by decide +kernel
theorem d_MO_fault_103 : decode b_MO_fault 103 = .ok (.ifCond .eq 13, 3) := by decide +kernel
theorem d_MO_fault_106 : decode b_MO_fault 106 = .ok (.iload 6, 2) := by decide +kernel
theorem d_MO_fault_108 : decode b_MO_fault 108 = .ok (.ifCond .eq 8, 3) := by decide +kernel
theorem d_MO_fault_111 : decode b_MO_fault 111 = .ok (.iload 5, 2) := by decide +kernel
theorem d_MO_fault_113 : decode b_MO_fault 113 = .ok (.goto 5, 3) := by decide +kernel
theorem d_MO_fault_116 : decode b_MO_fault 116 = .ok (.iload 4, 2) := by decide +kernel
theorem d_MO_fault_118 : decode b_MO_fault 118 = .ok (.istore 4, 2) := by decide +kernel
theorem d_MO_fault_120 : decode b_MO_fault 120 = .ok (.iinc 5 1, 3) := by decide +kernel
theorem d_MO_fault_123 : decode b_MO_fault 123 = .ok (.goto (-81), 3) := by decide +kernel
theorem d_MO_fault_126 : decode b_MO_fault 126 = .ok (.aload_n 0, 1) := by decide +kernel
theorem d_MO_fault_127 : decode b_MO_fault 127 = .ok (.iload_n 3, 1) := by decide +kernel
theorem d_MO_fault_128 : decode b_MO_fault 128 = .ok (.iload 4, 2) := by decide +kernel
theorem d_MO_fault_130 : decode b_MO_fault 130 = .ok (.iconst (-1), 1) := by decide +kernel
theorem d_MO_fault_131 : decode b_MO_fault 131 = .ok (.if_icmp .ne 12, 3) := by decide +kernel
theorem d_MO_fault_134 : decode b_MO_fault 134 = .ok (.aload_n 0, 1) := by decide +kernel
theorem d_MO_fault_135 : decode b_MO_fault 135 = .ok (.getfield 61, 3) := by decide +kernel
theorem d_MO_fault_138 : decode b_MO_fault 138 = .ok (.bipush 24, 2) := by decide +kernel
theorem d_MO_fault_140 : decode b_MO_fault 140 = .ok (.if_icmp .ge 7, 3) := by decide +kernel
theorem d_MO_fault_143 : decode b_MO_fault 143 = .ok (.iconst 1, 1) := by decide +kernel
theorem d_MO_fault_144 : decode b_MO_fault 144 = .ok (.goto 4, 3) := by decide +kernel
theorem d_MO_fault_147 : decode b_MO_fault 147 = .ok (.iconst 0, 1) := by decide +kernel
theorem d_MO_fault_148 : decode b_MO_fault 148 = .ok (.invokevirtual 69, 3) := by decide +kernel
theorem d_MO_fault_151 : decode b_MO_fault 151 = .ok (.ifCond .ne 5, 3) := by decide +kernel
theorem d_MO_fault_154 : decode b_MO_fault 154 = .ok (.iconst 0, 1) := by decide +kernel
theorem d_MO_fault_155 : decode b_MO_fault 155 = .ok (.ireturn, 1) := by decide +kernel
theorem d_MO_fault_156 : decode b_MO_fault 156 = .ok (.iload 4, 2) := by decide +kernel
theorem d_MO_fault_158 : decode b_MO_fault 158 = .ok (.iconst (-1), 1) := by decide +kernel
theorem d_MO_fault_159 : decode b_MO_fault 159 = .ok (.if_icmp .eq 6, 3) := by decide +kernel
theorem d_MO_fault_162 : decode b_MO_fault 162 = .ok (.iload 4, 2) := by decide +kernel
theorem d_MO_fault_164 : decode b_MO_fault 164 = .ok (.ireturn, 1) := by decide +kernel
theorem d_MO_fault_165 : decode b_MO_fault 165 = .ok (.aload_n 0, 1) := by decide +kernel
theorem d_MO_fault_166 : decode b_MO_fault 166 = .ok (.getfield 7, 3) := by decide +kernel
theorem d_MO_fault_169 : decode b_MO_fault 169 = .ok (.aload_n 0, 1) := by decide +kernel
theorem d_MO_fault_170 : decode b_MO_fault 170 = .ok (.getfield 61, 3) := by decide +kernel
theorem d_MO_fault_173 : decode b_MO_fault 173 = .ok (.iload_n 1, 1) := by decide +kernel
theorem d_MO_fault_174 : decode b_MO_fault 174 = .ok (.iastore, 1) := by decide +kernel
theorem d_MO_fault_175 : decode b_MO_fault 175 = .ok (.aload_n 0, 1) := by decide +kernel
theorem d_MO_fault_176 : decode b_MO_fault 176 = .ok (.getfield 13, 3) := by decide +kernel
theorem d_MO_fault_179 : decode b_MO_fault 179 = .ok (.aload_n 0, 1) := by decide +kernel
theorem d_MO_fault_180 : decode b_MO_fault 180 = .ok (.getfield 61, 3) := by decide +kernel
theorem d_MO_fault_183 : decode b_MO_fault 183 = .ok (.iload_n 2, 1) := by decide +kernel
theorem d_MO_fault_184 : decode b_MO_fault 184 = .ok (.iastore, 1) := by decide +kernel
theorem d_MO_fault_185 : decode b_MO_fault 185 = .ok (.aload_n 0, 1) := by decide +kernel
theorem d_MO_fault_186 : decode b_MO_fault 186 = .ok (.getfield 32, 3) := by decide +kernel
theorem d_MO_fault_189 : decode b_MO_fault 189 = .ok (.aload_n 0, 1) := by decide +kernel
theorem d_MO_fault_190 : decode b_MO_fault 190 = .ok (.getfield 61, 3) := by decide +kernel
theorem d_MO_fault_193 : decode b_MO_fault 193 = .ok (.iconst 0, 1) := by decide +kernel
theorem d_MO_fault_194 : decode b_MO_fault 194 = .ok (.iastore, 1) := by decide +kernel
theorem d_MO_fault_195 : decode b_MO_fault 195 = .ok (.aload_n 0, 1) := by decide +kernel
theorem d_MO_fault_196 : decode b_MO_fault 196 = .ok (.dup, 1) := by decide +kernel
theorem d_MO_fault_197 : decode b_MO_fault 197 = .ok (.getfield 61, 3) := by decide +kernel
theorem d_MO_fault_200 : decode b_MO_fault 200 = .ok (.iconst 1, 1) := by decide +kernel
theorem d_MO_fault_201 : decode b_MO_fault 201 = .ok (.iadd, 1) := by decide +kernel
theorem d_MO_fault_202 : decode b_MO_fault 202 = .ok (.putfield 61, 3) := by decide +kernel
theorem d_MO_fault_205 : decode b_MO_fault 205 = .ok (.aload_n 0, 1) := by decide +kernel
theorem d_MO_fault_206 : decode b_MO_fault 206 = .ok (.getfield 61, 3) := by decide +kernel
theorem d_MO_fault_209 : decode b_MO_fault 209 = .ok (.iconst 1, 1) := by decide +kernel
theorem d_MO_fault_210 : decode b_MO_fault 210 = .ok (.isub, 1) := by decide +kernel
theorem d_MO_fault_211 : decode b_MO_fault 211 = .ok (.ireturn, 1) := by decide +kernel
theorem d_MO_in_0 : decode b_MO_in 0 = .ok (.iload_n 0, 1) := by decide +kernel
theorem d_MO_in_1 : decode b_MO_in 1 = .ok (.iload_n 1, 1) := by decide +kernel
theorem d_MO_in_2 : decode b_MO_in 2 = .ok (.if_icmp .lt 12, 3) := by decide +kernel
theorem d_MO_in_5 : decode b_MO_in 5 = .ok (.iload_n 0, 1) := by decide +kernel
theorem d_MO_in_6 : decode b_MO_in 6 = .ok (.iload_n 2, 1) := by decide +kernel
theorem d_MO_in_7 : decode b_MO_in 7 = .ok (.if_icmp .gt 7, 3) := by decide +kernel
theorem d_MO_in_10 : decode b_MO_in 10 = .ok (.iconst 1, 1) := by decide +kernel
theorem d_MO_in_11 : decode b_MO_in 11 = .ok (.goto 4, 3) := by decide +kernel
theorem d_MO_in_14 : decode b_MO_in 14 = .ok (.iconst 0, 1) := by decide +kernel
theorem d_MO_in_15 : decode b_MO_in 15 = .ok (.ireturn, 1) := by decide +kernel
theorem d_MO_goes_0 : decode b_MO_goes 0 = .ok (.aload_n 0, 1) := by decide +kernel
theorem d_MO_goes_1 : decode b_MO_goes 1 = .ok (.iload_n 1, 1) := by decide +kernel
theorem d_MO_goes_2 : decode b_MO_goes 2 = .ok (.ifCond .ne 7, 3) := by decide +kernel
theorem d_MO_goes_5 : decode b_MO_goes 5 = .ok (.iconst 1, 1) := by decide +kernel
theorem d_MO_goes_6 : decode b_MO_goes 6 = .ok (.goto 12, 3) := by decide +kernel
theorem d_MO_goes_9 : decode b_MO_goes 9 = .ok (.iload_n 2, 1) := by decide +kernel
theorem d_MO_goes_10 : decode b_MO_goes 10 = .ok (.ifCond .ne 7, 3) := by decide +kernel
theorem d_MO_goes_13 : decode b_MO_goes 13 = .ok (.iconst 2, 1) := by decide +kernel
theorem d_MO_goes_14 : decode b_MO_goes 14 = .ok (.goto 4, 3) := by decide +kernel
theorem d_MO_goes_17 : decode b_MO_goes 17 = .ok (.iconst 0, 1) := by decide +kernel
theorem d_MO_goes_18 : decode b_MO_goes 18 = .ok (.putfield 58, 3) := by decide +kernel
theorem d_MO_goes_21 : decode b_MO_goes 21 = .ok (.aload_n 0, 1) := by decide +kernel
theorem d_MO_goes_22 : decode b_MO_goes 22 = .ok (.getfield 58, 3) := by decide +kernel
theorem d_MO_goes_25 : decode b_MO_goes 25 = .ok (.ifCond .ne 7, 3) := by decide +kernel
theorem d_MO_goes_28 : decode b_MO_goes 28 = .ok (.iconst 1, 1) := by decide +kernel
theorem d_MO_goes_29 : decode b_MO_goes 29 = .ok (.goto 4, 3) := by decide +kernel
theorem d_MO_goes_32 : decode b_MO_goes 32 = .ok (.iconst 0, 1) := by decide +kernel
theorem d_MO_goes_33 : decode b_MO_goes 33 = .ok (.ireturn, 1) := by decide +kernel
theorem d_MO_act_0 : decode b_MO_act 0 = .ok (.aload_n 0, 1) := by decide +kernel
theorem d_MO_act_1 : decode b_MO_act 1 = .ok (.iload_n 1, 1) := by decide +kernel
theorem d_MO_act_2 : decode b_MO_act 2 = .ok (.iconst 0, 1) := by decide +kernel
theorem d_MO_act_3 : decode b_MO_act 3 = .ok (.bipush 9, 2) := by decide +kernel
theorem d_MO_act_5 : decode b_MO_act 5 = .ok (.invokestatic 64, 3) := by decide +kernel
theorem d_MO_act_8 : decode b_MO_act 8 = .ok (.ifCond .eq 18, 3) := by decide +kernel
theorem d_MO_act_11 : decode b_MO_act 11 = .ok (.iload_n 2, 1) := by decide +kernel
theorem d_MO_act_12 : decode b_MO_act 12 = .ok (.iconst 1, 1) := by decide +kernel
theorem d_MO_act_13 : decode b_MO_act 13 = .ok (.sipush 10000, 3) := by decide +kernel
theorem d_MO_act_16 : decode b_MO_act 16 = .ok (.invokestatic 64, 3) := by decide +kernel
theorem d_MO_act_19 : decode b_MO_act 19 = .ok (.ifCond .eq 7, 3) := by decide +kernel
theorem d_MO_act_22 : decode b_MO_act 22 = .ok (.iconst 1, 1) := by decide +kernel
theorem d_MO_act_23 : decode b_MO_act 23 = .ok (.goto 4, 3) := by decide +kernel
theorem d_MO_act_26 : decode b_MO_act 26 = .ok (.iconst 0, 1) := by decide +kernel
theorem d_MO_act_27 : decode b_MO_act 27 = .ok (.aload_n 0, 1) := by decide +kernel
theorem d_MO_act_28 : decode b_MO_act 28 = .ok (.getfield 73, 3) := by decide +kernel
theorem d_MO_act_31 : decode b_MO_act 31 = .ok (.bipush 8, 2) := by decide +kernel
theorem d_MO_act_33 : decode b_MO_act 33 = .ok (.if_icmp .ge 7, 3) := by decide +kernel
theorem d_MO_act_36 : decode b_MO_act 36 = .ok (.iconst 1, 1) := by decide +kernel
theorem d_MO_act_37 : decode b_MO_act 37 = .ok (.goto 4, 3) := by decide +kernel
theorem d_MO_act_40 : decode b_MO_act 40 = .ok (.iconst 0, 1) := by decide +kernel
theorem d_MO_act_41 : decode b_MO_act 41 = .ok (.invokevirtual 69, 3) := by decide +kernel
theorem d_MO_act_44 : decode b_MO_act 44 = .ok (.ifCond .ne 5, 3) := by decide +kernel
theorem d_MO_act_47 : decode b_MO_act 47 = .ok (.iconst 0, 1) := by decide +kernel
theorem d_MO_act_48 : decode b_MO_act 48 = .ok (.ireturn, 1) := by decide +kernel
theorem d_MO_act_49 : decode b_MO_act 49 = .ok (.aload_n 0, 1) := by decide +kernel
theorem d_MO_act_50 : decode b_MO_act 50 = .ok (.getfield 16, 3) := by decide +kernel
theorem d_MO_act_53 : decode b_MO_act 53 = .ok (.aload_n 0, 1) := by decide +kernel
theorem d_MO_act_54 : decode b_MO_act 54 = .ok (.getfield 73, 3) := by decide +kernel
theorem d_MO_act_57 : decode b_MO_act 57 = .ok (.iload_n 1, 1) := by decide +kernel
theorem d_MO_act_58 : decode b_MO_act 58 = .ok (.iastore, 1) := by decide +kernel
theorem d_MO_act_59 : decode b_MO_act 59 = .ok (.aload_n 0, 1) := by decide +kernel
theorem d_MO_act_60 : decode b_MO_act 60 = .ok (.getfield 19, 3) := by decide +kernel
theorem d_MO_act_63 : decode b_MO_act 63 = .ok (.aload_n 0, 1) := by decide +kernel
theorem d_MO_act_64 : decode b_MO_act 64 = .ok (.getfield 73, 3) := by decide +kernel
theorem d_MO_act_67 : decode b_MO_act 67 = .ok (.iload_n 2, 1) := by decide +kernel
theorem d_MO_act_68 : decode b_MO_act 68 = .ok (.iastore, 1) := by decide +kernel
theorem d_MO_act_69 : decode b_MO_act 69 = .ok (.aload_n 0, 1) := by decide +kernel
theorem d_MO_act_70 : decode b_MO_act 70 = .ok (.dup, 1) := by decide +kernel
theorem d_MO_act_71 : decode b_MO_act 71 = .ok (.getfield 73, 3) := by decide +kernel
theorem d_MO_act_74 : decode b_MO_act 74 = .ok (.iconst 1, 1) := by decide +kernel
theorem d_MO_act_75 : decode b_MO_act 75 = .ok (.iadd, 1) := by decide +kernel
theorem d_MO_act_76 : decode b_MO_act 76 = .ok (.putfield 73, 3) := by decide +kernel
theorem d_MO_act_79 : decode b_MO_act 79 = .ok (.aload_n 0, 1) := by decide +kernel
theorem d_MO_act_80 : decode b_MO_act 80 = .ok (.getfield 73, 3) := by decide +kernel
theorem d_MO_act_83 : decode b_MO_act 83 = .ok (.iconst 1, 1) := by decide +kernel
theorem d_MO_act_84 : decode b_MO_act 84 = .ok (.isub, 1) := by decide +kernel
theorem d_MO_act_85 : decode b_MO_act 85 = .ok (.ireturn, 1) := by decide +kernel
theorem d_MO_shows_0 : decode b_MO_shows 0 = .ok (.aload_n 0, 1) := by decide +kernel
theorem d_MO_shows_1 : decode b_MO_shows 1 = .ok (.iload_n 1, 1) := by decide +kernel
theorem d_MO_shows_2 : decode b_MO_shows 2 = .ok (.iconst 0, 1) := by decide +kernel
theorem d_MO_shows_3 : decode b_MO_shows 3 = .ok (.aload_n 0, 1) := by decide +kernel
theorem d_MO_shows_4 : decode b_MO_shows 4 = .ok (.getfield 73, 3) := by decide +kernel
theorem d_MO_shows_7 : decode b_MO_shows 7 = .ok (.iconst 1, 1) := by decide +kernel
theorem d_MO_shows_8 : decode b_MO_shows 8 = .ok (.isub, 1) := by decide +kernel
theorem d_MO_shows_9 : decode b_MO_shows 9 = .ok (.invokestatic 64, 3) := by decide +kernel
theorem d_MO_shows_12 : decode b_MO_shows 12 = .ok (.ifCond .eq 15, 3) := by decide +kernel
theorem d_MO_shows_15 : decode b_MO_shows 15 = .ok (.aload_n 0, 1) := by decide +kernel
theorem d_MO_shows_16 : decode b_MO_shows 16 = .ok (.iload_n 2, 1) := by decide +kernel
theorem d_MO_shows_17 : decode b_MO_shows 17 = .ok (.invokevirtual 76, 3) := by decide +kernel
theorem d_MO_shows_20 : decode b_MO_shows 20 = .ok (.ifCond .eq 7, 3) := by decide +kernel
theorem d_MO_shows_23 : decode b_MO_shows 23 = .ok (.iconst 1, 1) := by decide +kernel
theorem d_MO_shows_24 : decode b_MO_shows 24 = .ok (.goto 4, 3) := by decide +kernel
theorem d_MO_shows_27 : decode b_MO_shows 27 = .ok (.iconst 0, 1) := by decide +kernel
theorem d_MO_shows_28 : decode b_MO_shows 28 = .ok (.iconst 1, 1) := by decide +kernel
theorem d_MO_shows_29 : decode b_MO_shows 29 = .ok (.invokevirtual 69, 3) := by decide +kernel
theorem d_MO_shows_32 : decode b_MO_shows 32 = .ok (.ifCond .ne 5, 3) := by decide +kernel
theorem d_MO_shows_35 : decode b_MO_shows 35 = .ok (.iconst 0, 1) := by decide +kernel
theorem d_MO_shows_36 : decode b_MO_shows 36 = .ok (.ireturn, 1) := by decide +kernel
theorem d_MO_shows_37 : decode b_MO_shows 37 = .ok (.aload_n 0, 1) := by decide +kernel
theorem d_MO_shows_38 : decode b_MO_shows 38 = .ok (.getfield 22, 3) := by decide +kernel
theorem d_MO_shows_41 : decode b_MO_shows 41 = .ok (.iload_n 1, 1) := by decide +kernel
theorem d_MO_shows_42 : decode b_MO_shows 42 = .ok (.iaload, 1) := by decide +kernel
theorem d_MO_shows_43 : decode b_MO_shows 43 = .ok (.iload_n 2, 1) := by decide +kernel
theorem d_MO_shows_44 : decode b_MO_shows 44 = .ok (.ishr, 1) := by decide +kernel
theorem d_MO_shows_45 : decode b_MO_shows 45 = .ok (.iconst 1, 1) := by decide +kernel
theorem d_MO_shows_46 : decode b_MO_shows 46 = .ok (.iand, 1) := by decide +kernel
theorem d_MO_shows_47 : decode b_MO_shows 47 = .ok (.iconst 1, 1) := by decide +kernel
theorem d_MO_shows_48 : decode b_MO_shows 48 = .ok (.if_icmp .ne 7, 3) := by decide +kernel
theorem d_MO_shows_51 : decode b_MO_shows 51 = .ok (.iconst 1, 1) := by decide +kernel
theorem d_MO_shows_52 : decode b_MO_shows 52 = .ok (.goto 4, 3) := by decide +kernel
theorem d_MO_shows_55 : decode b_MO_shows 55 = .ok (.iconst 0, 1) := by decide +kernel
theorem d_MO_shows_56 : decode b_MO_shows 56 = .ok (.istore 4, 2) := by decide +kernel
theorem d_MO_shows_58 : decode b_MO_shows 58 = .ok (.aload_n 0, 1) := by decide +kernel
theorem d_MO_shows_59 : decode b_MO_shows 59 = .ok (.getfield 22, 3) := by decide +kernel
theorem d_MO_shows_62 : decode b_MO_shows 62 = .ok (.iload_n 1, 1) := by decide +kernel
theorem d_MO_shows_63 : decode b_MO_shows 63 = .ok (.iload 4, 2) := by decide +kernel
theorem d_MO_shows_65 : decode b_MO_shows 65 = .ok (.iload_n 3, 1) := by decide +kernel
theorem d_MO_shows_66 : decode b_MO_shows 66 = .ok (.if_icmp .ne 12, 3) := by decide +kernel
theorem d_MO_shows_69 : decode b_MO_shows 69 = .ok (.aload_n 0, 1) := by decide +kernel
theorem d_MO_shows_70 : decode b_MO_shows 70 = .ok (.getfield 22, 3) := by decide +kernel
theorem d_MO_shows_73 : decode b_MO_shows 73 = .ok (.iload_n 1, 1) := by decide +kernel
theorem d_MO_shows_74 : decode b_MO_shows 74 = .ok (.iaload, 1) := by decide +kernel
theorem d_MO_shows_75 : decode b_MO_shows 75 = .ok (.goto 13, 3) := by decide +kernel
theorem d_MO_shows_78 : decode b_MO_shows 78 = .ok (.aload_n 0, 1) := by decide +kernel
theorem d_MO_shows_79 : decode b_MO_shows 79 = .ok (.getfield 22, 3) := by decide +kernel
theorem d_MO_shows_82 : decode b_MO_shows 82 = .ok (.iload_n 1, 1) := by decide +kernel
theorem d_MO_shows_83 : decode b_MO_shows 83 = .ok (.iaload, 1) := by decide +kernel
theorem d_MO_shows_84 : decode b_MO_shows 84 = .ok (.iconst 1, 1) := by decide +kernel
theorem d_MO_shows_85 : decode b_MO_shows 85 = .ok (.iload_n 2, 1) := by decide +kernel
theorem d_MO_shows_86 : decode b_MO_shows 86 = .ok (.ishl, 1) := by decide +kernel
theorem d_MO_shows_87 : decode b_MO_shows 87 = .ok (.ixor, 1) := by decide +kernel
theorem d_MO_shows_88 : decode b_MO_shows 88 = .ok (.iastore, 1) := by decide +kernel
theorem d_MO_shows_89 : decode b_MO_shows 89 = .ok (.iload 4, 2) := by decide +kernel
theorem d_MO_shows_91 : decode b_MO_shows 91 = .ok (.ireturn, 1) := by decide +kernel
theorem d_MO_isCase_0 : decode b_MO_isCase 0 = .ok (.iload_n 1, 1) := by decide +kernel
theorem d_MO_isCase_1 : decode b_MO_isCase 1 = .ok (.iconst 0, 1) := by decide +kernel
theorem d_MO_isCase_2 : decode b_MO_isCase 2 = .ok (.aload_n 0, 1) := by decide +kernel
theorem d_MO_isCase_3 : decode b_MO_isCase 3 = .ok (.getfield 61, 3) := by decide +kernel
theorem d_MO_isCase_6 : decode b_MO_isCase 6 = .ok (.iconst 1, 1) := by decide +kernel
theorem d_MO_isCase_7 : decode b_MO_isCase 7 = .ok (.isub, 1) := by decide +kernel
theorem d_MO_isCase_8 : decode b_MO_isCase 8 = .ok (.invokestatic 64, 3) := by decide +kernel
theorem d_MO_isCase_11 : decode b_MO_isCase 11 = .ok (.ireturn, 1) := by decide +kernel
theorem d_MO_way_0 : decode b_MO_way 0 = .ok (.aload_n 0, 1) := by decide +kernel
theorem d_MO_way_1 : decode b_MO_way 1 = .ok (.iload_n 1, 1) := by decide +kernel
theorem d_MO_way_2 : decode b_MO_way 2 = .ok (.iconst 0, 1) := by decide +kernel
theorem d_MO_way_3 : decode b_MO_way 3 = .ok (.bipush 9, 2) := by decide +kernel
theorem d_MO_way_5 : decode b_MO_way 5 = .ok (.invokestatic 64, 3) := by decide +kernel
theorem d_MO_way_8 : decode b_MO_way 8 = .ok (.ifCond .eq 33, 3) := by decide +kernel
theorem d_MO_way_11 : decode b_MO_way 11 = .ok (.iload_n 2, 1) := by decide +kernel
theorem d_MO_way_12 : decode b_MO_way 12 = .ok (.iconst 0, 1) := by decide +kernel
theorem d_MO_way_13 : decode b_MO_way 13 = .ok (.bipush 9, 2) := by decide +kernel
theorem d_MO_way_15 : decode b_MO_way 15 = .ok (.invokestatic 64, 3) := by decide +kernel
theorem d_MO_way_18 : decode b_MO_way 18 = .ok (.ifCond .eq 23, 3) := by decide +kernel
theorem d_MO_way_21 : decode b_MO_way 21 = .ok (.iload_n 1, 1) := by decide +kernel
theorem d_MO_way_22 : decode b_MO_way 22 = .ok (.iload_n 2, 1) := by decide +kernel
theorem d_MO_way_23 : decode b_MO_way 23 = .ok (.if_icmp .eq 18, 3) := by decide +kernel
theorem d_MO_way_26 : decode b_MO_way 26 = .ok (.iload_n 3, 1) := by decide +kernel
theorem d_MO_way_27 : decode b_MO_way 27 = .ok (.iconst 0, 1) := by decide +kernel
theorem d_MO_way_28 : decode b_MO_way 28 = .ok (.sipush 10000, 3) := by decide +kernel
theorem d_MO_way_31 : decode b_MO_way 31 = .ok (.invokestatic 64, 3) := by decide +kernel
theorem d_MO_way_34 : decode b_MO_way 34 = .ok (.ifCond .eq 7, 3) := by decide +kernel
theorem d_MO_way_37 : decode b_MO_way 37 = .ok (.iconst 1, 1) := by decide +kernel
theorem d_MO_way_38 : decode b_MO_way 38 = .ok (.goto 4, 3) := by decide +kernel
theorem d_MO_way_41 : decode b_MO_way 41 = .ok (.iconst 0, 1) := by decide +kernel
theorem d_MO_way_42 : decode b_MO_way 42 = .ok (.iconst 1, 1) := by decide +kernel
theorem d_MO_way_43 : decode b_MO_way 43 = .ok (.invokevirtual 69, 3) := by decide +kernel
theorem d_MO_way_46 : decode b_MO_way 46 = .ok (.ifCond .ne 5, 3) := by decide +kernel
theorem d_MO_way_49 : decode b_MO_way 49 = .ok (.iconst 0, 1) := by decide +kernel
theorem d_MO_way_50 : decode b_MO_way 50 = .ok (.ireturn, 1) := by decide +kernel
theorem d_MO_way_51 : decode b_MO_way 51 = .ok (.aload_n 0, 1) := by decide +kernel
theorem d_MO_way_52 : decode b_MO_way 52 = .ok (.getfield 25, 3) := by decide +kernel
theorem d_MO_way_55 : decode b_MO_way 55 = .ok (.bipush 10, 2) := by decide +kernel
theorem d_MO_way_57 : decode b_MO_way 57 = .ok (.iload_n 1, 1) := by decide +kernel
theorem d_MO_way_58 : decode b_MO_way 58 = .ok (.imul, 1) := by decide +kernel
theorem d_MO_way_59 : decode b_MO_way 59 = .ok (.iload_n 2, 1) := by decide +kernel
theorem d_MO_way_60 : decode b_MO_way 60 = .ok (.iadd, 1) := by decide +kernel
theorem d_MO_way_61 : decode b_MO_way 61 = .ok (.iaload, 1) := by decide +kernel
theorem d_MO_way_62 : decode b_MO_way 62 = .ok (.istore 4, 2) := by decide +kernel
theorem d_MO_way_64 : decode b_MO_way 64 = .ok (.aload_n 0, 1) := by decide +kernel
theorem d_MO_way_65 : decode b_MO_way 65 = .ok (.getfield 25, 3) := by decide +kernel
theorem d_MO_way_68 : decode b_MO_way 68 = .ok (.bipush 10, 2) := by decide +kernel
theorem d_MO_way_70 : decode b_MO_way 70 = .ok (.iload_n 1, 1) := by decide +kernel
theorem d_MO_way_71 : decode b_MO_way 71 = .ok (.imul, 1) := by decide +kernel
theorem d_MO_way_72 : decode b_MO_way 72 = .ok (.iload_n 2, 1) := by decide +kernel
theorem d_MO_way_73 : decode b_MO_way 73 = .ok (.iadd, 1) := by decide +kernel
theorem d_MO_way_74 : decode b_MO_way 74 = .ok (.iload_n 3, 1) := by decide +kernel
theorem d_MO_way_75 : decode b_MO_way 75 = .ok (.iastore, 1) := by decide +kernel
theorem d_MO_way_76 : decode b_MO_way 76 = .ok (.aload_n 0, 1) := by decide +kernel
theorem d_MO_way_77 : decode b_MO_way 77 = .ok (.getfield 25, 3) := by decide +kernel
theorem d_MO_way_80 : decode b_MO_way 80 = .ok (.bipush 10, 2) := by decide +kernel
theorem d_MO_way_82 : decode b_MO_way 82 = .ok (.iload_n 2, 1) := by decide +kernel
theorem d_MO_way_83 : decode b_MO_way 83 = .ok (.imul, 1) := by decide +kernel
theorem d_MO_way_84 : decode b_MO_way 84 = .ok (.iload_n 1, 1) := by decide +kernel
theorem d_MO_way_85 : decode b_MO_way 85 = .ok (.iadd, 1) := by decide +kernel
theorem d_MO_way_86 : decode b_MO_way 86 = .ok (.iload_n 3, 1) := by decide +kernel
theorem d_MO_way_87 : decode b_MO_way 87 = .ok (.iastore, 1) := by decide +kernel
theorem d_MO_way_88 : decode b_MO_way 88 = .ok (.iload 4, 2) := by decide +kernel
theorem d_MO_way_90 : decode b_MO_way 90 = .ok (.ireturn, 1) := by decide +kernel
theorem d_MO_change_0 : decode b_MO_change 0 = .ok (.aload_n 0, 1) := by decide +kernel
theorem d_MO_change_1 : decode b_MO_change 1 = .ok (.iload_n 1, 1) := by decide +kernel
theorem d_MO_change_2 : decode b_MO_change 2 = .ok (.iconst 0, 1) := by decide +kernel
theorem d_MO_change_3 : decode b_MO_change 3 = .ok (.bipush 29, 2) := by decide +kernel
theorem d_MO_change_5 : decode b_MO_change 5 = .ok (.invokestatic 64, 3) := by decide +kernel
theorem d_MO_change_8 : decode b_MO_change 8 = .ok (.ifCond .eq 14, 3) := by decide +kernel
theorem d_MO_change_11 : decode b_MO_change 11 = .ok (.iload_n 2, 1) := by decide +kernel
theorem d_MO_change_12 : decode b_MO_change 12 = .ok (.invokestatic 80, 3) := by decide +kernel
theorem d_MO_change_15 : decode b_MO_change 15 = .ok (.ifCond .eq 7, 3) := by decide +kernel
theorem d_MO_change_18 : decode b_MO_change 18 = .ok (.iconst 1, 1) := by decide +kernel
theorem d_MO_change_19 : decode b_MO_change 19 = .ok (.goto 4, 3) := by decide +kernel
theorem d_MO_change_22 : decode b_MO_change 22 = .ok (.iconst 0, 1) := by decide +kernel
theorem d_MO_change_23 : decode b_MO_change 23 = .ok (.iconst 1, 1) := by decide +kernel
theorem d_MO_change_24 : decode b_MO_change 24 = .ok (.invokevirtual 69, 3) := by decide +kernel
theorem d_MO_change_27 : decode b_MO_change 27 = .ok (.ifCond .ne 5, 3) := by decide +kernel
theorem d_MO_change_30 : decode b_MO_change 30 = .ok (.iconst 0, 1) := by decide +kernel
theorem d_MO_change_31 : decode b_MO_change 31 = .ok (.ireturn, 1) := by decide +kernel
theorem d_MO_change_32 : decode b_MO_change 32 = .ok (.iconst 0, 1) := by decide +kernel
theorem d_MO_change_33 : decode b_MO_change 33 = .ok (.istore_n 3, 1) := by decide +kernel
theorem d_MO_change_34 : decode b_MO_change 34 = .ok (.iconst 0, 1) := by decide +kernel
theorem d_MO_change_35 : decode b_MO_change 35 = .ok (.istore 4, 2) := by decide +kernel
theorem d_MO_change_37 : decode b_MO_change 37 = .ok (.iload 4, 2) := by decide +kernel
theorem d_MO_change_39 : decode b_MO_change 39 = .ok (.aload_n 0, 1) := by decide +kernel
theorem d_MO_change_40 : decode b_MO_change 40 = .ok (.getfield 61, 3) := by decide +kernel
theorem d_MO_change_43 : decode b_MO_change 43 = .ok (.if_icmp .ge 73, 3) := by decide +kernel
theorem d_MO_change_46 : decode b_MO_change 46 = .ok (.aload_n 0, 1) := by decide +kernel
theorem d_MO_change_47 : decode b_MO_change 47 = .ok (.getfield 7, 3) := by decide +kernel
theorem d_MO_change_50 : decode b_MO_change 50 = .ok (.iload 4, 2) := by decide +kernel
theorem d_MO_change_52 : decode b_MO_change 52 = .ok (.iaload, 1) := by decide +kernel
theorem d_MO_change_53 : decode b_MO_change 53 = .ok (.iload_n 1, 1) := by decide +kernel
theorem d_MO_change_54 : decode b_MO_change 54 = .ok (.if_icmp .eq 14, 3) := by decide +kernel
theorem d_MO_change_57 : decode b_MO_change 57 = .ok (.aload_n 0, 1) := by decide +kernel
theorem d_MO_change_58 : decode b_MO_change 58 = .ok (.getfield 13, 3) := by decide +kernel
theorem d_MO_change_61 : decode b_MO_change 61 = .ok (.iload 4, 2) := by decide +kernel
theorem d_MO_change_63 : decode b_MO_change 63 = .ok (.iaload, 1) := by decide +kernel
theorem d_MO_change_64 : decode b_MO_change 64 = .ok (.iload_n 1, 1) := by decide +kernel
theorem d_MO_change_65 : decode b_MO_change 65 = .ok (.if_icmp .ne 45, 3) := by decide +kernel
theorem d_MO_change_68 : decode b_MO_change 68 = .ok (.aload_n 0, 1) := by decide +kernel
theorem d_MO_change_69 : decode b_MO_change 69 = .ok (.getfield 29, 3) := by decide +kernel
theorem d_MO_change_72 : decode b_MO_change 72 = .ok (.sipush 3126, 3) := by decide +kernel
theorem d_MO_change_75 : decode b_MO_change 75 = .ok (.iload 4, 2) := by decide +kernel
theorem d_MO_change_77 : decode b_MO_change 77 = .ok (.imul, 1) := by decide +kernel
theorem d_MO_change_78 : decode b_MO_change 78 = .ok (.iload_n 2, 1) := by decide +kernel
theorem d_MO_change_79 : decode b_MO_change 79 = .ok (.bipush 32, 2) := by decide +kernel
theorem d_MO_change_81 : decode b_MO_change 81 = .ok (.idiv, 1) := by decide +kernel
theorem d_MO_change_82 : decode b_MO_change 82 = .ok (.iadd, 1) := by decide +kernel
theorem d_MO_change_83 : decode b_MO_change 83 = .ok (.aload_n 0, 1) := by decide +kernel
theorem d_MO_change_84 : decode b_MO_change 84 = .ok (.getfield 29, 3) := by decide +kernel
theorem d_MO_change_87 : decode b_MO_change 87 = .ok (.sipush 3126, 3) := by decide +kernel
theorem d_MO_change_90 : decode b_MO_change 90 = .ok (.iload 4, 2) := by decide +kernel
theorem d_MO_change_92 : decode b_MO_change 92 = .ok (.imul, 1) := by decide +kernel
theorem d_MO_change_93 : decode b_MO_change 93 = .ok (.iload_n 2, 1) := by decide +kernel
theorem d_MO_change_94 : decode b_MO_change 94 = .ok (.bipush 32, 2) := by decide +kernel
theorem d_MO_change_96 : decode b_MO_change 96 = .ok (.idiv, 1) := by decide +kernel
theorem d_MO_change_97 : decode b_MO_change 97 = .ok (.iadd, 1) := by decide +kernel
theorem d_MO_change_98 : decode b_MO_change 98 = .ok (.iaload, 1) := by decide +kernel
theorem d_MO_change_99 : decode b_MO_change 99 = .ok (.iconst 1, 1) := by decide +kernel
theorem d_MO_change_100 : decode b_MO_change 100 = .ok (.iload_n 2, 1) := by decide +kernel
theorem d_MO_change_101 : decode b_MO_change 101 = .ok (.bipush 32, 2) := by decide +kernel
theorem d_MO_change_103 : decode b_MO_change 103 = .ok (.irem, 1) := by decide +kernel
theorem d_MO_change_104 : decode b_MO_change 104 = .ok (.ishl, 1) := by decide +kernel
theorem d_MO_change_105 : decode b_MO_change 105 = .ok (.ior, 1) := by decide +kernel
theorem d_MO_change_106 : decode b_MO_change 106 = .ok (.iastore, 1) := by decide +kernel
theorem d_MO_change_107 : decode b_MO_change 107 = .ok (.iinc 3 1, 3) := by decide +kernel
theorem d_MO_change_110 : decode b_MO_change 110 = .ok (.iinc 4 1, 3) := by decide +kernel
theorem d_MO_change_113 : decode b_MO_change 113 = .ok (.goto (-76), 3) := by decide +kernel
theorem d_MO_change_116 : decode b_MO_change 116 = .ok (.iload_n 3, 1) := by decide +kernel
theorem d_MO_change_117 : decode b_MO_change 117 = .ok (.ireturn, 1) := by decide +kernel
theorem d_MO_isDay_0 : decode b_MO_isDay 0 = .ok (.iload_n 0, 1) := by decide +kernel
theorem d_MO_isDay_1 : decode b_MO_isDay 1 = .ok (.iconst 0, 1) := by decide +kernel
theorem d_MO_isDay_2 : decode b_MO_isDay 2 = .ok (.ldc 68, 2) := by decide +kernel
theorem d_MO_isDay_4 : decode b_MO_isDay 4 = .ok (.invokestatic 64, 3) := by decide +kernel
theorem d_MO_isDay_7 : decode b_MO_isDay 7 = .ok (.ireturn, 1) := by decide +kernel
theorem d_MO_result_0 : decode b_MO_result 0 = .ok (.aload_n 0, 1) := by decide +kernel
theorem d_MO_result_1 : decode b_MO_result 1 = .ok (.iload_n 1, 1) := by decide +kernel
theorem d_MO_result_2 : decode b_MO_result 2 = .ok (.invokevirtual 76, 3) := by decide +kernel
theorem d_MO_result_5 : decode b_MO_result 5 = .ok (.ifCond .eq 24, 3) := by decide +kernel
theorem d_MO_result_8 : decode b_MO_result 8 = .ok (.iload_n 2, 1) := by decide +kernel
theorem d_MO_result_9 : decode b_MO_result 9 = .ok (.iconst 0, 1) := by decide +kernel
theorem d_MO_result_10 : decode b_MO_result 10 = .ok (.bipush 9, 2) := by decide +kernel
theorem d_MO_result_12 : decode b_MO_result 12 = .ok (.invokestatic 64, 3) := by decide +kernel
theorem d_MO_result_15 : decode b_MO_result 15 = .ok (.ifCond .eq 14, 3) := by decide +kernel
theorem d_MO_result_18 : decode b_MO_result 18 = .ok (.iload_n 3, 1) := by decide +kernel
theorem d_MO_result_19 : decode b_MO_result 19 = .ok (.invokestatic 80, 3) := by decide +kernel
theorem d_MO_result_22 : decode b_MO_result 22 = .ok (.ifCond .eq 7, 3) := by decide +kernel
theorem d_MO_result_25 : decode b_MO_result 25 = .ok (.iconst 1, 1) := by decide +kernel
theorem d_MO_result_26 : decode b_MO_result 26 = .ok (.goto 4, 3) := by decide +kernel
theorem d_MO_result_29 : decode b_MO_result 29 = .ok (.iconst 0, 1) := by decide +kernel
theorem d_MO_result_30 : decode b_MO_result 30 = .ok (.istore 5, 2) := by decide +kernel
theorem d_MO_result_32 : decode b_MO_result 32 = .ok (.iconst (-1), 1) := by decide +kernel
theorem d_MO_result_33 : decode b_MO_result 33 = .ok (.istore 6, 2) := by decide +kernel
theorem d_MO_result_35 : decode b_MO_result 35 = .ok (.iconst 0, 1) := by decide +kernel
theorem d_MO_result_36 : decode b_MO_result 36 = .ok (.istore 7, 2) := by decide +kernel
theorem d_MO_result_38 : decode b_MO_result 38 = .ok (.iload 5, 2) := by decide +kernel
theorem d_MO_result_40 : decode b_MO_result 40 = .ok (.ifCond .eq 60, 3) := by decide +kernel
theorem d_MO_result_43 : decode b_MO_result 43 = .ok (.iload 7, 2) := by decide +kernel
theorem d_MO_result_45 : decode b_MO_result 45 = .ok (.aload_n 0, 1) := by decide +kernel
theorem d_MO_result_46 : decode b_MO_result 46 = .ok (.getfield 32, 3) := by decide +kernel
theorem d_MO_result_49 : decode b_MO_result 49 = .ok (.iload_n 1, 1) := by decide +kernel
theorem d_MO_result_50 : decode b_MO_result 50 = .ok (.iaload, 1) := by decide +kernel
theorem d_MO_result_51 : decode b_MO_result 51 = .ok (.if_icmp .ge 49, 3) := by decide +kernel
theorem d_MO_result_54 : decode b_MO_result 54 = .ok (.bipush 32, 2) := by decide +kernel
theorem d_MO_result_56 : decode b_MO_result 56 = .ok (.iload_n 1, 1) := by decide +kernel
theorem d_MO_result_57 : decode b_MO_result 57 = .ok (.imul, 1) := by decide +kernel
theorem d_MO_result_58 : decode b_MO_result 58 = .ok (.iload 7, 2) := by decide +kernel
theorem d_MO_result_60 : decode b_MO_result 60 = .ok (.iadd, 1) := by decide +kernel
theorem d_MO_result_61 : decode b_MO_result 61 = .ok (.istore 8, 2) := by decide +kernel
theorem d_MO_result_63 : decode b_MO_result 63 = .ok (.aload_n 0, 1) := by decide +kernel
theorem d_MO_result_64 : decode b_MO_result 64 = .ok (.getfield 35, 3) := by decide +kernel
theorem d_MO_result_67 : decode b_MO_result 67 = .ok (.iload 8, 2) := by decide +kernel
theorem d_MO_result_69 : decode b_MO_result 69 = .ok (.iaload, 1) := by decide +kernel
theorem d_MO_result_70 : decode b_MO_result 70 = .ok (.iload_n 2, 1) := by decide +kernel
theorem d_MO_result_71 : decode b_MO_result 71 = .ok (.if_icmp .ne 19, 3) := by decide +kernel
theorem d_MO_result_74 : decode b_MO_result 74 = .ok (.aload_n 0, 1) := by decide +kernel
theorem d_MO_result_75 : decode b_MO_result 75 = .ok (.getfield 38, 3) := by decide +kernel
theorem d_MO_result_78 : decode b_MO_result 78 = .ok (.iload 8, 2) := by decide +kernel
theorem d_MO_result_80 : decode b_MO_result 80 = .ok (.iaload, 1) := by decide +kernel
theorem d_MO_result_81 : decode b_MO_result 81 = .ok (.iload_n 3, 1) := by decide +kernel
theorem d_MO_result_82 : decode b_MO_result 82 = .ok (.if_icmp .ne 8, 3) := by decide +kernel
theorem d_MO_result_85 : decode b_MO_result 85 = .ok (.iload 8, 2) := by decide +kernel
theorem d_MO_result_87 : decode b_MO_result 87 = .ok (.goto 5, 3) := by decide +kernel
theorem d_MO_result_90 : decode b_MO_result 90 = .ok (.iload 6, 2) := by decide +kernel
theorem d_MO_result_92 : decode b_MO_result 92 = .ok (.istore 6, 2) := by decide +kernel
theorem d_MO_result_94 : decode b_MO_result 94 = .ok (.iinc 7 1, 3) := by decide +kernel
theorem d_MO_result_97 : decode b_MO_result 97 = .ok (.goto (-59), 3) := by decide +kernel
theorem d_MO_result_100 : decode b_MO_result 100 = .ok (.aload_n 0, 1) := by decide +kernel
theorem d_MO_result_101 : decode b_MO_result 101 = .ok (.iload 5, 2) := by decide +kernel
theorem d_MO_result_103 : decode b_MO_result 103 = .ok (.iload 5, 2) := by decide +kernel
theorem d_MO_result_105 : decode b_MO_result 105 = .ok (.ifCond .eq 24, 3) := by decide +kernel
theorem d_MO_result_108 : decode b_MO_result 108 = .ok (.iload 6, 2) := by decide +kernel
theorem d_MO_result_110 : decode b_MO_result 110 = .ok (.iconst (-1), 1) := by decide +kernel
theorem d_MO_result_111 : decode b_MO_result 111 = .ok (.if_icmp .ne 14, 3) := by decide +kernel
theorem d_MO_result_114 : decode b_MO_result 114 = .ok (.aload_n 0, 1) := by decide +kernel
theorem d_MO_result_115 : decode b_MO_result 115 = .ok (.getfield 32, 3) := by decide +kernel
theorem d_MO_result_118 : decode b_MO_result 118 = .ok (.iload_n 1, 1) := by decide +kernel
theorem d_MO_result_119 : decode b_MO_result 119 = .ok (.iaload, 1) := by decide +kernel
theorem d_MO_result_120 : decode b_MO_result 120 = .ok (.bipush 32, 2) := by decide +kernel
theorem d_MO_result_122 : decode b_MO_result 122 = .ok (.if_icmp .ge 7, 3) := by decide +kernel
theorem d_MO_result_125 : decode b_MO_result 125 = .ok (.iconst 1, 1) := by decide +kernel
theorem d_MO_result_126 : decode b_MO_result 126 = .ok (.goto 4, 3) := by decide +kernel
theorem d_MO_result_129 : decode b_MO_result 129 = .ok (.iconst 0, 1) := by decide +kernel
theorem d_MO_result_130 : decode b_MO_result 130 = .ok (.invokevirtual 69, 3) := by decide +kernel
theorem d_MO_result_133 : decode b_MO_result 133 = .ok (.ifCond .ne 5, 3) := by decide +kernel
theorem d_MO_result_136 : decode b_MO_result 136 = .ok (.iconst 0, 1) := by decide +kernel
theorem d_MO_result_137 : decode b_MO_result 137 = .ok (.ireturn, 1) := by decide +kernel
theorem d_MO_result_138 : decode b_MO_result 138 = .ok (.iload 6, 2) := by decide +kernel
theorem d_MO_result_140 : decode b_MO_result 140 = .ok (.iconst (-1), 1) := by decide +kernel
theorem d_MO_result_141 : decode b_MO_result 141 = .ok (.if_icmp .ne 26, 3) := by decide +kernel
theorem d_MO_result_144 : decode b_MO_result 144 = .ok (.bipush 32, 2) := by decide +kernel
theorem d_MO_result_146 : decode b_MO_result 146 = .ok (.iload_n 1, 1) := by decide +kernel
theorem d_MO_result_147 : decode b_MO_result 147 = .ok (.imul, 1) := by decide +kernel
theorem d_MO_result_148 : decode b_MO_result 148 = .ok (.aload_n 0, 1) := by decide +kernel
theorem d_MO_result_149 : decode b_MO_result 149 = .ok (.getfield 32, 3) := by decide +kernel
theorem d_MO_result_152 : decode b_MO_result 152 = .ok (.iload_n 1, 1) := by decide +kernel
theorem d_MO_result_153 : decode b_MO_result 153 = .ok (.iaload, 1) := by decide +kernel
theorem d_MO_result_154 : decode b_MO_result 154 = .ok (.iadd, 1) := by decide +kernel
theorem d_MO_result_155 : decode b_MO_result 155 = .ok (.istore 6, 2) := by decide +kernel
theorem d_MO_result_157 : decode b_MO_result 157 = .ok (.aload_n 0, 1) := by decide +kernel
theorem d_MO_result_158 : decode b_MO_result 158 = .ok (.getfield 32, 3) := by decide +kernel
theorem d_MO_result_161 : decode b_MO_result 161 = .ok (.iload_n 1, 1) := by decide +kernel
theorem d_MO_result_162 : decode b_MO_result 162 = .ok (.dup2, 1) := by decide +kernel
theorem d_MO_result_163 : decode b_MO_result 163 = .ok (.iaload, 1) := by decide +kernel
theorem d_MO_result_164 : decode b_MO_result 164 = .ok (.iconst 1, 1) := by decide +kernel
theorem d_MO_result_165 : decode b_MO_result 165 = .ok (.iadd, 1) := by decide +kernel
theorem d_MO_result_166 : decode b_MO_result 166 = .ok (.iastore, 1) := by decide +kernel
theorem d_MO_result_167 : decode b_MO_result 167 = .ok (.aload_n 0, 1) := by decide +kernel
theorem d_MO_result_168 : decode b_MO_result 168 = .ok (.getfield 35, 3) := by decide +kernel
theorem d_MO_result_171 : decode b_MO_result 171 = .ok (.iload 6, 2) := by decide +kernel
theorem d_MO_result_173 : decode b_MO_result 173 = .ok (.iload_n 2, 1) := by decide +kernel
theorem d_MO_result_174 : decode b_MO_result 174 = .ok (.iastore, 1) := by decide +kernel
theorem d_MO_result_175 : decode b_MO_result 175 = .ok (.aload_n 0, 1) := by decide +kernel
theorem d_MO_result_176 : decode b_MO_result 176 = .ok (.getfield 38, 3) := by decide +kernel
theorem d_MO_result_179 : decode b_MO_result 179 = .ok (.iload 6, 2) := by decide +kernel
theorem d_MO_result_181 : decode b_MO_result 181 = .ok (.iload_n 3, 1) := by decide +kernel
theorem d_MO_result_182 : decode b_MO_result 182 = .ok (.iastore, 1) := by decide +kernel
theorem d_MO_result_183 : decode b_MO_result 183 = .ok (.aload_n 0, 1) := by decide +kernel
theorem d_MO_result_184 : decode b_MO_result 184 = .ok (.getfield 41, 3) := by decide +kernel
theorem d_MO_result_187 : decode b_MO_result 187 = .ok (.iload 6, 2) := by decide +kernel
theorem d_MO_result_189 : decode b_MO_result 189 = .ok (.iload 4, 2) := by decide +kernel
theorem d_MO_result_191 : decode b_MO_result 191 = .ok (.bastore, 1) := by decide +kernel
theorem d_MO_result_192 : decode b_MO_result 192 = .ok (.aload_n 0, 1) := by decide +kernel
theorem d_MO_result_193 : decode b_MO_result 193 = .ok (.getfield 32, 3) := by decide +kernel
theorem d_MO_result_196 : decode b_MO_result 196 = .ok (.iload_n 1, 1) := by decide +kernel
theorem d_MO_result_197 : decode b_MO_result 197 = .ok (.iaload, 1) := by decide +kernel
theorem d_MO_result_198 : decode b_MO_result 198 = .ok (.ireturn, 1) := by decide +kernel
theorem d_MO_state_0 : decode b_MO_state 0 = .ok (.aload_n 0, 1) := by decide +kernel
theorem d_MO_state_1 : decode b_MO_state 1 = .ok (.aload_n 0, 1) := by decide +kernel
theorem d_MO_state_2 : decode b_MO_state 2 = .ok (.iload_n 1, 1) := by decide +kernel
theorem d_MO_state_3 : decode b_MO_state 3 = .ok (.invokevirtual 76, 3) := by decide +kernel
theorem d_MO_state_6 : decode b_MO_state 6 = .ok (.ifCond .eq 14, 3) := by decide +kernel
theorem d_MO_state_9 : decode b_MO_state 9 = .ok (.iload_n 2, 1) := by decide +kernel
theorem d_MO_state_10 : decode b_MO_state 10 = .ok (.invokestatic 80, 3) := by decide +kernel
theorem d_MO_state_13 : decode b_MO_state 13 = .ok (.ifCond .eq 7, 3) := by decide +kernel
theorem d_MO_state_16 : decode b_MO_state 16 = .ok (.iconst 1, 1) := by decide +kernel
theorem d_MO_state_17 : decode b_MO_state 17 = .ok (.goto 4, 3) := by decide +kernel
theorem d_MO_state_20 : decode b_MO_state 20 = .ok (.iconst 0, 1) := by decide +kernel
theorem d_MO_state_21 : decode b_MO_state 21 = .ok (.iconst 1, 1) := by decide +kernel
theorem d_MO_state_22 : decode b_MO_state 22 = .ok (.invokevirtual 69, 3) := by decide +kernel
theorem d_MO_state_25 : decode b_MO_state 25 = .ok (.ifCond .eq 12, 3) := by decide +kernel
theorem d_MO_state_28 : decode b_MO_state 28 = .ok (.aload_n 0, 1) := by decide +kernel
theorem d_MO_state_29 : decode b_MO_state 29 = .ok (.iload_n 1, 1) := by decide +kernel
theorem d_MO_state_30 : decode b_MO_state 30 = .ok (.iload_n 2, 1) := by decide +kernel
theorem d_MO_state_31 : decode b_MO_state 31 = .ok (.invokevirtual 95, 3) := by decide +kernel
theorem d_MO_state_34 : decode b_MO_state 34 = .ok (.goto 4, 3) := by decide +kernel
theorem d_MO_state_37 : decode b_MO_state 37 = .ok (.iconst 0, 1) := by decide +kernel
theorem d_MO_state_38 : decode b_MO_state 38 = .ok (.ireturn, 1) := by decide +kernel
theorem d_MO_stateOf_0 : decode b_MO_stateOf 0 = .ok (.aload_n 0, 1) := by decide +kernel
theorem d_MO_stateOf_1 : decode b_MO_stateOf 1 = .ok (.iload_n 1, 1) := by decide +kernel
theorem d_MO_stateOf_2 : decode b_MO_stateOf 2 = .ok (.iload_n 2, 1) := by decide +kernel
theorem d_MO_stateOf_3 : decode b_MO_stateOf 3 = .ok (.invokevirtual 87, 3) := by decide +kernel
theorem d_MO_stateOf_6 : decode b_MO_stateOf 6 = .ok (.istore_n 3, 1) := by decide +kernel
theorem d_MO_stateOf_7 : decode b_MO_stateOf 7 = .ok (.iconst 0, 1) := by decide +kernel
theorem d_MO_stateOf_8 : decode b_MO_stateOf 8 = .ok (.istore 4, 2) := by decide +kernel
theorem d_MO_stateOf_10 : decode b_MO_stateOf 10 = .ok (.iconst 0, 1) := by decide +kernel
theorem d_MO_stateOf_11 : decode b_MO_stateOf 11 = .ok (.istore 5, 2) := by decide +kernel
theorem d_MO_stateOf_13 : decode b_MO_stateOf 13 = .ok (.iconst 0, 1) := by decide +kernel
theorem d_MO_stateOf_14 : decode b_MO_stateOf 14 = .ok (.istore 6, 2) := by decide +kernel
theorem d_MO_stateOf_16 : decode b_MO_stateOf 16 = .ok (.iload 6, 2) := by decide +kernel
theorem d_MO_stateOf_18 : decode b_MO_stateOf 18 = .ok (.bipush 10, 2) := by decide +kernel
theorem d_MO_stateOf_20 : decode b_MO_stateOf 20 = .ok (.if_icmp .ge 53, 3) := by decide +kernel
theorem d_MO_stateOf_23 : decode b_MO_stateOf 23 = .ok (.aload_n 0, 1) := by decide +kernel
theorem d_MO_stateOf_24 : decode b_MO_stateOf 24 = .ok (.iload_n 1, 1) := by decide +kernel
theorem d_MO_stateOf_25 : decode b_MO_stateOf 25 = .ok (.iload 6, 2) := by decide +kernel
theorem d_MO_stateOf_27 : decode b_MO_stateOf 27 = .ok (.iload_n 2, 1) := by decide +kernel
theorem d_MO_stateOf_28 : decode b_MO_stateOf 28 = .ok (.iload_n 3, 1) := by decide +kernel
theorem d_MO_stateOf_29 : decode b_MO_stateOf 29 = .ok (.invokevirtual 91, 3) := by decide +kernel
theorem d_MO_stateOf_32 : decode b_MO_stateOf 32 = .ok (.istore 7, 2) := by decide +kernel
theorem d_MO_stateOf_34 : decode b_MO_stateOf 34 = .ok (.iload 7, 2) := by decide +kernel
theorem d_MO_stateOf_36 : decode b_MO_stateOf 36 = .ok (.iconst 1, 1) := by decide +kernel
theorem d_MO_stateOf_37 : decode b_MO_stateOf 37 = .ok (.if_icmp .ne 10, 3) := by decide +kernel
theorem d_MO_stateOf_40 : decode b_MO_stateOf 40 = .ok (.iload 4, 2) := by decide +kernel
theorem d_MO_stateOf_42 : decode b_MO_stateOf 42 = .ok (.iconst 1, 1) := by decide +kernel
theorem d_MO_stateOf_43 : decode b_MO_stateOf 43 = .ok (.iadd, 1) := by decide +kernel
theorem d_MO_stateOf_44 : decode b_MO_stateOf 44 = .ok (.goto 5, 3) := by decide +kernel
theorem d_MO_stateOf_47 : decode b_MO_stateOf 47 = .ok (.iload 4, 2) := by decide +kernel
theorem d_MO_stateOf_49 : decode b_MO_stateOf 49 = .ok (.istore 4, 2) := by decide +kernel
theorem d_MO_stateOf_51 : decode b_MO_stateOf 51 = .ok (.iload 7, 2) := by decide +kernel
theorem d_MO_stateOf_53 : decode b_MO_stateOf 53 = .ok (.ifCond .ne 10, 3) := by decide +kernel
theorem d_MO_stateOf_56 : decode b_MO_stateOf 56 = .ok (.iload 5, 2) := by decide +kernel
theorem d_MO_stateOf_58 : decode b_MO_stateOf 58 = .ok (.iconst 1, 1) := by decide +kernel
theorem d_MO_stateOf_59 : decode b_MO_stateOf 59 = .ok (.iadd, 1) := by decide +kernel
theorem d_MO_stateOf_60 : decode b_MO_stateOf 60 = .ok (.goto 5, 3) := by decide +kernel
theorem d_MO_stateOf_63 : decode b_MO_stateOf 63 = .ok (.iload 5, 2) := by decide +kernel
theorem d_MO_stateOf_65 : decode b_MO_stateOf 65 = .ok (.istore 5, 2) := by decide +kernel
theorem d_MO_stateOf_67 : decode b_MO_stateOf 67 = .ok (.iinc 6 1, 3) := by decide +kernel
theorem d_MO_stateOf_70 : decode b_MO_stateOf 70 = .ok (.goto (-54), 3) := by decide +kernel
theorem d_MO_stateOf_73 : decode b_MO_stateOf 73 = .ok (.iload 4, 2) := by decide +kernel
theorem d_MO_stateOf_75 : decode b_MO_stateOf 75 = .ok (.ifCond .le 12, 3) := by decide +kernel
theorem d_MO_stateOf_78 : decode b_MO_stateOf 78 = .ok (.iload 5, 2) := by decide +kernel
theorem d_MO_stateOf_80 : decode b_MO_stateOf 80 = .ok (.ifCond .le 7, 3) := by decide +kernel
theorem d_MO_stateOf_83 : decode b_MO_stateOf 83 = .ok (.iconst 2, 1) := by decide +kernel
theorem d_MO_stateOf_84 : decode b_MO_stateOf 84 = .ok (.goto 23, 3) := by decide +kernel
theorem d_MO_stateOf_87 : decode b_MO_stateOf 87 = .ok (.iload 5, 2) := by decide +kernel
theorem d_MO_stateOf_89 : decode b_MO_stateOf 89 = .ok (.ifCond .le 7, 3) := by decide +kernel
theorem d_MO_stateOf_92 : decode b_MO_stateOf 92 = .ok (.iconst 1, 1) := by decide +kernel
theorem d_MO_stateOf_93 : decode b_MO_stateOf 93 = .ok (.goto 14, 3) := by decide +kernel
theorem d_MO_stateOf_96 : decode b_MO_stateOf 96 = .ok (.iload 4, 2) := by decide +kernel
theorem d_MO_stateOf_98 : decode b_MO_stateOf 98 = .ok (.iconst 1, 1) := by decide +kernel
theorem d_MO_stateOf_99 : decode b_MO_stateOf 99 = .ok (.if_icmp .le 7, 3) := by decide +kernel
theorem d_MO_stateOf_102 : decode b_MO_stateOf 102 = .ok (.iconst 3, 1) := by decide +kernel
theorem d_MO_stateOf_103 : decode b_MO_stateOf 103 = .ok (.goto 4, 3) := by decide +kernel
theorem d_MO_stateOf_106 : decode b_MO_stateOf 106 = .ok (.iconst 0, 1) := by decide +kernel
theorem d_MO_stateOf_107 : decode b_MO_stateOf 107 = .ok (.ireturn, 1) := by decide +kernel
theorem d_MO_lastTouch_0 : decode b_MO_lastTouch 0 = .ok (.iload_n 2, 1) := by decide +kernel
theorem d_MO_lastTouch_1 : decode b_MO_lastTouch 1 = .ok (.ldc 68, 2) := by decide +kernel
theorem d_MO_lastTouch_3 : decode b_MO_lastTouch 3 = .ok (.if_icmp .le 8, 3) := by decide +kernel
theorem d_MO_lastTouch_6 : decode b_MO_lastTouch 6 = .ok (.ldc 68, 2) := by decide +kernel
theorem d_MO_lastTouch_8 : decode b_MO_lastTouch 8 = .ok (.goto 4, 3) := by decide +kernel
theorem d_MO_lastTouch_11 : decode b_MO_lastTouch 11 = .ok (.iload_n 2, 1) := by decide +kernel
theorem d_MO_lastTouch_12 : decode b_MO_lastTouch 12 = .ok (.istore_n 3, 1) := by decide +kernel
theorem d_MO_lastTouch_13 : decode b_MO_lastTouch 13 = .ok (.iload_n 3, 1) := by decide +kernel
theorem d_MO_lastTouch_14 : decode b_MO_lastTouch 14 = .ok (.ifCond .lt 53, 3) := by decide +kernel
theorem d_MO_lastTouch_17 : decode b_MO_lastTouch 17 = .ok (.aload_n 0, 1) := by decide +kernel
theorem d_MO_lastTouch_18 : decode b_MO_lastTouch 18 = .ok (.iload_n 1, 1) := by decide +kernel
theorem d_MO_lastTouch_19 : decode b_MO_lastTouch 19 = .ok (.iload_n 3, 1) := by decide +kernel
theorem d_MO_lastTouch_20 : decode b_MO_lastTouch 20 = .ok (.invokevirtual 83, 3) := by decide +kernel
theorem d_MO_lastTouch_23 : decode b_MO_lastTouch 23 = .ok (.ifCond .ne 44, 3) := by decide +kernel
theorem d_MO_lastTouch_26 : decode b_MO_lastTouch 26 = .ok (.iload_n 3, 1) := by decide +kernel
theorem d_MO_lastTouch_27 : decode b_MO_lastTouch 27 = .ok (.bipush 32, 2) := by decide +kernel
theorem d_MO_lastTouch_29 : decode b_MO_lastTouch 29 = .ok (.irem, 1) := by decide +kernel
theorem d_MO_lastTouch_30 : decode b_MO_lastTouch 30 = .ok (.bipush 31, 2) := by decide +kernel
theorem d_MO_lastTouch_32 : decode b_MO_lastTouch 32 = .ok (.if_icmp .ne 28, 3) := by decide +kernel
theorem d_MO_lastTouch_35 : decode b_MO_lastTouch 35 = .ok (.aload_n 0, 1) := by decide +kernel
theorem d_MO_lastTouch_36 : decode b_MO_lastTouch 36 = .ok (.getfield 29, 3) := by decide +kernel
theorem d_MO_lastTouch_39 : decode b_MO_lastTouch 39 = .ok (.sipush 3126, 3) := by decide +kernel
theorem d_MO_lastTouch_42 : decode b_MO_lastTouch 42 = .ok (.iload_n 1, 1) := by decide +kernel
theorem d_MO_lastTouch_43 : decode b_MO_lastTouch 43 = .ok (.imul, 1) := by decide +kernel
theorem d_MO_lastTouch_44 : decode b_MO_lastTouch 44 = .ok (.iload_n 3, 1) := by decide +kernel
theorem d_MO_lastTouch_45 : decode b_MO_lastTouch 45 = .ok (.bipush 32, 2) := by decide +kernel
theorem d_MO_lastTouch_47 : decode b_MO_lastTouch 47 = .ok (.idiv, 1) := by decide +kernel
theorem d_MO_lastTouch_48 : decode b_MO_lastTouch 48 = .ok (.iadd, 1) := by decide +kernel
theorem d_MO_lastTouch_49 : decode b_MO_lastTouch 49 = .ok (.iaload, 1) := by decide +kernel
theorem d_MO_lastTouch_50 : decode b_MO_lastTouch 50 = .ok (.ifCond .ne 10, 3) := by decide +kernel
theorem d_MO_lastTouch_53 : decode b_MO_lastTouch 53 = .ok (.iload_n 3, 1) := by decide +kernel
theorem d_MO_lastTouch_54 : decode b_MO_lastTouch 54 = .ok (.bipush 32, 2) := by decide +kernel
theorem d_MO_lastTouch_56 : decode b_MO_lastTouch 56 = .ok (.isub, 1) := by decide +kernel
theorem d_MO_lastTouch_57 : decode b_MO_lastTouch 57 = .ok (.goto 6, 3) := by decide +kernel
theorem d_MO_lastTouch_60 : decode b_MO_lastTouch 60 = .ok (.iload_n 3, 1) := by decide +kernel
theorem d_MO_lastTouch_61 : decode b_MO_lastTouch 61 = .ok (.iconst 1, 1) := by decide +kernel
theorem d_MO_lastTouch_62 : decode b_MO_lastTouch 62 = .ok (.isub, 1) := by decide +kernel
theorem d_MO_lastTouch_63 : decode b_MO_lastTouch 63 = .ok (.istore_n 3, 1) := by decide +kernel
theorem d_MO_lastTouch_64 : decode b_MO_lastTouch 64 = .ok (.goto (-51), 3) := by decide +kernel
theorem d_MO_lastTouch_67 : decode b_MO_lastTouch 67 = .ok (.iload_n 3, 1) := by decide +kernel
theorem d_MO_lastTouch_68 : decode b_MO_lastTouch 68 = .ok (.ifCond .ge 7, 3) := by decide +kernel
theorem d_MO_lastTouch_71 : decode b_MO_lastTouch 71 = .ok (.iconst (-1), 1) := by decide +kernel
theorem d_MO_lastTouch_72 : decode b_MO_lastTouch 72 = .ok (.goto 4, 3) := by decide +kernel
theorem d_MO_lastTouch_75 : decode b_MO_lastTouch 75 = .ok (.iload_n 3, 1) := by decide +kernel
theorem d_MO_lastTouch_76 : decode b_MO_lastTouch 76 = .ok (.ireturn, 1) := by decide +kernel
theorem d_MO_isTouched_0 : decode b_MO_isTouched 0 = .ok (.aload_n 0, 1) := by decide +kernel
theorem d_MO_isTouched_1 : decode b_MO_isTouched 1 = .ok (.getfield 29, 3) := by decide +kernel
theorem d_MO_isTouched_4 : decode b_MO_isTouched 4 = .ok (.sipush 3126, 3) := by decide +kernel
theorem d_MO_isTouched_7 : decode b_MO_isTouched 7 = .ok (.iload_n 1, 1) := by decide +kernel
theorem d_MO_isTouched_8 : decode b_MO_isTouched 8 = .ok (.imul, 1) := by decide +kernel
theorem d_MO_isTouched_9 : decode b_MO_isTouched 9 = .ok (.iload_n 2, 1) := by decide +kernel
theorem d_MO_isTouched_10 : decode b_MO_isTouched 10 = .ok (.bipush 32, 2) := by decide +kernel
theorem d_MO_isTouched_12 : decode b_MO_isTouched 12 = .ok (.idiv, 1) := by decide +kernel
theorem d_MO_isTouched_13 : decode b_MO_isTouched 13 = .ok (.iadd, 1) := by decide +kernel
theorem d_MO_isTouched_14 : decode b_MO_isTouched 14 = .ok (.iaload, 1) := by decide +kernel
theorem d_MO_isTouched_15 : decode b_MO_isTouched 15 = .ok (.iload_n 2, 1) := by decide +kernel
theorem d_MO_isTouched_16 : decode b_MO_isTouched 16 = .ok (.bipush 32, 2) := by decide +kernel
theorem d_MO_isTouched_18 : decode b_MO_isTouched 18 = .ok (.irem, 1) := by decide +kernel
theorem d_MO_isTouched_19 : decode b_MO_isTouched 19 = .ok (.iushr, 1) := by decide +kernel
theorem d_MO_isTouched_20 : decode b_MO_isTouched 20 = .ok (.iconst 1, 1) := by decide +kernel
theorem d_MO_isTouched_21 : decode b_MO_isTouched 21 = .ok (.iand, 1) := by decide +kernel
theorem d_MO_isTouched_22 : decode b_MO_isTouched 22 = .ok (.iconst 1, 1) := by decide +kernel
theorem d_MO_isTouched_23 : decode b_MO_isTouched 23 = .ok (.if_icmp .ne 7, 3) := by decide +kernel
theorem d_MO_isTouched_26 : decode b_MO_isTouched 26 = .ok (.iconst 1, 1) := by decide +kernel
theorem d_MO_isTouched_27 : decode b_MO_isTouched 27 = .ok (.goto 4, 3) := by decide +kernel
theorem d_MO_isTouched_30 : decode b_MO_isTouched 30 = .ok (.iconst 0, 1) := by decide +kernel
theorem d_MO_isTouched_31 : decode b_MO_isTouched 31 = .ok (.ireturn, 1) := by decide +kernel
theorem d_MO_wordOf_0 : decode b_MO_wordOf 0 = .ok (.iconst (-1), 1) := by decide +kernel
theorem d_MO_wordOf_1 : decode b_MO_wordOf 1 = .ok (.istore 5, 2) := by decide +kernel
theorem d_MO_wordOf_3 : decode b_MO_wordOf 3 = .ok (.iconst 0, 1) := by decide +kernel
theorem d_MO_wordOf_4 : decode b_MO_wordOf 4 = .ok (.istore 6, 2) := by decide +kernel
theorem d_MO_wordOf_6 : decode b_MO_wordOf 6 = .ok (.iload 6, 2) := by decide +kernel
theorem d_MO_wordOf_8 : decode b_MO_wordOf 8 = .ok (.aload_n 0, 1) := by decide +kernel
theorem d_MO_wordOf_9 : decode b_MO_wordOf 9 = .ok (.getfield 32, 3) := by decide +kernel
theorem d_MO_wordOf_12 : decode b_MO_wordOf 12 = .ok (.iload_n 1, 1) := by decide +kernel
theorem d_MO_wordOf_13 : decode b_MO_wordOf 13 = .ok (.iaload, 1) := by decide +kernel
theorem d_MO_wordOf_14 : decode b_MO_wordOf 14 = .ok (.if_icmp .ge 112, 3) := by decide +kernel
theorem d_MO_wordOf_17 : decode b_MO_wordOf 17 = .ok (.bipush 32, 2) := by decide +kernel
theorem d_MO_wordOf_19 : decode b_MO_wordOf 19 = .ok (.iload_n 1, 1) := by decide +kernel
theorem d_MO_wordOf_20 : decode b_MO_wordOf 20 = .ok (.imul, 1) := by decide +kernel
theorem d_MO_wordOf_21 : decode b_MO_wordOf 21 = .ok (.iload 6, 2) := by decide +kernel
theorem d_MO_wordOf_23 : decode b_MO_wordOf 23 = .ok (.iadd, 1) := by decide +kernel
theorem d_MO_wordOf_24 : decode b_MO_wordOf 24 = .ok (.istore 7, 2) := by decide +kernel
theorem d_MO_wordOf_26 : decode b_MO_wordOf 26 = .ok (.aload_n 0, 1) := by decide +kernel
theorem d_MO_wordOf_27 : decode b_MO_wordOf 27 = .ok (.getfield 35, 3) := by decide +kernel
theorem d_MO_wordOf_30 : decode b_MO_wordOf 30 = .ok (.iload 7, 2) := by decide +kernel
theorem d_MO_wordOf_32 : decode b_MO_wordOf 32 = .ok (.iaload, 1) := by decide +kernel
theorem d_MO_wordOf_33 : decode b_MO_wordOf 33 = .ok (.iload_n 2, 1) := by decide +kernel
theorem d_MO_wordOf_34 : decode b_MO_wordOf 34 = .ok (.if_icmp .ne 46, 3) := by decide +kernel
theorem d_MO_wordOf_37 : decode b_MO_wordOf 37 = .ok (.aload_n 0, 1) := by decide +kernel
theorem d_MO_wordOf_38 : decode b_MO_wordOf 38 = .ok (.getfield 38, 3) := by decide +kernel
theorem d_MO_wordOf_41 : decode b_MO_wordOf 41 = .ok (.iload 7, 2) := by decide +kernel
theorem d_MO_wordOf_43 : decode b_MO_wordOf 43 = .ok (.iaload, 1) := by decide +kernel
theorem d_MO_wordOf_44 : decode b_MO_wordOf 44 = .ok (.iload_n 3, 1) := by decide +kernel
theorem d_MO_wordOf_45 : decode b_MO_wordOf 45 = .ok (.if_icmp .gt 35, 3) := by decide +kernel
theorem d_MO_wordOf_48 : decode b_MO_wordOf 48 = .ok (.aload_n 0, 1) := by decide +kernel
theorem d_MO_wordOf_49 : decode b_MO_wordOf 49 = .ok (.getfield 38, 3) := by decide +kernel
theorem d_MO_wordOf_52 : decode b_MO_wordOf 52 = .ok (.iload 7, 2) := by decide +kernel
theorem d_MO_wordOf_54 : decode b_MO_wordOf 54 = .ok (.iaload, 1) := by decide +kernel
theorem d_MO_wordOf_55 : decode b_MO_wordOf 55 = .ok (.iload_n 3, 1) := by decide +kernel
theorem d_MO_wordOf_56 : decode b_MO_wordOf 56 = .ok (.aload_n 0, 1) := by decide +kernel
theorem d_MO_wordOf_57 : decode b_MO_wordOf 57 = .ok (.getfield 54, 3) := by decide +kernel
theorem d_MO_wordOf_60 : decode b_MO_wordOf 60 = .ok (.isub, 1) := by decide +kernel
theorem d_MO_wordOf_61 : decode b_MO_wordOf 61 = .ok (.if_icmp .lt 19, 3) := by decide +kernel
theorem d_MO_wordOf_64 : decode b_MO_wordOf 64 = .ok (.aload_n 0, 1) := by decide +kernel
theorem d_MO_wordOf_65 : decode b_MO_wordOf 65 = .ok (.getfield 38, 3) := by decide +kernel
theorem d_MO_wordOf_68 : decode b_MO_wordOf 68 = .ok (.iload 7, 2) := by decide +kernel
theorem d_MO_wordOf_70 : decode b_MO_wordOf 70 = .ok (.iaload, 1) := by decide +kernel
theorem d_MO_wordOf_71 : decode b_MO_wordOf 71 = .ok (.iload 4, 2) := by decide +kernel
theorem d_MO_wordOf_73 : decode b_MO_wordOf 73 = .ok (.if_icmp .le 7, 3) := by decide +kernel
theorem d_MO_wordOf_76 : decode b_MO_wordOf 76 = .ok (.iconst 1, 1) := by decide +kernel
theorem d_MO_wordOf_77 : decode b_MO_wordOf 77 = .ok (.goto 4, 3) := by decide +kernel
theorem d_MO_wordOf_80 : decode b_MO_wordOf 80 = .ok (.iconst 0, 1) := by decide +kernel
theorem d_MO_wordOf_81 : decode b_MO_wordOf 81 = .ok (.istore 8, 2) := by decide +kernel
theorem d_MO_wordOf_83 : decode b_MO_wordOf 83 = .ok (.iload 8, 2) := by decide +kernel
theorem d_MO_wordOf_85 : decode b_MO_wordOf 85 = .ok (.ifCond .eq 31, 3) := by decide +kernel
theorem d_MO_wordOf_88 : decode b_MO_wordOf 88 = .ok (.iload 5, 2) := by decide +kernel
theorem d_MO_wordOf_90 : decode b_MO_wordOf 90 = .ok (.iconst (-1), 1) := by decide +kernel
theorem d_MO_wordOf_91 : decode b_MO_wordOf 91 = .ok (.if_icmp .eq 20, 3) := by decide +kernel
theorem d_MO_wordOf_94 : decode b_MO_wordOf 94 = .ok (.aload_n 0, 1) := by decide +kernel
theorem d_MO_wordOf_95 : decode b_MO_wordOf 95 = .ok (.getfield 38, 3) := by decide +kernel
theorem d_MO_wordOf_98 : decode b_MO_wordOf 98 = .ok (.iload 7, 2) := by decide +kernel
theorem d_MO_wordOf_100 : decode b_MO_wordOf 100 = .ok (.iaload, 1) := by decide +kernel
theorem d_MO_wordOf_101 : decode b_MO_wordOf 101 = .ok (.aload_n 0, 1) := by decide +kernel
theorem d_MO_wordOf_102 : decode b_MO_wordOf 102 = .ok (.getfield 38, 3) := by decide +kernel
theorem d_MO_wordOf_105 : decode b_MO_wordOf 105 = .ok (.iload 5, 2) := by decide +kernel
theorem d_MO_wordOf_107 : decode b_MO_wordOf 107 = .ok (.iaload, 1) := by decide +kernel
theorem d_MO_wordOf_108 : decode b_MO_wordOf 108 = .ok (.if_icmp .le 8, 3) := by decide +kernel
theorem d_MO_wordOf_111 : decode b_MO_wordOf 111 = .ok (.iload 7, 2) := by decide +kernel
theorem d_MO_wordOf_113 : decode b_MO_wordOf 113 = .ok (.goto 5, 3) := by decide +kernel
theorem d_MO_wordOf_116 : decode b_MO_wordOf 116 = .ok (.iload 5, 2) := by decide +kernel
theorem d_MO_wordOf_118 : decode b_MO_wordOf 118 = .ok (.istore 5, 2) := by decide +kernel
theorem d_MO_wordOf_120 : decode b_MO_wordOf 120 = .ok (.iinc 6 1, 3) := by decide +kernel
theorem d_MO_wordOf_123 : decode b_MO_wordOf 123 = .ok (.goto (-117), 3) := by decide +kernel
theorem d_MO_wordOf_126 : decode b_MO_wordOf 126 = .ok (.iload 5, 2) := by decide +kernel
theorem d_MO_wordOf_128 : decode b_MO_wordOf 128 = .ok (.iconst (-1), 1) := by decide +kernel
theorem d_MO_wordOf_129 : decode b_MO_wordOf 129 = .ok (.if_icmp .ne 7, 3) := by decide +kernel
theorem d_MO_wordOf_132 : decode b_MO_wordOf 132 = .ok (.iconst (-1), 1) := by decide +kernel
theorem d_MO_wordOf_133 : decode b_MO_wordOf 133 = .ok (.goto 18, 3) := by decide +kernel
theorem d_MO_wordOf_136 : decode b_MO_wordOf 136 = .ok (.aload_n 0, 1) := by decide +kernel
theorem d_MO_wordOf_137 : decode b_MO_wordOf 137 = .ok (.getfield 41, 3) := by decide +kernel
theorem d_MO_wordOf_140 : decode b_MO_wordOf 140 = .ok (.iload 5, 2) := by decide +kernel
theorem d_MO_wordOf_142 : decode b_MO_wordOf 142 = .ok (.baload, 1) := by decide +kernel
theorem d_MO_wordOf_143 : decode b_MO_wordOf 143 = .ok (.ifCond .eq 7, 3) := by decide +kernel
theorem d_MO_wordOf_146 : decode b_MO_wordOf 146 = .ok (.iconst 1, 1) := by decide +kernel
theorem d_MO_wordOf_147 : decode b_MO_wordOf 147 = .ok (.goto 4, 3) := by decide +kernel
theorem d_MO_wordOf_150 : decode b_MO_wordOf 150 = .ok (.iconst 0, 1) := by decide +kernel
theorem d_MO_wordOf_151 : decode b_MO_wordOf 151 = .ok (.ireturn, 1) := by decide +kernel
theorem d_MO_word_0 : decode b_MO_word 0 = .ok (.aload_n 0, 1) := by decide +kernel
theorem d_MO_word_1 : decode b_MO_word 1 = .ok (.aload_n 0, 1) := by decide +kernel
theorem d_MO_word_2 : decode b_MO_word 2 = .ok (.iload_n 1, 1) := by decide +kernel
theorem d_MO_word_3 : decode b_MO_word 3 = .ok (.invokevirtual 76, 3) := by decide +kernel
theorem d_MO_word_6 : decode b_MO_word 6 = .ok (.ifCond .eq 24, 3) := by decide +kernel
theorem d_MO_word_9 : decode b_MO_word 9 = .ok (.iload_n 2, 1) := by decide +kernel
theorem d_MO_word_10 : decode b_MO_word 10 = .ok (.iconst 0, 1) := by decide +kernel
theorem d_MO_word_11 : decode b_MO_word 11 = .ok (.bipush 9, 2) := by decide +kernel
theorem d_MO_word_13 : decode b_MO_word 13 = .ok (.invokestatic 64, 3) := by decide +kernel
theorem d_MO_word_16 : decode b_MO_word 16 = .ok (.ifCond .eq 14, 3) := by decide +kernel
theorem d_MO_word_19 : decode b_MO_word 19 = .ok (.iload_n 3, 1) := by decide +kernel
theorem d_MO_word_20 : decode b_MO_word 20 = .ok (.invokestatic 80, 3) := by decide +kernel
theorem d_MO_word_23 : decode b_MO_word 23 = .ok (.ifCond .eq 7, 3) := by decide +kernel
theorem d_MO_word_26 : decode b_MO_word 26 = .ok (.iconst 1, 1) := by decide +kernel
theorem d_MO_word_27 : decode b_MO_word 27 = .ok (.goto 4, 3) := by decide +kernel
theorem d_MO_word_30 : decode b_MO_word 30 = .ok (.iconst 0, 1) := by decide +kernel
theorem d_MO_word_31 : decode b_MO_word 31 = .ok (.iconst 1, 1) := by decide +kernel
theorem d_MO_word_32 : decode b_MO_word 32 = .ok (.invokevirtual 69, 3) := by decide +kernel
theorem d_MO_word_35 : decode b_MO_word 35 = .ok (.ifCond .eq 19, 3) := by decide +kernel
theorem d_MO_word_38 : decode b_MO_word 38 = .ok (.aload_n 0, 1) := by decide +kernel
theorem d_MO_word_39 : decode b_MO_word 39 = .ok (.iload_n 1, 1) := by decide +kernel
theorem d_MO_word_40 : decode b_MO_word 40 = .ok (.iload_n 2, 1) := by decide +kernel
theorem d_MO_word_41 : decode b_MO_word 41 = .ok (.iload_n 3, 1) := by decide +kernel
theorem d_MO_word_42 : decode b_MO_word 42 = .ok (.aload_n 0, 1) := by decide +kernel
theorem d_MO_word_43 : decode b_MO_word 43 = .ok (.iload_n 1, 1) := by decide +kernel
theorem d_MO_word_44 : decode b_MO_word 44 = .ok (.iload_n 3, 1) := by decide +kernel
theorem d_MO_word_45 : decode b_MO_word 45 = .ok (.invokevirtual 87, 3) := by decide +kernel
theorem d_MO_word_48 : decode b_MO_word 48 = .ok (.invokevirtual 91, 3) := by decide +kernel
theorem d_MO_word_51 : decode b_MO_word 51 = .ok (.goto 4, 3) := by decide +kernel
theorem d_MO_word_54 : decode b_MO_word 54 = .ok (.iconst 0, 1) := by decide +kernel
theorem d_MO_word_55 : decode b_MO_word 55 = .ok (.ireturn, 1) := by decide +kernel
theorem d_MO_listed_0 : decode b_MO_listed 0 = .ok (.aload_n 0, 1) := by decide +kernel
theorem d_MO_listed_1 : decode b_MO_listed 1 = .ok (.iload_n 1, 1) := by decide +kernel
theorem d_MO_listed_2 : decode b_MO_listed 2 = .ok (.iconst 0, 1) := by decide +kernel
theorem d_MO_listed_3 : decode b_MO_listed 3 = .ok (.iconst 3, 1) := by decide +kernel
theorem d_MO_listed_4 : decode b_MO_listed 4 = .ok (.invokestatic 64, 3) := by decide +kernel
theorem d_MO_listed_7 : decode b_MO_listed 7 = .ok (.ifCond .eq 18, 3) := by decide +kernel
theorem d_MO_listed_10 : decode b_MO_listed 10 = .ok (.iload_n 2, 1) := by decide +kernel
theorem d_MO_listed_11 : decode b_MO_listed 11 = .ok (.invokestatic 80, 3) := by decide +kernel
theorem d_MO_listed_14 : decode b_MO_listed 14 = .ok (.ifCond .eq 11, 3) := by decide +kernel
theorem d_MO_listed_17 : decode b_MO_listed 17 = .ok (.iload_n 3, 1) := by decide +kernel
theorem d_MO_listed_18 : decode b_MO_listed 18 = .ok (.ifCond .lt 7, 3) := by decide +kernel
theorem d_MO_listed_21 : decode b_MO_listed 21 = .ok (.iconst 1, 1) := by decide +kernel
theorem d_MO_listed_22 : decode b_MO_listed 22 = .ok (.goto 4, 3) := by decide +kernel
theorem d_MO_listed_25 : decode b_MO_listed 25 = .ok (.iconst 0, 1) := by decide +kernel
theorem d_MO_listed_26 : decode b_MO_listed 26 = .ok (.iconst 1, 1) := by decide +kernel
theorem d_MO_listed_27 : decode b_MO_listed 27 = .ok (.invokevirtual 69, 3) := by decide +kernel
theorem d_MO_listed_30 : decode b_MO_listed 30 = .ok (.ifCond .ne 5, 3) := by decide +kernel
theorem d_MO_listed_33 : decode b_MO_listed 33 = .ok (.iconst 0, 1) := by decide +kernel
theorem d_MO_listed_34 : decode b_MO_listed 34 = .ok (.ireturn, 1) := by decide +kernel
theorem d_MO_listed_35 : decode b_MO_listed 35 = .ok (.iload_n 3, 1) := by decide +kernel
theorem d_MO_listed_36 : decode b_MO_listed 36 = .ok (.istore 4, 2) := by decide +kernel
theorem d_MO_listed_38 : decode b_MO_listed 38 = .ok (.iconst 0, 1) := by decide +kernel
theorem d_MO_listed_39 : decode b_MO_listed 39 = .ok (.istore 5, 2) := by decide +kernel
theorem d_MO_listed_41 : decode b_MO_listed 41 = .ok (.iload 5, 2) := by decide +kernel
theorem d_MO_listed_43 : decode b_MO_listed 43 = .ok (.aload_n 0, 1) := by decide +kernel
theorem d_MO_listed_44 : decode b_MO_listed 44 = .ok (.getfield 61, 3) := by decide +kernel
theorem d_MO_listed_47 : decode b_MO_listed 47 = .ok (.if_icmp .ge 31, 3) := by decide +kernel
theorem d_MO_listed_50 : decode b_MO_listed 50 = .ok (.aload_n 0, 1) := by decide +kernel
theorem d_MO_listed_51 : decode b_MO_listed 51 = .ok (.iload 5, 2) := by decide +kernel
theorem d_MO_listed_53 : decode b_MO_listed 53 = .ok (.iload_n 2, 1) := by decide +kernel
theorem d_MO_listed_54 : decode b_MO_listed 54 = .ok (.invokevirtual 95, 3) := by decide +kernel
theorem d_MO_listed_57 : decode b_MO_listed 57 = .ok (.iload_n 1, 1) := by decide +kernel
theorem d_MO_listed_58 : decode b_MO_listed 58 = .ok (.if_icmp .ne 14, 3) := by decide +kernel
theorem d_MO_listed_61 : decode b_MO_listed 61 = .ok (.iload 4, 2) := by decide +kernel
theorem d_MO_listed_63 : decode b_MO_listed 63 = .ok (.ifCond .ne 6, 3) := by decide +kernel
theorem d_MO_listed_66 : decode b_MO_listed 66 = .ok (.iload 5, 2) := by decide +kernel
theorem d_MO_listed_68 : decode b_MO_listed 68 = .ok (.ireturn, 1) := by decide +kernel
theorem d_MO_listed_69 : decode b_MO_listed 69 = .ok (.iinc 4 (-1), 3) := by decide +kernel
theorem d_MO_listed_72 : decode b_MO_listed 72 = .ok (.iinc 5 1, 3) := by decide +kernel
theorem d_MO_listed_75 : decode b_MO_listed 75 = .ok (.goto (-34), 3) := by decide +kernel
theorem d_MO_listed_78 : decode b_MO_listed 78 = .ok (.iconst (-1), 1) := by decide +kernel
theorem d_MO_listed_79 : decode b_MO_listed 79 = .ok (.ireturn, 1) := by decide +kernel
theorem d_MO_hidden_0 : decode b_MO_hidden 0 = .ok (.aload_n 0, 1) := by decide +kernel
theorem d_MO_hidden_1 : decode b_MO_hidden 1 = .ok (.iload_n 1, 1) := by decide +kernel
theorem d_MO_hidden_2 : decode b_MO_hidden 2 = .ok (.ifCond .lt 7, 3) := by decide +kernel
theorem d_MO_hidden_5 : decode b_MO_hidden 5 = .ok (.iconst 1, 1) := by decide +kernel
theorem d_MO_hidden_6 : decode b_MO_hidden 6 = .ok (.goto 4, 3) := by decide +kernel
theorem d_MO_hidden_9 : decode b_MO_hidden 9 = .ok (.iconst 0, 1) := by decide +kernel
theorem d_MO_hidden_10 : decode b_MO_hidden 10 = .ok (.iconst 1, 1) := by decide +kernel
theorem d_MO_hidden_11 : decode b_MO_hidden 11 = .ok (.invokevirtual 69, 3) := by decide +kernel
theorem d_MO_hidden_14 : decode b_MO_hidden 14 = .ok (.ifCond .ne 5, 3) := by decide +kernel
theorem d_MO_hidden_17 : decode b_MO_hidden 17 = .ok (.iconst 0, 1) := by decide +kernel
theorem d_MO_hidden_18 : decode b_MO_hidden 18 = .ok (.ireturn, 1) := by decide +kernel
theorem d_MO_hidden_19 : decode b_MO_hidden 19 = .ok (.iload_n 1, 1) := by decide +kernel
theorem d_MO_hidden_20 : decode b_MO_hidden 20 = .ok (.istore_n 2, 1) := by decide +kernel
theorem d_MO_hidden_21 : decode b_MO_hidden 21 = .ok (.iconst 0, 1) := by decide +kernel
theorem d_MO_hidden_22 : decode b_MO_hidden 22 = .ok (.istore_n 3, 1) := by decide +kernel
theorem d_MO_hidden_23 : decode b_MO_hidden 23 = .ok (.iload_n 3, 1) := by decide +kernel
theorem d_MO_hidden_24 : decode b_MO_hidden 24 = .ok (.aload_n 0, 1) := by decide +kernel
theorem d_MO_hidden_25 : decode b_MO_hidden 25 = .ok (.getfield 61, 3) := by decide +kernel
theorem d_MO_hidden_28 : decode b_MO_hidden 28 = .ok (.if_icmp .ge 29, 3) := by decide +kernel
theorem d_MO_hidden_31 : decode b_MO_hidden 31 = .ok (.aload_n 0, 1) := by decide +kernel
theorem d_MO_hidden_32 : decode b_MO_hidden 32 = .ok (.invokevirtual 98, 3) := by decide +kernel
theorem d_MO_hidden_35 : decode b_MO_hidden 35 = .ok (.iload_n 3, 1) := by decide +kernel
theorem d_MO_hidden_36 : decode b_MO_hidden 36 = .ok (.ishr, 1) := by decide +kernel
theorem d_MO_hidden_37 : decode b_MO_hidden 37 = .ok (.iconst 1, 1) := by decide +kernel
theorem d_MO_hidden_38 : decode b_MO_hidden 38 = .ok (.iand, 1) := by decide +kernel
theorem d_MO_hidden_39 : decode b_MO_hidden 39 = .ok (.ifCond .ne 12, 3) := by decide +kernel
theorem d_MO_hidden_42 : decode b_MO_hidden 42 = .ok (.iload_n 2, 1) := by decide +kernel
theorem d_MO_hidden_43 : decode b_MO_hidden 43 = .ok (.ifCond .ne 5, 3) := by decide +kernel
theorem d_MO_hidden_46 : decode b_MO_hidden 46 = .ok (.iload_n 3, 1) := by decide +kernel
theorem d_MO_hidden_47 : decode b_MO_hidden 47 = .ok (.ireturn, 1) := by decide +kernel
theorem d_MO_hidden_48 : decode b_MO_hidden 48 = .ok (.iinc 2 (-1), 3) := by decide +kernel
theorem d_MO_hidden_51 : decode b_MO_hidden 51 = .ok (.iinc 3 1, 3) := by decide +kernel
theorem d_MO_hidden_54 : decode b_MO_hidden 54 = .ok (.goto (-31), 3) := by decide +kernel
theorem d_MO_hidden_57 : decode b_MO_hidden 57 = .ok (.iconst (-1), 1) := by decide +kernel
theorem d_MO_hidden_58 : decode b_MO_hidden 58 = .ok (.ireturn, 1) := by decide +kernel
theorem d_MO_allShown_0 : decode b_MO_allShown 0 = .ok (.iconst 0, 1) := by decide +kernel
theorem d_MO_allShown_1 : decode b_MO_allShown 1 = .ok (.istore_n 1, 1) := by decide +kernel
theorem d_MO_allShown_2 : decode b_MO_allShown 2 = .ok (.iconst 0, 1) := by decide +kernel
theorem d_MO_allShown_3 : decode b_MO_allShown 3 = .ok (.istore_n 2, 1) := by decide +kernel
theorem d_MO_allShown_4 : decode b_MO_allShown 4 = .ok (.iload_n 2, 1) := by decide +kernel
theorem d_MO_allShown_5 : decode b_MO_allShown 5 = .ok (.aload_n 0, 1) := by decide +kernel
theorem d_MO_allShown_6 : decode b_MO_allShown 6 = .ok (.getfield 73, 3) := by decide +kernel
theorem d_MO_allShown_9 : decode b_MO_allShown 9 = .ok (.if_icmp .ge 18, 3) := by decide +kernel
theorem d_MO_allShown_12 : decode b_MO_allShown 12 = .ok (.iload_n 1, 1) := by decide +kernel
theorem d_MO_allShown_13 : decode b_MO_allShown 13 = .ok (.aload_n 0, 1) := by decide +kernel
theorem d_MO_allShown_14 : decode b_MO_allShown 14 = .ok (.getfield 22, 3) := by decide +kernel
theorem d_MO_allShown_17 : decode b_MO_allShown 17 = .ok (.iload_n 2, 1) := by decide +kernel
theorem d_MO_allShown_18 : decode b_MO_allShown 18 = .ok (.iaload, 1) := by decide +kernel
theorem d_MO_allShown_19 : decode b_MO_allShown 19 = .ok (.ior, 1) := by decide +kernel
theorem d_MO_allShown_20 : decode b_MO_allShown 20 = .ok (.istore_n 1, 1) := by decide +kernel
theorem d_MO_allShown_21 : decode b_MO_allShown 21 = .ok (.iinc 2 1, 3) := by decide +kernel
theorem d_MO_allShown_24 : decode b_MO_allShown 24 = .ok (.goto (-20), 3) := by decide +kernel
theorem d_MO_allShown_27 : decode b_MO_allShown 27 = .ok (.iload_n 1, 1) := by decide +kernel
theorem d_MO_allShown_28 : decode b_MO_allShown 28 = .ok (.ireturn, 1) := by decide +kernel
theorem d_MO_proves_0 : decode b_MO_proves 0 = .ok (.aload_n 0, 1) := by decide +kernel
theorem d_MO_proves_1 : decode b_MO_proves 1 = .ok (.aload_n 0, 1) := by decide +kernel
theorem d_MO_proves_2 : decode b_MO_proves 2 = .ok (.iload_n 1, 1) := by decide +kernel
theorem d_MO_proves_3 : decode b_MO_proves 3 = .ok (.invokevirtual 76, 3) := by decide +kernel
theorem d_MO_proves_6 : decode b_MO_proves 6 = .ok (.ifCond .eq 14, 3) := by decide +kernel
theorem d_MO_proves_9 : decode b_MO_proves 9 = .ok (.iload_n 2, 1) := by decide +kernel
theorem d_MO_proves_10 : decode b_MO_proves 10 = .ok (.invokestatic 80, 3) := by decide +kernel
theorem d_MO_proves_13 : decode b_MO_proves 13 = .ok (.ifCond .eq 7, 3) := by decide +kernel
theorem d_MO_proves_16 : decode b_MO_proves 16 = .ok (.iconst 1, 1) := by decide +kernel
theorem d_MO_proves_17 : decode b_MO_proves 17 = .ok (.goto 4, 3) := by decide +kernel
theorem d_MO_proves_20 : decode b_MO_proves 20 = .ok (.iconst 0, 1) := by decide +kernel
theorem d_MO_proves_21 : decode b_MO_proves 21 = .ok (.iconst 1, 1) := by decide +kernel
theorem d_MO_proves_22 : decode b_MO_proves 22 = .ok (.invokevirtual 69, 3) := by decide +kernel
theorem d_MO_proves_25 : decode b_MO_proves 25 = .ok (.ifCond .ne 5, 3) := by decide +kernel
theorem d_MO_proves_28 : decode b_MO_proves 28 = .ok (.iconst 0, 1) := by decide +kernel
theorem d_MO_proves_29 : decode b_MO_proves 29 = .ok (.ireturn, 1) := by decide +kernel
theorem d_MO_proves_30 : decode b_MO_proves 30 = .ok (.iload_n 2, 1) := by decide +kernel
theorem d_MO_proves_31 : decode b_MO_proves 31 = .ok (.istore_n 3, 1) := by decide +kernel
theorem d_MO_proves_32 : decode b_MO_proves 32 = .ok (.aload_n 0, 1) := by decide +kernel
theorem d_MO_proves_33 : decode b_MO_proves 33 = .ok (.iload_n 1, 1) := by decide +kernel
theorem d_MO_proves_34 : decode b_MO_proves 34 = .ok (.iload_n 3, 1) := by decide +kernel
theorem d_MO_proves_35 : decode b_MO_proves 35 = .ok (.invokevirtual 95, 3) := by decide +kernel
theorem d_MO_proves_38 : decode b_MO_proves 38 = .ok (.iconst 3, 1) := by decide +kernel
theorem d_MO_proves_39 : decode b_MO_proves 39 = .ok (.if_icmp .ne 13, 3) := by decide +kernel
theorem d_MO_proves_42 : decode b_MO_proves 42 = .ok (.aload_n 0, 1) := by decide +kernel
theorem d_MO_proves_43 : decode b_MO_proves 43 = .ok (.iload_n 1, 1) := by decide +kernel
theorem d_MO_proves_44 : decode b_MO_proves 44 = .ok (.iload_n 3, 1) := by decide +kernel
theorem d_MO_proves_45 : decode b_MO_proves 45 = .ok (.invokevirtual 103, 3) := by decide +kernel
theorem d_MO_proves_48 : decode b_MO_proves 48 = .ok (.istore_n 3, 1) := by decide +kernel
theorem d_MO_proves_49 : decode b_MO_proves 49 = .ok (.goto (-17), 3) := by decide +kernel
theorem d_MO_proves_52 : decode b_MO_proves 52 = .ok (.iload_n 3, 1) := by decide +kernel
theorem d_MO_proves_53 : decode b_MO_proves 53 = .ok (.ireturn, 1) := by decide +kernel
theorem d_MO_nextDay_0 : decode b_MO_nextDay 0 = .ok (.ldc 102, 2) := by decide +kernel
theorem d_MO_nextDay_2 : decode b_MO_nextDay 2 = .ok (.istore_n 3, 1) := by decide +kernel
theorem d_MO_nextDay_3 : decode b_MO_nextDay 3 = .ok (.iconst 0, 1) := by decide +kernel
theorem d_MO_nextDay_4 : decode b_MO_nextDay 4 = .ok (.istore 4, 2) := by decide +kernel
theorem d_MO_nextDay_6 : decode b_MO_nextDay 6 = .ok (.iload 4, 2) := by decide +kernel
theorem d_MO_nextDay_8 : decode b_MO_nextDay 8 = .ok (.aload_n 0, 1) := by decide +kernel
theorem d_MO_nextDay_9 : decode b_MO_nextDay 9 = .ok (.getfield 32, 3) := by decide +kernel
theorem d_MO_nextDay_12 : decode b_MO_nextDay 12 = .ok (.iload_n 1, 1) := by decide +kernel
theorem d_MO_nextDay_13 : decode b_MO_nextDay 13 = .ok (.iaload, 1) := by decide +kernel
theorem d_MO_nextDay_14 : decode b_MO_nextDay 14 = .ok (.if_icmp .ge 82, 3) := by decide +kernel
theorem d_MO_nextDay_17 : decode b_MO_nextDay 17 = .ok (.aload_n 0, 1) := by decide +kernel
theorem d_MO_nextDay_18 : decode b_MO_nextDay 18 = .ok (.getfield 38, 3) := by decide +kernel
theorem d_MO_nextDay_21 : decode b_MO_nextDay 21 = .ok (.bipush 32, 2) := by decide +kernel
theorem d_MO_nextDay_23 : decode b_MO_nextDay 23 = .ok (.iload_n 1, 1) := by decide +kernel
theorem d_MO_nextDay_24 : decode b_MO_nextDay 24 = .ok (.imul, 1) := by decide +kernel
theorem d_MO_nextDay_25 : decode b_MO_nextDay 25 = .ok (.iload 4, 2) := by decide +kernel
theorem d_MO_nextDay_27 : decode b_MO_nextDay 27 = .ok (.iadd, 1) := by decide +kernel
theorem d_MO_nextDay_28 : decode b_MO_nextDay 28 = .ok (.iaload, 1) := by decide +kernel
theorem d_MO_nextDay_29 : decode b_MO_nextDay 29 = .ok (.istore 5, 2) := by decide +kernel
theorem d_MO_nextDay_31 : decode b_MO_nextDay 31 = .ok (.iload 5, 2) := by decide +kernel
theorem d_MO_nextDay_33 : decode b_MO_nextDay 33 = .ok (.iload_n 2, 1) := by decide +kernel
theorem d_MO_nextDay_34 : decode b_MO_nextDay 34 = .ok (.if_icmp .le 14, 3) := by decide +kernel
theorem d_MO_nextDay_37 : decode b_MO_nextDay 37 = .ok (.iload 5, 2) := by decide +kernel
theorem d_MO_nextDay_39 : decode b_MO_nextDay 39 = .ok (.iload_n 3, 1) := by decide +kernel
theorem d_MO_nextDay_40 : decode b_MO_nextDay 40 = .ok (.if_icmp .ge 8, 3) := by decide +kernel
theorem d_MO_nextDay_43 : decode b_MO_nextDay 43 = .ok (.iload 5, 2) := by decide +kernel
theorem d_MO_nextDay_45 : decode b_MO_nextDay 45 = .ok (.goto 4, 3) := by decide +kernel
theorem d_MO_nextDay_48 : decode b_MO_nextDay 48 = .ok (.iload_n 3, 1) := by decide +kernel
theorem d_MO_nextDay_49 : decode b_MO_nextDay 49 = .ok (.istore_n 3, 1) := by decide +kernel
theorem d_MO_nextDay_50 : decode b_MO_nextDay 50 = .ok (.iload 5, 2) := by decide +kernel
theorem d_MO_nextDay_52 : decode b_MO_nextDay 52 = .ok (.aload_n 0, 1) := by decide +kernel
theorem d_MO_nextDay_53 : decode b_MO_nextDay 53 = .ok (.getfield 54, 3) := by decide +kernel
theorem d_MO_nextDay_56 : decode b_MO_nextDay 56 = .ok (.iadd, 1) := by decide +kernel
theorem d_MO_nextDay_57 : decode b_MO_nextDay 57 = .ok (.iconst 1, 1) := by decide +kernel
theorem d_MO_nextDay_58 : decode b_MO_nextDay 58 = .ok (.iadd, 1) := by decide +kernel
theorem d_MO_nextDay_59 : decode b_MO_nextDay 59 = .ok (.iload_n 2, 1) := by decide +kernel
theorem d_MO_nextDay_60 : decode b_MO_nextDay 60 = .ok (.if_icmp .le 28, 3) := by decide +kernel
theorem d_MO_nextDay_63 : decode b_MO_nextDay 63 = .ok (.iload 5, 2) := by decide +kernel
theorem d_MO_nextDay_65 : decode b_MO_nextDay 65 = .ok (.aload_n 0, 1) := by decide +kernel
theorem d_MO_nextDay_66 : decode b_MO_nextDay 66 = .ok (.getfield 54, 3) := by decide +kernel
theorem d_MO_nextDay_69 : decode b_MO_nextDay 69 = .ok (.iadd, 1) := by decide +kernel
theorem d_MO_nextDay_70 : decode b_MO_nextDay 70 = .ok (.iconst 1, 1) := by decide +kernel
theorem d_MO_nextDay_71 : decode b_MO_nextDay 71 = .ok (.iadd, 1) := by decide +kernel
theorem d_MO_nextDay_72 : decode b_MO_nextDay 72 = .ok (.iload_n 3, 1) := by decide +kernel
theorem d_MO_nextDay_73 : decode b_MO_nextDay 73 = .ok (.if_icmp .ge 15, 3) := by decide +kernel
theorem d_MO_nextDay_76 : decode b_MO_nextDay 76 = .ok (.iload 5, 2) := by decide +kernel
theorem d_MO_nextDay_78 : decode b_MO_nextDay 78 = .ok (.aload_n 0, 1) := by decide +kernel
theorem d_MO_nextDay_79 : decode b_MO_nextDay 79 = .ok (.getfield 54, 3) := by decide +kernel
theorem d_MO_nextDay_82 : decode b_MO_nextDay 82 = .ok (.iadd, 1) := by decide +kernel
theorem d_MO_nextDay_83 : decode b_MO_nextDay 83 = .ok (.iconst 1, 1) := by decide +kernel
theorem d_MO_nextDay_84 : decode b_MO_nextDay 84 = .ok (.iadd, 1) := by decide +kernel
theorem d_MO_nextDay_85 : decode b_MO_nextDay 85 = .ok (.goto 4, 3) := by decide +kernel
theorem d_MO_nextDay_88 : decode b_MO_nextDay 88 = .ok (.iload_n 3, 1) := by decide +kernel
theorem d_MO_nextDay_89 : decode b_MO_nextDay 89 = .ok (.istore_n 3, 1) := by decide +kernel
theorem d_MO_nextDay_90 : decode b_MO_nextDay 90 = .ok (.iinc 4 1, 3) := by decide +kernel
theorem d_MO_nextDay_93 : decode b_MO_nextDay 93 = .ok (.goto (-87), 3) := by decide +kernel
theorem d_MO_nextDay_96 : decode b_MO_nextDay 96 = .ok (.iload_n 2, 1) := by decide +kernel
theorem d_MO_nextDay_97 : decode b_MO_nextDay 97 = .ok (.iconst 1, 1) := by decide +kernel
theorem d_MO_nextDay_98 : decode b_MO_nextDay 98 = .ok (.iadd, 1) := by decide +kernel
theorem d_MO_nextDay_99 : decode b_MO_nextDay 99 = .ok (.istore 4, 2) := by decide +kernel
theorem d_MO_nextDay_101 : decode b_MO_nextDay 101 = .ok (.iload 4, 2) := by decide +kernel
theorem d_MO_nextDay_103 : decode b_MO_nextDay 103 = .ok (.ldc 68, 2) := by decide +kernel
theorem d_MO_nextDay_105 : decode b_MO_nextDay 105 = .ok (.if_icmp .gt 63, 3) := by decide +kernel
theorem d_MO_nextDay_108 : decode b_MO_nextDay 108 = .ok (.iload 4, 2) := by decide +kernel
theorem d_MO_nextDay_110 : decode b_MO_nextDay 110 = .ok (.iload_n 3, 1) := by decide +kernel
theorem d_MO_nextDay_111 : decode b_MO_nextDay 111 = .ok (.if_icmp .ge 57, 3) := by decide +kernel
theorem d_MO_nextDay_114 : decode b_MO_nextDay 114 = .ok (.aload_n 0, 1) := by decide +kernel
theorem d_MO_nextDay_115 : decode b_MO_nextDay 115 = .ok (.iload_n 1, 1) := by decide +kernel
theorem d_MO_nextDay_116 : decode b_MO_nextDay 116 = .ok (.iload 4, 2) := by decide +kernel
theorem d_MO_nextDay_118 : decode b_MO_nextDay 118 = .ok (.invokevirtual 83, 3) := by decide +kernel
theorem d_MO_nextDay_121 : decode b_MO_nextDay 121 = .ok (.ifCond .ne 47, 3) := by decide +kernel
theorem d_MO_nextDay_124 : decode b_MO_nextDay 124 = .ok (.iload 4, 2) := by decide +kernel
theorem d_MO_nextDay_126 : decode b_MO_nextDay 126 = .ok (.bipush 32, 2) := by decide +kernel
theorem d_MO_nextDay_128 : decode b_MO_nextDay 128 = .ok (.irem, 1) := by decide +kernel
theorem d_MO_nextDay_129 : decode b_MO_nextDay 129 = .ok (.ifCond .ne 30, 3) := by decide +kernel
theorem d_MO_nextDay_132 : decode b_MO_nextDay 132 = .ok (.aload_n 0, 1) := by decide +kernel
theorem d_MO_nextDay_133 : decode b_MO_nextDay 133 = .ok (.getfield 29, 3) := by decide +kernel
theorem d_MO_nextDay_136 : decode b_MO_nextDay 136 = .ok (.sipush 3126, 3) := by decide +kernel
theorem d_MO_nextDay_139 : decode b_MO_nextDay 139 = .ok (.iload_n 1, 1) := by decide +kernel
theorem d_MO_nextDay_140 : decode b_MO_nextDay 140 = .ok (.imul, 1) := by decide +kernel
theorem d_MO_nextDay_141 : decode b_MO_nextDay 141 = .ok (.iload 4, 2) := by decide +kernel
theorem d_MO_nextDay_143 : decode b_MO_nextDay 143 = .ok (.bipush 32, 2) := by decide +kernel
theorem d_MO_nextDay_145 : decode b_MO_nextDay 145 = .ok (.idiv, 1) := by decide +kernel
theorem d_MO_nextDay_146 : decode b_MO_nextDay 146 = .ok (.iadd, 1) := by decide +kernel
theorem d_MO_nextDay_147 : decode b_MO_nextDay 147 = .ok (.iaload, 1) := by decide +kernel
theorem d_MO_nextDay_148 : decode b_MO_nextDay 148 = .ok (.ifCond .ne 11, 3) := by decide +kernel
theorem d_MO_nextDay_151 : decode b_MO_nextDay 151 = .ok (.iload 4, 2) := by decide +kernel
theorem d_MO_nextDay_153 : decode b_MO_nextDay 153 = .ok (.bipush 32, 2) := by decide +kernel
theorem d_MO_nextDay_155 : decode b_MO_nextDay 155 = .ok (.iadd, 1) := by decide +kernel
theorem d_MO_nextDay_156 : decode b_MO_nextDay 156 = .ok (.goto 7, 3) := by decide +kernel
theorem d_MO_nextDay_159 : decode b_MO_nextDay 159 = .ok (.iload 4, 2) := by decide +kernel
theorem d_MO_nextDay_161 : decode b_MO_nextDay 161 = .ok (.iconst 1, 1) := by decide +kernel
theorem d_MO_nextDay_162 : decode b_MO_nextDay 162 = .ok (.iadd, 1) := by decide +kernel
theorem d_MO_nextDay_163 : decode b_MO_nextDay 163 = .ok (.istore 4, 2) := by decide +kernel
theorem d_MO_nextDay_165 : decode b_MO_nextDay 165 = .ok (.goto (-64), 3) := by decide +kernel
theorem d_MO_nextDay_168 : decode b_MO_nextDay 168 = .ok (.iload 4, 2) := by decide +kernel
theorem d_MO_nextDay_170 : decode b_MO_nextDay 170 = .ok (.ldc 68, 2) := by decide +kernel
theorem d_MO_nextDay_172 : decode b_MO_nextDay 172 = .ok (.if_icmp .gt 14, 3) := by decide +kernel
theorem d_MO_nextDay_175 : decode b_MO_nextDay 175 = .ok (.iload 4, 2) := by decide +kernel
theorem d_MO_nextDay_177 : decode b_MO_nextDay 177 = .ok (.iload_n 3, 1) := by decide +kernel
theorem d_MO_nextDay_178 : decode b_MO_nextDay 178 = .ok (.if_icmp .ge 8, 3) := by decide +kernel
theorem d_MO_nextDay_181 : decode b_MO_nextDay 181 = .ok (.iload 4, 2) := by decide +kernel
theorem d_MO_nextDay_183 : decode b_MO_nextDay 183 = .ok (.goto 4, 3) := by decide +kernel
theorem d_MO_nextDay_186 : decode b_MO_nextDay 186 = .ok (.iload_n 3, 1) := by decide +kernel
theorem d_MO_nextDay_187 : decode b_MO_nextDay 187 = .ok (.ireturn, 1) := by decide +kernel
theorem d_MO_touched_0 : decode b_MO_touched 0 = .ok (.aload_n 0, 1) := by decide +kernel
theorem d_MO_touched_1 : decode b_MO_touched 1 = .ok (.aload_n 0, 1) := by decide +kernel
theorem d_MO_touched_2 : decode b_MO_touched 2 = .ok (.iload_n 1, 1) := by decide +kernel
theorem d_MO_touched_3 : decode b_MO_touched 3 = .ok (.invokevirtual 76, 3) := by decide +kernel
theorem d_MO_touched_6 : decode b_MO_touched 6 = .ok (.ifCond .eq 14, 3) := by decide +kernel
theorem d_MO_touched_9 : decode b_MO_touched 9 = .ok (.iload_n 2, 1) := by decide +kernel
theorem d_MO_touched_10 : decode b_MO_touched 10 = .ok (.invokestatic 80, 3) := by decide +kernel
theorem d_MO_touched_13 : decode b_MO_touched 13 = .ok (.ifCond .eq 7, 3) := by decide +kernel
theorem d_MO_touched_16 : decode b_MO_touched 16 = .ok (.iconst 1, 1) := by decide +kernel
theorem d_MO_touched_17 : decode b_MO_touched 17 = .ok (.goto 4, 3) := by decide +kernel
theorem d_MO_touched_20 : decode b_MO_touched 20 = .ok (.iconst 0, 1) := by decide +kernel
theorem d_MO_touched_21 : decode b_MO_touched 21 = .ok (.iconst 1, 1) := by decide +kernel
theorem d_MO_touched_22 : decode b_MO_touched 22 = .ok (.invokevirtual 69, 3) := by decide +kernel
theorem d_MO_touched_25 : decode b_MO_touched 25 = .ok (.ifCond .eq 12, 3) := by decide +kernel
theorem d_MO_touched_28 : decode b_MO_touched 28 = .ok (.aload_n 0, 1) := by decide +kernel
theorem d_MO_touched_29 : decode b_MO_touched 29 = .ok (.iload_n 1, 1) := by decide +kernel
theorem d_MO_touched_30 : decode b_MO_touched 30 = .ok (.iload_n 2, 1) := by decide +kernel
theorem d_MO_touched_31 : decode b_MO_touched 31 = .ok (.invokevirtual 87, 3) := by decide +kernel
theorem d_MO_touched_34 : decode b_MO_touched 34 = .ok (.goto 4, 3) := by decide +kernel
theorem d_MO_touched_37 : decode b_MO_touched 37 = .ok (.iconst 0, 1) := by decide +kernel
theorem d_MO_touched_38 : decode b_MO_touched 38 = .ok (.ireturn, 1) := by decide +kernel
theorem d_MO_plan_0 : decode b_MO_plan 0 = .ok (.aload_n 0, 1) := by decide +kernel
theorem d_MO_plan_1 : decode b_MO_plan 1 = .ok (.iload_n 1, 1) := by decide +kernel
theorem d_MO_plan_2 : decode b_MO_plan 2 = .ok (.invokestatic 80, 3) := by decide +kernel
theorem d_MO_plan_5 : decode b_MO_plan 5 = .ok (.iconst 1, 1) := by decide +kernel
theorem d_MO_plan_6 : decode b_MO_plan 6 = .ok (.invokevirtual 69, 3) := by decide +kernel
theorem d_MO_plan_9 : decode b_MO_plan 9 = .ok (.ifCond .ne 5, 3) := by decide +kernel
theorem d_MO_plan_12 : decode b_MO_plan 12 = .ok (.iconst 0, 1) := by decide +kernel
theorem d_MO_plan_13 : decode b_MO_plan 13 = .ok (.ireturn, 1) := by decide +kernel
theorem d_MO_plan_14 : decode b_MO_plan 14 = .ok (.aload_n 0, 1) := by decide +kernel
theorem d_MO_plan_15 : decode b_MO_plan 15 = .ok (.invokevirtual 112, 3) := by decide +kernel
theorem d_MO_plan_18 : decode b_MO_plan 18 = .ok (.iconst 0, 1) := by decide +kernel
theorem d_MO_plan_19 : decode b_MO_plan 19 = .ok (.istore_n 2, 1) := by decide +kernel
theorem d_MO_plan_20 : decode b_MO_plan 20 = .ok (.iconst 0, 1) := by decide +kernel
theorem d_MO_plan_21 : decode b_MO_plan 21 = .ok (.istore_n 3, 1) := by decide +kernel
theorem d_MO_plan_22 : decode b_MO_plan 22 = .ok (.iload_n 3, 1) := by decide +kernel
theorem d_MO_plan_23 : decode b_MO_plan 23 = .ok (.aload_n 0, 1) := by decide +kernel
theorem d_MO_plan_24 : decode b_MO_plan 24 = .ok (.getfield 61, 3) := by decide +kernel
theorem d_MO_plan_27 : decode b_MO_plan 27 = .ok (.if_icmp .ge 29, 3) := by decide +kernel
theorem d_MO_plan_30 : decode b_MO_plan 30 = .ok (.aload_n 0, 1) := by decide +kernel
theorem d_MO_plan_31 : decode b_MO_plan 31 = .ok (.iload_n 3, 1) := by decide +kernel
theorem d_MO_plan_32 : decode b_MO_plan 32 = .ok (.iload_n 1, 1) := by decide +kernel
theorem d_MO_plan_33 : decode b_MO_plan 33 = .ok (.invokevirtual 95, 3) := by decide +kernel
theorem d_MO_plan_36 : decode b_MO_plan 36 = .ok (.iconst 3, 1) := by decide +kernel
theorem d_MO_plan_37 : decode b_MO_plan 37 = .ok (.if_icmp .eq 11, 3) := by decide +kernel
theorem d_MO_plan_40 : decode b_MO_plan 40 = .ok (.iload_n 2, 1) := by decide +kernel
theorem d_MO_plan_41 : decode b_MO_plan 41 = .ok (.iconst 1, 1) := by decide +kernel
theorem d_MO_plan_42 : decode b_MO_plan 42 = .ok (.iload_n 3, 1) := by decide +kernel
theorem d_MO_plan_43 : decode b_MO_plan 43 = .ok (.ishl, 1) := by decide +kernel
theorem d_MO_plan_44 : decode b_MO_plan 44 = .ok (.ior, 1) := by decide +kernel
theorem d_MO_plan_45 : decode b_MO_plan 45 = .ok (.goto 4, 3) := by decide +kernel
theorem d_MO_plan_48 : decode b_MO_plan 48 = .ok (.iload_n 2, 1) := by decide +kernel
theorem d_MO_plan_49 : decode b_MO_plan 49 = .ok (.istore_n 2, 1) := by decide +kernel
theorem d_MO_plan_50 : decode b_MO_plan 50 = .ok (.iinc 3 1, 3) := by decide +kernel
theorem d_MO_plan_53 : decode b_MO_plan 53 = .ok (.goto (-31), 3) := by decide +kernel
theorem d_MO_plan_56 : decode b_MO_plan 56 = .ok (.iload_n 2, 1) := by decide +kernel
theorem d_MO_plan_57 : decode b_MO_plan 57 = .ok (.aload_n 0, 1) := by decide +kernel
theorem d_MO_plan_58 : decode b_MO_plan 58 = .ok (.invokevirtual 98, 3) := by decide +kernel
theorem d_MO_plan_61 : decode b_MO_plan 61 = .ok (.iand, 1) := by decide +kernel
theorem d_MO_plan_62 : decode b_MO_plan 62 = .ok (.istore_n 2, 1) := by decide +kernel
theorem d_MO_plan_63 : decode b_MO_plan 63 = .ok (.aload_n 0, 1) := by decide +kernel
theorem d_MO_plan_64 : decode b_MO_plan 64 = .ok (.ldc 102, 2) := by decide +kernel
theorem d_MO_plan_66 : decode b_MO_plan 66 = .ok (.putfield 115, 3) := by decide +kernel
theorem d_MO_plan_69 : decode b_MO_plan 69 = .ok (.aload_n 0, 1) := by decide +kernel
theorem d_MO_plan_70 : decode b_MO_plan 70 = .ok (.ldc 102, 2) := by decide +kernel
theorem d_MO_plan_72 : decode b_MO_plan 72 = .ok (.putfield 118, 3) := by decide +kernel
theorem d_MO_plan_75 : decode b_MO_plan 75 = .ok (.iconst 0, 1) := by decide +kernel
theorem d_MO_plan_76 : decode b_MO_plan 76 = .ok (.istore_n 3, 1) := by decide +kernel
theorem d_MO_plan_77 : decode b_MO_plan 77 = .ok (.iload_n 3, 1) := by decide +kernel
theorem d_MO_plan_78 : decode b_MO_plan 78 = .ok (.iconst 1, 1) := by decide +kernel
theorem d_MO_plan_79 : decode b_MO_plan 79 = .ok (.aload_n 0, 1) := by decide +kernel
theorem d_MO_plan_80 : decode b_MO_plan 80 = .ok (.getfield 73, 3) := by decide +kernel
theorem d_MO_plan_83 : decode b_MO_plan 83 = .ok (.ishl, 1) := by decide +kernel
theorem d_MO_plan_84 : decode b_MO_plan 84 = .ok (.if_icmp .ge 125, 3) := by decide +kernel
theorem d_MO_plan_87 : decode b_MO_plan 87 = .ok (.aload_n 0, 1) := by decide +kernel
theorem d_MO_plan_88 : decode b_MO_plan 88 = .ok (.iload_n 3, 1) := by decide +kernel
theorem d_MO_plan_89 : decode b_MO_plan 89 = .ok (.invokevirtual 121, 3) := by decide +kernel
theorem d_MO_plan_92 : decode b_MO_plan 92 = .ok (.iload_n 2, 1) := by decide +kernel
theorem d_MO_plan_93 : decode b_MO_plan 93 = .ok (.iand, 1) := by decide +kernel
theorem d_MO_plan_94 : decode b_MO_plan 94 = .ok (.iload_n 2, 1) := by decide +kernel
theorem d_MO_plan_95 : decode b_MO_plan 95 = .ok (.if_icmp .ne 7, 3) := by decide +kernel
theorem d_MO_plan_98 : decode b_MO_plan 98 = .ok (.iconst 1, 1) := by decide +kernel
theorem d_MO_plan_99 : decode b_MO_plan 99 = .ok (.goto 4, 3) := by decide +kernel
theorem d_MO_plan_102 : decode b_MO_plan 102 = .ok (.iconst 0, 1) := by decide +kernel
theorem d_MO_plan_103 : decode b_MO_plan 103 = .ok (.istore 4, 2) := by decide +kernel
theorem d_MO_plan_105 : decode b_MO_plan 105 = .ok (.iload 4, 2) := by decide +kernel
theorem d_MO_plan_107 : decode b_MO_plan 107 = .ok (.ifCond .eq 11, 3) := by decide +kernel
theorem d_MO_plan_110 : decode b_MO_plan 110 = .ok (.aload_n 0, 1) := by decide +kernel
theorem d_MO_plan_111 : decode b_MO_plan 111 = .ok (.iload_n 3, 1) := by decide +kernel
theorem d_MO_plan_112 : decode b_MO_plan 112 = .ok (.invokevirtual 125, 3) := by decide +kernel
theorem d_MO_plan_115 : decode b_MO_plan 115 = .ok (.goto 5, 3) := by decide +kernel
theorem d_MO_plan_118 : decode b_MO_plan 118 = .ok (.ldc 102, 2) := by decide +kernel
theorem d_MO_plan_120 : decode b_MO_plan 120 = .ok (.istore 5, 2) := by decide +kernel
theorem d_MO_plan_122 : decode b_MO_plan 122 = .ok (.iload 5, 2) := by decide +kernel
theorem d_MO_plan_124 : decode b_MO_plan 124 = .ok (.aload_n 0, 1) := by decide +kernel
theorem d_MO_plan_125 : decode b_MO_plan 125 = .ok (.getfield 115, 3) := by decide +kernel
theorem d_MO_plan_128 : decode b_MO_plan 128 = .ok (.if_icmp .lt 30, 3) := by decide +kernel
theorem d_MO_plan_131 : decode b_MO_plan 131 = .ok (.iload 5, 2) := by decide +kernel
theorem d_MO_plan_133 : decode b_MO_plan 133 = .ok (.aload_n 0, 1) := by decide +kernel
theorem d_MO_plan_134 : decode b_MO_plan 134 = .ok (.getfield 115, 3) := by decide +kernel
theorem d_MO_plan_137 : decode b_MO_plan 137 = .ok (.if_icmp .ne 25, 3) := by decide +kernel
theorem d_MO_plan_140 : decode b_MO_plan 140 = .ok (.iload 5, 2) := by decide +kernel
theorem d_MO_plan_142 : decode b_MO_plan 142 = .ok (.ldc 102, 2) := by decide +kernel
theorem d_MO_plan_144 : decode b_MO_plan 144 = .ok (.if_icmp .ge 18, 3) := by decide +kernel
theorem d_MO_plan_147 : decode b_MO_plan 147 = .ok (.iload_n 3, 1) := by decide +kernel
theorem d_MO_plan_148 : decode b_MO_plan 148 = .ok (.invokestatic 128, 3) := by decide +kernel
theorem d_MO_plan_151 : decode b_MO_plan 151 = .ok (.aload_n 0, 1) := by decide +kernel
theorem d_MO_plan_152 : decode b_MO_plan 152 = .ok (.getfield 118, 3) := by decide +kernel
theorem d_MO_plan_155 : decode b_MO_plan 155 = .ok (.if_icmp .ge 7, 3) := by decide +kernel
theorem d_MO_plan_158 : decode b_MO_plan 158 = .ok (.iconst 1, 1) := by decide +kernel
theorem d_MO_plan_159 : decode b_MO_plan 159 = .ok (.goto 4, 3) := by decide +kernel
theorem d_MO_plan_162 : decode b_MO_plan 162 = .ok (.iconst 0, 1) := by decide +kernel
theorem d_MO_plan_163 : decode b_MO_plan 163 = .ok (.istore 6, 2) := by decide +kernel
theorem d_MO_plan_165 : decode b_MO_plan 165 = .ok (.aload_n 0, 1) := by decide +kernel
theorem d_MO_plan_166 : decode b_MO_plan 166 = .ok (.iload 6, 2) := by decide +kernel
theorem d_MO_plan_168 : decode b_MO_plan 168 = .ok (.ifCond .eq 8, 3) := by decide +kernel
theorem d_MO_plan_171 : decode b_MO_plan 171 = .ok (.iload 5, 2) := by decide +kernel
theorem d_MO_plan_173 : decode b_MO_plan 173 = .ok (.goto 7, 3) := by decide +kernel
theorem d_MO_plan_176 : decode b_MO_plan 176 = .ok (.aload_n 0, 1) := by decide +kernel
theorem d_MO_plan_177 : decode b_MO_plan 177 = .ok (.getfield 115, 3) := by decide +kernel
theorem d_MO_plan_180 : decode b_MO_plan 180 = .ok (.putfield 115, 3) := by decide +kernel
theorem d_MO_plan_183 : decode b_MO_plan 183 = .ok (.aload_n 0, 1) := by decide +kernel
theorem d_MO_plan_184 : decode b_MO_plan 184 = .ok (.iload 6, 2) := by decide +kernel
theorem d_MO_plan_186 : decode b_MO_plan 186 = .ok (.ifCond .eq 10, 3) := by decide +kernel
theorem d_MO_plan_189 : decode b_MO_plan 189 = .ok (.iload_n 3, 1) := by decide +kernel
theorem d_MO_plan_190 : decode b_MO_plan 190 = .ok (.invokestatic 128, 3) := by decide +kernel
theorem d_MO_plan_193 : decode b_MO_plan 193 = .ok (.goto 7, 3) := by decide +kernel
theorem d_MO_plan_196 : decode b_MO_plan 196 = .ok (.aload_n 0, 1) := by decide +kernel
theorem d_MO_plan_197 : decode b_MO_plan 197 = .ok (.getfield 118, 3) := by decide +kernel
theorem d_MO_plan_200 : decode b_MO_plan 200 = .ok (.putfield 118, 3) := by decide +kernel
theorem d_MO_plan_203 : decode b_MO_plan 203 = .ok (.iinc 3 1, 3) := by decide +kernel
theorem d_MO_plan_206 : decode b_MO_plan 206 = .ok (.goto (-129), 3) := by decide +kernel
theorem d_MO_plan_209 : decode b_MO_plan 209 = .ok (.iconst 0, 1) := by decide +kernel
theorem d_MO_plan_210 : decode b_MO_plan 210 = .ok (.istore_n 3, 1) := by decide +kernel
theorem d_MO_plan_211 : decode b_MO_plan 211 = .ok (.iload_n 3, 1) := by decide +kernel
theorem d_MO_plan_212 : decode b_MO_plan 212 = .ok (.iconst 1, 1) := by decide +kernel
theorem d_MO_plan_213 : decode b_MO_plan 213 = .ok (.aload_n 0, 1) := by decide +kernel
theorem d_MO_plan_214 : decode b_MO_plan 214 = .ok (.getfield 73, 3) := by decide +kernel
theorem d_MO_plan_217 : decode b_MO_plan 217 = .ok (.ishl, 1) := by decide +kernel
theorem d_MO_plan_218 : decode b_MO_plan 218 = .ok (.if_icmp .ge 54, 3) := by decide +kernel
theorem d_MO_plan_221 : decode b_MO_plan 221 = .ok (.aload_n 0, 1) := by decide +kernel
theorem d_MO_plan_222 : decode b_MO_plan 222 = .ok (.getfield 51, 3) := by decide +kernel
theorem d_MO_plan_225 : decode b_MO_plan 225 = .ok (.iload_n 3, 1) := by decide +kernel
theorem d_MO_plan_226 : decode b_MO_plan 226 = .ok (.iload_n 3, 1) := by decide +kernel
theorem d_MO_plan_227 : decode b_MO_plan 227 = .ok (.invokestatic 128, 3) := by decide +kernel
theorem d_MO_plan_230 : decode b_MO_plan 230 = .ok (.aload_n 0, 1) := by decide +kernel
theorem d_MO_plan_231 : decode b_MO_plan 231 = .ok (.getfield 118, 3) := by decide +kernel
theorem d_MO_plan_234 : decode b_MO_plan 234 = .ok (.if_icmp .ne 30, 3) := by decide +kernel
theorem d_MO_plan_237 : decode b_MO_plan 237 = .ok (.aload_n 0, 1) := by decide +kernel
theorem d_MO_plan_238 : decode b_MO_plan 238 = .ok (.iload_n 3, 1) := by decide +kernel
theorem d_MO_plan_239 : decode b_MO_plan 239 = .ok (.invokevirtual 121, 3) := by decide +kernel
theorem d_MO_plan_242 : decode b_MO_plan 242 = .ok (.iload_n 2, 1) := by decide +kernel
theorem d_MO_plan_243 : decode b_MO_plan 243 = .ok (.iand, 1) := by decide +kernel
theorem d_MO_plan_244 : decode b_MO_plan 244 = .ok (.iload_n 2, 1) := by decide +kernel
theorem d_MO_plan_245 : decode b_MO_plan 245 = .ok (.if_icmp .ne 19, 3) := by decide +kernel
theorem d_MO_plan_248 : decode b_MO_plan 248 = .ok (.aload_n 0, 1) := by decide +kernel
theorem d_MO_plan_249 : decode b_MO_plan 249 = .ok (.iload_n 3, 1) := by decide +kernel
theorem d_MO_plan_250 : decode b_MO_plan 250 = .ok (.invokevirtual 125, 3) := by decide +kernel
theorem d_MO_plan_253 : decode b_MO_plan 253 = .ok (.aload_n 0, 1) := by decide +kernel
theorem d_MO_plan_254 : decode b_MO_plan 254 = .ok (.getfield 115, 3) := by decide +kernel
theorem d_MO_plan_257 : decode b_MO_plan 257 = .ok (.if_icmp .ne 7, 3) := by decide +kernel
theorem d_MO_plan_260 : decode b_MO_plan 260 = .ok (.iconst 1, 1) := by decide +kernel
theorem d_MO_plan_261 : decode b_MO_plan 261 = .ok (.goto 4, 3) := by decide +kernel
theorem d_MO_plan_264 : decode b_MO_plan 264 = .ok (.iconst 0, 1) := by decide +kernel
theorem d_MO_plan_265 : decode b_MO_plan 265 = .ok (.bastore, 1) := by decide +kernel
theorem d_MO_plan_266 : decode b_MO_plan 266 = .ok (.iinc 3 1, 3) := by decide +kernel
theorem d_MO_plan_269 : decode b_MO_plan 269 = .ok (.goto (-58), 3) := by decide +kernel
theorem d_MO_plan_272 : decode b_MO_plan 272 = .ok (.aload_n 0, 1) := by decide +kernel
theorem d_MO_plan_273 : decode b_MO_plan 273 = .ok (.invokevirtual 131, 3) := by decide +kernel
theorem d_MO_plan_276 : decode b_MO_plan 276 = .ok (.aload_n 0, 1) := by decide +kernel
theorem d_MO_plan_277 : decode b_MO_plan 277 = .ok (.getfield 118, 3) := by decide +kernel
theorem d_MO_plan_280 : decode b_MO_plan 280 = .ok (.ireturn, 1) := by decide +kernel
theorem d_MO_reckon_0 : decode b_MO_reckon 0 = .ok (.iconst 1, 1) := by decide +kernel
theorem d_MO_reckon_1 : decode b_MO_reckon 1 = .ok (.istore_n 1, 1) := by decide +kernel
theorem d_MO_reckon_2 : decode b_MO_reckon 2 = .ok (.iload_n 1, 1) := by decide +kernel
theorem d_MO_reckon_3 : decode b_MO_reckon 3 = .ok (.iconst 1, 1) := by decide +kernel
theorem d_MO_reckon_4 : decode b_MO_reckon 4 = .ok (.aload_n 0, 1) := by decide +kernel
theorem d_MO_reckon_5 : decode b_MO_reckon 5 = .ok (.getfield 73, 3) := by decide +kernel
theorem d_MO_reckon_8 : decode b_MO_reckon 8 = .ok (.ishl, 1) := by decide +kernel
theorem d_MO_reckon_9 : decode b_MO_reckon 9 = .ok (.if_icmp .ge 141, 3) := by decide +kernel
theorem d_MO_reckon_12 : decode b_MO_reckon 12 = .ok (.iconst 0, 1) := by decide +kernel
theorem d_MO_reckon_13 : decode b_MO_reckon 13 = .ok (.istore_n 2, 1) := by decide +kernel
theorem d_MO_reckon_14 : decode b_MO_reckon 14 = .ok (.iload_n 2, 1) := by decide +kernel
theorem d_MO_reckon_15 : decode b_MO_reckon 15 = .ok (.aload_n 0, 1) := by decide +kernel
theorem d_MO_reckon_16 : decode b_MO_reckon 16 = .ok (.getfield 73, 3) := by decide +kernel
theorem d_MO_reckon_19 : decode b_MO_reckon 19 = .ok (.if_icmp .ge 125, 3) := by decide +kernel
theorem d_MO_reckon_22 : decode b_MO_reckon 22 = .ok (.iload_n 1, 1) := by decide +kernel
theorem d_MO_reckon_23 : decode b_MO_reckon 23 = .ok (.iload_n 2, 1) := by decide +kernel
theorem d_MO_reckon_24 : decode b_MO_reckon 24 = .ok (.invokestatic 106, 3) := by decide +kernel
theorem d_MO_reckon_27 : decode b_MO_reckon 27 = .ok (.ifCond .eq 111, 3) := by decide +kernel
theorem d_MO_reckon_30 : decode b_MO_reckon 30 = .ok (.iload_n 1, 1) := by decide +kernel
theorem d_MO_reckon_31 : decode b_MO_reckon 31 = .ok (.iconst 1, 1) := by decide +kernel
theorem d_MO_reckon_32 : decode b_MO_reckon 32 = .ok (.iload_n 2, 1) := by decide +kernel
theorem d_MO_reckon_33 : decode b_MO_reckon 33 = .ok (.ishl, 1) := by decide +kernel
theorem d_MO_reckon_34 : decode b_MO_reckon 34 = .ok (.isub, 1) := by decide +kernel
theorem d_MO_reckon_35 : decode b_MO_reckon 35 = .ok (.istore_n 3, 1) := by decide +kernel
theorem d_MO_reckon_36 : decode b_MO_reckon 36 = .ok (.iload_n 3, 1) := by decide +kernel
theorem d_MO_reckon_37 : decode b_MO_reckon 37 = .ok (.ifCond .ne 7, 3) := by decide +kernel
theorem d_MO_reckon_40 : decode b_MO_reckon 40 = .ok (.iconst 0, 1) := by decide +kernel
theorem d_MO_reckon_41 : decode b_MO_reckon 41 = .ok (.goto 5, 3) := by decide +kernel
theorem d_MO_reckon_44 : decode b_MO_reckon 44 = .ok (.ldc 102, 2) := by decide +kernel
theorem d_MO_reckon_46 : decode b_MO_reckon 46 = .ok (.istore 4, 2) := by decide +kernel
theorem d_MO_reckon_48 : decode b_MO_reckon 48 = .ok (.iconst 0, 1) := by decide +kernel
theorem d_MO_reckon_49 : decode b_MO_reckon 49 = .ok (.istore 5, 2) := by decide +kernel
theorem d_MO_reckon_51 : decode b_MO_reckon 51 = .ok (.iload 5, 2) := by decide +kernel
theorem d_MO_reckon_53 : decode b_MO_reckon 53 = .ok (.aload_n 0, 1) := by decide +kernel
theorem d_MO_reckon_54 : decode b_MO_reckon 54 = .ok (.getfield 73, 3) := by decide +kernel
theorem d_MO_reckon_57 : decode b_MO_reckon 57 = .ok (.if_icmp .ge 61, 3) := by decide +kernel
theorem d_MO_reckon_60 : decode b_MO_reckon 60 = .ok (.iload_n 3, 1) := by decide +kernel
theorem d_MO_reckon_61 : decode b_MO_reckon 61 = .ok (.iload 5, 2) := by decide +kernel
theorem d_MO_reckon_63 : decode b_MO_reckon 63 = .ok (.invokestatic 106, 3) := by decide +kernel
theorem d_MO_reckon_66 : decode b_MO_reckon 66 = .ok (.ifCond .eq 26, 3) := by decide +kernel
theorem d_MO_reckon_69 : decode b_MO_reckon 69 = .ok (.aload_n 0, 1) := by decide +kernel
theorem d_MO_reckon_70 : decode b_MO_reckon 70 = .ok (.iload_n 2, 1) := by decide +kernel
theorem d_MO_reckon_71 : decode b_MO_reckon 71 = .ok (.iload 5, 2) := by decide +kernel
theorem d_MO_reckon_73 : decode b_MO_reckon 73 = .ok (.invokevirtual 109, 3) := by decide +kernel
theorem d_MO_reckon_76 : decode b_MO_reckon 76 = .ok (.aload_n 0, 1) := by decide +kernel
theorem d_MO_reckon_77 : decode b_MO_reckon 77 = .ok (.getfield 48, 3) := by decide +kernel
theorem d_MO_reckon_80 : decode b_MO_reckon 80 = .ok (.bipush 8, 2) := by decide +kernel
theorem d_MO_reckon_82 : decode b_MO_reckon 82 = .ok (.iload_n 3, 1) := by decide +kernel
theorem d_MO_reckon_83 : decode b_MO_reckon 83 = .ok (.imul, 1) := by decide +kernel
theorem d_MO_reckon_84 : decode b_MO_reckon 84 = .ok (.iload 5, 2) := by decide +kernel
theorem d_MO_reckon_86 : decode b_MO_reckon 86 = .ok (.iadd, 1) := by decide +kernel
theorem d_MO_reckon_87 : decode b_MO_reckon 87 = .ok (.iaload, 1) := by decide +kernel
theorem d_MO_reckon_88 : decode b_MO_reckon 88 = .ok (.iadd, 1) := by decide +kernel
theorem d_MO_reckon_89 : decode b_MO_reckon 89 = .ok (.goto 5, 3) := by decide +kernel
theorem d_MO_reckon_92 : decode b_MO_reckon 92 = .ok (.ldc 102, 2) := by decide +kernel
theorem d_MO_reckon_94 : decode b_MO_reckon 94 = .ok (.istore 6, 2) := by decide +kernel
theorem d_MO_reckon_96 : decode b_MO_reckon 96 = .ok (.iload 6, 2) := by decide +kernel
theorem d_MO_reckon_98 : decode b_MO_reckon 98 = .ok (.iload 4, 2) := by decide +kernel
theorem d_MO_reckon_100 : decode b_MO_reckon 100 = .ok (.if_icmp .ge 8, 3) := by decide +kernel
theorem d_MO_reckon_103 : decode b_MO_reckon 103 = .ok (.iload 6, 2) := by decide +kernel
theorem d_MO_reckon_105 : decode b_MO_reckon 105 = .ok (.goto 5, 3) := by decide +kernel
theorem d_MO_reckon_108 : decode b_MO_reckon 108 = .ok (.iload 4, 2) := by decide +kernel
theorem d_MO_reckon_110 : decode b_MO_reckon 110 = .ok (.istore 4, 2) := by decide +kernel
theorem d_MO_reckon_112 : decode b_MO_reckon 112 = .ok (.iinc 5 1, 3) := by decide +kernel
theorem d_MO_reckon_115 : decode b_MO_reckon 115 = .ok (.goto (-64), 3) := by decide +kernel
theorem d_MO_reckon_118 : decode b_MO_reckon 118 = .ok (.aload_n 0, 1) := by decide +kernel
theorem d_MO_reckon_119 : decode b_MO_reckon 119 = .ok (.getfield 48, 3) := by decide +kernel
theorem d_MO_reckon_122 : decode b_MO_reckon 122 = .ok (.bipush 8, 2) := by decide +kernel
theorem d_MO_reckon_124 : decode b_MO_reckon 124 = .ok (.iload_n 1, 1) := by decide +kernel
theorem d_MO_reckon_125 : decode b_MO_reckon 125 = .ok (.imul, 1) := by decide +kernel
theorem d_MO_reckon_126 : decode b_MO_reckon 126 = .ok (.iload_n 2, 1) := by decide +kernel
theorem d_MO_reckon_127 : decode b_MO_reckon 127 = .ok (.iadd, 1) := by decide +kernel
theorem d_MO_reckon_128 : decode b_MO_reckon 128 = .ok (.aload_n 0, 1) := by decide +kernel
theorem d_MO_reckon_129 : decode b_MO_reckon 129 = .ok (.getfield 19, 3) := by decide +kernel
theorem d_MO_reckon_132 : decode b_MO_reckon 132 = .ok (.iload_n 2, 1) := by decide +kernel
theorem d_MO_reckon_133 : decode b_MO_reckon 133 = .ok (.iaload, 1) := by decide +kernel
theorem d_MO_reckon_134 : decode b_MO_reckon 134 = .ok (.iload 4, 2) := by decide +kernel
theorem d_MO_reckon_136 : decode b_MO_reckon 136 = .ok (.iadd, 1) := by decide +kernel
theorem d_MO_reckon_137 : decode b_MO_reckon 137 = .ok (.iastore, 1) := by decide +kernel
theorem d_MO_reckon_138 : decode b_MO_reckon 138 = .ok (.iinc 2 1, 3) := by decide +kernel
theorem d_MO_reckon_141 : decode b_MO_reckon 141 = .ok (.goto (-127), 3) := by decide +kernel
theorem d_MO_reckon_144 : decode b_MO_reckon 144 = .ok (.iinc 1 1, 3) := by decide +kernel
theorem d_MO_reckon_147 : decode b_MO_reckon 147 = .ok (.goto (-145), 3) := by decide +kernel
theorem d_MO_reckon_150 : decode b_MO_reckon 150 = .ok (.return_, 1) := by decide +kernel
theorem d_MO_has_0 : decode b_MO_has 0 = .ok (.iload_n 0, 1) := by decide +kernel
theorem d_MO_has_1 : decode b_MO_has 1 = .ok (.iload_n 1, 1) := by decide +kernel
theorem d_MO_has_2 : decode b_MO_has 2 = .ok (.ishr, 1) := by decide +kernel
theorem d_MO_has_3 : decode b_MO_has 3 = .ok (.iconst 1, 1) := by decide +kernel
theorem d_MO_has_4 : decode b_MO_has 4 = .ok (.iand, 1) := by decide +kernel
theorem d_MO_has_5 : decode b_MO_has 5 = .ok (.iconst 1, 1) := by decide +kernel
theorem d_MO_has_6 : decode b_MO_has 6 = .ok (.if_icmp .ne 7, 3) := by decide +kernel
theorem d_MO_has_9 : decode b_MO_has 9 = .ok (.iconst 1, 1) := by decide +kernel
theorem d_MO_has_10 : decode b_MO_has 10 = .ok (.goto 4, 3) := by decide +kernel
theorem d_MO_has_13 : decode b_MO_has 13 = .ok (.iconst 0, 1) := by decide +kernel
theorem d_MO_has_14 : decode b_MO_has 14 = .ok (.ireturn, 1) := by decide +kernel
theorem d_MO_between_0 : decode b_MO_between 0 = .ok (.aload_n 0, 1) := by decide +kernel
theorem d_MO_between_1 : decode b_MO_between 1 = .ok (.getfield 25, 3) := by decide +kernel
theorem d_MO_between_4 : decode b_MO_between 4 = .ok (.bipush 10, 2) := by decide +kernel
theorem d_MO_between_6 : decode b_MO_between 6 = .ok (.aload_n 0, 1) := by decide +kernel
theorem d_MO_between_7 : decode b_MO_between 7 = .ok (.getfield 16, 3) := by decide +kernel
theorem d_MO_between_10 : decode b_MO_between 10 = .ok (.iload_n 1, 1) := by decide +kernel
theorem d_MO_between_11 : decode b_MO_between 11 = .ok (.iaload, 1) := by decide +kernel
theorem d_MO_between_12 : decode b_MO_between 12 = .ok (.imul, 1) := by decide +kernel
theorem d_MO_between_13 : decode b_MO_between 13 = .ok (.aload_n 0, 1) := by decide +kernel
theorem d_MO_between_14 : decode b_MO_between 14 = .ok (.getfield 16, 3) := by decide +kernel
theorem d_MO_between_17 : decode b_MO_between 17 = .ok (.iload_n 2, 1) := by decide +kernel
theorem d_MO_between_18 : decode b_MO_between 18 = .ok (.iaload, 1) := by decide +kernel
theorem d_MO_between_19 : decode b_MO_between 19 = .ok (.iadd, 1) := by decide +kernel
theorem d_MO_between_20 : decode b_MO_between 20 = .ok (.iaload, 1) := by decide +kernel
theorem d_MO_between_21 : decode b_MO_between 21 = .ok (.ireturn, 1) := by decide +kernel
theorem d_MO_shownBy_0 : decode b_MO_shownBy 0 = .ok (.iconst 0, 1) := by decide +kernel
theorem d_MO_shownBy_1 : decode b_MO_shownBy 1 = .ok (.istore_n 2, 1) := by decide +kernel
theorem d_MO_shownBy_2 : decode b_MO_shownBy 2 = .ok (.iconst 0, 1) := by decide +kernel
theorem d_MO_shownBy_3 : decode b_MO_shownBy 3 = .ok (.istore_n 3, 1) := by decide +kernel
theorem d_MO_shownBy_4 : decode b_MO_shownBy 4 = .ok (.iload_n 3, 1) := by decide +kernel
theorem d_MO_shownBy_5 : decode b_MO_shownBy 5 = .ok (.aload_n 0, 1) := by decide +kernel
theorem d_MO_shownBy_6 : decode b_MO_shownBy 6 = .ok (.getfield 73, 3) := by decide +kernel
theorem d_MO_shownBy_9 : decode b_MO_shownBy 9 = .ok (.if_icmp .ge 30, 3) := by decide +kernel
theorem d_MO_shownBy_12 : decode b_MO_shownBy 12 = .ok (.iload_n 1, 1) := by decide +kernel
theorem d_MO_shownBy_13 : decode b_MO_shownBy 13 = .ok (.iload_n 3, 1) := by decide +kernel
theorem d_MO_shownBy_14 : decode b_MO_shownBy 14 = .ok (.invokestatic 106, 3) := by decide +kernel
theorem d_MO_shownBy_17 : decode b_MO_shownBy 17 = .ok (.ifCond .eq 14, 3) := by decide +kernel
theorem d_MO_shownBy_20 : decode b_MO_shownBy 20 = .ok (.iload_n 2, 1) := by decide +kernel
theorem d_MO_shownBy_21 : decode b_MO_shownBy 21 = .ok (.aload_n 0, 1) := by decide +kernel
theorem d_MO_shownBy_22 : decode b_MO_shownBy 22 = .ok (.getfield 22, 3) := by decide +kernel
theorem d_MO_shownBy_25 : decode b_MO_shownBy 25 = .ok (.iload_n 3, 1) := by decide +kernel
theorem d_MO_shownBy_26 : decode b_MO_shownBy 26 = .ok (.iaload, 1) := by decide +kernel
theorem d_MO_shownBy_27 : decode b_MO_shownBy 27 = .ok (.ior, 1) := by decide +kernel
theorem d_MO_shownBy_28 : decode b_MO_shownBy 28 = .ok (.goto 4, 3) := by decide +kernel
theorem d_MO_shownBy_31 : decode b_MO_shownBy 31 = .ok (.iload_n 2, 1) := by decide +kernel
theorem d_MO_shownBy_32 : decode b_MO_shownBy 32 = .ok (.istore_n 2, 1) := by decide +kernel
theorem d_MO_shownBy_33 : decode b_MO_shownBy 33 = .ok (.iinc 3 1, 3) := by decide +kernel
theorem d_MO_shownBy_36 : decode b_MO_shownBy 36 = .ok (.goto (-32), 3) := by decide +kernel
theorem d_MO_shownBy_39 : decode b_MO_shownBy 39 = .ok (.iload_n 2, 1) := by decide +kernel
theorem d_MO_shownBy_40 : decode b_MO_shownBy 40 = .ok (.ireturn, 1) := by decide +kernel
theorem d_MO_leastOf_0 : decode b_MO_leastOf 0 = .ok (.iload_n 1, 1) := by decide +kernel
theorem d_MO_leastOf_1 : decode b_MO_leastOf 1 = .ok (.ifCond .ne 7, 3) := by decide +kernel
theorem d_MO_leastOf_4 : decode b_MO_leastOf 4 = .ok (.iconst 0, 1) := by decide +kernel
theorem d_MO_leastOf_5 : decode b_MO_leastOf 5 = .ok (.goto 5, 3) := by decide +kernel
theorem d_MO_leastOf_8 : decode b_MO_leastOf 8 = .ok (.ldc 102, 2) := by decide +kernel
theorem d_MO_leastOf_10 : decode b_MO_leastOf 10 = .ok (.istore_n 2, 1) := by decide +kernel
theorem d_MO_leastOf_11 : decode b_MO_leastOf 11 = .ok (.iconst 0, 1) := by decide +kernel
theorem d_MO_leastOf_12 : decode b_MO_leastOf 12 = .ok (.istore_n 3, 1) := by decide +kernel
theorem d_MO_leastOf_13 : decode b_MO_leastOf 13 = .ok (.iload_n 3, 1) := by decide +kernel
theorem d_MO_leastOf_14 : decode b_MO_leastOf 14 = .ok (.aload_n 0, 1) := by decide +kernel
theorem d_MO_leastOf_15 : decode b_MO_leastOf 15 = .ok (.getfield 73, 3) := by decide +kernel
theorem d_MO_leastOf_18 : decode b_MO_leastOf 18 = .ok (.if_icmp .ge 48, 3) := by decide +kernel
theorem d_MO_leastOf_21 : decode b_MO_leastOf 21 = .ok (.iload_n 1, 1) := by decide +kernel
theorem d_MO_leastOf_22 : decode b_MO_leastOf 22 = .ok (.iload_n 3, 1) := by decide +kernel
theorem d_MO_leastOf_23 : decode b_MO_leastOf 23 = .ok (.invokestatic 106, 3) := by decide +kernel
theorem d_MO_leastOf_26 : decode b_MO_leastOf 26 = .ok (.ifCond .eq 32, 3) := by decide +kernel
theorem d_MO_leastOf_29 : decode b_MO_leastOf 29 = .ok (.aload_n 0, 1) := by decide +kernel
theorem d_MO_leastOf_30 : decode b_MO_leastOf 30 = .ok (.getfield 48, 3) := by decide +kernel
theorem d_MO_leastOf_33 : decode b_MO_leastOf 33 = .ok (.bipush 8, 2) := by decide +kernel
theorem d_MO_leastOf_35 : decode b_MO_leastOf 35 = .ok (.iload_n 1, 1) := by decide +kernel
theorem d_MO_leastOf_36 : decode b_MO_leastOf 36 = .ok (.imul, 1) := by decide +kernel
theorem d_MO_leastOf_37 : decode b_MO_leastOf 37 = .ok (.iload_n 3, 1) := by decide +kernel
theorem d_MO_leastOf_38 : decode b_MO_leastOf 38 = .ok (.iadd, 1) := by decide +kernel
theorem d_MO_leastOf_39 : decode b_MO_leastOf 39 = .ok (.iaload, 1) := by decide +kernel
theorem d_MO_leastOf_40 : decode b_MO_leastOf 40 = .ok (.iload_n 2, 1) := by decide +kernel
theorem d_MO_leastOf_41 : decode b_MO_leastOf 41 = .ok (.if_icmp .ge 17, 3) := by decide +kernel
theorem d_MO_leastOf_44 : decode b_MO_leastOf 44 = .ok (.aload_n 0, 1) := by decide +kernel
theorem d_MO_leastOf_45 : decode b_MO_leastOf 45 = .ok (.getfield 48, 3) := by decide +kernel
theorem d_MO_leastOf_48 : decode b_MO_leastOf 48 = .ok (.bipush 8, 2) := by decide +kernel
theorem d_MO_leastOf_50 : decode b_MO_leastOf 50 = .ok (.iload_n 1, 1) := by decide +kernel
theorem d_MO_leastOf_51 : decode b_MO_leastOf 51 = .ok (.imul, 1) := by decide +kernel
theorem d_MO_leastOf_52 : decode b_MO_leastOf 52 = .ok (.iload_n 3, 1) := by decide +kernel
theorem d_MO_leastOf_53 : decode b_MO_leastOf 53 = .ok (.iadd, 1) := by decide +kernel
theorem d_MO_leastOf_54 : decode b_MO_leastOf 54 = .ok (.iaload, 1) := by decide +kernel
theorem d_MO_leastOf_55 : decode b_MO_leastOf 55 = .ok (.goto 4, 3) := by decide +kernel
theorem d_MO_leastOf_58 : decode b_MO_leastOf 58 = .ok (.iload_n 2, 1) := by decide +kernel
theorem d_MO_leastOf_59 : decode b_MO_leastOf 59 = .ok (.istore_n 2, 1) := by decide +kernel
theorem d_MO_leastOf_60 : decode b_MO_leastOf 60 = .ok (.iinc 3 1, 3) := by decide +kernel
theorem d_MO_leastOf_63 : decode b_MO_leastOf 63 = .ok (.goto (-50), 3) := by decide +kernel
theorem d_MO_leastOf_66 : decode b_MO_leastOf 66 = .ok (.iload_n 2, 1) := by decide +kernel
theorem d_MO_leastOf_67 : decode b_MO_leastOf 67 = .ok (.ireturn, 1) := by decide +kernel
theorem d_MO_sizeOf_0 : decode b_MO_sizeOf 0 = .ok (.iconst 0, 1) := by decide +kernel
theorem d_MO_sizeOf_1 : decode b_MO_sizeOf 1 = .ok (.istore_n 1, 1) := by decide +kernel
theorem d_MO_sizeOf_2 : decode b_MO_sizeOf 2 = .ok (.iconst 0, 1) := by decide +kernel
theorem d_MO_sizeOf_3 : decode b_MO_sizeOf 3 = .ok (.istore_n 2, 1) := by decide +kernel
theorem d_MO_sizeOf_4 : decode b_MO_sizeOf 4 = .ok (.iload_n 2, 1) := by decide +kernel
theorem d_MO_sizeOf_5 : decode b_MO_sizeOf 5 = .ok (.bipush 8, 2) := by decide +kernel
theorem d_MO_sizeOf_7 : decode b_MO_sizeOf 7 = .ok (.if_icmp .ge 25, 3) := by decide +kernel
theorem d_MO_sizeOf_10 : decode b_MO_sizeOf 10 = .ok (.iload_n 0, 1) := by decide +kernel
theorem d_MO_sizeOf_11 : decode b_MO_sizeOf 11 = .ok (.iload_n 2, 1) := by decide +kernel
theorem d_MO_sizeOf_12 : decode b_MO_sizeOf 12 = .ok (.invokestatic 106, 3) := by decide +kernel
theorem d_MO_sizeOf_15 : decode b_MO_sizeOf 15 = .ok (.ifCond .eq 9, 3) := by decide +kernel
theorem d_MO_sizeOf_18 : decode b_MO_sizeOf 18 = .ok (.iload_n 1, 1) := by decide +kernel
theorem d_MO_sizeOf_19 : decode b_MO_sizeOf 19 = .ok (.iconst 1, 1) := by decide +kernel
theorem d_MO_sizeOf_20 : decode b_MO_sizeOf 20 = .ok (.iadd, 1) := by decide +kernel
theorem d_MO_sizeOf_21 : decode b_MO_sizeOf 21 = .ok (.goto 4, 3) := by decide +kernel
theorem d_MO_sizeOf_24 : decode b_MO_sizeOf 24 = .ok (.iload_n 1, 1) := by decide +kernel
theorem d_MO_sizeOf_25 : decode b_MO_sizeOf 25 = .ok (.istore_n 1, 1) := by decide +kernel
theorem d_MO_sizeOf_26 : decode b_MO_sizeOf 26 = .ok (.iinc 2 1, 3) := by decide +kernel
theorem d_MO_sizeOf_29 : decode b_MO_sizeOf 29 = .ok (.goto (-25), 3) := by decide +kernel
theorem d_MO_sizeOf_32 : decode b_MO_sizeOf 32 = .ok (.iload_n 1, 1) := by decide +kernel
theorem d_MO_sizeOf_33 : decode b_MO_sizeOf 33 = .ok (.ireturn, 1) := by decide +kernel
theorem d_MO_order_0 : decode b_MO_order 0 = .ok (.iconst 0, 1) := by decide +kernel
theorem d_MO_order_1 : decode b_MO_order 1 = .ok (.istore_n 1, 1) := by decide +kernel
theorem d_MO_order_2 : decode b_MO_order 2 = .ok (.aload_n 0, 1) := by decide +kernel
theorem d_MO_order_3 : decode b_MO_order 3 = .ok (.getfield 115, 3) := by decide +kernel
theorem d_MO_order_6 : decode b_MO_order 6 = .ok (.istore_n 2, 1) := by decide +kernel
theorem d_MO_order_7 : decode b_MO_order 7 = .ok (.iconst 0, 1) := by decide +kernel
theorem d_MO_order_8 : decode b_MO_order 8 = .ok (.istore_n 3, 1) := by decide +kernel
theorem d_MO_order_9 : decode b_MO_order 9 = .ok (.iload_n 3, 1) := by decide +kernel
theorem d_MO_order_10 : decode b_MO_order 10 = .ok (.aload_n 0, 1) := by decide +kernel
theorem d_MO_order_11 : decode b_MO_order 11 = .ok (.getfield 118, 3) := by decide +kernel
theorem d_MO_order_14 : decode b_MO_order 14 = .ok (.if_icmp .ge 241, 3) := by decide +kernel
theorem d_MO_order_17 : decode b_MO_order 17 = .ok (.iconst (-1), 1) := by decide +kernel
theorem d_MO_order_18 : decode b_MO_order 18 = .ok (.istore 4, 2) := by decide +kernel
theorem d_MO_order_20 : decode b_MO_order 20 = .ok (.iconst 0, 1) := by decide +kernel
theorem d_MO_order_21 : decode b_MO_order 21 = .ok (.istore 5, 2) := by decide +kernel
theorem d_MO_order_23 : decode b_MO_order 23 = .ok (.aload_n 0, 1) := by decide +kernel
theorem d_MO_order_24 : decode b_MO_order 24 = .ok (.getfield 73, 3) := by decide +kernel
theorem d_MO_order_27 : decode b_MO_order 27 = .ok (.iconst 1, 1) := by decide +kernel
theorem d_MO_order_28 : decode b_MO_order 28 = .ok (.isub, 1) := by decide +kernel
theorem d_MO_order_29 : decode b_MO_order 29 = .ok (.istore 6, 2) := by decide +kernel
theorem d_MO_order_31 : decode b_MO_order 31 = .ok (.iload 6, 2) := by decide +kernel
theorem d_MO_order_33 : decode b_MO_order 33 = .ok (.ifCond .lt 114, 3) := by decide +kernel
theorem d_MO_order_36 : decode b_MO_order 36 = .ok (.iload_n 3, 1) := by decide +kernel
theorem d_MO_order_37 : decode b_MO_order 37 = .ok (.ifCond .ne 7, 3) := by decide +kernel
theorem d_MO_order_40 : decode b_MO_order 40 = .ok (.iconst 0, 1) := by decide +kernel
theorem d_MO_order_41 : decode b_MO_order 41 = .ok (.goto 17, 3) := by decide +kernel
theorem d_MO_order_44 : decode b_MO_order 44 = .ok (.aload_n 0, 1) := by decide +kernel
theorem d_MO_order_45 : decode b_MO_order 45 = .ok (.aload_n 0, 1) := by decide +kernel
theorem d_MO_order_46 : decode b_MO_order 46 = .ok (.getfield 45, 3) := by decide +kernel
theorem d_MO_order_49 : decode b_MO_order 49 = .ok (.iload_n 3, 1) := by decide +kernel
theorem d_MO_order_50 : decode b_MO_order 50 = .ok (.iconst 1, 1) := by decide +kernel
theorem d_MO_order_51 : decode b_MO_order 51 = .ok (.isub, 1) := by decide +kernel
theorem d_MO_order_52 : decode b_MO_order 52 = .ok (.iaload, 1) := by decide +kernel
theorem d_MO_order_53 : decode b_MO_order 53 = .ok (.iload 6, 2) := by decide +kernel
theorem d_MO_order_55 : decode b_MO_order 55 = .ok (.invokevirtual 109, 3) := by decide +kernel
theorem d_MO_order_58 : decode b_MO_order 58 = .ok (.istore 7, 2) := by decide +kernel
theorem d_MO_order_60 : decode b_MO_order 60 = .ok (.iconst 0, 1) := by decide +kernel
theorem d_MO_order_61 : decode b_MO_order 61 = .ok (.istore 8, 2) := by decide +kernel
theorem d_MO_order_63 : decode b_MO_order 63 = .ok (.iload 8, 2) := by decide +kernel
theorem d_MO_order_65 : decode b_MO_order 65 = .ok (.iconst 1, 1) := by decide +kernel
theorem d_MO_order_66 : decode b_MO_order 66 = .ok (.aload_n 0, 1) := by decide +kernel
theorem d_MO_order_67 : decode b_MO_order 67 = .ok (.getfield 73, 3) := by decide +kernel
theorem d_MO_order_70 : decode b_MO_order 70 = .ok (.ishl, 1) := by decide +kernel
theorem d_MO_order_71 : decode b_MO_order 71 = .ok (.if_icmp .ge 70, 3) := by decide +kernel
theorem d_MO_order_74 : decode b_MO_order 74 = .ok (.aload_n 0, 1) := by decide +kernel
theorem d_MO_order_75 : decode b_MO_order 75 = .ok (.getfield 51, 3) := by decide +kernel
theorem d_MO_order_78 : decode b_MO_order 78 = .ok (.iload 8, 2) := by decide +kernel
theorem d_MO_order_80 : decode b_MO_order 80 = .ok (.baload, 1) := by decide +kernel
theorem d_MO_order_81 : decode b_MO_order 81 = .ok (.ifCond .eq 54, 3) := by decide +kernel
theorem d_MO_order_84 : decode b_MO_order 84 = .ok (.iload 8, 2) := by decide +kernel
theorem d_MO_order_86 : decode b_MO_order 86 = .ok (.iload_n 1, 1) := by decide +kernel
theorem d_MO_order_87 : decode b_MO_order 87 = .ok (.isub, 1) := by decide +kernel
theorem d_MO_order_88 : decode b_MO_order 88 = .ok (.iload 6, 2) := by decide +kernel
theorem d_MO_order_90 : decode b_MO_order 90 = .ok (.invokestatic 106, 3) := by decide +kernel
theorem d_MO_order_93 : decode b_MO_order 93 = .ok (.ifCond .eq 42, 3) := by decide +kernel
theorem d_MO_order_96 : decode b_MO_order 96 = .ok (.iload_n 1, 1) := by decide +kernel
theorem d_MO_order_97 : decode b_MO_order 97 = .ok (.iload 6, 2) := by decide +kernel
theorem d_MO_order_99 : decode b_MO_order 99 = .ok (.invokestatic 106, 3) := by decide +kernel
theorem d_MO_order_102 : decode b_MO_order 102 = .ok (.ifCond .ne 33, 3) := by decide +kernel
theorem d_MO_order_105 : decode b_MO_order 105 = .ok (.iload 7, 2) := by decide +kernel
theorem d_MO_order_107 : decode b_MO_order 107 = .ok (.aload_n 0, 1) := by decide +kernel
theorem d_MO_order_108 : decode b_MO_order 108 = .ok (.getfield 48, 3) := by decide +kernel
theorem d_MO_order_111 : decode b_MO_order 111 = .ok (.bipush 8, 2) := by decide +kernel
theorem d_MO_order_113 : decode b_MO_order 113 = .ok (.iload 8, 2) := by decide +kernel
theorem d_MO_order_115 : decode b_MO_order 115 = .ok (.iload_n 1, 1) := by decide +kernel
theorem d_MO_order_116 : decode b_MO_order 116 = .ok (.isub, 1) := by decide +kernel
theorem d_MO_order_117 : decode b_MO_order 117 = .ok (.imul, 1) := by decide +kernel
theorem d_MO_order_118 : decode b_MO_order 118 = .ok (.iload 6, 2) := by decide +kernel
theorem d_MO_order_120 : decode b_MO_order 120 = .ok (.iadd, 1) := by decide +kernel
theorem d_MO_order_121 : decode b_MO_order 121 = .ok (.iaload, 1) := by decide +kernel
theorem d_MO_order_122 : decode b_MO_order 122 = .ok (.iadd, 1) := by decide +kernel
theorem d_MO_order_123 : decode b_MO_order 123 = .ok (.iload_n 2, 1) := by decide +kernel
theorem d_MO_order_124 : decode b_MO_order 124 = .ok (.if_icmp .ne 11, 3) := by decide +kernel
theorem d_MO_order_127 : decode b_MO_order 127 = .ok (.iload 6, 2) := by decide +kernel
theorem d_MO_order_129 : decode b_MO_order 129 = .ok (.istore 4, 2) := by decide +kernel
theorem d_MO_order_131 : decode b_MO_order 131 = .ok (.iload 7, 2) := by decide +kernel
theorem d_MO_order_133 : decode b_MO_order 133 = .ok (.istore 5, 2) := by decide +kernel
theorem d_MO_order_135 : decode b_MO_order 135 = .ok (.iinc 8 1, 3) := by decide +kernel
theorem d_MO_order_138 : decode b_MO_order 138 = .ok (.goto (-75), 3) := by decide +kernel
theorem d_MO_order_141 : decode b_MO_order 141 = .ok (.iinc 6 (-1), 3) := by decide +kernel
theorem d_MO_order_144 : decode b_MO_order 144 = .ok (.goto (-113), 3) := by decide +kernel
theorem d_MO_order_147 : decode b_MO_order 147 = .ok (.iconst 0, 1) := by decide +kernel
theorem d_MO_order_148 : decode b_MO_order 148 = .ok (.istore 6, 2) := by decide +kernel
theorem d_MO_order_150 : decode b_MO_order 150 = .ok (.iload 6, 2) := by decide +kernel
theorem d_MO_order_152 : decode b_MO_order 152 = .ok (.iconst 1, 1) := by decide +kernel
theorem d_MO_order_153 : decode b_MO_order 153 = .ok (.aload_n 0, 1) := by decide +kernel
theorem d_MO_order_154 : decode b_MO_order 154 = .ok (.getfield 73, 3) := by decide +kernel
theorem d_MO_order_157 : decode b_MO_order 157 = .ok (.ishl, 1) := by decide +kernel
theorem d_MO_order_158 : decode b_MO_order 158 = .ok (.if_icmp .ge 63, 3) := by decide +kernel
theorem d_MO_order_161 : decode b_MO_order 161 = .ok (.aload_n 0, 1) := by decide +kernel
theorem d_MO_order_162 : decode b_MO_order 162 = .ok (.getfield 51, 3) := by decide +kernel
theorem d_MO_order_165 : decode b_MO_order 165 = .ok (.iload 6, 2) := by decide +kernel
theorem d_MO_order_167 : decode b_MO_order 167 = .ok (.aload_n 0, 1) := by decide +kernel
theorem d_MO_order_168 : decode b_MO_order 168 = .ok (.getfield 51, 3) := by decide +kernel
theorem d_MO_order_171 : decode b_MO_order 171 = .ok (.iload 6, 2) := by decide +kernel
theorem d_MO_order_173 : decode b_MO_order 173 = .ok (.baload, 1) := by decide +kernel
theorem d_MO_order_174 : decode b_MO_order 174 = .ok (.ifCond .eq 39, 3) := by decide +kernel
theorem d_MO_order_177 : decode b_MO_order 177 = .ok (.iload 6, 2) := by decide +kernel
theorem d_MO_order_179 : decode b_MO_order 179 = .ok (.iload 4, 2) := by decide +kernel
theorem d_MO_order_181 : decode b_MO_order 181 = .ok (.invokestatic 106, 3) := by decide +kernel
theorem d_MO_order_184 : decode b_MO_order 184 = .ok (.ifCond .eq 29, 3) := by decide +kernel
theorem d_MO_order_187 : decode b_MO_order 187 = .ok (.iload 5, 2) := by decide +kernel
theorem d_MO_order_189 : decode b_MO_order 189 = .ok (.aload_n 0, 1) := by decide +kernel
theorem d_MO_order_190 : decode b_MO_order 190 = .ok (.getfield 48, 3) := by decide +kernel
theorem d_MO_order_193 : decode b_MO_order 193 = .ok (.bipush 8, 2) := by decide +kernel
theorem d_MO_order_195 : decode b_MO_order 195 = .ok (.iload 6, 2) := by decide +kernel
theorem d_MO_order_197 : decode b_MO_order 197 = .ok (.iload_n 1, 1) := by decide +kernel
theorem d_MO_order_198 : decode b_MO_order 198 = .ok (.isub, 1) := by decide +kernel
theorem d_MO_order_199 : decode b_MO_order 199 = .ok (.imul, 1) := by decide +kernel
theorem d_MO_order_200 : decode b_MO_order 200 = .ok (.iload 4, 2) := by decide +kernel
theorem d_MO_order_202 : decode b_MO_order 202 = .ok (.iadd, 1) := by decide +kernel
theorem d_MO_order_203 : decode b_MO_order 203 = .ok (.iaload, 1) := by decide +kernel
theorem d_MO_order_204 : decode b_MO_order 204 = .ok (.iadd, 1) := by decide +kernel
theorem d_MO_order_205 : decode b_MO_order 205 = .ok (.iload_n 2, 1) := by decide +kernel
theorem d_MO_order_206 : decode b_MO_order 206 = .ok (.if_icmp .ne 7, 3) := by decide +kernel
theorem d_MO_order_209 : decode b_MO_order 209 = .ok (.iconst 1, 1) := by decide +kernel
theorem d_MO_order_210 : decode b_MO_order 210 = .ok (.goto 4, 3) := by decide +kernel
theorem d_MO_order_213 : decode b_MO_order 213 = .ok (.iconst 0, 1) := by decide +kernel
theorem d_MO_order_214 : decode b_MO_order 214 = .ok (.bastore, 1) := by decide +kernel
theorem d_MO_order_215 : decode b_MO_order 215 = .ok (.iinc 6 1, 3) := by decide +kernel
theorem d_MO_order_218 : decode b_MO_order 218 = .ok (.goto (-68), 3) := by decide +kernel
theorem d_MO_order_221 : decode b_MO_order 221 = .ok (.aload_n 0, 1) := by decide +kernel
theorem d_MO_order_222 : decode b_MO_order 222 = .ok (.getfield 45, 3) := by decide +kernel
theorem d_MO_order_225 : decode b_MO_order 225 = .ok (.iload_n 3, 1) := by decide +kernel
theorem d_MO_order_226 : decode b_MO_order 226 = .ok (.iload 4, 2) := by decide +kernel
theorem d_MO_order_228 : decode b_MO_order 228 = .ok (.iastore, 1) := by decide +kernel
theorem d_MO_order_229 : decode b_MO_order 229 = .ok (.iload_n 1, 1) := by decide +kernel
theorem d_MO_order_230 : decode b_MO_order 230 = .ok (.iconst 1, 1) := by decide +kernel
theorem d_MO_order_231 : decode b_MO_order 231 = .ok (.iload 4, 2) := by decide +kernel
theorem d_MO_order_233 : decode b_MO_order 233 = .ok (.ishl, 1) := by decide +kernel
theorem d_MO_order_234 : decode b_MO_order 234 = .ok (.ior, 1) := by decide +kernel
theorem d_MO_order_235 : decode b_MO_order 235 = .ok (.istore_n 1, 1) := by decide +kernel
theorem d_MO_order_236 : decode b_MO_order 236 = .ok (.iload_n 2, 1) := by decide +kernel
theorem d_MO_order_237 : decode b_MO_order 237 = .ok (.iload 5, 2) := by decide +kernel
theorem d_MO_order_239 : decode b_MO_order 239 = .ok (.isub, 1) := by decide +kernel
theorem d_MO_order_240 : decode b_MO_order 240 = .ok (.aload_n 0, 1) := by decide +kernel
theorem d_MO_order_241 : decode b_MO_order 241 = .ok (.getfield 19, 3) := by decide +kernel
theorem d_MO_order_244 : decode b_MO_order 244 = .ok (.iload 4, 2) := by decide +kernel
theorem d_MO_order_246 : decode b_MO_order 246 = .ok (.iaload, 1) := by decide +kernel
theorem d_MO_order_247 : decode b_MO_order 247 = .ok (.isub, 1) := by decide +kernel
theorem d_MO_order_248 : decode b_MO_order 248 = .ok (.istore_n 2, 1) := by decide +kernel
theorem d_MO_order_249 : decode b_MO_order 249 = .ok (.iinc 3 1, 3) := by decide +kernel
theorem d_MO_order_252 : decode b_MO_order 252 = .ok (.goto (-243), 3) := by decide +kernel
theorem d_MO_order_255 : decode b_MO_order 255 = .ok (.return_, 1) := by decide +kernel
theorem d_MO_planned_0 : decode b_MO_planned 0 = .ok (.aload_n 0, 1) := by decide +kernel
theorem d_MO_planned_1 : decode b_MO_planned 1 = .ok (.iload_n 1, 1) := by decide +kernel
theorem d_MO_planned_2 : decode b_MO_planned 2 = .ok (.iconst 0, 1) := by decide +kernel
theorem d_MO_planned_3 : decode b_MO_planned 3 = .ok (.aload_n 0, 1) := by decide +kernel
theorem d_MO_planned_4 : decode b_MO_planned 4 = .ok (.getfield 118, 3) := by decide +kernel
theorem d_MO_planned_7 : decode b_MO_planned 7 = .ok (.iconst 1, 1) := by decide +kernel
theorem d_MO_planned_8 : decode b_MO_planned 8 = .ok (.isub, 1) := by decide +kernel
theorem d_MO_planned_9 : decode b_MO_planned 9 = .ok (.invokestatic 64, 3) := by decide +kernel
theorem d_MO_planned_12 : decode b_MO_planned 12 = .ok (.iconst 1, 1) := by decide +kernel
theorem d_MO_planned_13 : decode b_MO_planned 13 = .ok (.invokevirtual 69, 3) := by decide +kernel
theorem d_MO_planned_16 : decode b_MO_planned 16 = .ok (.ifCond .eq 12, 3) := by decide +kernel
theorem d_MO_planned_19 : decode b_MO_planned 19 = .ok (.aload_n 0, 1) := by decide +kernel
theorem d_MO_planned_20 : decode b_MO_planned 20 = .ok (.getfield 45, 3) := by decide +kernel
theorem d_MO_planned_23 : decode b_MO_planned 23 = .ok (.iload_n 1, 1) := by decide +kernel
theorem d_MO_planned_24 : decode b_MO_planned 24 = .ok (.iaload, 1) := by decide +kernel
theorem d_MO_planned_25 : decode b_MO_planned 25 = .ok (.goto 4, 3) := by decide +kernel
theorem d_MO_planned_28 : decode b_MO_planned 28 = .ok (.iconst 0, 1) := by decide +kernel
theorem d_MO_planned_29 : decode b_MO_planned 29 = .ok (.ireturn, 1) := by decide +kernel
theorem d_MO_seconds_0 : decode b_MO_seconds 0 = .ok (.aload_n 0, 1) := by decide +kernel
theorem d_MO_seconds_1 : decode b_MO_seconds 1 = .ok (.iconst 0, 1) := by decide +kernel
theorem d_MO_seconds_2 : decode b_MO_seconds 2 = .ok (.putfield 58, 3) := by decide +kernel
theorem d_MO_seconds_5 : decode b_MO_seconds 5 = .ok (.aload_n 0, 1) := by decide +kernel
theorem d_MO_seconds_6 : decode b_MO_seconds 6 = .ok (.getfield 115, 3) := by decide +kernel
theorem d_MO_seconds_9 : decode b_MO_seconds 9 = .ok (.ireturn, 1) := by decide +kernel
theorem d_MO_from_0 : decode b_MO_from 0 = .ok (.aload_n 0, 1) := by decide +kernel
theorem d_MO_from_1 : decode b_MO_from 1 = .ok (.iload_n 1, 1) := by decide +kernel
theorem d_MO_from_2 : decode b_MO_from 2 = .ok (.iconst 0, 1) := by decide +kernel
theorem d_MO_from_3 : decode b_MO_from 3 = .ok (.aload_n 0, 1) := by decide +kernel
theorem d_MO_from_4 : decode b_MO_from 4 = .ok (.getfield 73, 3) := by decide +kernel
theorem d_MO_from_7 : decode b_MO_from 7 = .ok (.iconst 1, 1) := by decide +kernel
theorem d_MO_from_8 : decode b_MO_from 8 = .ok (.isub, 1) := by decide +kernel
theorem d_MO_from_9 : decode b_MO_from 9 = .ok (.invokestatic 64, 3) := by decide +kernel
theorem d_MO_from_12 : decode b_MO_from 12 = .ok (.iconst 1, 1) := by decide +kernel
theorem d_MO_from_13 : decode b_MO_from 13 = .ok (.invokevirtual 69, 3) := by decide +kernel
theorem d_MO_from_16 : decode b_MO_from 16 = .ok (.ifCond .ne 5, 3) := by decide +kernel
theorem d_MO_from_19 : decode b_MO_from 19 = .ok (.iconst 0, 1) := by decide +kernel
theorem d_MO_from_20 : decode b_MO_from 20 = .ok (.ireturn, 1) := by decide +kernel
theorem d_MO_from_21 : decode b_MO_from 21 = .ok (.aload_n 0, 1) := by decide +kernel
theorem d_MO_from_22 : decode b_MO_from 22 = .ok (.getfield 22, 3) := by decide +kernel
theorem d_MO_from_25 : decode b_MO_from 25 = .ok (.iload_n 1, 1) := by decide +kernel
theorem d_MO_from_26 : decode b_MO_from 26 = .ok (.iaload, 1) := by decide +kernel
theorem d_MO_from_27 : decode b_MO_from 27 = .ok (.ifCond .ne 5, 3) := by decide +kernel
theorem d_MO_from_30 : decode b_MO_from 30 = .ok (.iconst (-1), 1) := by decide +kernel
theorem d_MO_from_31 : decode b_MO_from 31 = .ok (.ireturn, 1) := by decide +kernel
theorem d_MO_from_32 : decode b_MO_from 32 = .ok (.aload_n 0, 1) := by decide +kernel
theorem d_MO_from_33 : decode b_MO_from 33 = .ok (.invokevirtual 112, 3) := by decide +kernel
theorem d_MO_from_36 : decode b_MO_from 36 = .ok (.ldc 102, 2) := by decide +kernel
theorem d_MO_from_38 : decode b_MO_from 38 = .ok (.istore_n 2, 1) := by decide +kernel
theorem d_MO_from_39 : decode b_MO_from 39 = .ok (.iconst 1, 1) := by decide +kernel
theorem d_MO_from_40 : decode b_MO_from 40 = .ok (.istore_n 3, 1) := by decide +kernel
theorem d_MO_from_41 : decode b_MO_from 41 = .ok (.iload_n 3, 1) := by decide +kernel
theorem d_MO_from_42 : decode b_MO_from 42 = .ok (.iconst 1, 1) := by decide +kernel
theorem d_MO_from_43 : decode b_MO_from 43 = .ok (.aload_n 0, 1) := by decide +kernel
theorem d_MO_from_44 : decode b_MO_from 44 = .ok (.getfield 73, 3) := by decide +kernel
theorem d_MO_from_47 : decode b_MO_from 47 = .ok (.ishl, 1) := by decide +kernel
theorem d_MO_from_48 : decode b_MO_from 48 = .ok (.if_icmp .ge 72, 3) := by decide +kernel
theorem d_MO_from_51 : decode b_MO_from 51 = .ok (.iload_n 3, 1) := by decide +kernel
theorem d_MO_from_52 : decode b_MO_from 52 = .ok (.iload_n 1, 1) := by decide +kernel
theorem d_MO_from_53 : decode b_MO_from 53 = .ok (.invokestatic 106, 3) := by decide +kernel
theorem d_MO_from_56 : decode b_MO_from 56 = .ok (.ifCond .eq 19, 3) := by decide +kernel
theorem d_MO_from_59 : decode b_MO_from 59 = .ok (.aload_n 0, 1) := by decide +kernel
theorem d_MO_from_60 : decode b_MO_from 60 = .ok (.iload_n 3, 1) := by decide +kernel
theorem d_MO_from_61 : decode b_MO_from 61 = .ok (.invokevirtual 121, 3) := by decide +kernel
theorem d_MO_from_64 : decode b_MO_from 64 = .ok (.aload_n 0, 1) := by decide +kernel
theorem d_MO_from_65 : decode b_MO_from 65 = .ok (.invokevirtual 98, 3) := by decide +kernel
theorem d_MO_from_68 : decode b_MO_from 68 = .ok (.if_icmp .ne 7, 3) := by decide +kernel
theorem d_MO_from_71 : decode b_MO_from 71 = .ok (.iconst 1, 1) := by decide +kernel
theorem d_MO_from_72 : decode b_MO_from 72 = .ok (.goto 4, 3) := by decide +kernel
theorem d_MO_from_75 : decode b_MO_from 75 = .ok (.iconst 0, 1) := by decide +kernel
theorem d_MO_from_76 : decode b_MO_from 76 = .ok (.istore 4, 2) := by decide +kernel
theorem d_MO_from_78 : decode b_MO_from 78 = .ok (.iload 4, 2) := by decide +kernel
theorem d_MO_from_80 : decode b_MO_from 80 = .ok (.ifCond .eq 32, 3) := by decide +kernel
theorem d_MO_from_83 : decode b_MO_from 83 = .ok (.aload_n 0, 1) := by decide +kernel
theorem d_MO_from_84 : decode b_MO_from 84 = .ok (.getfield 48, 3) := by decide +kernel
theorem d_MO_from_87 : decode b_MO_from 87 = .ok (.bipush 8, 2) := by decide +kernel
theorem d_MO_from_89 : decode b_MO_from 89 = .ok (.iload_n 3, 1) := by decide +kernel
theorem d_MO_from_90 : decode b_MO_from 90 = .ok (.imul, 1) := by decide +kernel
theorem d_MO_from_91 : decode b_MO_from 91 = .ok (.iload_n 1, 1) := by decide +kernel
theorem d_MO_from_92 : decode b_MO_from 92 = .ok (.iadd, 1) := by decide +kernel
theorem d_MO_from_93 : decode b_MO_from 93 = .ok (.iaload, 1) := by decide +kernel
theorem d_MO_from_94 : decode b_MO_from 94 = .ok (.iload_n 2, 1) := by decide +kernel
theorem d_MO_from_95 : decode b_MO_from 95 = .ok (.if_icmp .ge 17, 3) := by decide +kernel
theorem d_MO_from_98 : decode b_MO_from 98 = .ok (.aload_n 0, 1) := by decide +kernel
theorem d_MO_from_99 : decode b_MO_from 99 = .ok (.getfield 48, 3) := by decide +kernel
theorem d_MO_from_102 : decode b_MO_from 102 = .ok (.bipush 8, 2) := by decide +kernel
theorem d_MO_from_104 : decode b_MO_from 104 = .ok (.iload_n 3, 1) := by decide +kernel
theorem d_MO_from_105 : decode b_MO_from 105 = .ok (.imul, 1) := by decide +kernel
theorem d_MO_from_106 : decode b_MO_from 106 = .ok (.iload_n 1, 1) := by decide +kernel
theorem d_MO_from_107 : decode b_MO_from 107 = .ok (.iadd, 1) := by decide +kernel
theorem d_MO_from_108 : decode b_MO_from 108 = .ok (.iaload, 1) := by decide +kernel
theorem d_MO_from_109 : decode b_MO_from 109 = .ok (.goto 4, 3) := by decide +kernel
theorem d_MO_from_112 : decode b_MO_from 112 = .ok (.iload_n 2, 1) := by decide +kernel
theorem d_MO_from_113 : decode b_MO_from 113 = .ok (.istore_n 2, 1) := by decide +kernel
theorem d_MO_from_114 : decode b_MO_from 114 = .ok (.iinc 3 1, 3) := by decide +kernel
theorem d_MO_from_117 : decode b_MO_from 117 = .ok (.goto (-76), 3) := by decide +kernel
theorem d_MO_from_120 : decode b_MO_from 120 = .ok (.iload_n 2, 1) := by decide +kernel
theorem d_MO_from_121 : decode b_MO_from 121 = .ok (.ireturn, 1) := by decide +kernel
end
section
theorem d_MA_min_0 : decode b_MA_min 0 = .ok (.iload_n 0, 1) := by decide +kernel
theorem d_MA_min_1 : decode b_MA_min 1 = .ok (.iload_n 1, 1) := by decide +kernel
theorem d_MA_min_2 : decode b_MA_min 2 = .ok (.if_icmp .gt 7, 3) := by decide +kernel
theorem d_MA_min_5 : decode b_MA_min 5 = .ok (.iload_n 0, 1) := by decide +kernel
theorem d_MA_min_6 : decode b_MA_min 6 = .ok (.goto 4, 3) := by decide +kernel
theorem d_MA_min_9 : decode b_MA_min 9 = .ok (.iload_n 1, 1) := by decide +kernel
theorem d_MA_min_10 : decode b_MA_min 10 = .ok (.ireturn, 1) := by decide +kernel
theorem d_MA_max_0 : decode b_MA_max 0 = .ok (.iload_n 0, 1) := by decide +kernel
theorem d_MA_max_1 : decode b_MA_max 1 = .ok (.iload_n 1, 1) := by decide +kernel
theorem d_MA_max_2 : decode b_MA_max 2 = .ok (.if_icmp .lt 7, 3) := by decide +kernel
theorem d_MA_max_5 : decode b_MA_max 5 = .ok (.iload_n 0, 1) := by decide +kernel
theorem d_MA_max_6 : decode b_MA_max 6 = .ok (.goto 4, 3) := by decide +kernel
theorem d_MA_max_9 : decode b_MA_max 9 = .ok (.iload_n 1, 1) := by decide +kernel
theorem d_MA_max_10 : decode b_MA_max 10 = .ok (.ireturn, 1) := by decide +kernel
theorem d_AL_init_0 : decode b_AL_init 0 = .ok (.aload_n 0, 1) := by decide +kernel
theorem d_AL_init_1 : decode b_AL_init 1 = .ok (.invokespecial 1, 3) := by decide +kernel
theorem d_AL_init_4 : decode b_AL_init 4 = .ok (.aload_n 0, 1) := by decide +kernel
theorem d_AL_init_5 : decode b_AL_init 5 = .ok (.getstatic 39, 3) := by decide +kernel
theorem d_AL_init_8 : decode b_AL_init 8 = .ok (.putfield 9, 3) := by decide +kernel
theorem d_AL_init_11 : decode b_AL_init 11 = .ok (.return_, 1) := by decide +kernel
theorem d_BL_init_0 : decode b_BL_init 0 = .ok (.aload_n 0, 1) := by decide +kernel
theorem d_BL_init_1 : decode b_BL_init 1 = .ok (.invokespecial 1, 3) := by decide +kernel
theorem d_BL_init_4 : decode b_BL_init 4 = .ok (.aload_n 0, 1) := by decide +kernel
theorem d_BL_init_5 : decode b_BL_init 5 = .ok (.iconst 0, 1) := by decide +kernel
theorem d_BL_init_6 : decode b_BL_init 6 = .ok (.putfield 7, 3) := by decide +kernel
theorem d_BL_init_9 : decode b_BL_init 9 = .ok (.return_, 1) := by decide +kernel
theorem d_BC_init_0 : decode b_BC_init 0 = .ok (.aload_n 0, 1) := by decide +kernel
theorem d_BC_init_1 : decode b_BC_init 1 = .ok (.invokespecial 1, 3) := by decide +kernel
theorem d_BC_init_4 : decode b_BC_init 4 = .ok (.return_, 1) := by decide +kernel
theorem d_AL_size_0 : decode b_AL_size 0 = .ok (.aload_n 0, 1) := by decide +kernel
theorem d_AL_size_1 : decode b_AL_size 1 = .ok (.getfield 48, 3) := by decide +kernel
theorem d_AL_size_4 : decode b_AL_size 4 = .ok (.ireturn, 1) := by decide +kernel
theorem d_AL_get_0 : decode b_AL_get 0 = .ok (.iload_n 1, 1) := by decide +kernel
theorem d_AL_get_1 : decode b_AL_get 1 = .ok (.aload_n 0, 1) := by decide +kernel
theorem d_AL_get_2 : decode b_AL_get 2 = .ok (.getfield 48, 3) := by decide +kernel
theorem d_AL_get_5 : decode b_AL_get 5 = .ok (.invokestatic 118, 3) := by decide +kernel
theorem d_AL_get_8 : decode b_AL_get 8 = .ok (.pop, 1) := by decide +kernel
theorem d_AL_get_9 : decode b_AL_get 9 = .ok (.aload_n 0, 1) := by decide +kernel
theorem d_AL_get_10 : decode b_AL_get 10 = .ok (.iload_n 1, 1) := by decide +kernel
theorem d_AL_get_11 : decode b_AL_get 11 = .ok (.invokevirtual 123, 3) := by decide +kernel
theorem d_AL_get_14 : decode b_AL_get 14 = .ok (.areturn, 1) := by decide +kernel
theorem d_OB_checkIndex_0 : decode b_OB_checkIndex 0 = .ok (.iload_n 0, 1) := by decide +kernel
theorem d_OB_checkIndex_1 : decode b_OB_checkIndex 1 = .ok (.iload_n 1, 1) := by decide +kernel
theorem d_OB_checkIndex_2 : decode b_OB_checkIndex 2 = .ok (.aconst_null, 1) := by decide +kernel
theorem d_OB_checkIndex_3 : decode b_OB_checkIndex 3 = .ok (.invokestatic 105, 3) := by decide +kernel
theorem d_OB_checkIndex_6 : decode b_OB_checkIndex 6 = .ok (.ireturn, 1) := by decide +kernel
theorem d_PR_checkIndex_0 : decode b_PR_checkIndex 0 = .ok (.iload_n 0, 1) := by decide +kernel
theorem d_PR_checkIndex_1 : decode b_PR_checkIndex 1 = .ok (.ifCond .lt 8, 3) := by decide +kernel
theorem d_PR_checkIndex_4 : decode b_PR_checkIndex 4 = .ok (.iload_n 0, 1) := by decide +kernel
theorem d_PR_checkIndex_5 : decode b_PR_checkIndex 5 = .ok (.iload_n 1, 1) := by decide +kernel
theorem d_PR_checkIndex_6 : decode b_PR_checkIndex 6 = .ok (.if_icmp .lt 10, 3) := by decide +kernel
theorem d_PR_checkIndex_9 : decode b_PR_checkIndex 9 = .ok (.aload_n 2, 1) := by decide +kernel
theorem d_PR_checkIndex_10 : decode b_PR_checkIndex 10 = .ok (.iload_n 0, 1) := by decide +kernel
theorem d_PR_checkIndex_11 : decode b_PR_checkIndex 11 = .ok (.iload_n 1, 1) := by decide +kernel
theorem d_PR_checkIndex_12 : decode b_PR_checkIndex 12 = .ok (.invokestatic 95, 3) := by decide +kernel
theorem d_PR_checkIndex_15 : decode b_PR_checkIndex 15 = .ok (.athrow, 1) := by decide +kernel
theorem d_PR_checkIndex_16 : decode b_PR_checkIndex 16 = .ok (.iload_n 0, 1) := by decide +kernel
theorem d_PR_checkIndex_17 : decode b_PR_checkIndex 17 = .ok (.ireturn, 1) := by decide +kernel
theorem d_AL_elementData_0 : decode b_AL_elementData 0 = .ok (.aload_n 0, 1) := by decide +kernel
theorem d_AL_elementData_1 : decode b_AL_elementData 1 = .ok (.getfield 9, 3) := by decide +kernel
theorem d_AL_elementData_4 : decode b_AL_elementData 4 = .ok (.iload_n 1, 1) := by decide +kernel
theorem d_AL_elementData_5 : decode b_AL_elementData 5 = .ok (.aaload, 1) := by decide +kernel
theorem d_AL_elementData_6 : decode b_AL_elementData 6 = .ok (.areturn, 1) := by decide +kernel
theorem d_AL_add_0 : decode b_AL_add 0 = .ok (.aload_n 0, 1) := by decide +kernel
theorem d_AL_add_1 : decode b_AL_add 1 = .ok (.dup, 1) := by decide +kernel
theorem d_AL_add_2 : decode b_AL_add 2 = .ok (.getfield 63, 3) := by decide +kernel
theorem d_AL_add_5 : decode b_AL_add 5 = .ok (.iconst 1, 1) := by decide +kernel
theorem d_AL_add_6 : decode b_AL_add 6 = .ok (.iadd, 1) := by decide +kernel
theorem d_AL_add_7 : decode b_AL_add 7 = .ok (.putfield 63, 3) := by decide +kernel
theorem d_AL_add_10 : decode b_AL_add 10 = .ok (.aload_n 0, 1) := by decide +kernel
theorem d_AL_add_11 : decode b_AL_add 11 = .ok (.aload_n 1, 1) := by decide +kernel
theorem d_AL_add_12 : decode b_AL_add 12 = .ok (.aload_n 0, 1) := by decide +kernel
theorem d_AL_add_13 : decode b_AL_add 13 = .ok (.getfield 9, 3) := by decide +kernel
theorem d_AL_add_16 : decode b_AL_add 16 = .ok (.aload_n 0, 1) := by decide +kernel
theorem d_AL_add_17 : decode b_AL_add 17 = .ok (.getfield 48, 3) := by decide +kernel
theorem d_AL_add_20 : decode b_AL_add 20 = .ok (.invokevirtual 131, 3) := by decide +kernel
theorem d_AL_add_23 : decode b_AL_add 23 = .ok (.iconst 1, 1) := by decide +kernel
theorem d_AL_add_24 : decode b_AL_add 24 = .ok (.ireturn, 1) := by decide +kernel
theorem d_AL_add2_0 : decode b_AL_add2 0 = .ok (.iload_n 3, 1) := by decide +kernel
theorem d_AL_add2_1 : decode b_AL_add2 1 = .ok (.aload_n 2, 1) := by decide +kernel
theorem d_AL_add2_2 : decode b_AL_add2 2 = .ok (.arraylength, 1) := by decide +kernel
theorem d_AL_add2_3 : decode b_AL_add2 3 = .ok (.if_icmp .ne 8, 3) := by decide +kernel
theorem d_AL_add2_6 : decode b_AL_add2 6 = .ok (.aload_n 0, 1) := by decide +kernel
theorem d_AL_add2_7 : decode b_AL_add2 7 = .ok (.invokevirtual 129, 3) := by decide +kernel
theorem d_AL_add2_10 : decode b_AL_add2 10 = .ok (.astore_n 2, 1) := by decide +kernel
theorem d_AL_add2_11 : decode b_AL_add2 11 = .ok (.aload_n 2, 1) := by decide +kernel
theorem d_AL_add2_12 : decode b_AL_add2 12 = .ok (.iload_n 3, 1) := by decide +kernel
theorem d_AL_add2_13 : decode b_AL_add2 13 = .ok (.aload_n 1, 1) := by decide +kernel
theorem d_AL_add2_14 : decode b_AL_add2 14 = .ok (.aastore, 1) := by decide +kernel
theorem d_AL_add2_15 : decode b_AL_add2 15 = .ok (.aload_n 0, 1) := by decide +kernel
theorem d_AL_add2_16 : decode b_AL_add2 16 = .ok (.iload_n 3, 1) := by decide +kernel
theorem d_AL_add2_17 : decode b_AL_add2 17 = .ok (.iconst 1, 1) := by decide +kernel
theorem d_AL_add2_18 : decode b_AL_add2 18 = .ok (.iadd, 1) := by decide +kernel
theorem d_AL_add2_19 : decode b_AL_add2 19 = .ok (.putfield 48, 3) := by decide +kernel
theorem d_AL_add2_22 : decode b_AL_add2 22 = .ok (.return_, 1) := by decide +kernel
theorem d_AL_grow_0 : decode b_AL_grow 0 = .ok (.aload_n 0, 1) := by decide +kernel
theorem d_AL_grow_1 : decode b_AL_grow 1 = .ok (.aload_n 0, 1) := by decide +kernel
theorem d_AL_grow_2 : decode b_AL_grow 2 = .ok (.getfield 48, 3) := by decide +kernel
theorem d_AL_grow_5 : decode b_AL_grow 5 = .ok (.iconst 1, 1) := by decide +kernel
theorem d_AL_grow_6 : decode b_AL_grow 6 = .ok (.iadd, 1) := by decide +kernel
theorem d_AL_grow_7 : decode b_AL_grow 7 = .ok (.invokevirtual 69, 3) := by decide +kernel
theorem d_AL_grow_10 : decode b_AL_grow 10 = .ok (.areturn, 1) := by decide +kernel
theorem d_AL_grow2_0 : decode b_AL_grow2 0 = .ok (.aload_n 0, 1) := by decide +kernel
theorem d_AL_grow2_1 : decode b_AL_grow2 1 = .ok (.getfield 9, 3) := by decide +kernel
theorem d_AL_grow2_4 : decode b_AL_grow2 4 = .ok (.arraylength, 1) := by decide +kernel
theorem d_AL_grow2_5 : decode b_AL_grow2 5 = .ok (.istore_n 2, 1) := by decide +kernel
theorem d_AL_grow2_6 : decode b_AL_grow2 6 = .ok (.iload_n 2, 1) := by decide +kernel
theorem d_AL_grow2_7 : decode b_AL_grow2 7 = .ok (.ifCond .gt 13, 3) := by decide +kernel
theorem d_AL_grow2_10 : decode b_AL_grow2 10 = .ok (.aload_n 0, 1) := by decide +kernel
theorem d_AL_grow2_11 : decode b_AL_grow2 11 = .ok (.getfield 9, 3) := by decide +kernel
theorem d_AL_grow2_14 : decode b_AL_grow2 14 = .ok (.getstatic 39, 3) := by decide +kernel
theorem d_AL_grow2_17 : decode b_AL_grow2 17 = .ok (.if_acmp .eq 28, 3) := by decide +kernel
theorem d_AL_grow2_20 : decode b_AL_grow2 20 = .ok (.iload_n 2, 1) := by decide +kernel
theorem d_AL_grow2_21 : decode b_AL_grow2 21 = .ok (.iload_n 1, 1) := by decide +kernel
theorem d_AL_grow2_22 : decode b_AL_grow2 22 = .ok (.iload_n 2, 1) := by decide +kernel
theorem d_AL_grow2_23 : decode b_AL_grow2 23 = .ok (.isub, 1) := by decide +kernel
theorem d_AL_grow2_24 : decode b_AL_grow2 24 = .ok (.iload_n 2, 1) := by decide +kernel
theorem d_AL_grow2_25 : decode b_AL_grow2 25 = .ok (.iconst 1, 1) := by decide +kernel
theorem d_AL_grow2_26 : decode b_AL_grow2 26 = .ok (.ishr, 1) := by decide +kernel
theorem d_AL_grow2_27 : decode b_AL_grow2 27 = .ok (.invokestatic 73, 3) := by decide +kernel
theorem d_AL_grow2_30 : decode b_AL_grow2 30 = .ok (.istore_n 3, 1) := by decide +kernel
theorem d_AL_grow2_31 : decode b_AL_grow2 31 = .ok (.aload_n 0, 1) := by decide +kernel
theorem d_AL_grow2_32 : decode b_AL_grow2 32 = .ok (.aload_n 0, 1) := by decide +kernel
theorem d_AL_grow2_33 : decode b_AL_grow2 33 = .ok (.getfield 9, 3) := by decide +kernel
theorem d_AL_grow2_36 : decode b_AL_grow2 36 = .ok (.iload_n 3, 1) := by decide +kernel
theorem d_AL_grow2_37 : decode b_AL_grow2 37 = .ok (.invokestatic 66, 3) := by decide +kernel
theorem d_AL_grow2_40 : decode b_AL_grow2 40 = .ok (.dup_x1, 1) := by decide +kernel
theorem d_AL_grow2_41 : decode b_AL_grow2 41 = .ok (.putfield 9, 3) := by decide +kernel
theorem d_AL_grow2_44 : decode b_AL_grow2 44 = .ok (.areturn, 1) := by decide +kernel
theorem d_AL_grow2_45 : decode b_AL_grow2 45 = .ok (.aload_n 0, 1) := by decide +kernel
theorem d_AL_grow2_46 : decode b_AL_grow2 46 = .ok (.bipush 10, 2) := by decide +kernel
theorem d_AL_grow2_48 : decode b_AL_grow2 48 = .ok (.iload_n 1, 1) := by decide +kernel
theorem d_AL_grow2_49 : decode b_AL_grow2 49 = .ok (.invokestatic 79, 3) := by decide +kernel
theorem d_AL_grow2_52 : decode b_AL_grow2 52 = .ok (.anewarray 7, 3) := by decide +kernel
theorem d_AL_grow2_55 : decode b_AL_grow2 55 = .ok (.dup_x1, 1) := by decide +kernel
theorem d_AL_grow2_56 : decode b_AL_grow2 56 = .ok (.putfield 9, 3) := by decide +kernel
theorem d_AL_grow2_59 : decode b_AL_grow2 59 = .ok (.areturn, 1) := by decide +kernel
theorem d_AS_newLength_0 : decode b_AS_newLength 0 = .ok (.iload_n 0, 1) := by decide +kernel
theorem d_AS_newLength_1 : decode b_AS_newLength 1 = .ok (.iload_n 1, 1) := by decide +kernel
theorem d_AS_newLength_2 : decode b_AS_newLength 2 = .ok (.iload_n 2, 1) := by decide +kernel
theorem d_AS_newLength_3 : decode b_AS_newLength 3 = .ok (.invokestatic 194, 3) := by decide +kernel
theorem d_AS_newLength_6 : decode b_AS_newLength 6 = .ok (.iadd, 1) := by decide +kernel
theorem d_AS_newLength_7 : decode b_AS_newLength 7 = .ok (.istore_n 3, 1) := by decide +kernel
theorem d_AS_newLength_8 : decode b_AS_newLength 8 = .ok (.iconst 0, 1) := by decide +kernel
theorem d_AS_newLength_9 : decode b_AS_newLength 9 = .ok (.iload_n 3, 1) := by decide +kernel
theorem d_AS_newLength_10 : decode b_AS_newLength 10 = .ok (.if_icmp .ge 11, 3) := by decide +kernel
theorem d_AS_newLength_13 : decode b_AS_newLength 13 = .ok (.iload_n 3, 1) := by decide +kernel
theorem d_AS_newLength_14 : decode b_AS_newLength 14 = .ok (.ldc 200, 2) := by decide +kernel
theorem d_AS_newLength_16 : decode b_AS_newLength 16 = .ok (.if_icmp .gt 5, 3) := by decide +kernel
theorem d_AS_newLength_19 : decode b_AS_newLength 19 = .ok (.iload_n 3, 1) := by decide +kernel
theorem d_AS_newLength_20 : decode b_AS_newLength 20 = .ok (.ireturn, 1) := by decide +kernel
theorem d_AS_newLength_21 : decode b_AS_newLength 21 = .ok (.iload_n 0, 1) := by decide +kernel
theorem d_AS_newLength_22 : decode b_AS_newLength 22 = .ok (.iload_n 1, 1) := by decide +kernel
theorem d_AS_newLength_23 : decode b_AS_newLength 23 = .ok (.invokestatic 201, 3) := by decide +kernel
theorem d_AS_newLength_26 : decode b_AS_newLength 26 = .ok (.ireturn, 1) := by decide +kernel
theorem d_AS_hugeLength_0 : decode b_AS_hugeLength 0 = .ok (.iload_n 0, 1) := by decide +kernel
theorem d_AS_hugeLength_1 : decode b_AS_hugeLength 1 = .ok (.iload_n 1, 1) := by decide +kernel
theorem d_AS_hugeLength_2 : decode b_AS_hugeLength 2 = .ok (.iadd, 1) := by decide +kernel
theorem d_AS_hugeLength_3 : decode b_AS_hugeLength 3 = .ok (.istore_n 2, 1) := by decide +kernel
theorem d_AS_hugeLength_4 : decode b_AS_hugeLength 4 = .ok (.iload_n 2, 1) := by decide +kernel
theorem d_AS_hugeLength_5 : decode b_AS_hugeLength 5 = .ok (.ifCond .ge 44, 3) := by decide +kernel
theorem d_AS_hugeLength_8 : decode b_AS_hugeLength 8 = .ok (.new 204, 3) := by decide +kernel
theorem d_AS_hugeLength_11 : decode b_AS_hugeLength 11 = .ok (.dup, 1) := by decide +kernel
theorem d_AS_hugeLength_12 : decode b_AS_hugeLength 12 = .ok (.new 89, 3) := by decide +kernel
theorem d_AS_hugeLength_15 : decode b_AS_hugeLength 15 = .ok (.dup, 1) := by decide +kernel
theorem d_AS_hugeLength_16 : decode b_AS_hugeLength 16 = .ok (.invokespecial 91, 3) := by decide +kernel
theorem d_AS_hugeLength_19 : decode b_AS_hugeLength 19 = .ok (.ldc 206, 2) := by decide +kernel
theorem d_AS_hugeLength_21 : decode b_AS_hugeLength 21 = .ok (.invokevirtual 94, 3) := by decide +kernel
theorem d_AS_hugeLength_24 : decode b_AS_hugeLength 24 = .ok (.iload_n 0, 1) := by decide +kernel
theorem d_AS_hugeLength_25 : decode b_AS_hugeLength 25 = .ok (.invokevirtual 98, 3) := by decide +kernel
theorem d_AS_hugeLength_28 : decode b_AS_hugeLength 28 = .ok (.ldc 208, 2) := by decide +kernel
theorem d_AS_hugeLength_30 : decode b_AS_hugeLength 30 = .ok (.invokevirtual 94, 3) := by decide +kernel
theorem d_AS_hugeLength_33 : decode b_AS_hugeLength 33 = .ok (.iload_n 1, 1) := by decide +kernel
theorem d_AS_hugeLength_34 : decode b_AS_hugeLength 34 = .ok (.invokevirtual 98, 3) := by decide +kernel
theorem d_AS_hugeLength_37 : decode b_AS_hugeLength 37 = .ok (.ldc 210, 2) := by decide +kernel
theorem d_AS_hugeLength_39 : decode b_AS_hugeLength 39 = .ok (.invokevirtual 94, 3) := by decide +kernel
theorem d_AS_hugeLength_42 : decode b_AS_hugeLength 42 = .ok (.invokevirtual 101, 3) := by decide +kernel
theorem d_AS_hugeLength_45 : decode b_AS_hugeLength 45 = .ok (.invokespecial 212, 3) := by decide +kernel
theorem d_AS_hugeLength_48 : decode b_AS_hugeLength 48 = .ok (.athrow, 1) := by decide +kernel
theorem d_AS_hugeLength_49 : decode b_AS_hugeLength 49 = .ok (.iload_n 2, 1) := by decide +kernel
theorem d_AS_hugeLength_50 : decode b_AS_hugeLength 50 = .ok (.ldc 200, 2) := by decide +kernel
theorem d_AS_hugeLength_52 : decode b_AS_hugeLength 52 = .ok (.if_icmp .gt 6, 3) := by decide +kernel
theorem d_AS_hugeLength_55 : decode b_AS_hugeLength 55 = .ok (.ldc 200, 2) := by decide +kernel
theorem d_AS_hugeLength_57 : decode b_AS_hugeLength 57 = .ok (.ireturn, 1) := by decide +kernel
theorem d_AS_hugeLength_58 : decode b_AS_hugeLength 58 = .ok (.iload_n 2, 1) := by decide +kernel
theorem d_AS_hugeLength_59 : decode b_AS_hugeLength 59 = .ok (.ireturn, 1) := by decide +kernel
theorem d_AR_copyOf_0 : decode b_AR_copyOf 0 = .ok (.aload_n 0, 1) := by decide +kernel
theorem d_AR_copyOf_1 : decode b_AR_copyOf 1 = .ok (.iload_n 1, 1) := by decide +kernel
theorem d_AR_copyOf_2 : decode b_AR_copyOf 2 = .ok (.aload_n 0, 1) := by decide +kernel
theorem d_AR_copyOf_3 : decode b_AR_copyOf 3 = .ok (.invokevirtual 86, 3) := by decide +kernel
theorem d_AR_copyOf_6 : decode b_AR_copyOf 6 = .ok (.invokestatic 300, 3) := by decide +kernel
theorem d_AR_copyOf_9 : decode b_AR_copyOf 9 = .ok (.areturn, 1) := by decide +kernel
theorem d_AR_copyOf2_0 : decode b_AR_copyOf2 0 = .ok (.aload_n 2, 1) := by decide +kernel
theorem d_AR_copyOf2_1 : decode b_AR_copyOf2 1 = .ok (.ldc 110, 2) := by decide +kernel
theorem d_AR_copyOf2_3 : decode b_AR_copyOf2 3 = .ok (.if_acmp .ne 10, 3) := by decide +kernel
theorem d_AR_copyOf2_6 : decode b_AR_copyOf2 6 = .ok (.iload_n 1, 1) := by decide +kernel
theorem d_AR_copyOf2_7 : decode b_AR_copyOf2 7 = .ok (.anewarray 2, 3) := by decide +kernel
theorem d_AR_copyOf2_10 : decode b_AR_copyOf2 10 = .ok (.goto 14, 3) := by decide +kernel
theorem d_AR_copyOf2_13 : decode b_AR_copyOf2 13 = .ok (.aload_n 2, 1) := by decide +kernel
theorem d_AR_copyOf2_14 : decode b_AR_copyOf2 14 = .ok (.invokevirtual 90, 3) := by decide +kernel
theorem d_AR_copyOf2_17 : decode b_AR_copyOf2 17 = .ok (.iload_n 1, 1) := by decide +kernel
theorem d_AR_copyOf2_18 : decode b_AR_copyOf2 18 = .ok (.invokestatic 95, 3) := by decide +kernel
theorem d_AR_copyOf2_21 : decode b_AR_copyOf2 21 = .ok (.checkcast 110, 3) := by decide +kernel
theorem d_AR_copyOf2_24 : decode b_AR_copyOf2 24 = .ok (.astore_n 3, 1) := by decide +kernel
theorem d_AR_copyOf2_25 : decode b_AR_copyOf2 25 = .ok (.aload_n 0, 1) := by decide +kernel
theorem d_AR_copyOf2_26 : decode b_AR_copyOf2 26 = .ok (.iconst 0, 1) := by decide +kernel
theorem d_AR_copyOf2_27 : decode b_AR_copyOf2 27 = .ok (.aload_n 3, 1) := by decide +kernel
theorem d_AR_copyOf2_28 : decode b_AR_copyOf2 28 = .ok (.iconst 0, 1) := by decide +kernel
theorem d_AR_copyOf2_29 : decode b_AR_copyOf2 29 = .ok (.aload_n 0, 1) := by decide +kernel
theorem d_AR_copyOf2_30 : decode b_AR_copyOf2 30 = .ok (.arraylength, 1) := by decide +kernel
theorem d_AR_copyOf2_31 : decode b_AR_copyOf2 31 = .ok (.iload_n 1, 1) := by decide +kernel
theorem d_AR_copyOf2_32 : decode b_AR_copyOf2 32 = .ok (.invokestatic 304, 3) := by decide +kernel
theorem d_AR_copyOf2_35 : decode b_AR_copyOf2 35 = .ok (.invokestatic 150, 3) := by decide +kernel
theorem d_AR_copyOf2_38 : decode b_AR_copyOf2 38 = .ok (.aload_n 3, 1) := by decide +kernel
theorem d_AR_copyOf2_39 : decode b_AR_copyOf2 39 = .ok (.areturn, 1) := by decide +kernel
theorem d_IN_bitCount_0 : decode b_IN_bitCount 0 = .ok (.iload_n 0, 1) := by decide +kernel
theorem d_IN_bitCount_1 : decode b_IN_bitCount 1 = .ok (.iload_n 0, 1) := by decide +kernel
theorem d_IN_bitCount_2 : decode b_IN_bitCount 2 = .ok (.iconst 1, 1) := by decide +kernel
theorem d_IN_bitCount_3 : decode b_IN_bitCount 3 = .ok (.iushr, 1) := by decide +kernel
theorem d_IN_bitCount_4 : decode b_IN_bitCount 4 = .ok (.ldc_w 265, 3) := by decide +kernel
theorem d_IN_bitCount_7 : decode b_IN_bitCount 7 = .ok (.iand, 1) := by decide +kernel
theorem d_IN_bitCount_8 : decode b_IN_bitCount 8 = .ok (.isub, 1) := by decide +kernel
theorem d_IN_bitCount_9 : decode b_IN_bitCount 9 = .ok (.istore_n 0, 1) := by decide +kernel
theorem d_IN_bitCount_10 : decode b_IN_bitCount 10 = .ok (.iload_n 0, 1) := by decide +kernel
theorem d_IN_bitCount_11 : decode b_IN_bitCount 11 = .ok (.ldc_w 266, 3) := by decide +kernel
theorem d_IN_bitCount_14 : decode b_IN_bitCount 14 = .ok (.iand, 1) := by decide +kernel
theorem d_IN_bitCount_15 : decode b_IN_bitCount 15 = .ok (.iload_n 0, 1) := by decide +kernel
theorem d_IN_bitCount_16 : decode b_IN_bitCount 16 = .ok (.iconst 2, 1) := by decide +kernel
theorem d_IN_bitCount_17 : decode b_IN_bitCount 17 = .ok (.iushr, 1) := by decide +kernel
theorem d_IN_bitCount_18 : decode b_IN_bitCount 18 = .ok (.ldc_w 266, 3) := by decide +kernel
theorem d_IN_bitCount_21 : decode b_IN_bitCount 21 = .ok (.iand, 1) := by decide +kernel
theorem d_IN_bitCount_22 : decode b_IN_bitCount 22 = .ok (.iadd, 1) := by decide +kernel
theorem d_IN_bitCount_23 : decode b_IN_bitCount 23 = .ok (.istore_n 0, 1) := by decide +kernel
theorem d_IN_bitCount_24 : decode b_IN_bitCount 24 = .ok (.iload_n 0, 1) := by decide +kernel
theorem d_IN_bitCount_25 : decode b_IN_bitCount 25 = .ok (.iload_n 0, 1) := by decide +kernel
theorem d_IN_bitCount_26 : decode b_IN_bitCount 26 = .ok (.iconst 4, 1) := by decide +kernel
theorem d_IN_bitCount_27 : decode b_IN_bitCount 27 = .ok (.iushr, 1) := by decide +kernel
theorem d_IN_bitCount_28 : decode b_IN_bitCount 28 = .ok (.iadd, 1) := by decide +kernel
theorem d_IN_bitCount_29 : decode b_IN_bitCount 29 = .ok (.ldc_w 267, 3) := by decide +kernel
theorem d_IN_bitCount_32 : decode b_IN_bitCount 32 = .ok (.iand, 1) := by decide +kernel
theorem d_IN_bitCount_33 : decode b_IN_bitCount 33 = .ok (.istore_n 0, 1) := by decide +kernel
theorem d_IN_bitCount_34 : decode b_IN_bitCount 34 = .ok (.iload_n 0, 1) := by decide +kernel
theorem d_IN_bitCount_35 : decode b_IN_bitCount 35 = .ok (.iload_n 0, 1) := by decide +kernel
theorem d_IN_bitCount_36 : decode b_IN_bitCount 36 = .ok (.bipush 8, 2) := by decide +kernel
theorem d_IN_bitCount_38 : decode b_IN_bitCount 38 = .ok (.iushr, 1) := by decide +kernel
theorem d_IN_bitCount_39 : decode b_IN_bitCount 39 = .ok (.iadd, 1) := by decide +kernel
theorem d_IN_bitCount_40 : decode b_IN_bitCount 40 = .ok (.istore_n 0, 1) := by decide +kernel
theorem d_IN_bitCount_41 : decode b_IN_bitCount 41 = .ok (.iload_n 0, 1) := by decide +kernel
theorem d_IN_bitCount_42 : decode b_IN_bitCount 42 = .ok (.iload_n 0, 1) := by decide +kernel
theorem d_IN_bitCount_43 : decode b_IN_bitCount 43 = .ok (.bipush 16, 2) := by decide +kernel
theorem d_IN_bitCount_45 : decode b_IN_bitCount 45 = .ok (.iushr, 1) := by decide +kernel
theorem d_IN_bitCount_46 : decode b_IN_bitCount 46 = .ok (.iadd, 1) := by decide +kernel
theorem d_IN_bitCount_47 : decode b_IN_bitCount 47 = .ok (.istore_n 0, 1) := by decide +kernel
theorem d_IN_bitCount_48 : decode b_IN_bitCount 48 = .ok (.iload_n 0, 1) := by decide +kernel
theorem d_IN_bitCount_49 : decode b_IN_bitCount 49 = .ok (.bipush 63, 2) := by decide +kernel
theorem d_IN_bitCount_51 : decode b_IN_bitCount 51 = .ok (.iand, 1) := by decide +kernel
theorem d_IN_bitCount_52 : decode b_IN_bitCount 52 = .ok (.ireturn, 1) := by decide +kernel
theorem d_LW_cell_0 : decode b_LW_cell 0 = .ok (.iload_n 1, 1) := by decide +kernel
theorem d_LW_cell_1 : decode b_LW_cell 1 = .ok (.aload_n 0, 1) := by decide +kernel
theorem d_LW_cell_2 : decode b_LW_cell 2 = .ok (.arraylength, 1) := by decide +kernel
theorem d_LW_cell_3 : decode b_LW_cell 3 = .ok (.if_icmp .ge 9, 3) := by decide +kernel
theorem d_LW_cell_6 : decode b_LW_cell 6 = .ok (.aload_n 0, 1) := by decide +kernel
theorem d_LW_cell_7 : decode b_LW_cell 7 = .ok (.iload_n 1, 1) := by decide +kernel
theorem d_LW_cell_8 : decode b_LW_cell 8 = .ok (.iaload, 1) := by decide +kernel
theorem d_LW_cell_9 : decode b_LW_cell 9 = .ok (.goto 4, 3) := by decide +kernel
theorem d_LW_cell_12 : decode b_LW_cell 12 = .ok (.iconst 0, 1) := by decide +kernel
theorem d_LW_cell_13 : decode b_LW_cell 13 = .ok (.ireturn, 1) := by decide +kernel
theorem d_LW_fault_0 : decode b_LW_fault 0 = .ok (.aload_n 3, 1) := by decide +kernel
theorem d_LW_fault_1 : decode b_LW_fault 1 = .ok (.iconst 0, 1) := by decide +kernel
theorem d_LW_fault_2 : decode b_LW_fault 2 = .ok (.aload_n 0, 1) := by decide +kernel
theorem d_LW_fault_3 : decode b_LW_fault 3 = .ok (.iload_n 1, 1) := by decide +kernel
theorem d_LW_fault_4 : decode b_LW_fault 4 = .ok (.iload_n 2, 1) := by decide +kernel
theorem d_LW_fault_5 : decode b_LW_fault 5 = .ok (.invokevirtual 7, 3) := by decide +kernel
theorem d_LW_fault_8 : decode b_LW_fault 8 = .ok (.i2l, 1) := by decide +kernel
theorem d_LW_fault_9 : decode b_LW_fault 9 = .ok (.lastore, 1) := by decide +kernel
theorem d_LW_fault_10 : decode b_LW_fault 10 = .ok (.goto 11, 3) := by decide +kernel
theorem d_LW_fault_13 : decode b_LW_fault 13 = .ok (.astore 4, 2) := by decide +kernel
theorem d_LW_fault_15 : decode b_LW_fault 15 = .ok (.iconst 1, 1) := by decide +kernel
theorem d_LW_fault_16 : decode b_LW_fault 16 = .ok (.ireturn, 1) := by decide +kernel
theorem d_LW_fault_17 : decode b_LW_fault 17 = .ok (.astore 4, 2) := by decide +kernel
theorem d_LW_fault_19 : decode b_LW_fault 19 = .ok (.iconst 2, 1) := by decide +kernel
theorem d_LW_fault_20 : decode b_LW_fault 20 = .ok (.ireturn, 1) := by decide +kernel
theorem d_LW_fault_21 : decode b_LW_fault 21 = .ok (.iconst 0, 1) := by decide +kernel
theorem d_LW_fault_22 : decode b_LW_fault 22 = .ok (.ireturn, 1) := by decide +kernel
theorem d_LW_act_0 : decode b_LW_act 0 = .ok (.aload_n 3, 1) := by decide +kernel
theorem d_LW_act_1 : decode b_LW_act 1 = .ok (.iconst 0, 1) := by decide +kernel
theorem d_LW_act_2 : decode b_LW_act 2 = .ok (.aload_n 0, 1) := by decide +kernel
theorem d_LW_act_3 : decode b_LW_act 3 = .ok (.iload_n 1, 1) := by decide +kernel
theorem d_LW_act_4 : decode b_LW_act 4 = .ok (.iload_n 2, 1) := by decide +kernel
theorem d_LW_act_5 : decode b_LW_act 5 = .ok (.invokevirtual 17, 3) := by decide +kernel
theorem d_LW_act_8 : decode b_LW_act 8 = .ok (.i2l, 1) := by decide +kernel
theorem d_LW_act_9 : decode b_LW_act 9 = .ok (.lastore, 1) := by decide +kernel
theorem d_LW_act_10 : decode b_LW_act 10 = .ok (.goto 11, 3) := by decide +kernel
theorem d_LW_act_13 : decode b_LW_act 13 = .ok (.astore 4, 2) := by decide +kernel
theorem d_LW_act_15 : decode b_LW_act 15 = .ok (.iconst 1, 1) := by decide +kernel
theorem d_LW_act_16 : decode b_LW_act 16 = .ok (.ireturn, 1) := by decide +kernel
theorem d_LW_act_17 : decode b_LW_act 17 = .ok (.astore 4, 2) := by decide +kernel
theorem d_LW_act_19 : decode b_LW_act 19 = .ok (.iconst 2, 1) := by decide +kernel
theorem d_LW_act_20 : decode b_LW_act 20 = .ok (.ireturn, 1) := by decide +kernel
theorem d_LW_act_21 : decode b_LW_act 21 = .ok (.iconst 0, 1) := by decide +kernel
theorem d_LW_act_22 : decode b_LW_act 22 = .ok (.ireturn, 1) := by decide +kernel
theorem d_LW_shows_0 : decode b_LW_shows 0 = .ok (.aload 4, 2) := by decide +kernel
theorem d_LW_shows_2 : decode b_LW_shows 2 = .ok (.iconst 0, 1) := by decide +kernel
theorem d_LW_shows_3 : decode b_LW_shows 3 = .ok (.aload_n 0, 1) := by decide +kernel
theorem d_LW_shows_4 : decode b_LW_shows 4 = .ok (.iload_n 1, 1) := by decide +kernel
theorem d_LW_shows_5 : decode b_LW_shows 5 = .ok (.iload_n 2, 1) := by decide +kernel
theorem d_LW_shows_6 : decode b_LW_shows 6 = .ok (.iload_n 3, 1) := by decide +kernel
theorem d_LW_shows_7 : decode b_LW_shows 7 = .ok (.invokevirtual 20, 3) := by decide +kernel
theorem d_LW_shows_10 : decode b_LW_shows 10 = .ok (.ifCond .eq 7, 3) := by decide +kernel
theorem d_LW_shows_13 : decode b_LW_shows 13 = .ok (.lconst 1, 1) := by decide +kernel
theorem d_LW_shows_14 : decode b_LW_shows 14 = .ok (.goto 4, 3) := by decide +kernel
theorem d_LW_shows_17 : decode b_LW_shows 17 = .ok (.lconst 0, 1) := by decide +kernel
theorem d_LW_shows_18 : decode b_LW_shows 18 = .ok (.lastore, 1) := by decide +kernel
theorem d_LW_shows_19 : decode b_LW_shows 19 = .ok (.goto 7, 3) := by decide +kernel
theorem d_LW_shows_22 : decode b_LW_shows 22 = .ok (.astore 5, 2) := by decide +kernel
theorem d_LW_shows_24 : decode b_LW_shows 24 = .ok (.iconst 1, 1) := by decide +kernel
theorem d_LW_shows_25 : decode b_LW_shows 25 = .ok (.ireturn, 1) := by decide +kernel
theorem d_LW_shows_26 : decode b_LW_shows 26 = .ok (.iconst 0, 1) := by decide +kernel
theorem d_LW_shows_27 : decode b_LW_shows 27 = .ok (.ireturn, 1) := by decide +kernel
theorem d_LW_way_0 : decode b_LW_way 0 = .ok (.aload 4, 2) := by decide +kernel
theorem d_LW_way_2 : decode b_LW_way 2 = .ok (.iconst 0, 1) := by decide +kernel
theorem d_LW_way_3 : decode b_LW_way 3 = .ok (.aload_n 0, 1) := by decide +kernel
theorem d_LW_way_4 : decode b_LW_way 4 = .ok (.iload_n 1, 1) := by decide +kernel
theorem d_LW_way_5 : decode b_LW_way 5 = .ok (.iload_n 2, 1) := by decide +kernel
theorem d_LW_way_6 : decode b_LW_way 6 = .ok (.iload_n 3, 1) := by decide +kernel
theorem d_LW_way_7 : decode b_LW_way 7 = .ok (.invokevirtual 24, 3) := by decide +kernel
theorem d_LW_way_10 : decode b_LW_way 10 = .ok (.i2l, 1) := by decide +kernel
theorem d_LW_way_11 : decode b_LW_way 11 = .ok (.lastore, 1) := by decide +kernel
theorem d_LW_way_12 : decode b_LW_way 12 = .ok (.goto 7, 3) := by decide +kernel
theorem d_LW_way_15 : decode b_LW_way 15 = .ok (.astore 5, 2) := by decide +kernel
theorem d_LW_way_17 : decode b_LW_way 17 = .ok (.iconst 1, 1) := by decide +kernel
theorem d_LW_way_18 : decode b_LW_way 18 = .ok (.ireturn, 1) := by decide +kernel
theorem d_LW_way_19 : decode b_LW_way 19 = .ok (.iconst 0, 1) := by decide +kernel
theorem d_LW_way_20 : decode b_LW_way 20 = .ok (.ireturn, 1) := by decide +kernel
theorem d_LW_change_0 : decode b_LW_change 0 = .ok (.aload_n 3, 1) := by decide +kernel
theorem d_LW_change_1 : decode b_LW_change 1 = .ok (.iconst 0, 1) := by decide +kernel
theorem d_LW_change_2 : decode b_LW_change 2 = .ok (.aload_n 0, 1) := by decide +kernel
theorem d_LW_change_3 : decode b_LW_change 3 = .ok (.iload_n 1, 1) := by decide +kernel
theorem d_LW_change_4 : decode b_LW_change 4 = .ok (.iload_n 2, 1) := by decide +kernel
theorem d_LW_change_5 : decode b_LW_change 5 = .ok (.invokevirtual 28, 3) := by decide +kernel
theorem d_LW_change_8 : decode b_LW_change 8 = .ok (.i2l, 1) := by decide +kernel
theorem d_LW_change_9 : decode b_LW_change 9 = .ok (.lastore, 1) := by decide +kernel
theorem d_LW_change_10 : decode b_LW_change 10 = .ok (.goto 7, 3) := by decide +kernel
theorem d_LW_change_13 : decode b_LW_change 13 = .ok (.astore 4, 2) := by decide +kernel
theorem d_LW_change_15 : decode b_LW_change 15 = .ok (.iconst 1, 1) := by decide +kernel
theorem d_LW_change_16 : decode b_LW_change 16 = .ok (.ireturn, 1) := by decide +kernel
theorem d_LW_change_17 : decode b_LW_change 17 = .ok (.iconst 0, 1) := by decide +kernel
theorem d_LW_change_18 : decode b_LW_change 18 = .ok (.ireturn, 1) := by decide +kernel
theorem d_LW_result_0 : decode b_LW_result 0 = .ok (.aload 5, 2) := by decide +kernel
theorem d_LW_result_2 : decode b_LW_result 2 = .ok (.iconst 0, 1) := by decide +kernel
theorem d_LW_result_3 : decode b_LW_result 3 = .ok (.aload_n 0, 1) := by decide +kernel
theorem d_LW_result_4 : decode b_LW_result 4 = .ok (.iload_n 1, 1) := by decide +kernel
theorem d_LW_result_5 : decode b_LW_result 5 = .ok (.iload_n 2, 1) := by decide +kernel
theorem d_LW_result_6 : decode b_LW_result 6 = .ok (.iload_n 3, 1) := by decide +kernel
theorem d_LW_result_7 : decode b_LW_result 7 = .ok (.iload 4, 2) := by decide +kernel
theorem d_LW_result_9 : decode b_LW_result 9 = .ok (.invokevirtual 31, 3) := by decide +kernel
theorem d_LW_result_12 : decode b_LW_result 12 = .ok (.i2l, 1) := by decide +kernel
theorem d_LW_result_13 : decode b_LW_result 13 = .ok (.lastore, 1) := by decide +kernel
theorem d_LW_result_14 : decode b_LW_result 14 = .ok (.goto 11, 3) := by decide +kernel
theorem d_LW_result_17 : decode b_LW_result 17 = .ok (.astore 6, 2) := by decide +kernel
theorem d_LW_result_19 : decode b_LW_result 19 = .ok (.iconst 1, 1) := by decide +kernel
theorem d_LW_result_20 : decode b_LW_result 20 = .ok (.ireturn, 1) := by decide +kernel
theorem d_LW_result_21 : decode b_LW_result 21 = .ok (.astore 6, 2) := by decide +kernel
theorem d_LW_result_23 : decode b_LW_result 23 = .ok (.iconst 2, 1) := by decide +kernel
theorem d_LW_result_24 : decode b_LW_result 24 = .ok (.ireturn, 1) := by decide +kernel
theorem d_LW_result_25 : decode b_LW_result 25 = .ok (.iconst 0, 1) := by decide +kernel
theorem d_LW_result_26 : decode b_LW_result 26 = .ok (.ireturn, 1) := by decide +kernel
theorem d_LW_plan_0 : decode b_LW_plan 0 = .ok (.aload_n 2, 1) := by decide +kernel
theorem d_LW_plan_1 : decode b_LW_plan 1 = .ok (.iconst 0, 1) := by decide +kernel
theorem d_LW_plan_2 : decode b_LW_plan 2 = .ok (.aload_n 0, 1) := by decide +kernel
theorem d_LW_plan_3 : decode b_LW_plan 3 = .ok (.iload_n 1, 1) := by decide +kernel
theorem d_LW_plan_4 : decode b_LW_plan 4 = .ok (.invokevirtual 35, 3) := by decide +kernel
theorem d_LW_plan_7 : decode b_LW_plan 7 = .ok (.i2l, 1) := by decide +kernel
theorem d_LW_plan_8 : decode b_LW_plan 8 = .ok (.lastore, 1) := by decide +kernel
theorem d_LW_plan_9 : decode b_LW_plan 9 = .ok (.goto 6, 3) := by decide +kernel
theorem d_LW_plan_12 : decode b_LW_plan 12 = .ok (.astore_n 3, 1) := by decide +kernel
theorem d_LW_plan_13 : decode b_LW_plan 13 = .ok (.iconst 1, 1) := by decide +kernel
theorem d_LW_plan_14 : decode b_LW_plan 14 = .ok (.ireturn, 1) := by decide +kernel
theorem d_LW_plan_15 : decode b_LW_plan 15 = .ok (.iconst 0, 1) := by decide +kernel
theorem d_LW_plan_16 : decode b_LW_plan 16 = .ok (.ireturn, 1) := by decide +kernel
theorem d_LW_planned_0 : decode b_LW_planned 0 = .ok (.aload_n 2, 1) := by decide +kernel
theorem d_LW_planned_1 : decode b_LW_planned 1 = .ok (.iconst 0, 1) := by decide +kernel
theorem d_LW_planned_2 : decode b_LW_planned 2 = .ok (.aload_n 0, 1) := by decide +kernel
theorem d_LW_planned_3 : decode b_LW_planned 3 = .ok (.iload_n 1, 1) := by decide +kernel
theorem d_LW_planned_4 : decode b_LW_planned 4 = .ok (.invokevirtual 39, 3) := by decide +kernel
theorem d_LW_planned_7 : decode b_LW_planned 7 = .ok (.i2l, 1) := by decide +kernel
theorem d_LW_planned_8 : decode b_LW_planned 8 = .ok (.lastore, 1) := by decide +kernel
theorem d_LW_planned_9 : decode b_LW_planned 9 = .ok (.goto 6, 3) := by decide +kernel
theorem d_LW_planned_12 : decode b_LW_planned 12 = .ok (.astore_n 3, 1) := by decide +kernel
theorem d_LW_planned_13 : decode b_LW_planned 13 = .ok (.iconst 1, 1) := by decide +kernel
theorem d_LW_planned_14 : decode b_LW_planned 14 = .ok (.ireturn, 1) := by decide +kernel
theorem d_LW_planned_15 : decode b_LW_planned 15 = .ok (.iconst 0, 1) := by decide +kernel
theorem d_LW_planned_16 : decode b_LW_planned 16 = .ok (.ireturn, 1) := by decide +kernel
theorem d_LW_from_0 : decode b_LW_from 0 = .ok (.aload_n 2, 1) := by decide +kernel
theorem d_LW_from_1 : decode b_LW_from 1 = .ok (.iconst 0, 1) := by decide +kernel
theorem d_LW_from_2 : decode b_LW_from 2 = .ok (.aload_n 0, 1) := by decide +kernel
theorem d_LW_from_3 : decode b_LW_from 3 = .ok (.iload_n 1, 1) := by decide +kernel
theorem d_LW_from_4 : decode b_LW_from 4 = .ok (.invokevirtual 42, 3) := by decide +kernel
theorem d_LW_from_7 : decode b_LW_from 7 = .ok (.i2l, 1) := by decide +kernel
theorem d_LW_from_8 : decode b_LW_from 8 = .ok (.lastore, 1) := by decide +kernel
theorem d_LW_from_9 : decode b_LW_from 9 = .ok (.goto 6, 3) := by decide +kernel
theorem d_LW_from_12 : decode b_LW_from 12 = .ok (.astore_n 3, 1) := by decide +kernel
theorem d_LW_from_13 : decode b_LW_from 13 = .ok (.iconst 1, 1) := by decide +kernel
theorem d_LW_from_14 : decode b_LW_from 14 = .ok (.ireturn, 1) := by decide +kernel
theorem d_LW_from_15 : decode b_LW_from 15 = .ok (.iconst 0, 1) := by decide +kernel
theorem d_LW_from_16 : decode b_LW_from 16 = .ok (.ireturn, 1) := by decide +kernel
theorem d_LW_state_0 : decode b_LW_state 0 = .ok (.aload_n 3, 1) := by decide +kernel
theorem d_LW_state_1 : decode b_LW_state 1 = .ok (.iconst 0, 1) := by decide +kernel
theorem d_LW_state_2 : decode b_LW_state 2 = .ok (.aload_n 0, 1) := by decide +kernel
theorem d_LW_state_3 : decode b_LW_state 3 = .ok (.iload_n 1, 1) := by decide +kernel
theorem d_LW_state_4 : decode b_LW_state 4 = .ok (.iload_n 2, 1) := by decide +kernel
theorem d_LW_state_5 : decode b_LW_state 5 = .ok (.invokevirtual 45, 3) := by decide +kernel
theorem d_LW_state_8 : decode b_LW_state 8 = .ok (.i2l, 1) := by decide +kernel
theorem d_LW_state_9 : decode b_LW_state 9 = .ok (.lastore, 1) := by decide +kernel
theorem d_LW_state_10 : decode b_LW_state 10 = .ok (.goto 7, 3) := by decide +kernel
theorem d_LW_state_13 : decode b_LW_state 13 = .ok (.astore 4, 2) := by decide +kernel
theorem d_LW_state_15 : decode b_LW_state 15 = .ok (.iconst 1, 1) := by decide +kernel
theorem d_LW_state_16 : decode b_LW_state 16 = .ok (.ireturn, 1) := by decide +kernel
theorem d_LW_state_17 : decode b_LW_state 17 = .ok (.iconst 0, 1) := by decide +kernel
theorem d_LW_state_18 : decode b_LW_state 18 = .ok (.ireturn, 1) := by decide +kernel
theorem d_LW_word_0 : decode b_LW_word 0 = .ok (.aload 4, 2) := by decide +kernel
theorem d_LW_word_2 : decode b_LW_word 2 = .ok (.iconst 0, 1) := by decide +kernel
theorem d_LW_word_3 : decode b_LW_word 3 = .ok (.aload_n 0, 1) := by decide +kernel
theorem d_LW_word_4 : decode b_LW_word 4 = .ok (.iload_n 1, 1) := by decide +kernel
theorem d_LW_word_5 : decode b_LW_word 5 = .ok (.iload_n 2, 1) := by decide +kernel
theorem d_LW_word_6 : decode b_LW_word 6 = .ok (.iload_n 3, 1) := by decide +kernel
theorem d_LW_word_7 : decode b_LW_word 7 = .ok (.invokevirtual 48, 3) := by decide +kernel
theorem d_LW_word_10 : decode b_LW_word 10 = .ok (.i2l, 1) := by decide +kernel
theorem d_LW_word_11 : decode b_LW_word 11 = .ok (.lastore, 1) := by decide +kernel
theorem d_LW_word_12 : decode b_LW_word 12 = .ok (.goto 7, 3) := by decide +kernel
theorem d_LW_word_15 : decode b_LW_word 15 = .ok (.astore 5, 2) := by decide +kernel
theorem d_LW_word_17 : decode b_LW_word 17 = .ok (.iconst 1, 1) := by decide +kernel
theorem d_LW_word_18 : decode b_LW_word 18 = .ok (.ireturn, 1) := by decide +kernel
theorem d_LW_word_19 : decode b_LW_word 19 = .ok (.iconst 0, 1) := by decide +kernel
theorem d_LW_word_20 : decode b_LW_word 20 = .ok (.ireturn, 1) := by decide +kernel
theorem d_LW_listed_0 : decode b_LW_listed 0 = .ok (.aload 4, 2) := by decide +kernel
theorem d_LW_listed_2 : decode b_LW_listed 2 = .ok (.iconst 0, 1) := by decide +kernel
theorem d_LW_listed_3 : decode b_LW_listed 3 = .ok (.aload_n 0, 1) := by decide +kernel
theorem d_LW_listed_4 : decode b_LW_listed 4 = .ok (.iload_n 1, 1) := by decide +kernel
theorem d_LW_listed_5 : decode b_LW_listed 5 = .ok (.iload_n 2, 1) := by decide +kernel
theorem d_LW_listed_6 : decode b_LW_listed 6 = .ok (.iload_n 3, 1) := by decide +kernel
theorem d_LW_listed_7 : decode b_LW_listed 7 = .ok (.invokevirtual 51, 3) := by decide +kernel
theorem d_LW_listed_10 : decode b_LW_listed 10 = .ok (.i2l, 1) := by decide +kernel
theorem d_LW_listed_11 : decode b_LW_listed 11 = .ok (.lastore, 1) := by decide +kernel
theorem d_LW_listed_12 : decode b_LW_listed 12 = .ok (.goto 7, 3) := by decide +kernel
theorem d_LW_listed_15 : decode b_LW_listed 15 = .ok (.astore 5, 2) := by decide +kernel
theorem d_LW_listed_17 : decode b_LW_listed 17 = .ok (.iconst 1, 1) := by decide +kernel
theorem d_LW_listed_18 : decode b_LW_listed 18 = .ok (.ireturn, 1) := by decide +kernel
theorem d_LW_listed_19 : decode b_LW_listed 19 = .ok (.iconst 0, 1) := by decide +kernel
theorem d_LW_listed_20 : decode b_LW_listed 20 = .ok (.ireturn, 1) := by decide +kernel
theorem d_LW_hidden_0 : decode b_LW_hidden 0 = .ok (.aload_n 2, 1) := by decide +kernel
theorem d_LW_hidden_1 : decode b_LW_hidden 1 = .ok (.iconst 0, 1) := by decide +kernel
theorem d_LW_hidden_2 : decode b_LW_hidden 2 = .ok (.aload_n 0, 1) := by decide +kernel
theorem d_LW_hidden_3 : decode b_LW_hidden 3 = .ok (.iload_n 1, 1) := by decide +kernel
theorem d_LW_hidden_4 : decode b_LW_hidden 4 = .ok (.invokevirtual 54, 3) := by decide +kernel
theorem d_LW_hidden_7 : decode b_LW_hidden 7 = .ok (.i2l, 1) := by decide +kernel
theorem d_LW_hidden_8 : decode b_LW_hidden 8 = .ok (.lastore, 1) := by decide +kernel
theorem d_LW_hidden_9 : decode b_LW_hidden 9 = .ok (.goto 6, 3) := by decide +kernel
theorem d_LW_hidden_12 : decode b_LW_hidden 12 = .ok (.astore_n 3, 1) := by decide +kernel
theorem d_LW_hidden_13 : decode b_LW_hidden 13 = .ok (.iconst 1, 1) := by decide +kernel
theorem d_LW_hidden_14 : decode b_LW_hidden 14 = .ok (.ireturn, 1) := by decide +kernel
theorem d_LW_hidden_15 : decode b_LW_hidden 15 = .ok (.iconst 0, 1) := by decide +kernel
theorem d_LW_hidden_16 : decode b_LW_hidden 16 = .ok (.ireturn, 1) := by decide +kernel
theorem d_LW_proves_0 : decode b_LW_proves 0 = .ok (.aload_n 3, 1) := by decide +kernel
theorem d_LW_proves_1 : decode b_LW_proves 1 = .ok (.iconst 0, 1) := by decide +kernel
theorem d_LW_proves_2 : decode b_LW_proves 2 = .ok (.aload_n 0, 1) := by decide +kernel
theorem d_LW_proves_3 : decode b_LW_proves 3 = .ok (.iload_n 1, 1) := by decide +kernel
theorem d_LW_proves_4 : decode b_LW_proves 4 = .ok (.iload_n 2, 1) := by decide +kernel
theorem d_LW_proves_5 : decode b_LW_proves 5 = .ok (.invokevirtual 57, 3) := by decide +kernel
theorem d_LW_proves_8 : decode b_LW_proves 8 = .ok (.i2l, 1) := by decide +kernel
theorem d_LW_proves_9 : decode b_LW_proves 9 = .ok (.lastore, 1) := by decide +kernel
theorem d_LW_proves_10 : decode b_LW_proves 10 = .ok (.goto 7, 3) := by decide +kernel
theorem d_LW_proves_13 : decode b_LW_proves 13 = .ok (.astore 4, 2) := by decide +kernel
theorem d_LW_proves_15 : decode b_LW_proves 15 = .ok (.iconst 1, 1) := by decide +kernel
theorem d_LW_proves_16 : decode b_LW_proves 16 = .ok (.ireturn, 1) := by decide +kernel
theorem d_LW_proves_17 : decode b_LW_proves 17 = .ok (.iconst 0, 1) := by decide +kernel
theorem d_LW_proves_18 : decode b_LW_proves 18 = .ok (.ireturn, 1) := by decide +kernel
theorem d_LW_touched_0 : decode b_LW_touched 0 = .ok (.aload_n 3, 1) := by decide +kernel
theorem d_LW_touched_1 : decode b_LW_touched 1 = .ok (.iconst 0, 1) := by decide +kernel
theorem d_LW_touched_2 : decode b_LW_touched 2 = .ok (.aload_n 0, 1) := by decide +kernel
theorem d_LW_touched_3 : decode b_LW_touched 3 = .ok (.iload_n 1, 1) := by decide +kernel
theorem d_LW_touched_4 : decode b_LW_touched 4 = .ok (.iload_n 2, 1) := by decide +kernel
theorem d_LW_touched_5 : decode b_LW_touched 5 = .ok (.invokevirtual 60, 3) := by decide +kernel
theorem d_LW_touched_8 : decode b_LW_touched 8 = .ok (.i2l, 1) := by decide +kernel
theorem d_LW_touched_9 : decode b_LW_touched 9 = .ok (.lastore, 1) := by decide +kernel
theorem d_LW_touched_10 : decode b_LW_touched 10 = .ok (.goto 7, 3) := by decide +kernel
theorem d_LW_touched_13 : decode b_LW_touched 13 = .ok (.astore 4, 2) := by decide +kernel
theorem d_LW_touched_15 : decode b_LW_touched 15 = .ok (.iconst 1, 1) := by decide +kernel
theorem d_LW_touched_16 : decode b_LW_touched 16 = .ok (.ireturn, 1) := by decide +kernel
theorem d_LW_touched_17 : decode b_LW_touched 17 = .ok (.iconst 0, 1) := by decide +kernel
theorem d_LW_touched_18 : decode b_LW_touched 18 = .ok (.ireturn, 1) := by decide +kernel
end
section
/-! What is known of the statics, of words that no list carries, of the texts. eA: the empty array of ArrayList. -/
def z_Z (eA : Nat) (A : Nat → Prop) (U : State) (H : Heap) : Prop :=
  (va_Nw (.declares ⟨"java/lang/RuntimeException", "<init>", "(Ljava/lang/String;)V"⟩) U ∧ va_Nw (.declares ⟨"java/lang/Exception", "<init>", "(Ljava/lang/String;)V"⟩) U ∧ va_Nw (.declares ⟨"java/lang/Throwable", "<init>", "(Ljava/lang/String;)V"⟩) U) ∧
  (va_Nw (.castable "java/lang/IllegalArgumentException" "java/lang/IllegalArgumentException") U ∧ va_Nw (.castable "java/lang/IllegalStateException" "java/lang/IllegalStateException") U) ∧
  (va_Nw (.methodLinkNest "CaseLists$Tours" 31 y_CL_holds "CaseLists") U ∧ va_Nw (.methodLinkNest "CaseLists$TouchLog" 22 y_CL_holds "CaseLists") U) ∧
  (va_Nw (.castable "CaseLists$Case" "CaseLists$Case") U ∧ va_Nw (.castable "CaseLists$Case" "java/lang/Object") U) ∧
  (vx_Zq Bundle.tN "UNASSIGNED_STACK" Bundle.steD A U H ∧ vx_Zq Bundle.tN "SUPPRESSED_SENTINEL" Bundle.listD A U H) ∧
  ((∃ sa, vk_R "CaseLists" 169 "a number is out of its bounds" sa U) ∧ (∃ sa, vk_R "CaseLists" 174 "both are one" sa U) ∧ ∃ sa, vk_R "CaseLists" 178 "there is no room for one more" sa U) ∧
  (va_Z "java/util/ArrayList" "DEFAULTCAPACITY_EMPTY_ELEMENTDATA" "[Ljava/lang/Object;" (.ref eA) A U H ∧ va_T (.object "java/lang/Object") eA 0 (fun _ => .null) A U H ∧ va_AO "java/lang/Object" U)
theorem z_ok (eA : Nat) : g_ZC (z_Z eA) := by
  refine ⟨fun A u U H hW h => ?_, fun A U H H1 h hq => ?_, fun A B U H h hAB => ?_⟩
  · obtain ⟨⟨a1, a2, a3⟩, ⟨b1, b2⟩, ⟨c1, c2⟩, ⟨d1, d2⟩, ⟨e1, e2⟩, ⟨⟨s1, f1⟩, ⟨s2, f2⟩, s3, f3⟩, g1, g2, g3⟩ := h
    exact ⟨⟨va_Nw.warmD hW a1, va_Nw.warmD hW a2, va_Nw.warmD hW a3⟩, ⟨va_Nw.warmC hW b1, va_Nw.warmC hW b2⟩, ⟨va_Nw.warmM hW c1, va_Nw.warmM hW c2⟩, ⟨va_Nw.warmC hW d1, va_Nw.warmC hW d2⟩, ⟨vx_Zq.moved hW.alike e1, vx_Zq.moved hW.alike e2⟩, ⟨⟨s1, vk_R.warm hW f1⟩, ⟨s2, vk_R.warm hW f2⟩, s3, vk_R.warm hW f3⟩, va_Z.moved hW.alike g1, va_T.moved hW.alike g2, va_AO.moved hW.alike g3⟩
  · obtain ⟨a, b, c, d, ⟨e1, e2⟩, f, g1, g2, g3⟩ := h
    exact ⟨a, b, c, d, ⟨e1.kept hq, e2.kept hq⟩, f, g1.kept hq, g2.kept hq, g3⟩
  · obtain ⟨a, b, c, d, ⟨e1, e2⟩, f, g1, g2, g3⟩ := h
    exact ⟨a, b, c, d, ⟨e1.narrow hAB, e2.narrow hAB⟩, f, g1.narrow hAB, g2.narrow hAB, g3⟩
section GT
variable {p : Program} {l : Launch} {e : Env} {R rm : Room} {s : State} {m : MethodId} {args : Array Value} {below : List Frame} {meth : Method} {c : Code} {cells slots : Nat}
variable {cc : ByteArray} {pc nL : Nat} {D : va_G} {cl : List vw_C} {tys : List (ClassId × FieldType)} {f0 : g_F} {lv : List (Nat × Value)} {st : List Value} {own : String} {ret : Option FieldType} {Z : (Nat → Prop) → State → Heap → Prop} {post : Option Value → g_F → Prop} {px : String → Prop}
/-- 'throw new E("text")' in a world that is still the first one -/
theorem g_throwS (X : g_X p s m args meth c cc nL ret g_T own D cl tys (g_A f0 s.heap.size) Z) (hl : l.stackTraces = false) {cls text : String} {names : List String} {ik is ic : Nat} (hcls : Bundle.fit cls = true) (hnames : ∀ n ∈ names, Bundle.fit n = true)
    (hk : Cond.classLink own ik cls ∈ g_T) (hini : Cond.initialized cls ∈ g_T) (hstr : ∃ sa, vk_R own is text sa s) (hat : ∀ w ∈ vx_atS own ic cls names, w.before args s = true)
    (hgood : ∀ w ∈ Cond.classLink own ik cls :: Cond.initialized cls :: vx_atS own ic cls names, vx_ot w = true)
    (hU : vx_Zq Bundle.tN "UNASSIGNED_STACK" Bundle.steD (g_A f0 s.heap.size) s s.heap) (hN : vx_Zq Bundle.tN "SUPPRESSED_SENTINEL" Bundle.listD (g_A f0 s.heap.size) s s.heap) (ht : ∀ x ∈ c.exceptionTable.toList, False)
    (d0 : decode cc pc = .ok (.new ik, 3)) (d3 : decode cc (pc + 3) = .ok (.dup, 1)) (d4 : decode cc (pc + 4) = .ok (.ldc is, 2)) (d6 : decode cc (pc + 6) = .ok (.invokespecial ic, 3)) (d9 : decode cc (pc + 9) = .ok (.athrow, 1))
    (hRf : names.length + 3 < R.frames) (hRl : (st.map fun v => v.category).sum + (13 * (names.length + 1) + 43) ≤ R.locals) (hRc : cells + 1 ≤ R.cells) (hRs : slots + 6 ≤ R.slots) (hpx : px cls) (hc : cells + 1 ≤ rm.cells) (hs : slots + 6 ≤ rm.slots) :
    g_W p l e R s m args below meth c nL D cl (g_A f0 s.heap.size) f0 cells slots (g_End below D cl f0 post px args s rm) pc lv st := by
  intro H locs ls hP hD hS hlv
  obtain ⟨sa, hstr⟩ := hstr
  refine vx_throwS (sa := sa) (text := text) X.1.1 X.1.2.1 hl X.1.2.2.2.1 hcls hnames (X.1.2.2.2.2 _ hk) (X.1.2.2.2.2 _ hini) hstr hat hgood hU hN hS (by rw [X.1.2.2.1]; exact hlv.1) d0 d3 d4 d6 d9 (fun x hx => absurd (ht x hx) id) hRf hRl hRc hRs X.2.2.2.2.1 (fun t hal hz hq => ?_) hS.2.2 hc hs
  exact ⟨hpx, fun a x hx => (hP a x hx).kept (hq a (hP a x hx).lt), Nat.le_trans hS.1 hz, fun q h1 h2 => (hq q (Nat.lt_of_lt_of_le h1 hS.1)).trans (hS.2.1 q h1 h2)⟩
end GT
/-- the words of a throw, out of the table and out of what is known -/
theorem z_hatIA {eA : Nat} {A : Nat → Prop} {s : State} {args : Array Value} {H : Heap} (hts : ∀ w ∈ g_T, w.before args s = true) (hZ : z_Z eA A s H) : ∀ w ∈ vx_atS "CaseLists" 171 "java/lang/IllegalArgumentException" ["java/lang/RuntimeException", "java/lang/Exception"], w.before args s = true := by
  refine vx_hat (B := [.declares ⟨"java/lang/RuntimeException", "<init>", "(Ljava/lang/String;)V"⟩, .declares ⟨"java/lang/Exception", "<init>", "(Ljava/lang/String;)V"⟩, .declares ⟨"java/lang/Throwable", "<init>", "(Ljava/lang/String;)V"⟩, .castable "java/lang/IllegalArgumentException" "java/lang/IllegalArgumentException"]) (fun w hw => hts w (List.mem_filter.mpr ((by decide +kernel : ∀ w ∈ (vx_atS "CaseLists" 171 "java/lang/IllegalArgumentException" ["java/lang/RuntimeException", "java/lang/Exception"]).filter goodWord, w ∈ lw_tbl ∧ goodWord w = true) w hw))) (by decide +kernel) ?_
  obtain ⟨⟨a1, a2, a3⟩, ⟨b1, b2⟩, -⟩ := hZ
  exact vx_c (va_Nw.use rfl a1) (vx_c (va_Nw.use rfl a2) (vx_c (va_Nw.use rfl a3) (vx_c (va_Nw.use rfl b1) vx_n)))
theorem z_hatIS {eA : Nat} {A : Nat → Prop} {s : State} {args : Array Value} {H : Heap} (hts : ∀ w ∈ g_T, w.before args s = true) (hZ : z_Z eA A s H) : ∀ w ∈ vx_atS "CaseLists" 180 "java/lang/IllegalStateException" ["java/lang/RuntimeException", "java/lang/Exception"], w.before args s = true := by
  refine vx_hat (B := [.declares ⟨"java/lang/RuntimeException", "<init>", "(Ljava/lang/String;)V"⟩, .declares ⟨"java/lang/Exception", "<init>", "(Ljava/lang/String;)V"⟩, .declares ⟨"java/lang/Throwable", "<init>", "(Ljava/lang/String;)V"⟩, .castable "java/lang/IllegalStateException" "java/lang/IllegalStateException"]) (fun w hw => hts w (List.mem_filter.mpr ((by decide +kernel : ∀ w ∈ (vx_atS "CaseLists" 180 "java/lang/IllegalStateException" ["java/lang/RuntimeException", "java/lang/Exception"]).filter goodWord, w ∈ lw_tbl ∧ goodWord w = true) w hw))) (by decide +kernel) ?_
  obtain ⟨⟨a1, a2, a3⟩, ⟨b1, b2⟩, -⟩ := hZ
  exact vx_c (va_Nw.use rfl a1) (vx_c (va_Nw.use rfl a2) (vx_c (va_Nw.use rfl a3) (vx_c (va_Nw.use rfl b2) vx_n)))
end
section
/-! Numbers and bits. -/
theorem nI_and (a b : Nat) : nI a &&& nI b = nI (a &&& b) := by
  apply Int32.toBitVec_inj.1
  show BitVec.ofNat 32 a &&& BitVec.ofNat 32 b = BitVec.ofNat 32 (a &&& b)
  apply BitVec.eq_of_getLsbD_eq
  intro i hi
  simp [hi]
theorem nI_or (a b : Nat) : nI a ||| nI b = nI (a ||| b) := by
  apply Int32.toBitVec_inj.1
  show BitVec.ofNat 32 a ||| BitVec.ofNat 32 b = BitVec.ofNat 32 (a ||| b)
  apply BitVec.eq_of_getLsbD_eq
  intro i hi
  simp [hi]
theorem nI_xor (a b : Nat) : nI a ^^^ nI b = nI (a ^^^ b) := by
  apply Int32.toBitVec_inj.1
  show BitVec.ofNat 32 a ^^^ BitVec.ofNat 32 b = BitVec.ofNat 32 (a ^^^ b)
  apply BitVec.eq_of_getLsbD_eq
  intro i hi
  simp [hi]
theorem bs_l : ∀ n, n < 32 → ((nI n &&& 31).toBitVec.smod 32).toNat = n := by decide +kernel
theorem nI_shl {a k : Nat} (hk : k < 32) (h : a * 2 ^ k < 2 ^ 32) : nI a <<< (nI k &&& 31) = nI (a * 2 ^ k) := pk_shlN _ k (bs_l k hk) h
theorem nI_bit {k : Nat} (hk : k < 31) : (1 : Int32) <<< (nI k &&& 31) = nI (2 ^ k) := by
  have h := nI_shl (a := 1) (k := k) (by omega) (by rw [Nat.one_mul]; exact Nat.pow_lt_pow_right (by decide) (by omega))
  rw [Nat.one_mul] at h
  exact h
theorem pow_lt31 {k : Nat} (hk : k < 31) : 2 ^ k < 2 ^ 31 := Nat.pow_lt_pow_right (by decide) hk
theorem nI_z {a : Nat} (h : a < 2 ^ 31) : nI a = 0 ↔ a = 0 := nI_eq h (by decide)
theorem hold_bit {a k : Nat} (ha : a < 2 ^ 31) (hk : k < 31) : (nI a &&& ((1 : Int32) <<< (nI k &&& 31))) = 0 ↔ a.testBit k = false := by
  rw [nI_bit hk, nI_and, nI_z (Nat.lt_of_le_of_lt Nat.and_le_left ha)]
  constructor
  · intro h
    have h2 := congrArg (fun z => Nat.testBit z k) h
    simpa [Nat.testBit_and, Nat.testBit_two_pow] using h2
  · intro h
    apply Nat.eq_of_testBit_eq
    intro i
    rw [Nat.testBit_and, Nat.testBit_two_pow, Nat.zero_testBit]
    by_cases hi : k = i
    · subst hi; simp [h]
    · simp [hi]
/-- a truth as an int -/
def bI (b : Bool) : Int32 := if b then 1 else 0
theorem bI_nar (b : Bool) : narrow .boolean (.int (bI b)) = .int (bI b) := by cases b <;> decide
theorem bI_z {b : Bool} : bI b = 0 ↔ b = false := by cases b <;> decide
theorem nI_ix {j n : Nat} (h : j < n) (hn : n < 2 ^ 31) : vp_in (nI j) n := vp_in_nI h hn
theorem nI_cl {α : Type} {g : Nat → α} {j : Nat} (h : j < 2 ^ 31) : g (nI j).toNatClampNeg = g j := by rw [nI_clamp h]
theorem nI_mul (a b : Nat) : nI a * nI b = nI (a * b) := pk_mul a b
theorem upd_nI {g : Nat → Nat} {j x : Nat} (h : j < 2 ^ 31) : upd (fun i => nI (g i)) (nI j).toNatClampNeg (nI x) = fun i => nI (va_up g j x i) := by
  rw [nI_clamp h]
  funext i
  by_cases hi : i = j
  · subst hi; simp [upd, va_up]
  · simp [upd, va_up, hi]
theorem or_lt {a b k : Nat} (ha : a < 2 ^ k) (hb : b < 2 ^ k) : a ||| b < 2 ^ k := Nat.or_lt_two_pow ha hb
abbrev g_tys (cI cZ cO cJ : ClassId) : List (ClassId × FieldType) := [(cI, .int), (cZ, .boolean), (cO, .object "java/lang/Object"), (cJ, .long)]
theorem bt_nf {x : Bool} (h : ¬ x = false) : x = true := by cases x <;> first | rfl | exact absurd rfl h
theorem bt_nt {x : Bool} (h : ¬ x = true) : x = false := by cases x <;> first | rfl | exact absurd rfl h
theorem nI_dec {d : Nat} (h : 0 < d) : nI d + Int32.ofInt (-1) = nI (d - 1) := by
  rw [show Int32.ofInt (-1) = (-1 : Int32) by decide]
  exact sb_m1 h
end
section
set_option maxHeartbeats 4000000 in
set_option maxRecDepth 100000 in
theorem c_CL_holds {l : Launch} {D : va_G} {cI cZ cO cJ : ClassId} {eA : Nat} {f : g_F} {a k : Nat} (ha : a < 2 ^ 31) (hk : k < 31) : g_C l y_CL_holds b_CL_holds 2 (some .boolean) { frames := 0, cells := 0, slots := 0, locals := 0 } D g_cl (g_tys cI cZ cO cJ) (z_Z eA) [.int (nI a), .int (nI k)] f (fun r f2 => r = some (.int (bI (a.testBit k))) ∧ f2 = f) (fun _ => False) := by
  refine g_ofW [(0, .int (nI a)), (1, .int (nI k))] (by decide +kernel) (Nat.le_of_ble_eq_true rfl) rfl ?_
  intro p e s m args below meth c X ht hin
  refine g_iload_n X d_CL_holds_0 0 rfl ?_
  refine g_iconst (v := 1) X d_CL_holds_1 (by decide) ?_
  refine g_iload_n X d_CL_holds_2 1 rfl ?_
  refine g_ishl X d_CL_holds_3 ?_
  refine g_iand X d_CL_holds_4 ?_
  refine g_if_eq X 12 d_CL_holds_5 (by decide) (fun c5 => ?_) (fun c5 => ?_)
  · skip
    refine g_iconst (v := 0) X d_CL_holds_12 (by decide) ?_
    exact g_zret X rfl (by decide) (⟨by rw [(hold_bit ha hk).mp c5]; rfl, rfl⟩) (Nat.le_of_ble_eq_true rfl) (Nat.le_of_ble_eq_true rfl) d_CL_holds_13
  · skip
    refine g_iconst (v := 1) X d_CL_holds_8 (by decide) ?_
    refine g_goto X 13 d_CL_holds_9 (by decide) ?_
    exact g_zret X rfl (by decide) (⟨by rw [bt_nf (fun z => c5 ((hold_bit ha hk).mpr z))]; rfl, rfl⟩) (Nat.le_of_ble_eq_true rfl) (Nat.le_of_ble_eq_true rfl) d_CL_holds_13
/-- the tours' cells: places, seconds, what is shown, ways, rests, how many acts -/
def tu_R (cI : ClassId) (f : g_F) (t : Nat) (a : Nat → Nat) (P Du S Wy Re : Nat → Nat) (n : Nat) : Prop :=
  f t = some (.inr (2, [.ref (a 0), .ref (a 1), .ref (a 2), .ref (a 3), .ref (a 4), .int (nI n)])) ∧ f (a 0) = some (.inl (cI, 8, .inl (fun i => nI (P i)))) ∧ f (a 1) = some (.inl (cI, 8, .inl (fun i => nI (Du i)))) ∧ f (a 2) = some (.inl (cI, 8, .inl (fun i => nI (S i)))) ∧ f (a 3) = some (.inl (cI, 100, .inl (fun i => nI (Wy i)))) ∧ f (a 4) = some (.inl (cI, 2048, .inl (fun i => nI (Re i))))
/-- what the numbers keep to -/
def tu_B (P Du S Wy : Nat → Nat) (n : Nat) : Prop := n ≤ 8 ∧ (∀ i, P i < 10) ∧ (∀ i, Du i ≤ 10000) ∧ (∀ i, S i < 2 ^ 24) ∧ ∀ i, Wy i ≤ 10000
theorem tu_ne {f : g_F} {x b : Nat} {ci : Nat} {fs : List Value} {y : ClassId × vp_A} (h : f x = some (.inr (ci, fs))) (h2 : f b = some (.inl y)) : x ≠ b := g_ne h h2 (fun z => by cases z)
/-- the cases that a set of acts shows -/
def orS (S : Nat → Nat) (acts : Nat) : Nat → Nat
  | 0 => 0
  | i + 1 => if acts.testBit i then orS S acts i ||| S i else orS S acts i
theorem orS_lt {S : Nat → Nat} (hS : ∀ i, S i < 2 ^ 24) (acts : Nat) : ∀ n, orS S acts n < 2 ^ 24
  | 0 => (by decide : 0 < 2 ^ 24)
  | n + 1 => by
    unfold orS
    split
    · exact or_lt (orS_lt hS acts n) (hS n)
    · exact orS_lt hS acts n
abbrev tu_wy (P Wy : Nat → Nat) (i j : Nat) : Nat := Wy (P i * 10 + P j)
set_option maxHeartbeats 4000000 in
set_option maxRecDepth 100000 in
theorem c_TU_actCount {l : Launch} {D : va_G} {cI cZ cO cJ : ClassId} {eA : Nat} {f : g_F} {t : Nat} {a : Nat → Nat} {P Du S Wy Re : Nat → Nat} {n : Nat} (hR : tu_R cI f t a P Du S Wy Re n) (hB : tu_B P Du S Wy n) : g_C l y_TU_actCount b_TU_actCount 1 (some .int) { frames := 0, cells := 0, slots := 0, locals := 0 } D g_cl (g_tys cI cZ cO cJ) (z_Z eA) [.ref t] f (fun r f2 => r = some (.int (nI n)) ∧ f2 = f) (fun _ => False) := by
  refine g_ofW [(0, .ref t)] (by decide +kernel) (Nat.le_of_ble_eq_true rfl) rfl ?_
  intro p e s m args below meth c X ht hin
  obtain ⟨hT, h0, h1, h2, h3, h4⟩ := id hR
  obtain ⟨hn8, hP, hDu, hS, hWy⟩ := id hB
  refine g_aload_n X d_TU_actCount_0 0 rfl ?_
  refine g_get (ci := 2) (C := R_TU) (T := F_TU) (N := 6) (v := .int (nI n)) X i_TU rfl hT 5 (by decide) q_89 (fun _ h9 => h9) rfl d_TU_actCount_1 ?_
  exact g_iret X rfl (⟨rfl, rfl⟩) (Nat.le_of_ble_eq_true rfl) (Nat.le_of_ble_eq_true rfl) d_TU_actCount_4
set_option maxHeartbeats 4000000 in
set_option maxRecDepth 100000 in
theorem c_TU_weight {l : Launch} {D : va_G} {cI cZ cO cJ : ClassId} {eA : Nat} {f : g_F} {x : Nat} (hx : x ≤ 20000) : g_C l y_TU_weight b_TU_weight 1 (some .int) { frames := 0, cells := 0, slots := 0, locals := 0 } D g_cl (g_tys cI cZ cO cJ) (z_Z eA) [.int (nI x)] f (fun r f2 => r = some (.int (nI (x * 16 + 1))) ∧ f2 = f) (fun _ => False) := by
  refine g_ofW [(0, .int (nI x))] (by decide +kernel) (Nat.le_of_ble_eq_true rfl) rfl ?_
  intro p e s m args below meth c X ht hin
  refine g_iload_n X d_TU_weight_0 0 rfl ?_
  refine g_iconst (v := 4) X d_TU_weight_1 (by decide) ?_
  refine g_ishl X d_TU_weight_2 ?_
  refine g_eqi (y := nI (x * 16)) (nI_shl (a := x) (k := 4) (by decide) (by omega)) ?_
  refine g_iconst (v := 1) X d_TU_weight_3 (by decide) ?_
  refine g_iadd X d_TU_weight_4 ?_
  refine g_eqi (y := nI (x * 16 + 1)) (nI_1 _) ?_
  exact g_iret X rfl (⟨rfl, rfl⟩) (Nat.le_of_ble_eq_true rfl) (Nat.le_of_ble_eq_true rfl) d_TU_weight_5
set_option maxHeartbeats 4000000 in
set_option maxRecDepth 100000 in
theorem c_TU_wayBetween {l : Launch} {D : va_G} {cI cZ cO cJ : ClassId} {eA : Nat} {f : g_F} {t : Nat} {a : Nat → Nat} {P Du S Wy Re : Nat → Nat} {n : Nat} (hR : tu_R cI f t a P Du S Wy Re n) (hB : tu_B P Du S Wy n) {i j : Nat} (hi : i < 8) (hj : j < 8) : g_C l y_TU_wayBetween b_TU_wayBetween 3 (some .int) { frames := 0, cells := 0, slots := 0, locals := 0 } D g_cl (g_tys cI cZ cO cJ) (z_Z eA) [.ref t, .int (nI i), .int (nI j)] f (fun r f2 => r = some (.int (nI (tu_wy P Wy i j))) ∧ f2 = f) (fun _ => False) := by
  refine g_ofW [(0, .ref t), (1, .int (nI i)), (2, .int (nI j))] (by decide +kernel) (Nat.le_of_ble_eq_true rfl) rfl ?_
  intro p e s m args below meth c X ht hin
  obtain ⟨hT, h0, h1, h2, h3, h4⟩ := id hR
  obtain ⟨hn8, hP, hDu, hS, hWy⟩ := id hB
  have hb : P i * 10 + P j < 100 := by have := hP i; have := hP j; omega
  refine g_aload_n X d_TU_wayBetween_0 0 rfl ?_
  refine g_get (ci := 2) (C := R_TU) (T := F_TU) (N := 6) (v := .ref (a 3)) X i_TU rfl hT 3 (by decide) q_87 (fun _ h9 => h9) rfl d_TU_wayBetween_1 ?_
  refine g_aload_n X d_TU_wayBetween_4 0 rfl ?_
  refine g_get (ci := 2) (C := R_TU) (T := F_TU) (N := 6) (v := .ref (a 0)) X i_TU rfl hT 0 (by decide) q_84 (fun _ h9 => h9) rfl d_TU_wayBetween_5 ?_
  refine g_iload_n X d_TU_wayBetween_8 1 rfl ?_
  refine g_iald (t0 := 0) (v := nI (P i)) X h0 rfl (nI_ix (hi) (by decide)) (nI_cl (g := fun q9 => nI (P q9)) (Nat.lt_trans (hi) (by decide))) d_TU_wayBetween_9 ?_
  refine g_bipush (v := 10) X d_TU_wayBetween_10 (by decide) ?_
  refine g_imul X d_TU_wayBetween_12 ?_
  refine g_eqi (y := nI (P i * 10)) (nI_mul (P i) 10) ?_
  refine g_aload_n X d_TU_wayBetween_13 0 rfl ?_
  refine g_get (ci := 2) (C := R_TU) (T := F_TU) (N := 6) (v := .ref (a 0)) X i_TU rfl hT 0 (by decide) q_84 (fun _ h9 => h9) rfl d_TU_wayBetween_14 ?_
  refine g_iload_n X d_TU_wayBetween_17 2 rfl ?_
  refine g_iald (t0 := 0) (v := nI (P j)) X h0 rfl (nI_ix (hj) (by decide)) (nI_cl (g := fun q9 => nI (P q9)) (Nat.lt_trans (hj) (by decide))) d_TU_wayBetween_18 ?_
  refine g_iadd X d_TU_wayBetween_19 ?_
  refine g_eqi (y := nI (P i * 10 + P j)) (nI_add _ _) ?_
  refine g_iald (t0 := 0) (v := nI (Wy (P i * 10 + P j))) X h3 rfl (nI_ix (hb) (by decide)) (nI_cl (g := fun q9 => nI (Wy q9)) (Nat.lt_trans (hb) (by decide))) d_TU_wayBetween_20 ?_
  exact g_iret X rfl (⟨rfl, rfl⟩) (Nat.le_of_ble_eq_true rfl) (Nat.le_of_ble_eq_true rfl) d_TU_wayBetween_21
set_option maxHeartbeats 4000000 in
set_option maxRecDepth 100000 in
theorem L_TU_shownBy {p : Program} {l : Launch} {e : Env} {s : State} {m : MethodId} {args : Array Value} {below : List Frame} {meth : Method} {c : Code} {Q : State → Prop} {A : Nat → Prop} {D : va_G} {cI cZ cO cJ : ClassId} {eA : Nat} {f : g_F} {t : Nat} {a : Nat → Nat} {P Du S Wy Re : Nat → Nat} {n : Nat} (hR : tu_R cI f t a P Du S Wy Re n) (hB : tu_B P Du S Wy n) {acts : Nat} (ha : acts < 2 ^ 31) (X : g_X p s m args meth c b_TU_shownBy 4 (some .int) g_T y_TU_shownBy.cls D g_cl (g_tys cI cZ cO cJ) A (z_Z eA)) (kk : g_W p l e { frames := 1, cells := 0, slots := 0, locals := 21 } s m args below meth c 4 D g_cl A f 0 0 Q 35 [(3, .int (nI n)), (2, .int (nI (orS S acts n))), (0, .ref t), (1, .int (nI acts))] []) : ∀ (d : Nat) (i : Nat), (i + d = n) → g_W p l e { frames := 1, cells := 0, slots := 0, locals := 21 } s m args below meth c 4 D g_cl A f 0 0 Q 4 [(3, .int (nI i)), (2, .int (nI (orS S acts i))), (0, .ref t), (1, .int (nI acts))] [] := by
  obtain ⟨hT, h0, h1, h2, h3, h4⟩ := id hR
  obtain ⟨hn8, hP, hDu, hS, hWy⟩ := id hB
  intro d
  induction d using Nat.strongRecOn with
  | _ d ih =>
    intro i hi
    refine g_iload_n X d_TU_shownBy_4 0 rfl ?_
    refine g_aload_n X d_TU_shownBy_5 2 rfl ?_
    refine g_get (ci := 2) (C := R_TU) (T := F_TU) (N := 6) (v := .int (nI n)) X i_TU rfl hT 5 (by decide) q_89 (fun _ h9 => h9) rfl d_TU_shownBy_6 ?_
    refine g_icmp_ge X 35 d_TU_shownBy_9 (by decide) (fun c9 => ?_) (fun c9 => ?_)
    · skip
      have e : i = n := by have := (nI_leI (by omega) (by omega)).mp c9; omega
      subst e
      exact kk
    · skip
      have hlt : i < n := Nat.lt_of_not_le (fun z => c9 ((nI_leI (by omega) (by omega)).mpr z))
      refine g_iload_n X d_TU_shownBy_12 3 rfl ?_
      refine g_iload_n X d_TU_shownBy_13 0 rfl ?_
      refine g_callSN (As := [.int (nI acts), .int (nI i)]) (rest := []) X (z_ok eA) (c_CL_holds (f := f) (a := acts) (k := i) (ha) (by omega)) v_CL_holds q_367 (X.2.2.2.2.2.2.2.1.1) (fun _ h => h) rfl rfl (Nat.le_of_ble_eq_true rfl) d_TU_shownBy_14 ⟨(Nat.le_of_ble_eq_true rfl), (Nat.le_of_ble_eq_true rfl)⟩ ⟨(Nat.le_of_ble_eq_true rfl), (Nat.le_of_ble_eq_true rfl)⟩ (fun r_ f2_ hp => ?_)
      obtain ⟨rfl, hf_⟩ := hp
      subst f2_
      refine g_st (st2 := [.int (bI (Nat.testBit acts i))]) rfl ?_
      refine g_if_eq X 29 d_TU_shownBy_17 (by decide) (fun c17 => ?_) (fun c17 => ?_)
      · skip
        have e : orS S acts (i + 1) = orS S acts i := if_neg (by rw [bI_z.mp c17]; decide)
        refine g_iinc (lv' := [(3, .int (nI (i + 1))), (2, .int (nI (orS S acts i))), (0, .ref t), (1, .int (nI acts))]) X d_TU_shownBy_29 0 rfl (nI_1 i) (by decide) rfl ?_
        refine g_goto X 4 d_TU_shownBy_32 (by decide) ?_
        rw [← e]
        exact g_lv [0, 1, 2, 3] rfl (ih (d - 1) (by omega) (i + 1) (by omega))
      · skip
        have e : orS S acts (i + 1) = orS S acts i ||| S i := if_pos (bt_nf (fun z => c17 (bI_z.mpr z)))
        refine g_iload_n X d_TU_shownBy_20 1 rfl ?_
        refine g_aload_n X d_TU_shownBy_21 2 rfl ?_
        refine g_get (ci := 2) (C := R_TU) (T := F_TU) (N := 6) (v := .ref (a 2)) X i_TU rfl hT 2 (by decide) q_86 (fun _ h9 => h9) rfl d_TU_shownBy_22 ?_
        refine g_iload_n X d_TU_shownBy_25 0 rfl ?_
        refine g_iald (t0 := 0) (v := nI (S i)) X h2 rfl (nI_ix ((by omega : i < 8)) (by decide)) (nI_cl (g := fun q9 => nI (S q9)) (Nat.lt_trans ((by omega : i < 8)) (by decide))) d_TU_shownBy_26 ?_
        refine g_ior X d_TU_shownBy_27 ?_
        refine g_eqi (y := nI (orS S acts (i + 1))) (by rw [e]; exact nI_or _ _) ?_
        refine g_istore_n (lv' := [(2, .int (nI (orS S acts (i + 1)))), (3, .int (nI i)), (0, .ref t), (1, .int (nI acts))]) X d_TU_shownBy_28 rfl (by decide) rfl ?_
        refine g_iinc (lv' := [(3, .int (nI (i + 1))), (2, .int (nI (orS S acts (i + 1)))), (0, .ref t), (1, .int (nI acts))]) X d_TU_shownBy_29 1 rfl (nI_1 i) (by decide) rfl ?_
        refine g_goto X 4 d_TU_shownBy_32 (by decide) ?_
        exact g_lv [0, 1, 2, 3] rfl (ih (d - 1) (by omega) (i + 1) (by omega))
set_option maxHeartbeats 4000000 in
set_option maxRecDepth 100000 in
theorem c_TU_shownBy {l : Launch} {D : va_G} {cI cZ cO cJ : ClassId} {eA : Nat} {f : g_F} {t : Nat} {a : Nat → Nat} {P Du S Wy Re : Nat → Nat} {n : Nat} (hR : tu_R cI f t a P Du S Wy Re n) (hB : tu_B P Du S Wy n) {acts : Nat} (ha : acts < 2 ^ 31) : g_C l y_TU_shownBy b_TU_shownBy 4 (some .int) { frames := 1, cells := 0, slots := 0, locals := 21 } D g_cl (g_tys cI cZ cO cJ) (z_Z eA) [.ref t, .int (nI acts)] f (fun r f2 => r = some (.int (nI (orS S acts n))) ∧ f2 = f) (fun _ => False) := by
  refine g_ofW [(0, .ref t), (1, .int (nI acts))] (by decide +kernel) (Nat.le_of_ble_eq_true rfl) rfl ?_
  intro p e s m args below meth c X ht hin
  refine g_iconst (v := 0) X d_TU_shownBy_0 (by decide) ?_
  refine g_istore_n (lv' := [(2, .int 0), (0, .ref t), (1, .int (nI acts))]) X d_TU_shownBy_1 rfl (by decide) rfl ?_
  refine g_iconst (v := 0) X d_TU_shownBy_2 (by decide) ?_
  refine g_istore_n (lv' := [(3, .int 0), (2, .int 0), (0, .ref t), (1, .int (nI acts))]) X d_TU_shownBy_3 rfl (by decide) rfl ?_
  refine L_TU_shownBy hR hB ha X ?_ n 0 (by omega)
  exact g_iload_n X d_TU_shownBy_35 1 rfl (g_iret X rfl ⟨rfl, rfl⟩ (Nat.le_of_ble_eq_true rfl) (Nat.le_of_ble_eq_true rfl) d_TU_shownBy_36)
end
section
theorem g_mmin {p : Program} {l : Launch} {e : Env} {R : Room} {s : State} {m : MethodId} {args : Array Value} {below : List Frame} {meth : Method} {c : Code} {cells slots : Nat} {Q : State → Prop} {cc : ByteArray} {pc nL : Nat} {D : va_G} {cl : List vw_C} {tys : List (ClassId × FieldType)} {A : Nat → Prop} {f : g_F} {lv : List (Nat × Value)} {st : List Value} {own : String} {ret : Option FieldType} {Z : (Nat → Prop) → State → Heap → Prop} {a b index : Nat}
    (X : g_X p s m args meth c cc nL ret g_T own D cl tys A Z) (hlk : Cond.methodLink own index y_MA_min ∈ g_T) (ha : a < 2 ^ 31) (hb : b < 2 ^ 31) (hRf : 1 ≤ R.frames) (hRl : (st.map fun v => v.category).sum + 13 ≤ R.locals) (hc : cells ≤ R.cells) (hs : slots ≤ R.slots) (d : decode cc pc = .ok (.invokestatic index, 3))
    (kk : g_W p l e R s m args below meth c nL D cl A f cells slots Q (pc + 3) lv (.int (nI (min a b)) :: st)) : g_W p l e R s m args below meth c nL D cl A f cells slots Q pc lv (.int (nI b) :: .int (nI a) :: st) := by
  intro H locs ls hP hD hS hl
  have h9 := kk H locs ls hP hD hS hl
  have e9 : (if nI b < nI a then nI b else nI a) = nI (min a b) := by
    by_cases h : b < a
    · rw [if_pos ((nI_ltI hb ha).mpr h), Nat.min_eq_right (Nat.le_of_lt h)]
    · rw [if_neg (fun z => h ((nI_ltI hb ha).mp z)), Nat.min_eq_left (Nat.le_of_not_lt h)]
  rw [← e9] at h9
  exact va_mmin X.1.1 X.1.2.1 (X.1.2.2.1.trans hl.1.symm) X.1.2.2.2.1 (X.1.2.2.2.2 _ hlk) (X.1.2.2.2.2 _ q_30) (X.1.2.2.2.2 _ q_2) (X.1.2.2.2.2 _ q_31) hRf hRl hc hs d h9
theorem g_mmax {p : Program} {l : Launch} {e : Env} {R : Room} {s : State} {m : MethodId} {args : Array Value} {below : List Frame} {meth : Method} {c : Code} {cells slots : Nat} {Q : State → Prop} {cc : ByteArray} {pc nL : Nat} {D : va_G} {cl : List vw_C} {tys : List (ClassId × FieldType)} {A : Nat → Prop} {f : g_F} {lv : List (Nat × Value)} {st : List Value} {own : String} {ret : Option FieldType} {Z : (Nat → Prop) → State → Heap → Prop} {a b index : Nat}
    (X : g_X p s m args meth c cc nL ret g_T own D cl tys A Z) (hlk : Cond.methodLink own index y_MA_max ∈ g_T) (ha : a < 2 ^ 31) (hb : b < 2 ^ 31) (hRf : 1 ≤ R.frames) (hRl : (st.map fun v => v.category).sum + 13 ≤ R.locals) (hc : cells ≤ R.cells) (hs : slots ≤ R.slots) (d : decode cc pc = .ok (.invokestatic index, 3))
    (kk : g_W p l e R s m args below meth c nL D cl A f cells slots Q (pc + 3) lv (.int (nI (max a b)) :: st)) : g_W p l e R s m args below meth c nL D cl A f cells slots Q pc lv (.int (nI b) :: .int (nI a) :: st) := by
  intro H locs ls hP hD hS hl
  have h9 := kk H locs ls hP hD hS hl
  have e9 : (if nI a < nI b then nI b else nI a) = nI (max a b) := by
    by_cases h : a < b
    · rw [if_pos ((nI_ltI ha hb).mpr h), Nat.max_eq_right (Nat.le_of_lt h)]
    · rw [if_neg (fun z => h ((nI_ltI ha hb).mp z)), Nat.max_eq_left (Nat.le_of_not_lt h)]
  rw [← e9] at h9
  exact va_mmax X.1.1 X.1.2.1 (X.1.2.2.1.trans hl.1.symm) X.1.2.2.2.1 (X.1.2.2.2.2 _ hlk) (X.1.2.2.2.2 _ q_33) (X.1.2.2.2.2 _ q_2) (X.1.2.2.2.2 _ q_34) hRf hRl hc hs d h9
theorem nI_sub {a b : Nat} (h : b ≤ a) : nI a - nI b = nI (a - b) := pk_sub h
theorem nI_m1 {a : Nat} (h : 1 ≤ a) : nI a - 1 = nI (a - 1) := nI_sub (b := 1) h
theorem cov_iff {a b : Nat} (ha : a < 2 ^ 31) (hb : b < 2 ^ 31) : (nI a &&& (nI b ^^^ (-1))) = 0 ↔ a &&& b = a := by
  have e1 : (-1 : Int32) = nI (2 ^ 32 - 1) := by decide
  rw [e1, nI_xor, nI_and, nI_z (Nat.lt_of_le_of_lt Nat.and_le_left ha)]
  constructor
  · intro h
    apply Nat.eq_of_testBit_eq
    intro i
    have h2 := congrArg (fun z => Nat.testBit z i) h
    simp only [Nat.testBit_and, Nat.testBit_xor, Nat.testBit_two_pow_sub_one, Nat.zero_testBit] at h2
    rw [Nat.testBit_and]
    by_cases hi : i < 32
    · simp [hi] at h2
      cases ha2 : a.testBit i
      · rfl
      · rw [ha2] at h2
        simp at h2
        simp [h2]
    · have : a.testBit i = false := Nat.testBit_lt_two_pow (Nat.lt_of_lt_of_le ha (Nat.pow_le_pow_right (by decide) (by omega)))
      rw [this]; rfl
  · intro h
    apply Nat.eq_of_testBit_eq
    intro i
    have h2 := congrArg (fun z => Nat.testBit z i) h
    simp only [Nat.testBit_and] at h2
    simp only [Nat.testBit_and, Nat.testBit_xor, Nat.testBit_two_pow_sub_one, Nat.zero_testBit]
    by_cases hi : i < 32
    · cases ha2 : a.testBit i
      · rfl
      · rw [ha2] at h2
        simp at h2
        simp [h2, hi]
    · have : a.testBit i = false := Nat.testBit_lt_two_pow (Nat.lt_of_lt_of_le ha (Nat.pow_le_pow_right (by decide) (by omega)))
      rw [this]; rfl
/-- a set of acts shows all that is needed -/
def cov (S : Nat → Nat) (n need acts : Nat) : Bool := decide (need &&& orS S acts n = need)
set_option maxHeartbeats 4000000 in
set_option maxRecDepth 100000 in
theorem c_TU_covers {l : Launch} {D : va_G} {cI cZ cO cJ : ClassId} {eA : Nat} {f : g_F} {t : Nat} {a : Nat → Nat} {P Du S Wy Re : Nat → Nat} {n : Nat} (hR : tu_R cI f t a P Du S Wy Re n) (hB : tu_B P Du S Wy n) {acts need : Nat} (ha : acts < 2 ^ 31) (hne : need < 2 ^ 31) : g_C l y_TU_covers b_TU_covers 3 (some .boolean) { frames := 2, cells := 0, slots := 0, locals := 44 } D g_cl (g_tys cI cZ cO cJ) (z_Z eA) [.ref t, .int (nI acts), .int (nI need)] f (fun r f2 => r = some (.int (bI (cov S n need acts))) ∧ f2 = f) (fun _ => False) := by
  refine g_ofW [(0, .ref t), (1, .int (nI acts)), (2, .int (nI need))] (by decide +kernel) (Nat.le_of_ble_eq_true rfl) rfl ?_
  intro p e s m args below meth c X ht hin
  obtain ⟨hT, h0, h1, h2, h3, h4⟩ := id hR
  obtain ⟨hn8, hP, hDu, hS, hWy⟩ := id hB
  have hb : orS S acts n < 2 ^ 31 := Nat.lt_trans (orS_lt hS acts n) (by decide)
  refine g_iload_n X d_TU_covers_0 2 rfl ?_
  refine g_aload_n X d_TU_covers_1 0 rfl ?_
  refine g_iload_n X d_TU_covers_2 1 rfl ?_
  refine g_callV (ci := 2) (As := [.int (nI acts)]) (rest := [.int (nI need)]) X (z_ok eA) rfl rfl hT (c_TU_shownBy hR hB (acts := acts) ha) v_TU_shownBy q_463 q_s9 q_461 rfl rfl (Nat.le_of_ble_eq_true rfl) d_TU_covers_3 ⟨(Nat.le_of_ble_eq_true rfl), (Nat.le_of_ble_eq_true rfl)⟩ ⟨(Nat.le_of_ble_eq_true rfl), (Nat.le_of_ble_eq_true rfl)⟩ (g_K.no (fun _ h => h)) (fun r_ f2_ hp => ?_)
  obtain ⟨rfl, hf_⟩ := hp
  subst f2_
  refine g_st (st2 := [.int (nI (orS S acts n)), .int (nI need)]) rfl ?_
  refine g_iconst (v := (-1)) X d_TU_covers_6 (by decide) ?_
  refine g_ixor X d_TU_covers_7 ?_
  refine g_iand X d_TU_covers_8 ?_
  refine g_if_ne X 16 d_TU_covers_9 (by decide) (fun c9 => ?_) (fun c9 => ?_)
  · skip
    refine g_iconst (v := 0) X d_TU_covers_16 (by decide) ?_
    exact g_zret X rfl (by decide) (⟨by rw [show cov S n need acts = false from decide_eq_false (fun z => c9 ((cov_iff hne hb).mpr z))]; rfl, rfl⟩) (Nat.le_of_ble_eq_true rfl) (Nat.le_of_ble_eq_true rfl) d_TU_covers_17
  · skip
    refine g_iconst (v := 1) X d_TU_covers_12 (by decide) ?_
    refine g_goto X 17 d_TU_covers_13 (by decide) ?_
    exact g_zret X rfl (by decide) (⟨by rw [show cov S n need acts = true from decide_eq_true ((cov_iff hne hb).mp c9)]; rfl, rfl⟩) (Nat.le_of_ble_eq_true rfl) (Nat.le_of_ble_eq_true rfl) d_TU_covers_17
theorem full_lt {n : Nat} (h : n ≤ 8) : 2 ^ n - 1 < 256 := by
  have := Nat.pow_le_pow_right (n := 2) (by decide) h
  omega
theorem full_e {n : Nat} (h : n ≤ 8) : (1 : Int32) <<< (nI n &&& 31) - 1 = nI (2 ^ n - 1) := by
  rw [nI_bit (by omega)]
  exact nI_m1 (Nat.two_pow_pos n)
set_option maxHeartbeats 4000000 in
set_option maxRecDepth 100000 in
theorem c_TU_shownByAny {l : Launch} {D : va_G} {cI cZ cO cJ : ClassId} {eA : Nat} {f : g_F} {t : Nat} {a : Nat → Nat} {P Du S Wy Re : Nat → Nat} {n : Nat} (hR : tu_R cI f t a P Du S Wy Re n) (hB : tu_B P Du S Wy n) : g_C l y_TU_shownByAny b_TU_shownByAny 1 (some .int) { frames := 2, cells := 0, slots := 0, locals := 44 } D g_cl (g_tys cI cZ cO cJ) (z_Z eA) [.ref t] f (fun r f2 => r = some (.int (nI (orS S (2 ^ n - 1) n))) ∧ f2 = f) (fun _ => False) := by
  refine g_ofW [(0, .ref t)] (by decide +kernel) (Nat.le_of_ble_eq_true rfl) rfl ?_
  intro p e s m args below meth c X ht hin
  obtain ⟨hT, h0, h1, h2, h3, h4⟩ := id hR
  obtain ⟨hn8, hP, hDu, hS, hWy⟩ := id hB
  refine g_aload_n X d_TU_shownByAny_0 0 rfl ?_
  refine g_iconst (v := 1) X d_TU_shownByAny_1 (by decide) ?_
  refine g_aload_n X d_TU_shownByAny_2 0 rfl ?_
  refine g_get (ci := 2) (C := R_TU) (T := F_TU) (N := 6) (v := .int (nI n)) X i_TU rfl hT 5 (by decide) q_89 (fun _ h9 => h9) rfl d_TU_shownByAny_3 ?_
  refine g_ishl X d_TU_shownByAny_6 ?_
  refine g_iconst (v := 1) X d_TU_shownByAny_7 (by decide) ?_
  refine g_isub X d_TU_shownByAny_8 ?_
  refine g_eqi (y := nI (2 ^ n - 1)) (full_e hn8) ?_
  refine g_callV (ci := 2) (As := [.int (nI (2 ^ n - 1))]) (rest := []) X (z_ok eA) rfl rfl hT (c_TU_shownBy hR hB (acts := 2 ^ n - 1) (Nat.lt_trans (full_lt hn8) (by decide))) v_TU_shownBy q_463 q_s9 q_461 rfl rfl (Nat.le_of_ble_eq_true rfl) d_TU_shownByAny_9 ⟨(Nat.le_of_ble_eq_true rfl), (Nat.le_of_ble_eq_true rfl)⟩ ⟨(Nat.le_of_ble_eq_true rfl), (Nat.le_of_ble_eq_true rfl)⟩ (g_K.no (fun _ h => h)) (fun r_ f2_ hp => ?_)
  obtain ⟨rfl, hf_⟩ := hp
  subst f2_
  refine g_st (st2 := [.int (nI (orS S (2 ^ n - 1) n))]) rfl ?_
  exact g_iret X rfl (⟨rfl, rfl⟩) (Nat.le_of_ble_eq_true rfl) (Nat.le_of_ble_eq_true rfl) d_TU_shownByAny_12
/-- the weight of beginning with an act; of going on with one -/
abbrev wF (Du Re : Nat → Nat) (i : Nat) : Nat := Du i * 16 + 1 + Re (2 ^ i * 8 + i)
abbrev wN (P Du Wy Re : Nat → Nat) (done last i : Nat) : Nat := (tu_wy P Wy last i + Du i) * 16 + 1 + Re ((done ||| 2 ^ i) * 8 + i)
theorem pw8 {i : Nat} (h : i < 8) : 2 ^ i < 256 := Nat.lt_of_lt_of_le (Nat.pow_lt_pow_right (by decide) h) (by decide)
theorem or8 {a i : Nat} (ha : a < 256) (h : i < 8) : a ||| 2 ^ i < 256 := or_lt (k := 8) ha (pw8 h)
set_option maxHeartbeats 4000000 in
set_option maxRecDepth 100000 in
theorem c_TU_weightOfFirst {l : Launch} {D : va_G} {cI cZ cO cJ : ClassId} {eA : Nat} {f : g_F} {t : Nat} {a : Nat → Nat} {P Du S Wy Re : Nat → Nat} {n : Nat} (hR : tu_R cI f t a P Du S Wy Re n) (hB : tu_B P Du S Wy n) (hRe : ∀ i, Re i ≤ 2 ^ 28) {i : Nat} (hi : i < 8) : g_C l y_TU_weightOfFirst b_TU_weightOfFirst 2 (some .int) { frames := 1, cells := 0, slots := 0, locals := 20 } D g_cl (g_tys cI cZ cO cJ) (z_Z eA) [.ref t, .int (nI i)] f (fun r f2 => r = some (.int (nI (wF Du Re i))) ∧ f2 = f) (fun _ => False) := by
  refine g_ofW [(0, .ref t), (1, .int (nI i))] (by decide +kernel) (Nat.le_of_ble_eq_true rfl) rfl ?_
  intro p e s m args below meth c X ht hin
  obtain ⟨hT, h0, h1, h2, h3, h4⟩ := id hR
  obtain ⟨hn8, hP, hDu, hS, hWy⟩ := id hB
  have hb : 2 ^ i * 8 + i < 2048 := by have := pw8 hi; omega
  refine g_aload_n X d_TU_weightOfFirst_0 0 rfl ?_
  refine g_get (ci := 2) (C := R_TU) (T := F_TU) (N := 6) (v := .ref (a 1)) X i_TU rfl hT 1 (by decide) q_85 (fun _ h9 => h9) rfl d_TU_weightOfFirst_1 ?_
  refine g_iload_n X d_TU_weightOfFirst_4 1 rfl ?_
  refine g_iald (t0 := 0) (v := nI (Du i)) X h1 rfl (nI_ix (hi) (by decide)) (nI_cl (g := fun q9 => nI (Du q9)) (Nat.lt_trans (hi) (by decide))) d_TU_weightOfFirst_5 ?_
  refine g_callS (As := [.int (nI (Du i))]) (rest := []) X (z_ok eA) (c_TU_weight (f := f) (x := Du i) (Nat.le_trans (hDu i) (by decide))) v_TU_weight q_491 q_490 rfl rfl (Nat.le_of_ble_eq_true rfl) d_TU_weightOfFirst_6 ⟨(Nat.le_of_ble_eq_true rfl), (Nat.le_of_ble_eq_true rfl)⟩ ⟨(Nat.le_of_ble_eq_true rfl), (Nat.le_of_ble_eq_true rfl)⟩ (g_K.no (fun _ h => h)) (fun r_ f2_ hp => ?_)
  obtain ⟨rfl, hf_⟩ := hp
  subst f2_
  refine g_st (st2 := [.int (nI ((Du i) * 16 + 1))]) rfl ?_
  refine g_aload_n X d_TU_weightOfFirst_9 0 rfl ?_
  refine g_get (ci := 2) (C := R_TU) (T := F_TU) (N := 6) (v := .ref (a 4)) X i_TU rfl hT 4 (by decide) q_88 (fun _ h9 => h9) rfl d_TU_weightOfFirst_10 ?_
  refine g_iconst (v := 1) X d_TU_weightOfFirst_13 (by decide) ?_
  refine g_iload_n X d_TU_weightOfFirst_14 1 rfl ?_
  refine g_ishl X d_TU_weightOfFirst_15 ?_
  refine g_eqi (y := nI (2 ^ i)) (nI_bit (by omega)) ?_
  refine g_bipush (v := 8) X d_TU_weightOfFirst_16 (by decide) ?_
  refine g_imul X d_TU_weightOfFirst_18 ?_
  refine g_eqi (y := nI (2 ^ i * 8)) (nI_mul _ 8) ?_
  refine g_iload_n X d_TU_weightOfFirst_19 1 rfl ?_
  refine g_iadd X d_TU_weightOfFirst_20 ?_
  refine g_eqi (y := nI (2 ^ i * 8 + i)) (nI_add _ _) ?_
  refine g_iald (t0 := 0) (v := nI (Re (2 ^ i * 8 + i))) X h4 rfl (nI_ix (hb) (by decide)) (nI_cl (g := fun q9 => nI (Re q9)) (Nat.lt_trans (hb) (by decide))) d_TU_weightOfFirst_21 ?_
  refine g_iadd X d_TU_weightOfFirst_22 ?_
  refine g_eqi (y := nI (wF Du Re i)) (nI_add _ _) ?_
  exact g_iret X rfl (⟨rfl, rfl⟩) (Nat.le_of_ble_eq_true rfl) (Nat.le_of_ble_eq_true rfl) d_TU_weightOfFirst_23
set_option maxHeartbeats 4000000 in
set_option maxRecDepth 100000 in
theorem c_TU_weightOfNext {l : Launch} {D : va_G} {cI cZ cO cJ : ClassId} {eA : Nat} {f : g_F} {t : Nat} {a : Nat → Nat} {P Du S Wy Re : Nat → Nat} {n : Nat} (hR : tu_R cI f t a P Du S Wy Re n) (hB : tu_B P Du S Wy n) (hRe : ∀ i, Re i ≤ 2 ^ 28) {done last i : Nat} (hd : done < 256) (hla : last < 8) (hi : i < 8) : g_C l y_TU_weightOfNext b_TU_weightOfNext 5 (some .int) { frames := 1, cells := 0, slots := 0, locals := 22 } D g_cl (g_tys cI cZ cO cJ) (z_Z eA) [.ref t, .int (nI done), .int (nI last), .int (nI i)] f (fun r f2 => r = some (.int (nI (wN P Du Wy Re done last i))) ∧ f2 = f) (fun _ => False) := by
  refine g_ofW [(0, .ref t), (1, .int (nI done)), (2, .int (nI last)), (3, .int (nI i))] (by decide +kernel) (Nat.le_of_ble_eq_true rfl) rfl ?_
  intro p e s m args below meth c X ht hin
  obtain ⟨hT, h0, h1, h2, h3, h4⟩ := id hR
  obtain ⟨hn8, hP, hDu, hS, hWy⟩ := id hB
  have hb : (done ||| 2 ^ i) * 8 + i < 2048 := by have := or8 hd hi; omega
  refine g_aload_n X d_TU_weightOfNext_0 0 rfl ?_
  refine g_iload_n X d_TU_weightOfNext_1 2 rfl ?_
  refine g_iload_n X d_TU_weightOfNext_2 3 rfl ?_
  refine g_callV (ci := 2) (As := [.int (nI last), .int (nI i)]) (rest := []) X (z_ok eA) rfl rfl hT (c_TU_wayBetween hR hB hla hi) v_TU_wayBetween q_488 q_s14 q_486 rfl rfl (Nat.le_of_ble_eq_true rfl) d_TU_weightOfNext_3 ⟨(Nat.le_of_ble_eq_true rfl), (Nat.le_of_ble_eq_true rfl)⟩ ⟨(Nat.le_of_ble_eq_true rfl), (Nat.le_of_ble_eq_true rfl)⟩ (g_K.no (fun _ h => h)) (fun r_ f2_ hp => ?_)
  obtain ⟨rfl, hf_⟩ := hp
  subst f2_
  refine g_st (st2 := [.int (nI (tu_wy P Wy last i))]) rfl ?_
  refine g_aload_n X d_TU_weightOfNext_6 0 rfl ?_
  refine g_get (ci := 2) (C := R_TU) (T := F_TU) (N := 6) (v := .ref (a 1)) X i_TU rfl hT 1 (by decide) q_85 (fun _ h9 => h9) rfl d_TU_weightOfNext_7 ?_
  refine g_iload_n X d_TU_weightOfNext_10 3 rfl ?_
  refine g_iald (t0 := 0) (v := nI (Du i)) X h1 rfl (nI_ix (hi) (by decide)) (nI_cl (g := fun q9 => nI (Du q9)) (Nat.lt_trans (hi) (by decide))) d_TU_weightOfNext_11 ?_
  refine g_iadd X d_TU_weightOfNext_12 ?_
  refine g_eqi (y := nI (tu_wy P Wy last i + Du i)) (nI_add _ _) ?_
  refine g_callS (As := [.int (nI (tu_wy P Wy last i + Du i))]) (rest := []) X (z_ok eA) (c_TU_weight (f := f) (x := tu_wy P Wy last i + Du i) (by have := hDu i; have h9 : tu_wy P Wy last i ≤ 10000 := hWy _; omega)) v_TU_weight q_491 q_490 rfl rfl (Nat.le_of_ble_eq_true rfl) d_TU_weightOfNext_13 ⟨(Nat.le_of_ble_eq_true rfl), (Nat.le_of_ble_eq_true rfl)⟩ ⟨(Nat.le_of_ble_eq_true rfl), (Nat.le_of_ble_eq_true rfl)⟩ (g_K.no (fun _ h => h)) (fun r_ f2_ hp => ?_)
  obtain ⟨rfl, hf_⟩ := hp
  subst f2_
  refine g_st (st2 := [.int (nI ((tu_wy P Wy last i + Du i) * 16 + 1))]) rfl ?_
  refine g_istore (lv' := [(4, .int (nI ((tu_wy P Wy last i + Du i) * 16 + 1))), (0, .ref t), (1, .int (nI done)), (2, .int (nI last)), (3, .int (nI i))]) X d_TU_weightOfNext_16 (by decide) rfl ?_
  refine g_iload X d_TU_weightOfNext_18 0 rfl ?_
  refine g_aload_n X d_TU_weightOfNext_20 1 rfl ?_
  refine g_get (ci := 2) (C := R_TU) (T := F_TU) (N := 6) (v := .ref (a 4)) X i_TU rfl hT 4 (by decide) q_88 (fun _ h9 => h9) rfl d_TU_weightOfNext_21 ?_
  refine g_iload_n X d_TU_weightOfNext_24 2 rfl ?_
  refine g_iconst (v := 1) X d_TU_weightOfNext_25 (by decide) ?_
  refine g_iload_n X d_TU_weightOfNext_26 4 rfl ?_
  refine g_ishl X d_TU_weightOfNext_27 ?_
  refine g_eqi (y := nI (2 ^ i)) (nI_bit (by omega)) ?_
  refine g_ior X d_TU_weightOfNext_28 ?_
  refine g_eqi (y := nI (done ||| 2 ^ i)) (nI_or _ _) ?_
  refine g_bipush (v := 8) X d_TU_weightOfNext_29 (by decide) ?_
  refine g_imul X d_TU_weightOfNext_31 ?_
  refine g_eqi (y := nI ((done ||| 2 ^ i) * 8)) (nI_mul _ 8) ?_
  refine g_iload_n X d_TU_weightOfNext_32 4 rfl ?_
  refine g_iadd X d_TU_weightOfNext_33 ?_
  refine g_eqi (y := nI ((done ||| 2 ^ i) * 8 + i)) (nI_add _ _) ?_
  refine g_iald (t0 := 0) (v := nI (Re ((done ||| 2 ^ i) * 8 + i))) X h4 rfl (nI_ix (hb) (by decide)) (nI_cl (g := fun q9 => nI (Re q9)) (Nat.lt_trans (hb) (by decide))) d_TU_weightOfNext_34 ?_
  refine g_iadd X d_TU_weightOfNext_35 ?_
  refine g_eqi (y := nI (wN P Du Wy Re done last i)) (nI_add _ _) ?_
  exact g_iret X rfl (⟨rfl, rfl⟩) (Nat.le_of_ble_eq_true rfl) (Nat.le_of_ble_eq_true rfl) d_TU_weightOfNext_36
/-- the least weight of going on, among the acts below a number -/
def lrest (P Du Wy Re : Nat → Nat) (done last : Nat) : Nat → Nat
  | 0 => 2 ^ 28
  | i + 1 => if done.testBit i then lrest P Du Wy Re done last i else min (lrest P Du Wy Re done last i) (wN P Du Wy Re done last i)
theorem lrest_le (P Du Wy Re : Nat → Nat) (done last : Nat) : ∀ i, lrest P Du Wy Re done last i ≤ 2 ^ 28
  | 0 => Nat.le_refl _
  | i + 1 => by
    unfold lrest
    split
    · exact lrest_le P Du Wy Re done last i
    · exact Nat.le_trans (Nat.min_le_left _ _) (lrest_le P Du Wy Re done last i)
theorem wN_lt {P Du S Wy Re : Nat → Nat} {n : Nat} (hB : tu_B P Du S Wy n) (hRe : ∀ i, Re i ≤ 2 ^ 28) (done last i : Nat) : wN P Du Wy Re done last i < 2 ^ 31 := by
  have h1 := hB.2.2.1 i
  have h2 := hB.2.2.2.2 (P last * 10 + P i)
  have h3 := hRe ((done ||| 2 ^ i) * 8 + i)
  show (Wy (P last * 10 + P i) + Du i) * 16 + 1 + Re ((done ||| 2 ^ i) * 8 + i) < 2 ^ 31
  omega
theorem wF_lt {P Du S Wy Re : Nat → Nat} {n : Nat} (hB : tu_B P Du S Wy n) (hRe : ∀ i, Re i ≤ 2 ^ 28) (i : Nat) : wF Du Re i < 2 ^ 31 := by
  have h1 := hB.2.2.1 i
  have h3 := hRe (2 ^ i * 8 + i)
  show Du i * 16 + 1 + Re (2 ^ i * 8 + i) < 2 ^ 31
  omega
set_option maxHeartbeats 4000000 in
set_option maxRecDepth 100000 in
theorem L_TU_leastRest {p : Program} {l : Launch} {e : Env} {s : State} {m : MethodId} {args : Array Value} {below : List Frame} {meth : Method} {c : Code} {Q : State → Prop} {A : Nat → Prop} {D : va_G} {cI cZ cO cJ : ClassId} {eA : Nat} {f : g_F} {t : Nat} {a : Nat → Nat} {P Du S Wy Re : Nat → Nat} {n : Nat} (hR : tu_R cI f t a P Du S Wy Re n) (hB : tu_B P Du S Wy n) (hRe : ∀ i, Re i ≤ 2 ^ 28) {done last : Nat} (hd : done < 256) (hla : last < 8) (X : g_X p s m args meth c b_TU_leastRest 5 (some .int) g_T y_TU_leastRest.cls D g_cl (g_tys cI cZ cO cJ) A (z_Z eA)) (kk : g_W p l e { frames := 2, cells := 0, slots := 0, locals := 46 } s m args below meth c 5 D g_cl A f 0 0 Q 43 [(4, .int (nI n)), (3, .int (nI (lrest P Du Wy Re done last n))), (0, .ref t), (1, .int (nI done)), (2, .int (nI last))] []) : ∀ (d : Nat) (i : Nat), (i + d = n) → g_W p l e { frames := 2, cells := 0, slots := 0, locals := 46 } s m args below meth c 5 D g_cl A f 0 0 Q 6 [(4, .int (nI i)), (3, .int (nI (lrest P Du Wy Re done last i))), (0, .ref t), (1, .int (nI done)), (2, .int (nI last))] [] := by
  obtain ⟨hT, h0, h1, h2, h3, h4⟩ := id hR
  obtain ⟨hn8, hP, hDu, hS, hWy⟩ := id hB
  intro d
  induction d using Nat.strongRecOn with
  | _ d ih =>
    intro i hi
    refine g_iload X d_TU_leastRest_6 0 rfl ?_
    refine g_aload_n X d_TU_leastRest_8 2 rfl ?_
    refine g_get (ci := 2) (C := R_TU) (T := F_TU) (N := 6) (v := .int (nI n)) X i_TU rfl hT 5 (by decide) q_89 (fun _ h9 => h9) rfl d_TU_leastRest_9 ?_
    refine g_icmp_ge X 43 d_TU_leastRest_12 (by decide) (fun c12 => ?_) (fun c12 => ?_)
    · skip
      have e : i = n := by have := (nI_leI (by omega) (by omega)).mp c12; omega
      subst e
      exact kk
    · skip
      have hlt : i < n := Nat.lt_of_not_le (fun z => c12 ((nI_leI (by omega) (by omega)).mpr z))
      refine g_iload_n X d_TU_leastRest_15 3 rfl ?_
      refine g_iload X d_TU_leastRest_16 0 rfl ?_
      refine g_callSN (As := [.int (nI done), .int (nI i)]) (rest := []) X (z_ok eA) (c_CL_holds (f := f) (a := done) (k := i) (by omega) (by omega)) v_CL_holds q_367 (X.2.2.2.2.2.2.2.1.1) (fun _ h => h) rfl rfl (Nat.le_of_ble_eq_true rfl) d_TU_leastRest_18 ⟨(Nat.le_of_ble_eq_true rfl), (Nat.le_of_ble_eq_true rfl)⟩ ⟨(Nat.le_of_ble_eq_true rfl), (Nat.le_of_ble_eq_true rfl)⟩ (fun r_ f2_ hp => ?_)
      obtain ⟨rfl, hf_⟩ := hp
      subst f2_
      refine g_st (st2 := [.int (bI (Nat.testBit done i))]) rfl ?_
      refine g_if_ne X 37 d_TU_leastRest_21 (by decide) (fun c21 => ?_) (fun c21 => ?_)
      · skip
        have e : lrest P Du Wy Re done last (i + 1) = lrest P Du Wy Re done last i := if_pos (bt_nf (fun z => c21 (bI_z.mpr z)))
        refine g_iinc (lv' := [(4, .int (nI (i + 1))), (3, .int (nI (lrest P Du Wy Re done last i))), (0, .ref t), (1, .int (nI done)), (2, .int (nI last))]) X d_TU_leastRest_37 0 rfl (nI_1 i) (by decide) rfl ?_
        refine g_goto X 6 d_TU_leastRest_40 (by decide) ?_
        rw [← e]
        exact g_lv [0, 1, 2, 3, 4] rfl (ih (d - 1) (by omega) (i + 1) (by omega))
      · skip
        have e : lrest P Du Wy Re done last (i + 1) = min (lrest P Du Wy Re done last i) (wN P Du Wy Re done last i) := if_neg (by rw [bI_z.mp c21]; decide)
        refine g_iload_n X d_TU_leastRest_24 1 rfl ?_
        refine g_aload_n X d_TU_leastRest_25 2 rfl ?_
        refine g_iload_n X d_TU_leastRest_26 3 rfl ?_
        refine g_iload_n X d_TU_leastRest_27 4 rfl ?_
        refine g_iload X d_TU_leastRest_28 0 rfl ?_
        refine g_callV (ci := 2) (As := [.int (nI done), .int (nI last), .int (nI i)]) (rest := [.int (nI (lrest P Du Wy Re done last i))]) X (z_ok eA) rfl rfl hT (c_TU_weightOfNext hR hB hRe hd hla (i := i) (by omega)) v_TU_weightOfNext q_484 q_s13 q_482 rfl rfl (Nat.le_of_ble_eq_true rfl) d_TU_leastRest_30 ⟨(Nat.le_of_ble_eq_true rfl), (Nat.le_of_ble_eq_true rfl)⟩ ⟨(Nat.le_of_ble_eq_true rfl), (Nat.le_of_ble_eq_true rfl)⟩ (g_K.no (fun _ h => h)) (fun r_ f2_ hp => ?_)
        obtain ⟨rfl, hf_⟩ := hp
        subst f2_
        refine g_st (st2 := [.int (nI (wN P Du Wy Re done last i)), .int (nI (lrest P Du Wy Re done last i))]) rfl ?_
        refine g_mmin (a := lrest P Du Wy Re done last i) (b := wN P Du Wy Re done last i) X q_493 (Nat.lt_of_le_of_lt (lrest_le _ _ _ _ _ _ i) (by decide)) (wN_lt hB hRe done last i) (Nat.le_of_ble_eq_true rfl) (Nat.le_of_ble_eq_true rfl) (Nat.le_of_ble_eq_true rfl) (Nat.le_of_ble_eq_true rfl) d_TU_leastRest_33 ?_
        refine g_istore_n (lv' := [(3, .int (nI (min (lrest P Du Wy Re done last i) (wN P Du Wy Re done last i)))), (4, .int (nI i)), (0, .ref t), (1, .int (nI done)), (2, .int (nI last))]) X d_TU_leastRest_36 rfl (by decide) rfl ?_
        refine g_iinc (lv' := [(4, .int (nI (i + 1))), (3, .int (nI (min (lrest P Du Wy Re done last i) (wN P Du Wy Re done last i)))), (0, .ref t), (1, .int (nI done)), (2, .int (nI last))]) X d_TU_leastRest_37 1 rfl (nI_1 i) (by decide) rfl ?_
        refine g_goto X 6 d_TU_leastRest_40 (by decide) ?_
        rw [← e]
        exact g_lv [0, 1, 2, 3, 4] rfl (ih (d - 1) (by omega) (i + 1) (by omega))
set_option maxHeartbeats 4000000 in
set_option maxRecDepth 100000 in
theorem c_TU_leastRest {l : Launch} {D : va_G} {cI cZ cO cJ : ClassId} {eA : Nat} {f : g_F} {t : Nat} {a : Nat → Nat} {P Du S Wy Re : Nat → Nat} {n : Nat} (hR : tu_R cI f t a P Du S Wy Re n) (hB : tu_B P Du S Wy n) (hRe : ∀ i, Re i ≤ 2 ^ 28) {done last : Nat} (hd : done < 256) (hla : last < 8) : g_C l y_TU_leastRest b_TU_leastRest 5 (some .int) { frames := 2, cells := 0, slots := 0, locals := 46 } D g_cl (g_tys cI cZ cO cJ) (z_Z eA) [.ref t, .int (nI done), .int (nI last)] f (fun r f2 => r = some (.int (nI (lrest P Du Wy Re done last n))) ∧ f2 = f) (fun _ => False) := by
  refine g_ofW [(0, .ref t), (1, .int (nI done)), (2, .int (nI last))] (by decide +kernel) (Nat.le_of_ble_eq_true rfl) rfl ?_
  intro p e s m args below meth c X ht hin
  refine g_ldc (v := 268435456) X q_481 d_TU_leastRest_0 ?_
  refine g_istore_n (lv' := [(3, .int 268435456), (0, .ref t), (1, .int (nI done)), (2, .int (nI last))]) X d_TU_leastRest_2 rfl (by decide) rfl ?_
  refine g_iconst (v := 0) X d_TU_leastRest_3 (by decide) ?_
  refine g_istore (lv' := [(4, .int 0), (3, .int 268435456), (0, .ref t), (1, .int (nI done)), (2, .int (nI last))]) X d_TU_leastRest_4 (by decide) rfl ?_
  refine L_TU_leastRest hR hB hRe hd hla X ?_ n 0 (by omega)
  exact g_iload_n X d_TU_leastRest_43 1 rfl (g_iret X rfl ⟨rfl, rfl⟩ (Nat.le_of_ble_eq_true rfl) (Nat.le_of_ble_eq_true rfl) d_TU_leastRest_44)
/-- the least act of the least value below 2 ^ 28, and that value -/
def am (g : Nat → Nat) : Nat → Int32 × Nat
  | 0 => (-1, 2 ^ 28)
  | i + 1 => if g i < (am g i).2 then (nI i, g i) else am g i
theorem am_le (g : Nat → Nat) : ∀ i, (am g i).2 ≤ 2 ^ 28
  | 0 => Nat.le_refl _
  | i + 1 => by
    unfold am
    split
    · rename_i h
      exact Nat.le_of_lt (Nat.lt_of_lt_of_le h (am_le g i))
    · exact am_le g i
/-- what bestNext weighs -/
abbrev bN (P Du Wy Re : Nat → Nat) (done last i : Nat) : Nat := if done.testBit i then 2 ^ 28 else wN P Du Wy Re done last i
set_option maxHeartbeats 4000000 in
set_option maxRecDepth 100000 in
theorem L_TU_bestFirst {p : Program} {l : Launch} {e : Env} {s : State} {m : MethodId} {args : Array Value} {below : List Frame} {meth : Method} {c : Code} {Q : State → Prop} {A : Nat → Prop} {D : va_G} {cI cZ cO cJ : ClassId} {eA : Nat} {f : g_F} {t : Nat} {a : Nat → Nat} {P Du S Wy Re : Nat → Nat} {n : Nat} (hR : tu_R cI f t a P Du S Wy Re n) (hB : tu_B P Du S Wy n) (hRe : ∀ i, Re i ≤ 2 ^ 28) (X : g_X p s m args meth c b_TU_bestFirst 5 (some .int) g_T y_TU_bestFirst.cls D g_cl (g_tys cI cZ cO cJ) A (z_Z eA)) (kk : ∀ x4 : List (Nat × Value), g_W p l e { frames := 2, cells := 0, slots := 0, locals := 41 } s m args below meth c 5 D g_cl A f 0 0 Q 39 [(3, .int (nI n)), (2, .int (nI (am (wF Du Re) n).2)), (1, .int ((am (wF Du Re) n).1)), (0, .ref t)] []) : ∀ (d : Nat) (i : Nat), (i + d = n) → g_W p l e { frames := 2, cells := 0, slots := 0, locals := 41 } s m args below meth c 5 D g_cl A f 0 0 Q 7 [(3, .int (nI i)), (2, .int (nI (am (wF Du Re) i).2)), (1, .int ((am (wF Du Re) i).1)), (0, .ref t)] [] := by
  obtain ⟨hT, h0, h1, h2, h3, h4⟩ := id hR
  obtain ⟨hn8, hP, hDu, hS, hWy⟩ := id hB
  intro d
  induction d using Nat.strongRecOn with
  | _ d ih =>
    intro i hi
    refine g_iload_n X d_TU_bestFirst_7 0 rfl ?_
    refine g_aload_n X d_TU_bestFirst_8 3 rfl ?_
    refine g_get (ci := 2) (C := R_TU) (T := F_TU) (N := 6) (v := .int (nI n)) X i_TU rfl hT 5 (by decide) q_89 (fun _ h9 => h9) rfl d_TU_bestFirst_9 ?_
    refine g_icmp_ge X 39 d_TU_bestFirst_12 (by decide) (fun c12 => ?_) (fun c12 => ?_)
    · skip
      have e : i = n := by have := (nI_leI (by omega) (by omega)).mp c12; omega
      subst e
      exact kk []
    · skip
      have hlt : i < n := Nat.lt_of_not_le (fun z => c12 ((nI_leI (by omega) (by omega)).mpr z))
      refine g_aload_n X d_TU_bestFirst_15 3 rfl ?_
      refine g_iload_n X d_TU_bestFirst_16 0 rfl ?_
      refine g_callV (ci := 2) (As := [.int (nI i)]) (rest := []) X (z_ok eA) rfl rfl hT (c_TU_weightOfFirst hR hB hRe (i := i) (by omega)) v_TU_weightOfFirst q_500 q_s16 q_498 rfl rfl (Nat.le_of_ble_eq_true rfl) d_TU_bestFirst_17 ⟨(Nat.le_of_ble_eq_true rfl), (Nat.le_of_ble_eq_true rfl)⟩ ⟨(Nat.le_of_ble_eq_true rfl), (Nat.le_of_ble_eq_true rfl)⟩ (g_K.no (fun _ h => h)) (fun r_ f2_ hp => ?_)
      obtain ⟨rfl, hf_⟩ := hp
      subst f2_
      refine g_st (st2 := [.int (nI (wF Du Re i))]) rfl ?_
      refine g_istore (lv' := [(4, .int (nI (wF Du Re i))), (3, .int (nI i)), (2, .int (nI (am (wF Du Re) i).2)), (1, .int ((am (wF Du Re) i).1)), (0, .ref t)]) X d_TU_bestFirst_20 (by decide) rfl ?_
      refine g_iload X d_TU_bestFirst_22 0 rfl ?_
      refine g_iload_n X d_TU_bestFirst_24 2 rfl ?_
      refine g_icmp_ge X 33 d_TU_bestFirst_25 (by decide) (fun c25 => ?_) (fun c25 => ?_)
      · skip
        have e : am (wF Du Re) (i + 1) = am (wF Du Re) i := if_neg (Nat.not_lt.mpr ((nI_leI (by have := am_le (wF Du Re) i; omega) (wF_lt hB hRe i)).mp c25))
        refine g_iinc (lv' := [(3, .int (nI (i + 1))), (4, .int (nI (wF Du Re i))), (2, .int (nI (am (wF Du Re) i).2)), (1, .int ((am (wF Du Re) i).1)), (0, .ref t)]) X d_TU_bestFirst_33 1 rfl (nI_1 i) (by decide) rfl ?_
        refine g_goto X 7 d_TU_bestFirst_36 (by decide) ?_
        refine g_lv (lv' := [(3, .int (nI (i + 1))), (2, .int (nI (am (wF Du Re) (i + 1)).2)), (1, .int (am (wF Du Re) (i + 1)).1), (0, .ref t)]) [0, 2, 3, 4] (by rw [e]; rfl) (ih (d - 1) (by omega) (i + 1) (by omega))
      · skip
        have e : am (wF Du Re) (i + 1) = (nI i, wF Du Re i) := if_pos (Nat.lt_of_not_le (fun z => c25 ((nI_leI (by have := am_le (wF Du Re) i; omega) (wF_lt hB hRe i)).mpr z)))
        refine g_iload X d_TU_bestFirst_28 0 rfl ?_
        refine g_istore_n (lv' := [(2, .int (nI (wF Du Re i))), (4, .int (nI (wF Du Re i))), (3, .int (nI i)), (1, .int ((am (wF Du Re) i).1)), (0, .ref t)]) X d_TU_bestFirst_30 rfl (by decide) rfl ?_
        refine g_iload_n X d_TU_bestFirst_31 2 rfl ?_
        refine g_istore_n (lv' := [(1, .int (nI i)), (2, .int (nI (wF Du Re i))), (4, .int (nI (wF Du Re i))), (3, .int (nI i)), (0, .ref t)]) X d_TU_bestFirst_32 rfl (by decide) rfl ?_
        refine g_iinc (lv' := [(3, .int (nI (i + 1))), (1, .int (nI i)), (2, .int (nI (wF Du Re i))), (4, .int (nI (wF Du Re i))), (0, .ref t)]) X d_TU_bestFirst_33 3 rfl (nI_1 i) (by decide) rfl ?_
        refine g_goto X 7 d_TU_bestFirst_36 (by decide) ?_
        refine g_lv (lv' := [(3, .int (nI (i + 1))), (2, .int (nI (am (wF Du Re) (i + 1)).2)), (1, .int (am (wF Du Re) (i + 1)).1), (0, .ref t)]) [0, 2, 1, 4] (by rw [e]; rfl) (ih (d - 1) (by omega) (i + 1) (by omega))
set_option maxHeartbeats 4000000 in
set_option maxRecDepth 100000 in
theorem c_TU_bestFirst {l : Launch} {D : va_G} {cI cZ cO cJ : ClassId} {eA : Nat} {f : g_F} {t : Nat} {a : Nat → Nat} {P Du S Wy Re : Nat → Nat} {n : Nat} (hR : tu_R cI f t a P Du S Wy Re n) (hB : tu_B P Du S Wy n) (hRe : ∀ i, Re i ≤ 2 ^ 28) : g_C l y_TU_bestFirst b_TU_bestFirst 5 (some .int) { frames := 2, cells := 0, slots := 0, locals := 41 } D g_cl (g_tys cI cZ cO cJ) (z_Z eA) [.ref t] f (fun r f2 => r = some (.int (am (wF Du Re) n).1) ∧ f2 = f) (fun _ => False) := by
  refine g_ofW [(0, .ref t)] (by decide +kernel) (Nat.le_of_ble_eq_true rfl) rfl ?_
  intro p e s m args below meth c X ht hin
  refine g_iconst (v := (-1)) X d_TU_bestFirst_0 (by decide) ?_
  refine g_istore_n (lv' := [(1, .int (-1)), (0, .ref t)]) X d_TU_bestFirst_1 rfl (by decide) rfl ?_
  refine g_ldc (v := 268435456) X q_481 d_TU_bestFirst_2 ?_
  refine g_istore_n (lv' := [(2, .int 268435456), (1, .int (-1)), (0, .ref t)]) X d_TU_bestFirst_4 rfl (by decide) rfl ?_
  refine g_iconst (v := 0) X d_TU_bestFirst_5 (by decide) ?_
  refine g_istore_n (lv' := [(3, .int 0), (2, .int 268435456), (1, .int (-1)), (0, .ref t)]) X d_TU_bestFirst_6 rfl (by decide) rfl ?_
  refine g_lv [0, 1, 2, 3] rfl (L_TU_bestFirst hR hB hRe X ?_ n 0 (by omega))
  exact fun _ => g_iload_n X d_TU_bestFirst_39 2 rfl (g_iret X rfl ⟨rfl, rfl⟩ (Nat.le_of_ble_eq_true rfl) (Nat.le_of_ble_eq_true rfl) d_TU_bestFirst_40)
set_option maxHeartbeats 4000000 in
set_option maxRecDepth 100000 in
theorem L_TU_bestNext {p : Program} {l : Launch} {e : Env} {s : State} {m : MethodId} {args : Array Value} {below : List Frame} {meth : Method} {c : Code} {Q : State → Prop} {A : Nat → Prop} {D : va_G} {cI cZ cO cJ : ClassId} {eA : Nat} {f : g_F} {t : Nat} {a : Nat → Nat} {P Du S Wy Re : Nat → Nat} {n : Nat} (hR : tu_R cI f t a P Du S Wy Re n) (hB : tu_B P Du S Wy n) (hRe : ∀ i, Re i ≤ 2 ^ 28) {done last : Nat} (hd : done < 256) (hla : last < 8) (X : g_X p s m args meth c b_TU_bestNext 7 (some .int) g_T y_TU_bestNext.cls D g_cl (g_tys cI cZ cO cJ) A (z_Z eA)) (kk : g_W p l e { frames := 2, cells := 0, slots := 0, locals := 46 } s m args below meth c 7 D g_cl A f 0 0 Q 62 [(5, .int (nI n)), (4, .int (nI (am (bN P Du Wy Re done last) n).2)), (3, .int ((am (bN P Du Wy Re done last) n).1)), (0, .ref t), (1, .int (nI done)), (2, .int (nI last))] []) : ∀ (d : Nat) (i : Nat), (i + d = n) → g_W p l e { frames := 2, cells := 0, slots := 0, locals := 46 } s m args below meth c 7 D g_cl A f 0 0 Q 9 [(5, .int (nI i)), (4, .int (nI (am (bN P Du Wy Re done last) i).2)), (3, .int ((am (bN P Du Wy Re done last) i).1)), (0, .ref t), (1, .int (nI done)), (2, .int (nI last))] [] := by
  obtain ⟨hT, h0, h1, h2, h3, h4⟩ := id hR
  obtain ⟨hn8, hP, hDu, hS, hWy⟩ := id hB
  intro d
  induction d using Nat.strongRecOn with
  | _ d ih =>
    intro i hi
    refine g_iload X d_TU_bestNext_9 0 rfl ?_
    refine g_aload_n X d_TU_bestNext_11 3 rfl ?_
    refine g_get (ci := 2) (C := R_TU) (T := F_TU) (N := 6) (v := .int (nI n)) X i_TU rfl hT 5 (by decide) q_89 (fun _ h9 => h9) rfl d_TU_bestNext_12 ?_
    refine g_icmp_ge X 62 d_TU_bestNext_15 (by decide) (fun c15 => ?_) (fun c15 => ?_)
    · skip
      have e : i = n := by have := (nI_leI (by omega) (by omega)).mp c15; omega
      subst e
      exact kk
    · skip
      have hlt : i < n := Nat.lt_of_not_le (fun z => c15 ((nI_leI (by omega) (by omega)).mpr z))
      have hbl : bN P Du Wy Re done last i < 2 ^ 31 := by
        show (if done.testBit i then 2 ^ 28 else wN P Du Wy Re done last i) < 2 ^ 31
        split
        · decide
        · exact wN_lt hB hRe done last i
      have hal : (am (bN P Du Wy Re done last) i).2 < 2 ^ 31 := by have := am_le (bN P Du Wy Re done last) i; omega
      refine g_iload_n X d_TU_bestNext_18 4 rfl ?_
      refine g_iload X d_TU_bestNext_19 0 rfl ?_
      refine g_callSN (As := [.int (nI done), .int (nI i)]) (rest := []) X (z_ok eA) (c_CL_holds (f := f) (a := done) (k := i) (by omega) (by omega)) v_CL_holds q_367 (X.2.2.2.2.2.2.2.1.1) (fun _ h => h) rfl rfl (Nat.le_of_ble_eq_true rfl) d_TU_bestNext_21 ⟨(Nat.le_of_ble_eq_true rfl), (Nat.le_of_ble_eq_true rfl)⟩ ⟨(Nat.le_of_ble_eq_true rfl), (Nat.le_of_ble_eq_true rfl)⟩ (fun r_ f2_ hp => ?_)
      obtain ⟨rfl, hf_⟩ := hp
      subst f2_
      refine g_st (st2 := [.int (bI (Nat.testBit done i))]) rfl ?_
      refine g_if_eq X 32 d_TU_bestNext_24 (by decide) (fun c24 => ?_) (fun c24 => ?_)
      · skip
        refine g_aload_n X d_TU_bestNext_32 3 rfl ?_
        refine g_iload_n X d_TU_bestNext_33 4 rfl ?_
        refine g_iload_n X d_TU_bestNext_34 5 rfl ?_
        refine g_iload X d_TU_bestNext_35 0 rfl ?_
        refine g_callV (ci := 2) (As := [.int (nI done), .int (nI last), .int (nI i)]) (rest := []) X (z_ok eA) rfl rfl hT (c_TU_weightOfNext hR hB hRe hd hla (i := i) (by omega)) v_TU_weightOfNext q_484 q_s13 q_482 rfl rfl (Nat.le_of_ble_eq_true rfl) d_TU_bestNext_37 ⟨(Nat.le_of_ble_eq_true rfl), (Nat.le_of_ble_eq_true rfl)⟩ ⟨(Nat.le_of_ble_eq_true rfl), (Nat.le_of_ble_eq_true rfl)⟩ (g_K.no (fun _ h => h)) (fun r_ f2_ hp => ?_)
        obtain ⟨rfl, hf_⟩ := hp
        subst f2_
        refine g_st (st2 := [.int (nI (wN P Du Wy Re done last i))]) rfl ?_
        refine g_eqi (y := nI (bN P Du Wy Re done last i)) (by rw [show bN P Du Wy Re done last i = wN P Du Wy Re done last i from if_neg (by rw [bI_z.mp c24]; decide)]) ?_
        refine g_istore (lv' := [(6, .int (nI (bN P Du Wy Re done last i))), (5, .int (nI i)), (4, .int (nI (am (bN P Du Wy Re done last) i).2)), (3, .int ((am (bN P Du Wy Re done last) i).1)), (0, .ref t), (1, .int (nI done)), (2, .int (nI last))]) X d_TU_bestNext_40 (by decide) rfl ?_
        refine g_iload X d_TU_bestNext_42 0 rfl ?_
        refine g_iload X d_TU_bestNext_44 2 rfl ?_
        refine g_icmp_ge X 56 d_TU_bestNext_46 (by decide) (fun c46 => ?_) (fun c46 => ?_)
        · skip
          have e : am (bN P Du Wy Re done last) (i + 1) = am (bN P Du Wy Re done last) i := if_neg (Nat.not_lt.mpr ((nI_leI hal hbl).mp c46))
          refine g_iinc (lv' := [(5, .int (nI (i + 1))), (6, .int (nI (bN P Du Wy Re done last i))), (4, .int (nI (am (bN P Du Wy Re done last) i).2)), (3, .int ((am (bN P Du Wy Re done last) i).1)), (0, .ref t), (1, .int (nI done)), (2, .int (nI last))]) X d_TU_bestNext_56 1 rfl (nI_1 i) (by decide) rfl ?_
          refine g_goto X 9 d_TU_bestNext_59 (by decide) ?_
          refine g_lv (lv' := [(5, .int (nI (i + 1))), (4, .int (nI (am (bN P Du Wy Re done last) (i + 1)).2)), (3, .int (am (bN P Du Wy Re done last) (i + 1)).1), (0, .ref t), (1, .int (nI done)), (2, .int (nI last))]) [0, 2, 3, 4, 5, 6] (by rw [e]; rfl) (ih (d - 1) (by omega) (i + 1) (by omega))
        · skip
          have e : am (bN P Du Wy Re done last) (i + 1) = (nI i, bN P Du Wy Re done last i) := if_pos (Nat.lt_of_not_le (fun z => c46 ((nI_leI hal hbl).mpr z)))
          refine g_iload X d_TU_bestNext_49 0 rfl ?_
          refine g_istore (lv' := [(4, .int (nI (bN P Du Wy Re done last i))), (6, .int (nI (bN P Du Wy Re done last i))), (5, .int (nI i)), (3, .int ((am (bN P Du Wy Re done last) i).1)), (0, .ref t), (1, .int (nI done)), (2, .int (nI last))]) X d_TU_bestNext_51 (by decide) rfl ?_
          refine g_iload X d_TU_bestNext_53 2 rfl ?_
          refine g_istore_n (lv' := [(3, .int (nI i)), (4, .int (nI (bN P Du Wy Re done last i))), (6, .int (nI (bN P Du Wy Re done last i))), (5, .int (nI i)), (0, .ref t), (1, .int (nI done)), (2, .int (nI last))]) X d_TU_bestNext_55 rfl (by decide) rfl ?_
          refine g_iinc (lv' := [(5, .int (nI (i + 1))), (3, .int (nI i)), (4, .int (nI (bN P Du Wy Re done last i))), (6, .int (nI (bN P Du Wy Re done last i))), (0, .ref t), (1, .int (nI done)), (2, .int (nI last))]) X d_TU_bestNext_56 3 rfl (nI_1 i) (by decide) rfl ?_
          refine g_goto X 9 d_TU_bestNext_59 (by decide) ?_
          refine g_lv (lv' := [(5, .int (nI (i + 1))), (4, .int (nI (am (bN P Du Wy Re done last) (i + 1)).2)), (3, .int (am (bN P Du Wy Re done last) (i + 1)).1), (0, .ref t), (1, .int (nI done)), (2, .int (nI last))]) [0, 2, 1, 4, 5, 6] (by rw [e]; rfl) (ih (d - 1) (by omega) (i + 1) (by omega))
      · skip
        refine g_ldc (v := 268435456) X q_481 d_TU_bestNext_27 ?_
        refine g_goto X 40 d_TU_bestNext_29 (by decide) ?_
        refine g_eqi (y := nI (bN P Du Wy Re done last i)) (by rw [show bN P Du Wy Re done last i = 2 ^ 28 from if_pos (bt_nf (fun z => c24 (bI_z.mpr z)))]; rfl) ?_
        refine g_istore (lv' := [(6, .int (nI (bN P Du Wy Re done last i))), (5, .int (nI i)), (4, .int (nI (am (bN P Du Wy Re done last) i).2)), (3, .int ((am (bN P Du Wy Re done last) i).1)), (0, .ref t), (1, .int (nI done)), (2, .int (nI last))]) X d_TU_bestNext_40 (by decide) rfl ?_
        refine g_iload X d_TU_bestNext_42 0 rfl ?_
        refine g_iload X d_TU_bestNext_44 2 rfl ?_
        refine g_icmp_ge X 56 d_TU_bestNext_46 (by decide) (fun c46 => ?_) (fun c46 => ?_)
        · skip
          have e : am (bN P Du Wy Re done last) (i + 1) = am (bN P Du Wy Re done last) i := if_neg (Nat.not_lt.mpr ((nI_leI hal hbl).mp c46))
          refine g_iinc (lv' := [(5, .int (nI (i + 1))), (6, .int (nI (bN P Du Wy Re done last i))), (4, .int (nI (am (bN P Du Wy Re done last) i).2)), (3, .int ((am (bN P Du Wy Re done last) i).1)), (0, .ref t), (1, .int (nI done)), (2, .int (nI last))]) X d_TU_bestNext_56 1 rfl (nI_1 i) (by decide) rfl ?_
          refine g_goto X 9 d_TU_bestNext_59 (by decide) ?_
          refine g_lv (lv' := [(5, .int (nI (i + 1))), (4, .int (nI (am (bN P Du Wy Re done last) (i + 1)).2)), (3, .int (am (bN P Du Wy Re done last) (i + 1)).1), (0, .ref t), (1, .int (nI done)), (2, .int (nI last))]) [0, 2, 3, 4, 5, 6] (by rw [e]; rfl) (ih (d - 1) (by omega) (i + 1) (by omega))
        · skip
          have e : am (bN P Du Wy Re done last) (i + 1) = (nI i, bN P Du Wy Re done last i) := if_pos (Nat.lt_of_not_le (fun z => c46 ((nI_leI hal hbl).mpr z)))
          refine g_iload X d_TU_bestNext_49 0 rfl ?_
          refine g_istore (lv' := [(4, .int (nI (bN P Du Wy Re done last i))), (6, .int (nI (bN P Du Wy Re done last i))), (5, .int (nI i)), (3, .int ((am (bN P Du Wy Re done last) i).1)), (0, .ref t), (1, .int (nI done)), (2, .int (nI last))]) X d_TU_bestNext_51 (by decide) rfl ?_
          refine g_iload X d_TU_bestNext_53 2 rfl ?_
          refine g_istore_n (lv' := [(3, .int (nI i)), (4, .int (nI (bN P Du Wy Re done last i))), (6, .int (nI (bN P Du Wy Re done last i))), (5, .int (nI i)), (0, .ref t), (1, .int (nI done)), (2, .int (nI last))]) X d_TU_bestNext_55 rfl (by decide) rfl ?_
          refine g_iinc (lv' := [(5, .int (nI (i + 1))), (3, .int (nI i)), (4, .int (nI (bN P Du Wy Re done last i))), (6, .int (nI (bN P Du Wy Re done last i))), (0, .ref t), (1, .int (nI done)), (2, .int (nI last))]) X d_TU_bestNext_56 3 rfl (nI_1 i) (by decide) rfl ?_
          refine g_goto X 9 d_TU_bestNext_59 (by decide) ?_
          refine g_lv (lv' := [(5, .int (nI (i + 1))), (4, .int (nI (am (bN P Du Wy Re done last) (i + 1)).2)), (3, .int (am (bN P Du Wy Re done last) (i + 1)).1), (0, .ref t), (1, .int (nI done)), (2, .int (nI last))]) [0, 2, 1, 4, 5, 6] (by rw [e]; rfl) (ih (d - 1) (by omega) (i + 1) (by omega))
set_option maxHeartbeats 4000000 in
set_option maxRecDepth 100000 in
theorem c_TU_bestNext {l : Launch} {D : va_G} {cI cZ cO cJ : ClassId} {eA : Nat} {f : g_F} {t : Nat} {a : Nat → Nat} {P Du S Wy Re : Nat → Nat} {n : Nat} (hR : tu_R cI f t a P Du S Wy Re n) (hB : tu_B P Du S Wy n) (hRe : ∀ i, Re i ≤ 2 ^ 28) {done last : Nat} (hd : done < 256) (hla : last < 8) : g_C l y_TU_bestNext b_TU_bestNext 7 (some .int) { frames := 2, cells := 0, slots := 0, locals := 46 } D g_cl (g_tys cI cZ cO cJ) (z_Z eA) [.ref t, .int (nI done), .int (nI last)] f (fun r f2 => r = some (.int (am (bN P Du Wy Re done last) n).1) ∧ f2 = f) (fun _ => False) := by
  refine g_ofW [(0, .ref t), (1, .int (nI done)), (2, .int (nI last))] (by decide +kernel) (Nat.le_of_ble_eq_true rfl) rfl ?_
  intro p e s m args below meth c X ht hin
  refine g_iconst (v := (-1)) X d_TU_bestNext_0 (by decide) ?_
  refine g_istore_n (lv' := [(3, .int (-1)), (0, .ref t), (1, .int (nI done)), (2, .int (nI last))]) X d_TU_bestNext_1 rfl (by decide) rfl ?_
  refine g_ldc (v := 268435456) X q_481 d_TU_bestNext_2 ?_
  refine g_istore (lv' := [(4, .int 268435456), (3, .int (-1)), (0, .ref t), (1, .int (nI done)), (2, .int (nI last))]) X d_TU_bestNext_4 (by decide) rfl ?_
  refine g_iconst (v := 0) X d_TU_bestNext_6 (by decide) ?_
  refine g_istore (lv' := [(5, .int 0), (4, .int 268435456), (3, .int (-1)), (0, .ref t), (1, .int (nI done)), (2, .int (nI last))]) X d_TU_bestNext_7 (by decide) rfl ?_
  refine g_lv [0, 1, 2, 3, 4, 5] rfl (L_TU_bestNext hR hB hRe hd hla X ?_ n 0 (by omega))
  exact g_iload_n X d_TU_bestNext_62 2 rfl (g_iret X rfl ⟨rfl, rfl⟩ (Nat.le_of_ble_eq_true rfl) (Nat.le_of_ble_eq_true rfl) d_TU_bestNext_63)
/-- the seconds of the first acts of an order -/
def secs (P Du Wy O : Nat → Nat) : Nat → Nat
  | 0 => 0
  | 1 => Du (O 0)
  | i + 2 => secs P Du Wy O (i + 1) + Du (O (i + 1)) + tu_wy P Wy (O i) (O (i + 1))
theorem secs_le {P Du Wy O : Nat → Nat} (h1 : ∀ i, Du i ≤ 10000) (h2 : ∀ i, Wy i ≤ 10000) : ∀ i, secs P Du Wy O i ≤ i * 20000
  | 0 => Nat.le_refl _
  | 1 => by have := h1 (O 0); show Du (O 0) ≤ 1 * 20000; omega
  | i + 2 => by
    have a := h1 (O (i + 1))
    have b := h2 (P (O i) * 10 + P (O (i + 1)))
    have c := secs_le (P := P) (O := O) h1 h2 (i + 1)
    show secs P Du Wy O (i + 1) + Du (O (i + 1)) + Wy (P (O i) * 10 + P (O (i + 1))) ≤ (i + 2) * 20000
    omega
set_option maxHeartbeats 4000000 in
set_option maxRecDepth 100000 in
theorem L_TU_secondsOf {p : Program} {l : Launch} {e : Env} {s : State} {m : MethodId} {args : Array Value} {below : List Frame} {meth : Method} {c : Code} {Q : State → Prop} {A : Nat → Prop} {D : va_G} {cI cZ cO cJ : ClassId} {eA : Nat} {f : g_F} {t : Nat} {a : Nat → Nat} {P Du S Wy Re : Nat → Nat} {n : Nat} (hR : tu_R cI f t a P Du S Wy Re n) (hB : tu_B P Du S Wy n) {rp len : Nat} {O : Nat → Nat} (hO : f rp = some (.inl (cI, 8, .inl (fun i => nI (O i))))) (hlen : len ≤ 8) (hO8 : ∀ i, i < len → O i < 8) (X : g_X p s m args meth c b_TU_secondsOf 5 (some .int) g_T y_TU_secondsOf.cls D g_cl (g_tys cI cZ cO cJ) A (z_Z eA)) (kk : g_W p l e { frames := 1, cells := 0, slots := 0, locals := 22 } s m args below meth c 5 D g_cl A f 0 0 Q 58 [(4, .int (nI len)), (3, .int (nI (secs P Du Wy O len))), (0, .ref t), (1, .ref rp), (2, .int (nI len))] []) : ∀ (d : Nat) (i : Nat), (i + d = len) → g_W p l e { frames := 1, cells := 0, slots := 0, locals := 22 } s m args below meth c 5 D g_cl A f 0 0 Q 5 [(4, .int (nI i)), (3, .int (nI (secs P Du Wy O i))), (0, .ref t), (1, .ref rp), (2, .int (nI len))] [] := by
  obtain ⟨hT, h0, h1, h2, h3, h4⟩ := id hR
  obtain ⟨hn8, hP, hDu, hS, hWy⟩ := id hB
  intro d
  induction d using Nat.strongRecOn with
  | _ d ih =>
    intro i hi
    refine g_iload X d_TU_secondsOf_5 0 rfl ?_
    refine g_iload_n X d_TU_secondsOf_7 4 rfl ?_
    refine g_icmp_ge X 58 d_TU_secondsOf_8 (by decide) (fun c8 => ?_) (fun c8 => ?_)
    · skip
      have e : i = len := by have := (nI_leI (by omega) (by omega)).mp c8; omega
      subst e
      exact kk
    · skip
      have hlt : i < len := Nat.lt_of_not_le (fun z => c8 ((nI_leI (by omega) (by omega)).mpr z))
      refine g_iload X d_TU_secondsOf_11 0 rfl ?_
      refine g_aload_n X d_TU_secondsOf_13 3 rfl ?_
      refine g_alen (t0 := 0) (v := nI 8) X hO rfl rfl d_TU_secondsOf_14 ?_
      refine g_icmp_ge X 58 d_TU_secondsOf_15 (by decide) (fun c15 => ?_) (fun c15 => ?_)
      · skip
        exact absurd ((nI_leI (by decide) (by omega)).mp c15) (by omega)
      · skip
        refine g_iload_n X d_TU_secondsOf_18 1 rfl ?_
        refine g_aload_n X d_TU_secondsOf_19 2 rfl ?_
        refine g_get (ci := 2) (C := R_TU) (T := F_TU) (N := 6) (v := .ref (a 1)) X i_TU rfl hT 1 (by decide) q_85 (fun _ h9 => h9) rfl d_TU_secondsOf_20 ?_
        refine g_aload_n X d_TU_secondsOf_23 3 rfl ?_
        refine g_iload X d_TU_secondsOf_24 0 rfl ?_
        refine g_iald (t0 := 0) (v := nI (O i)) X hO rfl (nI_ix ((by omega : i < 8)) (by decide)) (nI_cl (g := fun q9 => nI (O q9)) (Nat.lt_trans ((by omega : i < 8)) (by decide))) d_TU_secondsOf_26 ?_
        refine g_iald (t0 := 0) (v := nI (Du (O i))) X h1 rfl (nI_ix (hO8 i hlt) (by decide)) (nI_cl (g := fun q9 => nI (Du q9)) (Nat.lt_trans (hO8 i hlt) (by decide))) d_TU_secondsOf_27 ?_
        refine g_iadd X d_TU_secondsOf_28 ?_
        refine g_eqi (y := nI (secs P Du Wy O i + Du (O i))) (nI_add _ _) ?_
        refine g_istore_n (lv' := [(3, .int (nI (secs P Du Wy O i + Du (O i)))), (4, .int (nI i)), (0, .ref t), (1, .ref rp), (2, .int (nI len))]) X d_TU_secondsOf_29 rfl (by decide) rfl ?_
        refine g_iload X d_TU_secondsOf_30 1 rfl ?_
        refine g_if_le X 52 d_TU_secondsOf_32 (by decide) (fun c32 => ?_) (fun c32 => ?_)
        · skip
          have hz : i = 0 := by
            have := (nI_leI (a := i) (b := 0) (by omega) (by decide)).mp c32
            omega
          have e : secs P Du Wy O (i + 1) = secs P Du Wy O i + Du (O i) := by subst hz; show Du (O 0) = 0 + Du (O 0); omega
          refine g_iinc (lv' := [(4, .int (nI (i + 1))), (3, .int (nI (secs P Du Wy O i + Du (O i)))), (0, .ref t), (1, .ref rp), (2, .int (nI len))]) X d_TU_secondsOf_52 1 rfl (nI_1 i) (by decide) rfl ?_
          refine g_goto X 5 d_TU_secondsOf_55 (by decide) ?_
          rw [← e]
          exact g_lv [0, 1, 2, 3, 4] rfl (ih (d - 1) (by omega) (i + 1) (by omega))
        · skip
          have hz : 0 < i := Nat.lt_of_not_le (fun z => c32 ((nI_leI (a := i) (b := 0) (by omega) (by decide)).mpr z))
          have e : secs P Du Wy O (i + 1) = secs P Du Wy O i + Du (O i) + tu_wy P Wy (O (i - 1)) (O i) := by
            obtain ⟨k, rfl⟩ : ∃ k, i = k + 1 := ⟨i - 1, by omega⟩
            rfl
          refine g_iload_n X d_TU_secondsOf_35 0 rfl ?_
          refine g_aload_n X d_TU_secondsOf_36 2 rfl ?_
          refine g_aload_n X d_TU_secondsOf_37 3 rfl ?_
          refine g_iload X d_TU_secondsOf_38 1 rfl ?_
          refine g_iconst (v := 1) X d_TU_secondsOf_40 (by decide) ?_
          refine g_isub X d_TU_secondsOf_41 ?_
          refine g_eqi (y := nI (i - 1)) (nI_m1 (by omega)) ?_
          refine g_iald (t0 := 0) (v := nI (O (i - 1))) X hO rfl (nI_ix ((by omega : i - 1 < 8)) (by decide)) (nI_cl (g := fun q9 => nI (O q9)) (Nat.lt_trans ((by omega : i - 1 < 8)) (by decide))) d_TU_secondsOf_42 ?_
          refine g_aload_n X d_TU_secondsOf_43 3 rfl ?_
          refine g_iload X d_TU_secondsOf_44 1 rfl ?_
          refine g_iald (t0 := 0) (v := nI (O i)) X hO rfl (nI_ix ((by omega : i < 8)) (by decide)) (nI_cl (g := fun q9 => nI (O q9)) (Nat.lt_trans ((by omega : i < 8)) (by decide))) d_TU_secondsOf_46 ?_
          refine g_callV (ci := 2) (As := [.int (nI (O (i - 1))), .int (nI (O i))]) (rest := [.int (nI (secs P Du Wy O i + Du (O i)))]) X (z_ok eA) rfl rfl hT (c_TU_wayBetween hR hB (hO8 (i - 1) (by omega)) (hO8 i hlt)) v_TU_wayBetween q_488 q_s14 q_486 rfl rfl (Nat.le_of_ble_eq_true rfl) d_TU_secondsOf_47 ⟨(Nat.le_of_ble_eq_true rfl), (Nat.le_of_ble_eq_true rfl)⟩ ⟨(Nat.le_of_ble_eq_true rfl), (Nat.le_of_ble_eq_true rfl)⟩ (g_K.no (fun _ h => h)) (fun r_ f2_ hp => ?_)
          obtain ⟨rfl, hf_⟩ := hp
          subst f2_
          refine g_st (st2 := [.int (nI (tu_wy P Wy (O (i - 1)) (O i))), .int (nI (secs P Du Wy O i + Du (O i)))]) rfl ?_
          refine g_iadd X d_TU_secondsOf_50 ?_
          refine g_eqi (y := nI (secs P Du Wy O i + Du (O i) + tu_wy P Wy (O (i - 1)) (O i))) (nI_add _ _) ?_
          refine g_istore_n (lv' := [(3, .int (nI (secs P Du Wy O i + Du (O i) + tu_wy P Wy (O (i - 1)) (O i)))), (4, .int (nI i)), (0, .ref t), (1, .ref rp), (2, .int (nI len))]) X d_TU_secondsOf_51 rfl (by decide) rfl ?_
          refine g_iinc (lv' := [(4, .int (nI (i + 1))), (3, .int (nI (secs P Du Wy O i + Du (O i) + tu_wy P Wy (O (i - 1)) (O i)))), (0, .ref t), (1, .ref rp), (2, .int (nI len))]) X d_TU_secondsOf_52 1 rfl (nI_1 i) (by decide) rfl ?_
          refine g_goto X 5 d_TU_secondsOf_55 (by decide) ?_
          rw [← e]
          exact g_lv [0, 1, 2, 3, 4] rfl (ih (d - 1) (by omega) (i + 1) (by omega))
set_option maxHeartbeats 4000000 in
set_option maxRecDepth 100000 in
theorem c_TU_secondsOf {l : Launch} {D : va_G} {cI cZ cO cJ : ClassId} {eA : Nat} {f : g_F} {t : Nat} {a : Nat → Nat} {P Du S Wy Re : Nat → Nat} {n : Nat} (hR : tu_R cI f t a P Du S Wy Re n) (hB : tu_B P Du S Wy n) {rp len : Nat} {O : Nat → Nat} (hO : f rp = some (.inl (cI, 8, .inl (fun i => nI (O i))))) (hlen : len ≤ 8) (hO8 : ∀ i, i < len → O i < 8) : g_C l y_TU_secondsOf b_TU_secondsOf 5 (some .int) { frames := 1, cells := 0, slots := 0, locals := 22 } D g_cl (g_tys cI cZ cO cJ) (z_Z eA) [.ref t, .ref rp, .int (nI len)] f (fun r f2 => r = some (.int (nI (secs P Du Wy O len))) ∧ f2 = f) (fun _ => False) := by
  refine g_ofW [(0, .ref t), (1, .ref rp), (2, .int (nI len))] (by decide +kernel) (Nat.le_of_ble_eq_true rfl) rfl ?_
  intro p e s m args below meth c X ht hin
  refine g_iconst (v := 0) X d_TU_secondsOf_0 (by decide) ?_
  refine g_istore_n (lv' := [(3, .int 0), (0, .ref t), (1, .ref rp), (2, .int (nI len))]) X d_TU_secondsOf_1 rfl (by decide) rfl ?_
  refine g_iconst (v := 0) X d_TU_secondsOf_2 (by decide) ?_
  refine g_istore (lv' := [(4, .int 0), (3, .int 0), (0, .ref t), (1, .ref rp), (2, .int (nI len))]) X d_TU_secondsOf_3 (by decide) rfl ?_
  refine L_TU_secondsOf hR hB hO hlen hO8 X ?_ len 0 (by omega)
  exact g_iload_n X d_TU_secondsOf_58 1 rfl (g_iret X rfl ⟨rfl, rfl⟩ (Nat.le_of_ble_eq_true rfl) (Nat.le_of_ble_eq_true rfl) d_TU_secondsOf_59)
end
section
set_option maxHeartbeats 4000000 in
set_option maxRecDepth 100000 in
theorem c_TU_addAct {l : Launch} {D : va_G} {cI cZ cO cJ : ClassId} {eA : Nat} {f : g_F} {t : Nat} {a : Nat → Nat} {P Du S Wy Re : Nat → Nat} {n : Nat} (hR : tu_R cI f t a P Du S Wy Re n) (hB : tu_B P Du S Wy n) (hI : ∀ i j, i < 5 → j < 5 → a i = a j → i = j) (hn : n < 8) {x y : Nat} : g_C l y_TU_addAct b_TU_addAct 3 (some .int) { frames := 0, cells := 0, slots := 0, locals := 0 } D g_cl (g_tys cI cZ cO cJ) (z_Z eA) [.ref t, .int (nI x), .int (nI y)] f (fun r f2 => r = some (.int (nI n)) ∧ f2 = g_u (g_u (g_u f (a 0) (.inl (cI, 8, .inl (fun q9 => nI ((va_up P n x) q9))))) (a 1) (.inl (cI, 8, .inl (fun q9 => nI ((va_up Du n y) q9))))) t (.inr (2, [.ref (a 0), .ref (a 1), .ref (a 2), .ref (a 3), .ref (a 4), .int (nI (n + 1))]))) (fun _ => False) := by
  refine g_ofW [(0, .ref t), (1, .int (nI x)), (2, .int (nI y))] (by decide +kernel) (Nat.le_of_ble_eq_true rfl) rfl ?_
  intro p e s m args below meth c X ht hin
  obtain ⟨hT, h0, h1, h2, h3, h4⟩ := id hR
  obtain ⟨hn8, hP, hDu, hS, hWy⟩ := id hB
  refine g_aload_n X d_TU_addAct_0 0 rfl ?_
  refine g_get (ci := 2) (C := R_TU) (T := F_TU) (N := 6) (v := .int (nI n)) X i_TU rfl hT 5 (by decide) q_89 (fun _ h9 => h9) rfl d_TU_addAct_1 ?_
  refine g_bipush (v := 8) X d_TU_addAct_4 (by decide) ?_
  refine g_icmp_lt X 11 d_TU_addAct_6 (by decide) (fun c6 => ?_) (fun c6 => ?_)
  · skip
    refine g_aload_n X d_TU_addAct_11 0 rfl ?_
    refine g_get (ci := 2) (C := R_TU) (T := F_TU) (N := 6) (v := .ref (a 0)) X i_TU rfl hT 0 (by decide) q_84 (fun _ h9 => h9) rfl d_TU_addAct_12 ?_
    refine g_aload_n X d_TU_addAct_15 0 rfl ?_
    refine g_get (ci := 2) (C := R_TU) (T := F_TU) (N := 6) (v := .int (nI n)) X i_TU rfl hT 5 (by decide) q_89 (fun _ h9 => h9) rfl d_TU_addAct_16 ?_
    refine g_iload_n X d_TU_addAct_19 1 rfl ?_
    refine g_iast (t0 := 0) (g2 := fun q9 => nI (va_up P n x q9)) X h0 rfl (nI_ix (hn) (by decide)) (upd_nI (g := P) (Nat.lt_trans (hn) (by decide))) d_TU_addAct_20 ?_
    generalize ef_1 : g_u f (a 0) (.inl (cI, 8, .inl (fun q9 => nI (va_up P n x q9)))) = f_1
    have h_2 : f_1 t = some (.inr (2, [.ref (a 0), .ref (a 1), .ref (a 2), .ref (a 3), .ref (a 4), .int (nI n)])) := by rw [← ef_1]; exact (g_u_n (tu_ne hT h0)).trans hT
    have h_3 : f_1 (a 0) = some (.inl (cI, 8, .inl (fun q9 => nI (va_up P n x q9)))) := by rw [← ef_1]; exact g_u_s
    have h_4 : f_1 (a 1) = some (.inl (cI, 8, .inl (fun i => nI (Du i)))) := by rw [← ef_1]; exact (g_u_n (fun z => absurd (hI 1 0 (by decide) (by decide) z) (by decide))).trans h1
    have h_5 : f_1 (a 2) = some (.inl (cI, 8, .inl (fun i => nI (S i)))) := by rw [← ef_1]; exact (g_u_n (fun z => absurd (hI 2 0 (by decide) (by decide) z) (by decide))).trans h2
    have h_6 : f_1 (a 3) = some (.inl (cI, 100, .inl (fun i => nI (Wy i)))) := by rw [← ef_1]; exact (g_u_n (fun z => absurd (hI 3 0 (by decide) (by decide) z) (by decide))).trans h3
    have h_7 : f_1 (a 4) = some (.inl (cI, 2048, .inl (fun i => nI (Re i)))) := by rw [← ef_1]; exact (g_u_n (fun z => absurd (hI 4 0 (by decide) (by decide) z) (by decide))).trans h4
    refine g_aload_n X d_TU_addAct_21 0 rfl ?_
    refine g_get (ci := 2) (C := R_TU) (T := F_TU) (N := 6) (v := .ref (a 1)) X i_TU rfl h_2 1 (by decide) q_85 (fun _ h9 => h9) rfl d_TU_addAct_22 ?_
    refine g_aload_n X d_TU_addAct_25 0 rfl ?_
    refine g_get (ci := 2) (C := R_TU) (T := F_TU) (N := 6) (v := .int (nI n)) X i_TU rfl h_2 5 (by decide) q_89 (fun _ h9 => h9) rfl d_TU_addAct_26 ?_
    refine g_iload_n X d_TU_addAct_29 2 rfl ?_
    refine g_iast (t0 := 0) (g2 := fun q9 => nI (va_up Du n y q9)) X h_4 rfl (nI_ix (hn) (by decide)) (upd_nI (g := Du) (Nat.lt_trans (hn) (by decide))) d_TU_addAct_30 ?_
    generalize ef_8 : g_u f_1 (a 1) (.inl (cI, 8, .inl (fun q9 => nI (va_up Du n y q9)))) = f_8
    have h_9 : f_8 t = some (.inr (2, [.ref (a 0), .ref (a 1), .ref (a 2), .ref (a 3), .ref (a 4), .int (nI n)])) := by rw [← ef_8]; exact (g_u_n (tu_ne h_2 h_4)).trans h_2
    have h_10 : f_8 (a 0) = some (.inl (cI, 8, .inl (fun q9 => nI (va_up P n x q9)))) := by rw [← ef_8]; exact (g_u_n (fun z => absurd (hI 0 1 (by decide) (by decide) z) (by decide))).trans h_3
    have h_11 : f_8 (a 1) = some (.inl (cI, 8, .inl (fun q9 => nI (va_up Du n y q9)))) := by rw [← ef_8]; exact g_u_s
    have h_12 : f_8 (a 2) = some (.inl (cI, 8, .inl (fun i => nI (S i)))) := by rw [← ef_8]; exact (g_u_n (fun z => absurd (hI 2 1 (by decide) (by decide) z) (by decide))).trans h_5
    have h_13 : f_8 (a 3) = some (.inl (cI, 100, .inl (fun i => nI (Wy i)))) := by rw [← ef_8]; exact (g_u_n (fun z => absurd (hI 3 1 (by decide) (by decide) z) (by decide))).trans h_6
    have h_14 : f_8 (a 4) = some (.inl (cI, 2048, .inl (fun i => nI (Re i)))) := by rw [← ef_8]; exact (g_u_n (fun z => absurd (hI 4 1 (by decide) (by decide) z) (by decide))).trans h_7
    refine g_aload_n X d_TU_addAct_31 0 rfl ?_
    refine g_dup X d_TU_addAct_32 rfl ?_
    refine g_get (ci := 2) (C := R_TU) (T := F_TU) (N := 6) (v := .int (nI n)) X i_TU rfl h_9 5 (by decide) q_89 (fun _ h9 => h9) rfl d_TU_addAct_33 ?_
    refine g_iconst (v := 1) X d_TU_addAct_36 (by decide) ?_
    refine g_iadd X d_TU_addAct_37 ?_
    refine g_eqi (y := nI (n + 1)) (nI_1 n) ?_
    refine g_put (ci := 2) (C := R_TU) (T := F_TU) (N := 6) (ty := .int) (fs2 := [.ref (a 0), .ref (a 1), .ref (a 2), .ref (a 3), .ref (a 4), .int (nI (n + 1))]) X i_TU t_TU t_TU_ok n_TU rfl h_9 5 (by decide) q_89 (fun _ h9 => h9) rfl (by decide +kernel) rfl rfl (Nat.le_of_ble_eq_true rfl) rfl d_TU_addAct_38 ?_
    generalize ef_15 : g_u f_8 t (.inr (2, [.ref (a 0), .ref (a 1), .ref (a 2), .ref (a 3), .ref (a 4), .int (nI (n + 1))])) = f_15
    have h_16 : f_15 t = some (.inr (2, [.ref (a 0), .ref (a 1), .ref (a 2), .ref (a 3), .ref (a 4), .int (nI (n + 1))])) := by rw [← ef_15]; exact g_u_s
    have h_17 : f_15 (a 0) = some (.inl (cI, 8, .inl (fun q9 => nI (va_up P n x q9)))) := by rw [← ef_15]; exact (g_u_n (Ne.symm (tu_ne h_9 h_10))).trans h_10
    have h_18 : f_15 (a 1) = some (.inl (cI, 8, .inl (fun q9 => nI (va_up Du n y q9)))) := by rw [← ef_15]; exact (g_u_n (Ne.symm (tu_ne h_9 h_11))).trans h_11
    have h_19 : f_15 (a 2) = some (.inl (cI, 8, .inl (fun i => nI (S i)))) := by rw [← ef_15]; exact (g_u_n (Ne.symm (tu_ne h_9 h_12))).trans h_12
    have h_20 : f_15 (a 3) = some (.inl (cI, 100, .inl (fun i => nI (Wy i)))) := by rw [← ef_15]; exact (g_u_n (Ne.symm (tu_ne h_9 h_13))).trans h_13
    have h_21 : f_15 (a 4) = some (.inl (cI, 2048, .inl (fun i => nI (Re i)))) := by rw [← ef_15]; exact (g_u_n (Ne.symm (tu_ne h_9 h_14))).trans h_14
    refine g_aload_n X d_TU_addAct_41 0 rfl ?_
    refine g_get (ci := 2) (C := R_TU) (T := F_TU) (N := 6) (v := .int (nI (n + 1))) X i_TU rfl h_16 5 (by decide) q_89 (fun _ h9 => h9) rfl d_TU_addAct_42 ?_
    refine g_iconst (v := 1) X d_TU_addAct_45 (by decide) ?_
    refine g_isub X d_TU_addAct_46 ?_
    refine g_eqi (y := nI n) ((nI_m1 (a := n + 1) (by omega)).trans (by rw [Nat.add_sub_cancel])) ?_
    exact g_iret X rfl (⟨rfl, by rw [← ef_15, ← ef_8, ← ef_1]⟩) (Nat.le_of_ble_eq_true rfl) (Nat.le_of_ble_eq_true rfl) d_TU_addAct_47
  · skip
    exact absurd ((nI_ltI (b := 8) (by omega) (by decide)).mpr hn) c6
/-- a case out of a set -/
def clr (a k : Nat) : Nat := a ^^^ (a &&& 2 ^ k)
theorem clr_lt {a k m : Nat} (h : a < 2 ^ m) : clr a k < 2 ^ m := Nat.xor_lt_two_pow h (Nat.lt_of_le_of_lt Nat.and_le_left h)
theorem clr_e {a k : Nat} (ha : a < 2 ^ 31) (hk : k < 31) : nI a &&& (((1 : Int32) <<< (nI k &&& 31)) ^^^ (-1)) = nI (clr a k) := by
  have e1 : (-1 : Int32) = nI (2 ^ 32 - 1) := by decide
  rw [nI_bit hk, e1, nI_xor, nI_and]
  congr 1
  apply Nat.eq_of_testBit_eq
  intro i
  unfold clr
  simp only [Nat.testBit_and, Nat.testBit_xor, Nat.testBit_two_pow_sub_one, Nat.testBit_two_pow]
  by_cases hi : i < 32
  · cases a.testBit i <;> by_cases hk2 : k = i <;> simp [hi, hk2]
  · have : a.testBit i = false := Nat.testBit_lt_two_pow (Nat.lt_of_lt_of_le ha (Nat.pow_le_pow_right (by decide) (by omega)))
    rw [this]; rfl
abbrev shw (S : Nat → Nat) (i k : Nat) (b : Bool) : Nat := if b then S i ||| 2 ^ k else clr (S i) k
set_option maxHeartbeats 4000000 in
set_option maxRecDepth 100000 in
theorem c_TU_setShown {l : Launch} {D : va_G} {cI cZ cO cJ : ClassId} {eA : Nat} {f : g_F} {t : Nat} {a : Nat → Nat} {P Du S Wy Re : Nat → Nat} {n : Nat} (hR : tu_R cI f t a P Du S Wy Re n) (hB : tu_B P Du S Wy n) (hI : ∀ i j, i < 5 → j < 5 → a i = a j → i = j) {i k : Nat} {b : Bool} (hi : i < 8) (hk : k < 24) : g_C l y_TU_setShown b_TU_setShown 5 (some .boolean) { frames := 1, cells := 0, slots := 0, locals := 21 } D g_cl (g_tys cI cZ cO cJ) (z_Z eA) [.ref t, .int (nI i), .int (nI k), .int (bI b)] f (fun r f2 => r = some (.int (bI ((S i).testBit k))) ∧ f2 = g_u f (a 2) (.inl (cI, 8, .inl (fun q9 => nI ((va_up S i (shw S i k b)) q9))))) (fun _ => False) := by
  refine g_ofW [(0, .ref t), (1, .int (nI i)), (2, .int (nI k)), (3, .int (bI b))] (by decide +kernel) (Nat.le_of_ble_eq_true rfl) rfl ?_
  intro p e s m args below meth c X ht hin
  obtain ⟨hT, h0, h1, h2, h3, h4⟩ := id hR
  obtain ⟨hn8, hP, hDu, hS, hWy⟩ := id hB
  have hS1 : S i < 2 ^ 31 := Nat.lt_trans (hS i) (by decide)
  refine g_aload_n X d_TU_setShown_0 0 rfl ?_
  refine g_get (ci := 2) (C := R_TU) (T := F_TU) (N := 6) (v := .ref (a 2)) X i_TU rfl hT 2 (by decide) q_86 (fun _ h9 => h9) rfl d_TU_setShown_1 ?_
  refine g_iload_n X d_TU_setShown_4 1 rfl ?_
  refine g_iald (t0 := 0) (v := nI (S i)) X h2 rfl (nI_ix (hi) (by decide)) (nI_cl (g := fun q9 => nI (S q9)) (Nat.lt_trans (hi) (by decide))) d_TU_setShown_5 ?_
  refine g_iload_n X d_TU_setShown_6 2 rfl ?_
  refine g_callSN (As := [.int (nI (S i)), .int (nI k)]) (rest := []) X (z_ok eA) (c_CL_holds (f := f) (a := S i) (k := k) (hS1) (by omega)) v_CL_holds q_367 (X.2.2.2.2.2.2.2.1.1) (fun _ h => h) rfl rfl (Nat.le_of_ble_eq_true rfl) d_TU_setShown_7 ⟨(Nat.le_of_ble_eq_true rfl), (Nat.le_of_ble_eq_true rfl)⟩ ⟨(Nat.le_of_ble_eq_true rfl), (Nat.le_of_ble_eq_true rfl)⟩ (fun r_ f2_ hp => ?_)
  obtain ⟨rfl, hf_⟩ := hp
  subst f2_
  refine g_st (st2 := [.int (bI (Nat.testBit (S i) k))]) rfl ?_
  refine g_istore (lv' := [(4, .int (bI (Nat.testBit (S i) k))), (0, .ref t), (1, .int (nI i)), (2, .int (nI k)), (3, .int (bI b))]) X d_TU_setShown_10 (by decide) rfl ?_
  refine g_iload_n X d_TU_setShown_12 4 rfl ?_
  refine g_if_eq X 31 d_TU_setShown_13 (by decide) (fun c13 => ?_) (fun c13 => ?_)
  · skip
    refine g_aload_n X d_TU_setShown_31 1 rfl ?_
    refine g_get (ci := 2) (C := R_TU) (T := F_TU) (N := 6) (v := .ref (a 2)) X i_TU rfl hT 2 (by decide) q_86 (fun _ h9 => h9) rfl d_TU_setShown_32 ?_
    refine g_iload_n X d_TU_setShown_35 2 rfl ?_
    refine g_dup2 X d_TU_setShown_36 rfl rfl ?_
    refine g_iald (t0 := 0) (v := nI (S i)) X h2 rfl (nI_ix (hi) (by decide)) (nI_cl (g := fun q9 => nI (S q9)) (Nat.lt_trans (hi) (by decide))) d_TU_setShown_37 ?_
    refine g_iconst (v := 1) X d_TU_setShown_38 (by decide) ?_
    refine g_iload_n X d_TU_setShown_39 3 rfl ?_
    refine g_ishl X d_TU_setShown_40 ?_
    refine g_iconst (v := (-1)) X d_TU_setShown_41 (by decide) ?_
    refine g_ixor X d_TU_setShown_42 ?_
    refine g_iand X d_TU_setShown_43 ?_
    refine g_eqi (y := nI (shw S i k b)) (by rw [show shw S i k b = clr (S i) k from if_neg (by rw [bI_z.mp c13]; decide)]; exact clr_e hS1 (by omega)) ?_
    refine g_iast (t0 := 0) (g2 := fun q9 => nI (va_up S i (shw S i k b) q9)) X h2 rfl (nI_ix (hi) (by decide)) (upd_nI (g := S) (Nat.lt_trans (hi) (by decide))) d_TU_setShown_44 ?_
    generalize ef_1 : g_u f (a 2) (.inl (cI, 8, .inl (fun q9 => nI (va_up S i (shw S i k b) q9)))) = f_1
    have h_2 : f_1 t = some (.inr (2, [.ref (a 0), .ref (a 1), .ref (a 2), .ref (a 3), .ref (a 4), .int (nI n)])) := by rw [← ef_1]; exact (g_u_n (tu_ne hT h2)).trans hT
    have h_3 : f_1 (a 0) = some (.inl (cI, 8, .inl (fun i => nI (P i)))) := by rw [← ef_1]; exact (g_u_n (fun z => absurd (hI 0 2 (by decide) (by decide) z) (by decide))).trans h0
    have h_4 : f_1 (a 1) = some (.inl (cI, 8, .inl (fun i => nI (Du i)))) := by rw [← ef_1]; exact (g_u_n (fun z => absurd (hI 1 2 (by decide) (by decide) z) (by decide))).trans h1
    have h_5 : f_1 (a 2) = some (.inl (cI, 8, .inl (fun q9 => nI (va_up S i (shw S i k b) q9)))) := by rw [← ef_1]; exact g_u_s
    have h_6 : f_1 (a 3) = some (.inl (cI, 100, .inl (fun i => nI (Wy i)))) := by rw [← ef_1]; exact (g_u_n (fun z => absurd (hI 3 2 (by decide) (by decide) z) (by decide))).trans h3
    have h_7 : f_1 (a 4) = some (.inl (cI, 2048, .inl (fun i => nI (Re i)))) := by rw [← ef_1]; exact (g_u_n (fun z => absurd (hI 4 2 (by decide) (by decide) z) (by decide))).trans h4
    refine g_iload X d_TU_setShown_45 0 rfl ?_
    exact g_zret X rfl (bI_nar _) (⟨rfl, by rw [← ef_1]⟩) (Nat.le_of_ble_eq_true rfl) (Nat.le_of_ble_eq_true rfl) d_TU_setShown_47
  · skip
    refine g_aload_n X d_TU_setShown_16 1 rfl ?_
    refine g_get (ci := 2) (C := R_TU) (T := F_TU) (N := 6) (v := .ref (a 2)) X i_TU rfl hT 2 (by decide) q_86 (fun _ h9 => h9) rfl d_TU_setShown_17 ?_
    refine g_iload_n X d_TU_setShown_20 2 rfl ?_
    refine g_dup2 X d_TU_setShown_21 rfl rfl ?_
    refine g_iald (t0 := 0) (v := nI (S i)) X h2 rfl (nI_ix (hi) (by decide)) (nI_cl (g := fun q9 => nI (S q9)) (Nat.lt_trans (hi) (by decide))) d_TU_setShown_22 ?_
    refine g_iconst (v := 1) X d_TU_setShown_23 (by decide) ?_
    refine g_iload_n X d_TU_setShown_24 3 rfl ?_
    refine g_ishl X d_TU_setShown_25 ?_
    refine g_eqi (y := nI (2 ^ k)) (nI_bit (by omega)) ?_
    refine g_ior X d_TU_setShown_26 ?_
    refine g_eqi (y := nI (shw S i k b)) (by rw [show shw S i k b = S i ||| 2 ^ k from if_pos (bt_nf (fun z => c13 (bI_z.mpr z)))]; exact nI_or _ _) ?_
    refine g_iast (t0 := 0) (g2 := fun q9 => nI (va_up S i (shw S i k b) q9)) X h2 rfl (nI_ix (hi) (by decide)) (upd_nI (g := S) (Nat.lt_trans (hi) (by decide))) d_TU_setShown_27 ?_
    generalize ef_8 : g_u f (a 2) (.inl (cI, 8, .inl (fun q9 => nI (va_up S i (shw S i k b) q9)))) = f_8
    have h_9 : f_8 t = some (.inr (2, [.ref (a 0), .ref (a 1), .ref (a 2), .ref (a 3), .ref (a 4), .int (nI n)])) := by rw [← ef_8]; exact (g_u_n (tu_ne hT h2)).trans hT
    have h_10 : f_8 (a 0) = some (.inl (cI, 8, .inl (fun i => nI (P i)))) := by rw [← ef_8]; exact (g_u_n (fun z => absurd (hI 0 2 (by decide) (by decide) z) (by decide))).trans h0
    have h_11 : f_8 (a 1) = some (.inl (cI, 8, .inl (fun i => nI (Du i)))) := by rw [← ef_8]; exact (g_u_n (fun z => absurd (hI 1 2 (by decide) (by decide) z) (by decide))).trans h1
    have h_12 : f_8 (a 2) = some (.inl (cI, 8, .inl (fun q9 => nI (va_up S i (shw S i k b) q9)))) := by rw [← ef_8]; exact g_u_s
    have h_13 : f_8 (a 3) = some (.inl (cI, 100, .inl (fun i => nI (Wy i)))) := by rw [← ef_8]; exact (g_u_n (fun z => absurd (hI 3 2 (by decide) (by decide) z) (by decide))).trans h3
    have h_14 : f_8 (a 4) = some (.inl (cI, 2048, .inl (fun i => nI (Re i)))) := by rw [← ef_8]; exact (g_u_n (fun z => absurd (hI 4 2 (by decide) (by decide) z) (by decide))).trans h4
    refine g_goto X 45 d_TU_setShown_28 (by decide) ?_
    refine g_iload X d_TU_setShown_45 0 rfl ?_
    exact g_zret X rfl (bI_nar _) (⟨rfl, by rw [← ef_8]⟩) (Nat.le_of_ble_eq_true rfl) (Nat.le_of_ble_eq_true rfl) d_TU_setShown_47
set_option maxHeartbeats 4000000 in
set_option maxRecDepth 100000 in
theorem c_TU_setWay {l : Launch} {D : va_G} {cI cZ cO cJ : ClassId} {eA : Nat} {f : g_F} {t : Nat} {a : Nat → Nat} {P Du S Wy Re : Nat → Nat} {n : Nat} (hR : tu_R cI f t a P Du S Wy Re n) (hB : tu_B P Du S Wy n) (hI : ∀ i j, i < 5 → j < 5 → a i = a j → i = j) {x y z : Nat} (hx : x < 10) (hy : y < 10) : g_C l y_TU_setWay b_TU_setWay 5 (some .int) { frames := 0, cells := 0, slots := 0, locals := 0 } D g_cl (g_tys cI cZ cO cJ) (z_Z eA) [.ref t, .int (nI x), .int (nI y), .int (nI z)] f (fun r f2 => r = some (.int (nI (Wy (x * 10 + y)))) ∧ f2 = g_u f (a 3) (.inl (cI, 100, .inl (fun q9 => nI ((va_up (va_up Wy (x * 10 + y) z) (y * 10 + x) z) q9))))) (fun _ => False) := by
  refine g_ofW [(0, .ref t), (1, .int (nI x)), (2, .int (nI y)), (3, .int (nI z))] (by decide +kernel) (Nat.le_of_ble_eq_true rfl) rfl ?_
  intro p e s m args below meth c X ht hin
  obtain ⟨hT, h0, h1, h2, h3, h4⟩ := id hR
  obtain ⟨hn8, hP, hDu, hS, hWy⟩ := id hB
  refine g_aload_n X d_TU_setWay_0 0 rfl ?_
  refine g_get (ci := 2) (C := R_TU) (T := F_TU) (N := 6) (v := .ref (a 3)) X i_TU rfl hT 3 (by decide) q_87 (fun _ h9 => h9) rfl d_TU_setWay_1 ?_
  refine g_iload_n X d_TU_setWay_4 1 rfl ?_
  refine g_bipush (v := 10) X d_TU_setWay_5 (by decide) ?_
  refine g_imul X d_TU_setWay_7 ?_
  refine g_eqi (y := nI (x * 10)) (nI_mul x 10) ?_
  refine g_iload_n X d_TU_setWay_8 2 rfl ?_
  refine g_iadd X d_TU_setWay_9 ?_
  refine g_eqi (y := nI (x * 10 + y)) (nI_add _ _) ?_
  refine g_iald (t0 := 0) (v := nI (Wy (x * 10 + y))) X h3 rfl (nI_ix ((by omega : x * 10 + y < 100)) (by decide)) (nI_cl (g := fun q9 => nI (Wy q9)) (Nat.lt_trans ((by omega : x * 10 + y < 100)) (by decide))) d_TU_setWay_10 ?_
  refine g_istore (lv' := [(4, .int (nI (Wy (x * 10 + y)))), (0, .ref t), (1, .int (nI x)), (2, .int (nI y)), (3, .int (nI z))]) X d_TU_setWay_11 (by decide) rfl ?_
  refine g_aload_n X d_TU_setWay_13 1 rfl ?_
  refine g_get (ci := 2) (C := R_TU) (T := F_TU) (N := 6) (v := .ref (a 3)) X i_TU rfl hT 3 (by decide) q_87 (fun _ h9 => h9) rfl d_TU_setWay_14 ?_
  refine g_iload_n X d_TU_setWay_17 2 rfl ?_
  refine g_bipush (v := 10) X d_TU_setWay_18 (by decide) ?_
  refine g_imul X d_TU_setWay_20 ?_
  refine g_eqi (y := nI (x * 10)) (nI_mul x 10) ?_
  refine g_iload_n X d_TU_setWay_21 3 rfl ?_
  refine g_iadd X d_TU_setWay_22 ?_
  refine g_eqi (y := nI (x * 10 + y)) (nI_add _ _) ?_
  refine g_iload_n X d_TU_setWay_23 4 rfl ?_
  refine g_iast (t0 := 0) (g2 := fun q9 => nI (va_up Wy (x * 10 + y) z q9)) X h3 rfl (nI_ix ((by omega : x * 10 + y < 100)) (by decide)) (upd_nI (g := Wy) (Nat.lt_trans ((by omega : x * 10 + y < 100)) (by decide))) d_TU_setWay_24 ?_
  generalize ef_1 : g_u f (a 3) (.inl (cI, 100, .inl (fun q9 => nI (va_up Wy (x * 10 + y) z q9)))) = f_1
  have h_2 : f_1 t = some (.inr (2, [.ref (a 0), .ref (a 1), .ref (a 2), .ref (a 3), .ref (a 4), .int (nI n)])) := by rw [← ef_1]; exact (g_u_n (tu_ne hT h3)).trans hT
  have h_3 : f_1 (a 0) = some (.inl (cI, 8, .inl (fun i => nI (P i)))) := by rw [← ef_1]; exact (g_u_n (fun z => absurd (hI 0 3 (by decide) (by decide) z) (by decide))).trans h0
  have h_4 : f_1 (a 1) = some (.inl (cI, 8, .inl (fun i => nI (Du i)))) := by rw [← ef_1]; exact (g_u_n (fun z => absurd (hI 1 3 (by decide) (by decide) z) (by decide))).trans h1
  have h_5 : f_1 (a 2) = some (.inl (cI, 8, .inl (fun i => nI (S i)))) := by rw [← ef_1]; exact (g_u_n (fun z => absurd (hI 2 3 (by decide) (by decide) z) (by decide))).trans h2
  have h_6 : f_1 (a 3) = some (.inl (cI, 100, .inl (fun q9 => nI (va_up Wy (x * 10 + y) z q9)))) := by rw [← ef_1]; exact g_u_s
  have h_7 : f_1 (a 4) = some (.inl (cI, 2048, .inl (fun i => nI (Re i)))) := by rw [← ef_1]; exact (g_u_n (fun z => absurd (hI 4 3 (by decide) (by decide) z) (by decide))).trans h4
  refine g_aload_n X d_TU_setWay_25 1 rfl ?_
  refine g_get (ci := 2) (C := R_TU) (T := F_TU) (N := 6) (v := .ref (a 3)) X i_TU rfl h_2 3 (by decide) q_87 (fun _ h9 => h9) rfl d_TU_setWay_26 ?_
  refine g_iload_n X d_TU_setWay_29 3 rfl ?_
  refine g_bipush (v := 10) X d_TU_setWay_30 (by decide) ?_
  refine g_imul X d_TU_setWay_32 ?_
  refine g_eqi (y := nI (y * 10)) (nI_mul y 10) ?_
  refine g_iload_n X d_TU_setWay_33 2 rfl ?_
  refine g_iadd X d_TU_setWay_34 ?_
  refine g_eqi (y := nI (y * 10 + x)) (nI_add _ _) ?_
  refine g_iload_n X d_TU_setWay_35 4 rfl ?_
  refine g_iast (t0 := 0) (g2 := fun q9 => nI (va_up (va_up Wy (x * 10 + y) z) (y * 10 + x) z q9)) X h_6 rfl (nI_ix ((by omega : y * 10 + x < 100)) (by decide)) (upd_nI (g := (va_up Wy (x * 10 + y) z)) (Nat.lt_trans ((by omega : y * 10 + x < 100)) (by decide))) d_TU_setWay_36 ?_
  generalize ef_8 : g_u f_1 (a 3) (.inl (cI, 100, .inl (fun q9 => nI (va_up (va_up Wy (x * 10 + y) z) (y * 10 + x) z q9)))) = f_8
  have h_9 : f_8 t = some (.inr (2, [.ref (a 0), .ref (a 1), .ref (a 2), .ref (a 3), .ref (a 4), .int (nI n)])) := by rw [← ef_8]; exact (g_u_n (tu_ne h_2 h_6)).trans h_2
  have h_10 : f_8 (a 0) = some (.inl (cI, 8, .inl (fun i => nI (P i)))) := by rw [← ef_8]; exact (g_u_n (fun z => absurd (hI 0 3 (by decide) (by decide) z) (by decide))).trans h_3
  have h_11 : f_8 (a 1) = some (.inl (cI, 8, .inl (fun i => nI (Du i)))) := by rw [← ef_8]; exact (g_u_n (fun z => absurd (hI 1 3 (by decide) (by decide) z) (by decide))).trans h_4
  have h_12 : f_8 (a 2) = some (.inl (cI, 8, .inl (fun i => nI (S i)))) := by rw [← ef_8]; exact (g_u_n (fun z => absurd (hI 2 3 (by decide) (by decide) z) (by decide))).trans h_5
  have h_13 : f_8 (a 3) = some (.inl (cI, 100, .inl (fun q9 => nI (va_up (va_up Wy (x * 10 + y) z) (y * 10 + x) z q9)))) := by rw [← ef_8]; exact g_u_s
  have h_14 : f_8 (a 4) = some (.inl (cI, 2048, .inl (fun i => nI (Re i)))) := by rw [← ef_8]; exact (g_u_n (fun z => absurd (hI 4 3 (by decide) (by decide) z) (by decide))).trans h_7
  refine g_iload X d_TU_setWay_37 0 rfl ?_
  exact g_iret X rfl (⟨rfl, by rw [← ef_8, ← ef_1, g_u_u]⟩) (Nat.le_of_ble_eq_true rfl) (Nat.le_of_ble_eq_true rfl) d_TU_setWay_39
/-- the world with other rests -/
def tu_w (cI : ClassId) (f : g_F) (a : Nat → Nat) (Re : Nat → Nat) : g_F := g_u f (a 4) (.inl (cI, 2048, .inl (fun i => nI (Re i))))
theorem tu_w_w {cI : ClassId} {f : g_F} {a : Nat → Nat} {Re Re2 : Nat → Nat} : g_u (tu_w cI f a Re) (a 4) (.inl (cI, 2048, .inl (fun i => nI (Re2 i)))) = tu_w cI f a Re2 := g_u_u
theorem g_u_id {f : g_F} {q : Nat} {x : va_E} (h : f q = some x) : g_u f q x = f := by
  funext r
  by_cases hr : r = q
  · subst hr; rw [g_u_s, h]
  · rw [g_u_n hr]
theorem tu_w_id {cI : ClassId} {f : g_F} {t : Nat} {a : Nat → Nat} {P Du S Wy Re : Nat → Nat} {n : Nat} (hR : tu_R cI f t a P Du S Wy Re n) : tu_w cI f a Re = f := g_u_id hR.2.2.2.2.2
theorem tu_w_R {cI : ClassId} {f : g_F} {t : Nat} {a : Nat → Nat} {P Du S Wy Re : Nat → Nat} {n : Nat} (hR : tu_R cI f t a P Du S Wy Re n) (hI : ∀ i j, i < 5 → j < 5 → a i = a j → i = j) (Re2 : Nat → Nat) : tu_R cI (tu_w cI f a Re2) t a P Du S Wy Re2 n := by
  obtain ⟨hT, h0, h1, h2, h3, h4⟩ := hR
  have k : ∀ i, i < 4 → a i ≠ a 4 := fun i hi z => absurd (hI i 4 (by omega) (by decide) z) (by omega)
  exact ⟨(g_u_n (tu_ne hT h4)).trans hT, (g_u_n (k 0 (by decide))).trans h0, (g_u_n (k 1 (by decide))).trans h1, (g_u_n (k 2 (by decide))).trans h2, (g_u_n (k 3 (by decide))).trans h3, g_u_s⟩
/-- the rest of a set of acts and the last of them is what it must be -/
def bell (P Du S Wy : Nat → Nat) (n need : Nat) (Re : Nat → Nat) (done last : Nat) : Prop := Re (done * 8 + last) = if cov S n need done then 0 else lrest P Du Wy Re done last n
/-- .. for all sets above one -/
def bellA (P Du S Wy : Nat → Nat) (n need : Nat) (Re : Nat → Nat) (dn : Nat) : Prop := (∀ k, Re k ≤ 2 ^ 28) ∧ ∀ d, dn < d → d < 2 ^ n → ∀ j, j < n → d.testBit j = true → bell P Du S Wy n need Re d j
theorem lrest_congr {P Du Wy Re Re2 : Nat → Nat} {done last : Nat} : ∀ n, (∀ x, x < n → done.testBit x = false → Re2 ((done ||| 2 ^ x) * 8 + x) = Re ((done ||| 2 ^ x) * 8 + x)) → lrest P Du Wy Re2 done last n = lrest P Du Wy Re done last n
  | 0, _ => rfl
  | n + 1, h => by
    have ih := lrest_congr (P := P) (Du := Du) (Wy := Wy) (last := last) n (fun x hx => h x (by omega))
    unfold lrest
    rw [ih]
    cases hb : done.testBit n
    · simp only [wN]
      rw [h n (by omega) hb]
    · rfl
theorem or_gt {d x : Nat} (h : d.testBit x = false) : d < d ||| 2 ^ x := by
  have h1 : d ≤ d ||| 2 ^ x := Nat.left_le_or
  rcases Nat.lt_or_ge d (d ||| 2 ^ x) with h2 | h2
  · exact h2
  · have h3 : d = d ||| 2 ^ x := by omega
    have h4 := congrArg (fun z => Nat.testBit z x) h3
    simp [Nat.testBit_or, Nat.testBit_two_pow, h] at h4
theorem bell_up {P Du S Wy : Nat → Nat} {n need : Nat} {Re : Nat → Nat} {dn i v d j : Nat} (hn : n ≤ 8) (hi : i < 8) (hd : dn ≤ d) (hj : j < n) (hne : ¬ (d = dn ∧ j = i)) (h : bell P Du S Wy n need Re d j) : bell P Du S Wy n need (va_up Re (dn * 8 + i) v) d j := by
  unfold bell at h ⊢
  rw [show va_up Re (dn * 8 + i) v (d * 8 + j) = Re (d * 8 + j) from if_neg (by omega), h]
  split
  · rfl
  · symm
    apply lrest_congr
    intro x hx hb
    have := or_gt hb
    exact if_neg (by omega)
theorem bell_new {P Du S Wy : Nat → Nat} {n need : Nat} {Re : Nat → Nat} {dn i : Nat} (hn : n ≤ 8) (hi : i < 8) : bell P Du S Wy n need (va_up Re (dn * 8 + i) (if cov S n need dn then 0 else lrest P Du Wy Re dn i n)) dn i := by
  unfold bell
  rw [show va_up Re (dn * 8 + i) (if cov S n need dn then 0 else lrest P Du Wy Re dn i n) (dn * 8 + i) = _ from if_pos rfl]
  split
  · rfl
  · symm
    apply lrest_congr
    intro x hx hb
    have := or_gt hb
    exact if_neg (by omega)
theorem le_up {Re : Nat → Nat} {k v : Nat} (h : ∀ k, Re k ≤ 2 ^ 28) (hv : v ≤ 2 ^ 28) : ∀ j, va_up Re k v j ≤ 2 ^ 28 := by
  intro j
  by_cases hj : j = k
  · subst hj; rw [show va_up Re j v j = v from if_pos rfl]; exact hv
  · rw [show va_up Re k v j = Re j from if_neg hj]; exact h j
set_option maxHeartbeats 4000000 in
set_option maxRecDepth 100000 in
theorem L_TU_weighRestsI {p : Program} {l : Launch} {e : Env} {s : State} {m : MethodId} {args : Array Value} {below : List Frame} {meth : Method} {c : Code} {Q : State → Prop} {A : Nat → Prop} {D : va_G} {cI cZ cO cJ : ClassId} {eA : Nat} {f : g_F} {t : Nat} {a : Nat → Nat} {P Du S Wy Re : Nat → Nat} {n : Nat} (hR : tu_R cI f t a P Du S Wy Re n) (hB : tu_B P Du S Wy n) (hI : ∀ i j, i < 5 → j < 5 → a i = a j → i = j) {need : Nat} (hne : need < 2 ^ 31) {dn : Nat} (hdn : dn < 2 ^ n) (X : g_X p s m args meth c b_TU_weighRests 5 none g_T y_TU_weighRests.cls D g_cl (g_tys cI cZ cO cJ) A (z_Z eA)) (kk : ∀ Re : Nat → Nat, bellA P Du S Wy n need Re dn → (∀ j, j < n → dn.testBit j = true → bell P Du S Wy n need Re dn j) → g_W p l e { frames := 3, cells := 0, slots := 0, locals := 70 } s m args below meth c 5 D g_cl A (tu_w cI f a Re) 0 0 Q 74 [(4, .int (nI n)), (3, .int (bI (cov S n need dn))), (2, .int (nI dn)), (0, .ref t), (1, .int (nI need))] []) : ∀ (d : Nat) (i : Nat) (Re : Nat → Nat), (i + d = n) → (bellA P Du S Wy n need Re dn) → (∀ j, j < i → dn.testBit j = true → bell P Du S Wy n need Re dn j) → g_W p l e { frames := 3, cells := 0, slots := 0, locals := 70 } s m args below meth c 5 D g_cl A (tu_w cI f a Re) 0 0 Q 23 [(4, .int (nI i)), (3, .int (bI (cov S n need dn))), (2, .int (nI dn)), (0, .ref t), (1, .int (nI need))] [] := by
  obtain ⟨hT, h0, h1, h2, h3, h4⟩ := id hR
  obtain ⟨hn8, hP, hDu, hS, hWy⟩ := id hB
  have h256 : 2 ^ n ≤ 256 := Nat.pow_le_pow_right (n := 2) (by decide) hn8
  have hR0 := hR
  clear hT h0 h1 h2 h3 h4
  intro d
  induction d using Nat.strongRecOn with
  | _ d ih =>
    intro i Re hi hA hJ
    have hR2 := tu_w_R hR0 hI Re
    obtain ⟨hT, h0, h1, h2, h3, h4⟩ := id hR2
    refine g_iload X d_TU_weighRests_23 0 rfl ?_
    refine g_aload_n X d_TU_weighRests_25 3 rfl ?_
    refine g_get (ci := 2) (C := R_TU) (T := F_TU) (N := 6) (v := .int (nI n)) X i_TU rfl hT 5 (by decide) q_89 (fun _ h9 => h9) rfl d_TU_weighRests_26 ?_
    refine g_icmp_ge X 74 d_TU_weighRests_29 (by decide) (fun c29 => ?_) (fun c29 => ?_)
    · skip
      have e : i = n := by have := (nI_leI (by omega) (by omega)).mp c29; omega
      subst e
      exact kk Re hA hJ
    · skip
      have hlt : i < n := Nat.lt_of_not_le (fun z => c29 ((nI_leI (by omega) (by omega)).mpr z))
      refine g_iload_n X d_TU_weighRests_32 2 rfl ?_
      refine g_iload X d_TU_weighRests_33 0 rfl ?_
      refine g_callSN (As := [.int (nI dn), .int (nI i)]) (rest := []) X (z_ok eA) (c_CL_holds (f := (tu_w cI f a Re)) (a := dn) (k := i) (by omega) (by omega)) v_CL_holds q_367 (X.2.2.2.2.2.2.2.1.1) (fun _ h => h) rfl rfl (Nat.le_of_ble_eq_true rfl) d_TU_weighRests_35 ⟨(Nat.le_of_ble_eq_true rfl), (Nat.le_of_ble_eq_true rfl)⟩ ⟨(Nat.le_of_ble_eq_true rfl), (Nat.le_of_ble_eq_true rfl)⟩ (fun r_ f2_ hp => ?_)
      obtain ⟨rfl, hf_⟩ := hp
      subst f2_
      refine g_st (st2 := [.int (bI (Nat.testBit dn i))]) rfl ?_
      refine g_if_eq X 68 d_TU_weighRests_38 (by decide) (fun c38 => ?_) (fun c38 => ?_)
      · skip
        have hnb : dn.testBit i = false := bI_z.mp c38
        refine g_iinc (lv' := [(4, .int (nI (i + 1))), (3, .int (bI (cov S n need dn))), (2, .int (nI dn)), (0, .ref t), (1, .int (nI need))]) X d_TU_weighRests_68 0 rfl (nI_1 i) (by decide) rfl ?_
        refine g_goto X 23 d_TU_weighRests_71 (by decide) ?_
        exact g_lv [0, 1, 2, 3, 4] rfl (ih (d - 1) (by omega) (i + 1) Re (by omega) hA (fun j hj hb => (Nat.lt_or_ge j i).elim (fun h => hJ j h hb) (fun h => absurd hb (by rw [show j = i by omega, hnb]; decide))))
      · skip
        have hnb : dn.testBit i = true := bt_nf (fun z => c38 (bI_z.mpr z))
        refine g_aload_n X d_TU_weighRests_41 3 rfl ?_
        refine g_get (ci := 2) (C := R_TU) (T := F_TU) (N := 6) (v := .ref (a 4)) X i_TU rfl hT 4 (by decide) q_88 (fun _ h9 => h9) rfl d_TU_weighRests_42 ?_
        refine g_iload_n X d_TU_weighRests_45 2 rfl ?_
        refine g_bipush (v := 8) X d_TU_weighRests_46 (by decide) ?_
        refine g_imul X d_TU_weighRests_48 ?_
        refine g_eqi (y := nI (dn * 8)) (nI_mul dn 8) ?_
        refine g_iload X d_TU_weighRests_49 0 rfl ?_
        refine g_iadd X d_TU_weighRests_51 ?_
        refine g_eqi (y := nI (dn * 8 + i)) (nI_add _ _) ?_
        refine g_iload_n X d_TU_weighRests_52 1 rfl ?_
        refine g_if_eq X 60 d_TU_weighRests_53 (by decide) (fun c53 => ?_) (fun c53 => ?_)
        · skip
          refine g_aload_n X d_TU_weighRests_60 3 rfl ?_
          refine g_iload_n X d_TU_weighRests_61 2 rfl ?_
          refine g_iload X d_TU_weighRests_62 0 rfl ?_
          refine g_callV (ci := 2) (As := [.int (nI dn), .int (nI i)]) (rest := [.int (nI (dn * 8 + i)), .ref (a 4)]) X (z_ok eA) rfl rfl hT (c_TU_leastRest hR2 hB hA.1 (done := dn) (last := i) (by omega) (by omega)) v_TU_leastRest q_479 q_s12 q_477 rfl rfl (Nat.le_of_ble_eq_true rfl) d_TU_weighRests_64 ⟨(Nat.le_of_ble_eq_true rfl), (Nat.le_of_ble_eq_true rfl)⟩ ⟨(Nat.le_of_ble_eq_true rfl), (Nat.le_of_ble_eq_true rfl)⟩ (g_K.no (fun _ h => h)) (fun r_ f2_ hp => ?_)
          obtain ⟨rfl, hf_⟩ := hp
          subst f2_
          refine g_st (st2 := [.int (nI (lrest P Du Wy Re dn i n)), .int (nI (dn * 8 + i)), .ref (a 4)]) rfl ?_
          refine g_eqi (y := nI (if cov S n need dn then 0 else lrest P Du Wy Re dn i n)) (by rw [if_neg (by rw [bI_z.mp c53]; decide)]) ?_
          refine g_iast (t0 := 0) (g2 := fun q9 => nI ((va_up Re (dn * 8 + i) (if cov S n need dn then 0 else lrest P Du Wy Re dn i n)) q9)) X h4 rfl (nI_ix (by omega : dn * 8 + i < 2048) (by decide)) (upd_nI (g := Re) (by omega : dn * 8 + i < 2 ^ 31)) d_TU_weighRests_67 ?_
          refine g_eqf (f2 := (tu_w cI f a (va_up Re (dn * 8 + i) (if cov S n need dn then 0 else lrest P Du Wy Re dn i n)))) (tu_w_w) ?_
          have hb2 : bellA P Du S Wy n need (va_up Re (dn * 8 + i) (if cov S n need dn then 0 else lrest P Du Wy Re dn i n)) dn := ⟨le_up hA.1 (by split; exact Nat.zero_le _; exact lrest_le _ _ _ _ _ _ _), fun d2 h1 h2 j hj hb => bell_up hn8 (by omega) (by omega) hj (by omega) (hA.2 d2 h1 h2 j hj hb)⟩
          have hj2 : ∀ j, j < i + 1 → dn.testBit j = true → bell P Du S Wy n need (va_up Re (dn * 8 + i) (if cov S n need dn then 0 else lrest P Du Wy Re dn i n)) dn j := fun j hj hb => by
            by_cases e : j = i
            · subst e; exact bell_new hn8 (by omega)
            · exact bell_up hn8 (by omega) (Nat.le_refl _) (by omega) (fun z => e z.2) (hJ j (by omega) hb)
          refine g_iinc (lv' := [(4, .int (nI (i + 1))), (3, .int (bI (cov S n need dn))), (2, .int (nI dn)), (0, .ref t), (1, .int (nI need))]) X d_TU_weighRests_68 0 rfl (nI_1 i) (by decide) rfl ?_
          refine g_goto X 23 d_TU_weighRests_71 (by decide) ?_
          exact g_lv [0, 1, 2, 3, 4] rfl (ih (d - 1) (by omega) (i + 1) (va_up Re (dn * 8 + i) (if cov S n need dn then 0 else lrest P Du Wy Re dn i n)) (by omega) hb2 hj2)
        · skip
          refine g_iconst (v := 0) X d_TU_weighRests_56 (by decide) ?_
          refine g_goto X 67 d_TU_weighRests_57 (by decide) ?_
          refine g_eqi (y := nI (if cov S n need dn then 0 else lrest P Du Wy Re dn i n)) (by rw [if_pos (bt_nf (fun z => c53 (bI_z.mpr z)))]; rfl) ?_
          refine g_iast (t0 := 0) (g2 := fun q9 => nI ((va_up Re (dn * 8 + i) (if cov S n need dn then 0 else lrest P Du Wy Re dn i n)) q9)) X h4 rfl (nI_ix (by omega : dn * 8 + i < 2048) (by decide)) (upd_nI (g := Re) (by omega : dn * 8 + i < 2 ^ 31)) d_TU_weighRests_67 ?_
          refine g_eqf (f2 := (tu_w cI f a (va_up Re (dn * 8 + i) (if cov S n need dn then 0 else lrest P Du Wy Re dn i n)))) (tu_w_w) ?_
          have hb2 : bellA P Du S Wy n need (va_up Re (dn * 8 + i) (if cov S n need dn then 0 else lrest P Du Wy Re dn i n)) dn := ⟨le_up hA.1 (by split; exact Nat.zero_le _; exact lrest_le _ _ _ _ _ _ _), fun d2 h1 h2 j hj hb => bell_up hn8 (by omega) (by omega) hj (by omega) (hA.2 d2 h1 h2 j hj hb)⟩
          have hj2 : ∀ j, j < i + 1 → dn.testBit j = true → bell P Du S Wy n need (va_up Re (dn * 8 + i) (if cov S n need dn then 0 else lrest P Du Wy Re dn i n)) dn j := fun j hj hb => by
            by_cases e : j = i
            · subst e; exact bell_new hn8 (by omega)
            · exact bell_up hn8 (by omega) (Nat.le_refl _) (by omega) (fun z => e z.2) (hJ j (by omega) hb)
          refine g_iinc (lv' := [(4, .int (nI (i + 1))), (3, .int (bI (cov S n need dn))), (2, .int (nI dn)), (0, .ref t), (1, .int (nI need))]) X d_TU_weighRests_68 0 rfl (nI_1 i) (by decide) rfl ?_
          refine g_goto X 23 d_TU_weighRests_71 (by decide) ?_
          exact g_lv [0, 1, 2, 3, 4] rfl (ih (d - 1) (by omega) (i + 1) (va_up Re (dn * 8 + i) (if cov S n need dn then 0 else lrest P Du Wy Re dn i n)) (by omega) hb2 hj2)
set_option maxHeartbeats 4000000 in
set_option maxRecDepth 100000 in
theorem L_TU_weighRests {p : Program} {l : Launch} {e : Env} {s : State} {m : MethodId} {args : Array Value} {below : List Frame} {meth : Method} {c : Code} {Q : State → Prop} {A : Nat → Prop} {D : va_G} {cI cZ cO cJ : ClassId} {eA : Nat} {f : g_F} {t : Nat} {a : Nat → Nat} {P Du S Wy Re : Nat → Nat} {n : Nat} (hR : tu_R cI f t a P Du S Wy Re n) (hB : tu_B P Du S Wy n) (hI : ∀ i j, i < 5 → j < 5 → a i = a j → i = j) {need : Nat} (hne : need < 2 ^ 31) (X : g_X p s m args meth c b_TU_weighRests 5 none g_T y_TU_weighRests.cls D g_cl (g_tys cI cZ cO cJ) A (z_Z eA)) (kk : ∀ Re : Nat → Nat, bellA P Du S Wy n need Re 0 → g_W p l e { frames := 3, cells := 0, slots := 0, locals := 70 } s m args below meth c 5 D g_cl A (tu_w cI f a Re) 0 0 Q 80 [(2, .int (nI 0)), (0, .ref t), (1, .int (nI need))] []) : ∀ (d : Nat) (Re : Nat → Nat), (d < 2 ^ n) → (bellA P Du S Wy n need Re d) → g_W p l e { frames := 3, cells := 0, slots := 0, locals := 70 } s m args below meth c 5 D g_cl A (tu_w cI f a Re) 0 0 Q 9 [(2, .int (nI d)), (0, .ref t), (1, .int (nI need))] [] := by
  obtain ⟨hT, h0, h1, h2, h3, h4⟩ := id hR
  obtain ⟨hn8, hP, hDu, hS, hWy⟩ := id hB
  have h256 : 2 ^ n ≤ 256 := Nat.pow_le_pow_right (n := 2) (by decide) hn8
  have hR0 := hR
  clear hT h0 h1 h2 h3 h4
  intro d
  induction d using Nat.strongRecOn with
  | _ d ih =>
    intro Re hd hA
    have hR2 := tu_w_R hR0 hI Re
    obtain ⟨hT, h0, h1, h2, h3, h4⟩ := id hR2
    refine g_iload_n X d_TU_weighRests_9 0 rfl ?_
    refine g_if_le X 80 d_TU_weighRests_10 (by decide) (fun c10 => ?_) (fun c10 => ?_)
    · skip
      have e : d = 0 := by
        have := (nI_leI (a := d) (b := 0) (by omega) (by decide)).mp c10
        omega
      subst e
      exact kk Re hA
    · skip
      have hlt : 0 < d := Nat.lt_of_not_le (fun z => c10 ((nI_leI (a := d) (b := 0) (by omega) (by decide)).mpr z))
      refine g_aload_n X d_TU_weighRests_13 1 rfl ?_
      refine g_iload_n X d_TU_weighRests_14 0 rfl ?_
      refine g_iload_n X d_TU_weighRests_15 2 rfl ?_
      refine g_callV (ci := 2) (As := [.int (nI d), .int (nI need)]) (rest := []) X (z_ok eA) rfl rfl hT (c_TU_covers hR2 hB (acts := d) (need := need) (by omega) hne) v_TU_covers q_475 q_s11 q_473 rfl rfl (Nat.le_of_ble_eq_true rfl) d_TU_weighRests_16 ⟨(Nat.le_of_ble_eq_true rfl), (Nat.le_of_ble_eq_true rfl)⟩ ⟨(Nat.le_of_ble_eq_true rfl), (Nat.le_of_ble_eq_true rfl)⟩ (g_K.no (fun _ h => h)) (fun r_ f2_ hp => ?_)
      obtain ⟨rfl, hf_⟩ := hp
      subst f2_
      refine g_st (st2 := [.int (bI (cov S n need d))]) rfl ?_
      refine g_istore_n (lv' := [(3, .int (bI (cov S n need d))), (2, .int (nI d)), (0, .ref t), (1, .int (nI need))]) X d_TU_weighRests_19 rfl (by decide) rfl ?_
      refine g_iconst (v := 0) X d_TU_weighRests_20 (by decide) ?_
      refine g_istore (lv' := [(4, .int 0), (3, .int (bI (cov S n need d))), (2, .int (nI d)), (0, .ref t), (1, .int (nI need))]) X d_TU_weighRests_21 (by decide) rfl ?_
      refine L_TU_weighRestsI hR0 hB hI hne (dn := d) (by omega) X ?_ n 0 Re (by omega) hA (fun j hj => absurd hj (by omega))
      intro Re2 hA2 hJ2
      have hA3 : bellA P Du S Wy n need Re2 (d - 1) := ⟨hA2.1, fun d2 h1 h2 j hj hb => by
        by_cases e : d2 = d
        · subst e; exact hJ2 j hj hb
        · exact hA2.2 d2 (by omega) h2 j hj hb⟩
      refine g_iinc (lv' := [(2, .int (nI (d - 1))), (4, .int (nI n)), (3, .int (bI (cov S n need d))), (0, .ref t), (1, .int (nI need))]) X d_TU_weighRests_74 2 rfl (nI_dec hlt) (by decide) rfl ?_
      refine g_goto X 9 d_TU_weighRests_77 (by decide) ?_
      exact g_lv [0, 3, 4] rfl (ih (d - 1) (by omega) Re2 (by omega) hA3)
set_option maxHeartbeats 4000000 in
set_option maxRecDepth 100000 in
theorem c_TU_weighRests {l : Launch} {D : va_G} {cI cZ cO cJ : ClassId} {eA : Nat} {f : g_F} {t : Nat} {a : Nat → Nat} {P Du S Wy Re : Nat → Nat} {n : Nat} (hR : tu_R cI f t a P Du S Wy Re n) (hB : tu_B P Du S Wy n) (hRe : ∀ i, Re i ≤ 2 ^ 28) (hI : ∀ i j, i < 5 → j < 5 → a i = a j → i = j) {need : Nat} (hne : need < 2 ^ 31) : g_C l y_TU_weighRests b_TU_weighRests 5 none { frames := 3, cells := 0, slots := 0, locals := 70 } D g_cl (g_tys cI cZ cO cJ) (z_Z eA) [.ref t, .int (nI need)] f (fun r f2 => r = none ∧ ∃ Re2 : Nat → Nat, bellA P Du S Wy n need Re2 0 ∧ f2 = tu_w cI f a Re2) (fun _ => False) := by
  refine g_ofW [(0, .ref t), (1, .int (nI need))] (by decide +kernel) (Nat.le_of_ble_eq_true rfl) rfl ?_
  intro p e s m args below meth c X ht hin
  obtain ⟨hT, h0, h1, h2, h3, h4⟩ := id hR
  obtain ⟨hn8, hP, hDu, hS, hWy⟩ := id hB
  refine g_iconst (v := 1) X d_TU_weighRests_0 (by decide) ?_
  refine g_aload_n X d_TU_weighRests_1 0 rfl ?_
  refine g_get (ci := 2) (C := R_TU) (T := F_TU) (N := 6) (v := .int (nI n)) X i_TU rfl hT 5 (by decide) q_89 (fun _ h9 => h9) rfl d_TU_weighRests_2 ?_
  refine g_ishl X d_TU_weighRests_5 ?_
  refine g_iconst (v := 1) X d_TU_weighRests_6 (by decide) ?_
  refine g_isub X d_TU_weighRests_7 ?_
  refine g_eqi (y := nI (2 ^ n - 1)) (full_e hn8) ?_
  refine g_istore_n (lv' := [(2, .int (nI (2 ^ n - 1))), (0, .ref t), (1, .int (nI need))]) X d_TU_weighRests_8 rfl (by decide) rfl ?_
  refine g_eqf (tu_w_id hR).symm ?_
  refine L_TU_weighRests hR hB hI hne X ?_ (2 ^ n - 1) Re (by have := Nat.two_pow_pos n; omega) ⟨hRe, fun d h1 h2 => absurd h1 (by omega)⟩
  intro Re2 hA
  exact g_vret X rfl ⟨rfl, Re2, hA, rfl⟩ (Nat.le_of_ble_eq_true rfl) (Nat.le_of_ble_eq_true rfl) d_TU_weighRests_80
end
section
/-- the world with another order in the cell rp -/
def fo_w (cI : ClassId) (f : g_F) (rp : Nat) (O : Nat → Nat) : g_F := g_u f rp (.inl (cI, 8, .inl (fun i => nI (O i))))
theorem fo_w_w {cI : ClassId} {f : g_F} {rp : Nat} {O O2 : Nat → Nat} : g_u (fo_w cI f rp O) rp (.inl (cI, 8, .inl (fun i => nI (O2 i)))) = fo_w cI f rp O2 := g_u_u
theorem fo_w_R {cI : ClassId} {f : g_F} {t : Nat} {a : Nat → Nat} {P Du S Wy Re : Nat → Nat} {n rp : Nat} {O : Nat → Nat} (hR : tu_R cI f t a P Du S Wy Re n) (hO : ∃ x, f rp = some (.inl x)) (hrp : ∀ i, i < 5 → a i ≠ rp) : tu_R cI (fo_w cI f rp O) t a P Du S Wy Re n := by
  obtain ⟨hT, h0, h1, h2, h3, h4⟩ := hR
  obtain ⟨x, hO⟩ := hO
  exact ⟨(g_u_n (tu_ne hT hO)).trans hT, (g_u_n (hrp 0 (by decide))).trans h0, (g_u_n (hrp 1 (by decide))).trans h1, (g_u_n (hrp 2 (by decide))).trans h2, (g_u_n (hrp 3 (by decide))).trans h3, (g_u_n (hrp 4 (by decide))).trans h4⟩
theorem am_cases (g : Nat → Nat) : ∀ n, (am g n).1 = -1 ∧ (am g n).2 = 2 ^ 28 ∨ ∃ j, j < n ∧ (am g n).1 = nI j ∧ (am g n).2 = g j
  | 0 => Or.inl ⟨rfl, rfl⟩
  | n + 1 => by
    unfold am
    split
    · exact Or.inr ⟨n, by omega, rfl, rfl⟩
    · rcases am_cases g n with h | ⟨j, h1, h2⟩
      · exact Or.inl h
      · exact Or.inr ⟨j, by omega, h2⟩
/-- the next act of the order -/
def foN (P Du Wy Re : Nat → Nat) (n done : Nat) (O : Nat → Nat) (k : Nat) : Int32 := if k = 0 then (am (wF Du Re) n).1 else (am (bN P Du Wy Re done (O (k - 1))) n).1
theorem foN_cases (P Du Wy Re : Nat → Nat) (n done : Nat) (O : Nat → Nat) (k : Nat) (h : ¬ foN P Du Wy Re n done O k = -1) : ∃ j, j < n ∧ foN P Du Wy Re n done O k = nI j := by
  unfold foN at h ⊢
  split
  · rename_i hk
    rw [if_pos hk] at h
    rcases am_cases (wF Du Re) n with h1 | ⟨j, h1, h2, -⟩
    · exact absurd h1.1 h
    · exact ⟨j, h1, h2⟩
  · rename_i hk
    rw [if_neg hk] at h
    rcases am_cases (bN P Du Wy Re done (O (k - 1))) n with h1 | ⟨j, h1, h2, -⟩
    · exact absurd h1.1 h
    · exact ⟨j, h1, h2⟩
/-- the order that is found, and how many acts it has -/
def fo (P Du S Wy Re : Nat → Nat) (n need : Nat) : Nat → Nat → (Nat → Nat) → Nat → (Nat → Nat) × Nat
  | 0, _, O, k => (O, k)
  | d + 1, done, O, k => if cov S n need done then (O, k) else if foN P Du Wy Re n done O k = -1 then (O, k) else fo P Du S Wy Re n need d (done ||| 2 ^ (foN P Du Wy Re n done O k).toNatClampNeg) (va_up O k (foN P Du Wy Re n done O k).toNatClampNeg) (k + 1)
theorem fo_s (P Du S Wy Re : Nat → Nat) (n need d done : Nat) (O : Nat → Nat) (k : Nat) : fo P Du S Wy Re n need (d + 1) done O k = if cov S n need done then (O, k) else if foN P Du Wy Re n done O k = -1 then (O, k) else fo P Du S Wy Re n need d (done ||| 2 ^ (foN P Du Wy Re n done O k).toNatClampNeg) (va_up O k (foN P Du Wy Re n done O k).toNatClampNeg) (k + 1) := rfl
set_option maxHeartbeats 4000000 in
set_option maxRecDepth 100000 in
theorem L_TU_findOrder {p : Program} {l : Launch} {e : Env} {s : State} {m : MethodId} {args : Array Value} {below : List Frame} {meth : Method} {c : Code} {Q : State → Prop} {A : Nat → Prop} {D : va_G} {cI cZ cO cJ : ClassId} {eA : Nat} {f : g_F} {t : Nat} {a : Nat → Nat} {P Du S Wy Re : Nat → Nat} {n : Nat} (hR : tu_R cI f t a P Du S Wy Re n) (hB : tu_B P Du S Wy n) (hRe : ∀ i, Re i ≤ 2 ^ 28) {need : Nat} (hne : need < 2 ^ 31) {rp : Nat} (hO : ∃ x, f rp = some (.inl x)) (hrp : ∀ i, i < 5 → a i ≠ rp) {res : (Nat → Nat) × Nat} (X : g_X p s m args meth c b_TU_findOrder 7 (some .int) g_T y_TU_findOrder.cls D g_cl (g_tys cI cZ cO cJ) A (z_Z eA)) (k38 : ∀ (O : Nat → Nat) (k : Nat), res = (O, k) → g_W p l e { frames := 4, cells := 0, slots := 0, locals := 94 } s m args below meth c 7 D g_cl A (fo_w cI f rp O) 0 0 Q 38 [(4, .int (nI k))] []) (k72 : ∀ (O : Nat → Nat) (k : Nat), res = (O, k) → g_W p l e { frames := 4, cells := 0, slots := 0, locals := 94 } s m args below meth c 7 D g_cl A (fo_w cI f rp O) 0 0 Q 72 [(4, .int (nI k))] []) (k97 : ∀ (O : Nat → Nat) (k : Nat), res = (O, k) → g_W p l e { frames := 4, cells := 0, slots := 0, locals := 94 } s m args below meth c 7 D g_cl A (fo_w cI f rp O) 0 0 Q 97 [(4, .int (nI k))] []) : ∀ (d : Nat) (k done : Nat) (O : Nat → Nat), (k + d = n) → (done < 256) → (∀ i, i < k → O i < 8) → (fo P Du S Wy Re n need d done O k = res) → g_W p l e { frames := 4, cells := 0, slots := 0, locals := 94 } s m args below meth c 7 D g_cl A (fo_w cI f rp O) 0 0 Q 13 [(5, .int (nI k)), (4, .int (nI k)), (3, .int (nI done)), (0, .ref t), (1, .int (nI need)), (2, .ref rp)] [] := by
  obtain ⟨hT, h0, h1, h2, h3, h4⟩ := id hR
  obtain ⟨hn8, hP, hDu, hS, hWy⟩ := id hB
  clear hT h0 h1 h2 h3 h4
  intro d
  induction d using Nat.strongRecOn with
  | _ d ih =>
    intro k done O hi hdn hO8 hfo
    have hR2 := fo_w_R (O := O) hR hO hrp
    obtain ⟨hT, h0, h1, h2, h3, h4⟩ := id hR2
    have hO2 : fo_w cI f rp O rp = some (.inl (cI, 8, .inl (fun q9 => nI (O q9)))) := g_u_s
    refine g_iload X d_TU_findOrder_13 0 rfl ?_
    refine g_aload_n X d_TU_findOrder_15 3 rfl ?_
    refine g_get (ci := 2) (C := R_TU) (T := F_TU) (N := 6) (v := .int (nI n)) X i_TU rfl hT 5 (by decide) q_89 (fun _ h9 => h9) rfl d_TU_findOrder_16 ?_
    refine g_icmp_ge X 97 d_TU_findOrder_19 (by decide) (fun c19 => ?_) (fun c19 => ?_)
    · skip
      have e : d = 0 := by have := (nI_leI (by omega) (by omega)).mp c19; omega
      subst e
      exact g_lv [1] rfl (k97 O k hfo.symm)
    · skip
      have hlt : k < n := Nat.lt_of_not_le (fun z => c19 ((nI_leI (by omega) (by omega)).mpr z))
      obtain ⟨d, rfl⟩ : ∃ d9, d = d9 + 1 := ⟨d - 1, by omega⟩
      refine g_iload X d_TU_findOrder_22 0 rfl ?_
      refine g_aload_n X d_TU_findOrder_24 5 rfl ?_
      refine g_alen (t0 := 0) (v := nI 8) X hO2 rfl rfl d_TU_findOrder_25 ?_
      refine g_icmp_ge X 97 d_TU_findOrder_26 (by decide) (fun c26 => ?_) (fun c26 => ?_)
      · skip
        exact absurd ((nI_leI (by decide) (by omega)).mp c26) (by omega)
      · skip
        refine g_aload_n X d_TU_findOrder_29 3 rfl ?_
        refine g_iload_n X d_TU_findOrder_30 2 rfl ?_
        refine g_iload_n X d_TU_findOrder_31 4 rfl ?_
        refine g_callV (ci := 2) (As := [.int (nI done), .int (nI need)]) (rest := []) X (z_ok eA) rfl rfl hT (c_TU_covers hR2 hB (acts := done) (need := need) (by omega) hne) v_TU_covers q_475 q_s11 q_473 rfl rfl (Nat.le_of_ble_eq_true rfl) d_TU_findOrder_32 ⟨(Nat.le_of_ble_eq_true rfl), (Nat.le_of_ble_eq_true rfl)⟩ ⟨(Nat.le_of_ble_eq_true rfl), (Nat.le_of_ble_eq_true rfl)⟩ (g_K.no (fun _ h => h)) (fun r_ f2_ hp => ?_)
        obtain ⟨rfl, hf_⟩ := hp
        subst f2_
        refine g_st (st2 := [.int (bI (cov S n need done))]) rfl ?_
        refine g_if_eq X 41 d_TU_findOrder_35 (by decide) (fun c35 => ?_) (fun c35 => ?_)
        · skip
          have hcv : cov S n need done = false := bI_z.mp c35
          refine g_iload X d_TU_findOrder_41 1 rfl ?_
          refine g_if_ne X 53 d_TU_findOrder_43 (by decide) (fun c43 => ?_) (fun c43 => ?_)
          · skip
            have hk0 : 0 < k := Nat.pos_of_ne_zero (fun z => c43 ((nI_z (by omega)).mpr z))
            refine g_aload_n X d_TU_findOrder_53 3 rfl ?_
            refine g_iload_n X d_TU_findOrder_54 2 rfl ?_
            refine g_aload_n X d_TU_findOrder_55 5 rfl ?_
            refine g_iload X d_TU_findOrder_56 1 rfl ?_
            refine g_iconst (v := 1) X d_TU_findOrder_58 (by decide) ?_
            refine g_isub X d_TU_findOrder_59 ?_
            refine g_eqi (y := nI (k - 1)) (nI_m1 (by omega)) ?_
            refine g_iald (t0 := 0) (v := nI (O (k - 1))) X hO2 rfl (nI_ix ((by omega : k - 1 < 8)) (by decide)) (nI_cl (g := fun q9 => nI (O q9)) (Nat.lt_trans ((by omega : k - 1 < 8)) (by decide))) d_TU_findOrder_60 ?_
            refine g_callV (ci := 2) (As := [.int (nI done), .int (nI (O (k - 1)))]) (rest := []) X (z_ok eA) rfl rfl hT (c_TU_bestNext hR2 hB hRe (done := done) (last := O (k - 1)) hdn (hO8 (k - 1) (by omega))) v_TU_bestNext q_504 q_s17 q_502 rfl rfl (Nat.le_of_ble_eq_true rfl) d_TU_findOrder_61 ⟨(Nat.le_of_ble_eq_true rfl), (Nat.le_of_ble_eq_true rfl)⟩ ⟨(Nat.le_of_ble_eq_true rfl), (Nat.le_of_ble_eq_true rfl)⟩ (g_K.no (fun _ h => h)) (fun r_ f2_ hp => ?_)
            obtain ⟨rfl, hf_⟩ := hp
            subst f2_
            refine g_st (st2 := [.int ((am (bN P Du Wy Re done (O (k - 1))) n).1)]) rfl ?_
            refine g_eqi (y := foN P Du Wy Re n done O k) ((if_neg (fun z => c43 ((nI_z (by omega)).mpr z))).symm) ?_
            refine g_istore (lv' := [(6, .int (foN P Du Wy Re n done O k)), (5, .int (nI k)), (4, .int (nI k)), (3, .int (nI done)), (0, .ref t), (1, .int (nI need)), (2, .ref rp)]) X d_TU_findOrder_64 (by decide) rfl ?_
            refine g_iload X d_TU_findOrder_66 0 rfl ?_
            refine g_iconst (v := (-1)) X d_TU_findOrder_68 (by decide) ?_
            refine g_icmp_ne X 75 d_TU_findOrder_69 (by decide) (fun c69 => ?_) (fun c69 => ?_)
            · skip
              obtain ⟨j, hjn, hj⟩ := foN_cases P Du Wy Re n done O k c69
              have hjc : (foN P Du Wy Re n done O k).toNatClampNeg = j := by rw [hj]; exact nI_clamp (by omega)
              have hfo2 : fo P Du S Wy Re n need d (done ||| 2 ^ j) (va_up O k j) (k + 1) = res := by
                have h9 := hfo
                rw [fo_s, if_neg (by rw [hcv]; decide), if_neg c69, hjc] at h9
                exact h9
              refine g_aload_n X d_TU_findOrder_75 6 rfl ?_
              refine g_iload X d_TU_findOrder_76 2 rfl ?_
              refine g_iload X d_TU_findOrder_78 0 rfl ?_
              refine g_iast (t0 := 0) (g2 := fun q9 => nI (((va_up O k j)) q9)) X hO2 rfl (nI_ix (by omega : k < 8) (by decide)) (by rw [hj]; exact upd_nI (g := O) (by omega : k < 2 ^ 31)) d_TU_findOrder_80 ?_
              refine g_eqf (f2 := (fo_w cI f rp (va_up O k j))) (fo_w_w) ?_
              refine g_iinc (lv' := [(4, .int (nI (k + 1))), (6, .int (foN P Du Wy Re n done O k)), (5, .int (nI k)), (3, .int (nI done)), (0, .ref t), (1, .int (nI need)), (2, .ref rp)]) X d_TU_findOrder_81 2 rfl (nI_1 k) (by decide) rfl ?_
              refine g_iload_n X d_TU_findOrder_84 3 rfl ?_
              refine g_iconst (v := 1) X d_TU_findOrder_85 (by decide) ?_
              refine g_iload X d_TU_findOrder_86 1 rfl ?_
              refine g_ishl X d_TU_findOrder_88 ?_
              refine g_eqi (y := nI (2 ^ j)) (by rw [hj]; exact nI_bit (by omega)) ?_
              refine g_ior X d_TU_findOrder_89 ?_
              refine g_eqi (y := nI (done ||| 2 ^ j)) (nI_or _ _) ?_
              refine g_istore_n (lv' := [(3, .int (nI (done ||| 2 ^ j))), (4, .int (nI (k + 1))), (6, .int (foN P Du Wy Re n done O k)), (5, .int (nI k)), (0, .ref t), (1, .int (nI need)), (2, .ref rp)]) X d_TU_findOrder_90 rfl (by decide) rfl ?_
              refine g_iinc (lv' := [(5, .int (nI (k + 1))), (3, .int (nI (done ||| 2 ^ j))), (4, .int (nI (k + 1))), (6, .int (foN P Du Wy Re n done O k)), (0, .ref t), (1, .int (nI need)), (2, .ref rp)]) X d_TU_findOrder_91 3 rfl (nI_1 k) (by decide) rfl ?_
              refine g_goto X 13 d_TU_findOrder_94 (by decide) ?_
              exact g_lv [0, 2, 1, 4, 5, 6] rfl (ih d (by omega) (k + 1) (done ||| 2 ^ j) (va_up O k j) (by omega) (or8 hdn (by omega)) (fun i hi => by
                by_cases e : i = k
                · rw [show (va_up O k j) i = j from if_pos e]; omega
                · rw [show (va_up O k j) i = O i from if_neg e]; exact hO8 i (by omega)) hfo2)
            · skip
              exact g_lv [2] rfl (k72 O k (hfo.symm.trans (by rw [fo_s, if_neg (by rw [hcv]; decide), if_pos c69])))
          · skip
            refine g_aload_n X d_TU_findOrder_46 3 rfl ?_
            refine g_callV (ci := 2) (As := []) (rest := []) X (z_ok eA) rfl rfl hT (c_TU_bestFirst hR2 hB hRe) v_TU_bestFirst q_496 q_s15 q_494 rfl rfl (Nat.le_of_ble_eq_true rfl) d_TU_findOrder_47 ⟨(Nat.le_of_ble_eq_true rfl), (Nat.le_of_ble_eq_true rfl)⟩ ⟨(Nat.le_of_ble_eq_true rfl), (Nat.le_of_ble_eq_true rfl)⟩ (g_K.no (fun _ h => h)) (fun r_ f2_ hp => ?_)
            obtain ⟨rfl, hf_⟩ := hp
            subst f2_
            refine g_st (st2 := [.int ((am (wF Du Re) n).1)]) rfl ?_
            refine g_goto X 64 d_TU_findOrder_50 (by decide) ?_
            refine g_eqi (y := foN P Du Wy Re n done O k) ((if_pos ((nI_z (by omega)).mp c43)).symm) ?_
            refine g_istore (lv' := [(6, .int (foN P Du Wy Re n done O k)), (5, .int (nI k)), (4, .int (nI k)), (3, .int (nI done)), (0, .ref t), (1, .int (nI need)), (2, .ref rp)]) X d_TU_findOrder_64 (by decide) rfl ?_
            refine g_iload X d_TU_findOrder_66 0 rfl ?_
            refine g_iconst (v := (-1)) X d_TU_findOrder_68 (by decide) ?_
            refine g_icmp_ne X 75 d_TU_findOrder_69 (by decide) (fun c69 => ?_) (fun c69 => ?_)
            · skip
              obtain ⟨j, hjn, hj⟩ := foN_cases P Du Wy Re n done O k c69
              have hjc : (foN P Du Wy Re n done O k).toNatClampNeg = j := by rw [hj]; exact nI_clamp (by omega)
              have hfo2 : fo P Du S Wy Re n need d (done ||| 2 ^ j) (va_up O k j) (k + 1) = res := by
                have h9 := hfo
                rw [fo_s, if_neg (by rw [hcv]; decide), if_neg c69, hjc] at h9
                exact h9
              refine g_aload_n X d_TU_findOrder_75 6 rfl ?_
              refine g_iload X d_TU_findOrder_76 2 rfl ?_
              refine g_iload X d_TU_findOrder_78 0 rfl ?_
              refine g_iast (t0 := 0) (g2 := fun q9 => nI (((va_up O k j)) q9)) X hO2 rfl (nI_ix (by omega : k < 8) (by decide)) (by rw [hj]; exact upd_nI (g := O) (by omega : k < 2 ^ 31)) d_TU_findOrder_80 ?_
              refine g_eqf (f2 := (fo_w cI f rp (va_up O k j))) (fo_w_w) ?_
              refine g_iinc (lv' := [(4, .int (nI (k + 1))), (6, .int (foN P Du Wy Re n done O k)), (5, .int (nI k)), (3, .int (nI done)), (0, .ref t), (1, .int (nI need)), (2, .ref rp)]) X d_TU_findOrder_81 2 rfl (nI_1 k) (by decide) rfl ?_
              refine g_iload_n X d_TU_findOrder_84 3 rfl ?_
              refine g_iconst (v := 1) X d_TU_findOrder_85 (by decide) ?_
              refine g_iload X d_TU_findOrder_86 1 rfl ?_
              refine g_ishl X d_TU_findOrder_88 ?_
              refine g_eqi (y := nI (2 ^ j)) (by rw [hj]; exact nI_bit (by omega)) ?_
              refine g_ior X d_TU_findOrder_89 ?_
              refine g_eqi (y := nI (done ||| 2 ^ j)) (nI_or _ _) ?_
              refine g_istore_n (lv' := [(3, .int (nI (done ||| 2 ^ j))), (4, .int (nI (k + 1))), (6, .int (foN P Du Wy Re n done O k)), (5, .int (nI k)), (0, .ref t), (1, .int (nI need)), (2, .ref rp)]) X d_TU_findOrder_90 rfl (by decide) rfl ?_
              refine g_iinc (lv' := [(5, .int (nI (k + 1))), (3, .int (nI (done ||| 2 ^ j))), (4, .int (nI (k + 1))), (6, .int (foN P Du Wy Re n done O k)), (0, .ref t), (1, .int (nI need)), (2, .ref rp)]) X d_TU_findOrder_91 3 rfl (nI_1 k) (by decide) rfl ?_
              refine g_goto X 13 d_TU_findOrder_94 (by decide) ?_
              exact g_lv [0, 2, 1, 4, 5, 6] rfl (ih d (by omega) (k + 1) (done ||| 2 ^ j) (va_up O k j) (by omega) (or8 hdn (by omega)) (fun i hi => by
                by_cases e : i = k
                · rw [show (va_up O k j) i = j from if_pos e]; omega
                · rw [show (va_up O k j) i = O i from if_neg e]; exact hO8 i (by omega)) hfo2)
            · skip
              exact g_lv [2] rfl (k72 O k (hfo.symm.trans (by rw [fo_s, if_neg (by rw [hcv]; decide), if_pos c69])))
        · skip
          have hcv : cov S n need done = true := bt_nf (fun z => c35 (bI_z.mpr z))
          exact g_lv [1] rfl (k38 O k (hfo.symm.trans (by rw [fo_s, if_pos hcv])))
set_option maxHeartbeats 4000000 in
set_option maxRecDepth 100000 in
theorem c_TU_findOrder {l : Launch} {D : va_G} {cI cZ cO cJ : ClassId} {eA : Nat} {f : g_F} {t : Nat} {a : Nat → Nat} {P Du S Wy Re : Nat → Nat} {n : Nat} (hR : tu_R cI f t a P Du S Wy Re n) (hB : tu_B P Du S Wy n) (hRe : ∀ i, Re i ≤ 2 ^ 28) (hI : ∀ i j, i < 5 → j < 5 → a i = a j → i = j) {need : Nat} (hne : need < 2 ^ 31) {rp : Nat} {O : Nat → Nat} (hO : f rp = some (.inl (cI, 8, .inl (fun q9 => nI (O q9))))) (hrp : ∀ i, i < 5 → a i ≠ rp) : g_C l y_TU_findOrder b_TU_findOrder 7 (some .int) { frames := 4, cells := 0, slots := 0, locals := 94 } D g_cl (g_tys cI cZ cO cJ) (z_Z eA) [.ref t, .int (nI need), .ref rp] f (fun r f2 => ∃ (Re2 O2 : Nat → Nat) (k : Nat), bellA P Du S Wy n need Re2 0 ∧ fo P Du S Wy Re2 n need n 0 O 0 = (O2, k) ∧ r = some (.int (nI k)) ∧ f2 = fo_w cI (tu_w cI f a Re2) rp O2) (fun _ => False) := by
  refine g_ofW [(0, .ref t), (1, .int (nI need)), (2, .ref rp)] (by decide +kernel) (Nat.le_of_ble_eq_true rfl) rfl ?_
  intro p e s m args below meth c X ht hin
  obtain ⟨hT, h0, h1, h2, h3, h4⟩ := id hR
  obtain ⟨hn8, hP, hDu, hS, hWy⟩ := id hB
  refine g_aload_n X d_TU_findOrder_0 0 rfl ?_
  refine g_iload_n X d_TU_findOrder_1 1 rfl ?_
  refine g_callV (ci := 2) (As := [.int (nI need)]) (rest := []) X (z_ok eA) rfl rfl hT (c_TU_weighRests hR hB hRe hI hne) v_TU_weighRests q_471 q_s10 q_469 rfl rfl (Nat.le_of_ble_eq_true rfl) d_TU_findOrder_2 ⟨(Nat.le_of_ble_eq_true rfl), (Nat.le_of_ble_eq_true rfl)⟩ ⟨(Nat.le_of_ble_eq_true rfl), (Nat.le_of_ble_eq_true rfl)⟩ (g_K.no (fun _ h => h)) (fun r_ f2_ hp => ?_)
  obtain ⟨rfl, Re2, hA, rfl⟩ := hp
  refine g_st (st2 := []) rfl ?_
  refine g_iconst (v := 0) X d_TU_findOrder_5 (by decide) ?_
  refine g_istore_n (lv' := [(3, .int 0), (0, .ref t), (1, .int (nI need)), (2, .ref rp)]) X d_TU_findOrder_6 rfl (by decide) rfl ?_
  refine g_iconst (v := 0) X d_TU_findOrder_7 (by decide) ?_
  refine g_istore (lv' := [(4, .int 0), (3, .int 0), (0, .ref t), (1, .int (nI need)), (2, .ref rp)]) X d_TU_findOrder_8 (by decide) rfl ?_
  refine g_iconst (v := 0) X d_TU_findOrder_10 (by decide) ?_
  refine g_istore (lv' := [(5, .int 0), (4, .int 0), (3, .int 0), (0, .ref t), (1, .int (nI need)), (2, .ref rp)]) X d_TU_findOrder_11 (by decide) rfl ?_
  have hOw : tu_w cI f a Re2 rp = some (.inl (cI, 8, .inl (fun q9 => nI (O q9)))) := (g_u_n (Ne.symm (hrp 4 (by decide)))).trans hO
  refine g_eqf (f2 := fo_w cI (tu_w cI f a Re2) rp O) (g_u_id hOw).symm ?_
  refine g_lv [0, 1, 2, 3, 4, 5] rfl (L_TU_findOrder (tu_w_R hR hI Re2) hB hA.1 hne ⟨_, hOw⟩ hrp X ?_ ?_ ?_ n 0 0 O (by omega) (by decide) (fun i h => absurd h (by omega)) rfl)
  · intro O2 k hr
    exact g_iload X d_TU_findOrder_38 0 rfl (g_iret X rfl ⟨Re2, O2, k, hA, hr, rfl, rfl⟩ (Nat.le_of_ble_eq_true rfl) (Nat.le_of_ble_eq_true rfl) d_TU_findOrder_40)
  · intro O2 k hr
    exact g_iload X d_TU_findOrder_72 0 rfl (g_iret X rfl ⟨Re2, O2, k, hA, hr, rfl, rfl⟩ (Nat.le_of_ble_eq_true rfl) (Nat.le_of_ble_eq_true rfl) d_TU_findOrder_74)
  · intro O2 k hr
    exact g_iload X d_TU_findOrder_97 0 rfl (g_iret X rfl ⟨Re2, O2, k, hA, hr, rfl, rfl⟩ (Nat.le_of_ble_eq_true rfl) (Nat.le_of_ble_eq_true rfl) d_TU_findOrder_99)
set_option maxHeartbeats 4000000 in
set_option maxRecDepth 100000 in
theorem c_TU_leastSecondsFrom {l : Launch} {D : va_G} {cI cZ cO cJ : ClassId} {eA : Nat} {f : g_F} {t : Nat} {a : Nat → Nat} {P Du S Wy Re : Nat → Nat} {n : Nat} (hR : tu_R cI f t a P Du S Wy Re n) (hB : tu_B P Du S Wy n) (hRe : ∀ i, Re i ≤ 2 ^ 28) (hI : ∀ i j, i < 5 → j < 5 → a i = a j → i = j) {i : Nat} (hi : i < 8) : g_C l y_TU_leastSecondsFrom b_TU_leastSecondsFrom 2 (some .int) { frames := 4, cells := 0, slots := 0, locals := 94 } D g_cl (g_tys cI cZ cO cJ) (z_Z eA) [.ref t, .int (nI i)] f (fun r f2 => (S i = 0 ∧ r = some (.int (-1)) ∧ f2 = f) ∨ (S i ≠ 0 ∧ ∃ Re2 : Nat → Nat, bellA P Du S Wy n (orS S (2 ^ n - 1) n) Re2 0 ∧ r = some (.int (nI (wF Du Re2 i / 16))) ∧ f2 = tu_w cI f a Re2)) (fun _ => False) := by
  refine g_ofW [(0, .ref t), (1, .int (nI i))] (by decide +kernel) (Nat.le_of_ble_eq_true rfl) rfl ?_
  intro p e s m args below meth c X ht hin
  obtain ⟨hT, h0, h1, h2, h3, h4⟩ := id hR
  obtain ⟨hn8, hP, hDu, hS, hWy⟩ := id hB
  refine g_aload_n X d_TU_leastSecondsFrom_0 0 rfl ?_
  refine g_get (ci := 2) (C := R_TU) (T := F_TU) (N := 6) (v := .ref (a 2)) X i_TU rfl hT 2 (by decide) q_86 (fun _ h9 => h9) rfl d_TU_leastSecondsFrom_1 ?_
  refine g_iload_n X d_TU_leastSecondsFrom_4 1 rfl ?_
  refine g_iald (t0 := 0) (v := nI (S i)) X h2 rfl (nI_ix (hi) (by decide)) (nI_cl (g := fun q9 => nI (S q9)) (Nat.lt_trans (hi) (by decide))) d_TU_leastSecondsFrom_5 ?_
  refine g_if_ne X 11 d_TU_leastSecondsFrom_6 (by decide) (fun c6 => ?_) (fun c6 => ?_)
  · skip
    refine g_aload_n X d_TU_leastSecondsFrom_11 0 rfl ?_
    refine g_aload_n X d_TU_leastSecondsFrom_12 0 rfl ?_
    refine g_callV (ci := 2) (As := []) (rest := [.ref t]) X (z_ok eA) rfl rfl hT (c_TU_shownByAny hR hB) v_TU_shownByAny q_458 q_459 q_528 rfl rfl (Nat.le_of_ble_eq_true rfl) d_TU_leastSecondsFrom_13 ⟨(Nat.le_of_ble_eq_true rfl), (Nat.le_of_ble_eq_true rfl)⟩ ⟨(Nat.le_of_ble_eq_true rfl), (Nat.le_of_ble_eq_true rfl)⟩ (g_K.no (fun _ h => h)) (fun r_ f2_ hp => ?_)
    obtain ⟨rfl, hf_⟩ := hp
    subst f2_
    refine g_st (st2 := [.int (nI (orS S (2 ^ n - 1) n)), .ref t]) rfl ?_
    refine g_callV (ci := 2) (As := [.int (nI (orS S (2 ^ n - 1) n))]) (rest := []) X (z_ok eA) rfl rfl hT (c_TU_weighRests hR hB hRe hI (need := orS S (2 ^ n - 1) n) (Nat.lt_trans (orS_lt hS _ n) (by decide))) v_TU_weighRests q_471 q_s10 q_469 rfl rfl (Nat.le_of_ble_eq_true rfl) d_TU_leastSecondsFrom_16 ⟨(Nat.le_of_ble_eq_true rfl), (Nat.le_of_ble_eq_true rfl)⟩ ⟨(Nat.le_of_ble_eq_true rfl), (Nat.le_of_ble_eq_true rfl)⟩ (g_K.no (fun _ h => h)) (fun r_ f2_ hp => ?_)
    obtain ⟨rfl, Re2, hA, rfl⟩ := hp
    refine g_st (st2 := []) rfl ?_
    refine g_aload_n X d_TU_leastSecondsFrom_19 0 rfl ?_
    refine g_iload_n X d_TU_leastSecondsFrom_20 1 rfl ?_
    have hR2 := tu_w_R hR hI Re2
    have hT2 := hR2.1
    refine g_callV (ci := 2) (As := [.int (nI i)]) (rest := []) X (z_ok eA) rfl rfl hT2 (c_TU_weightOfFirst hR2 hB hA.1 (i := i) hi) v_TU_weightOfFirst q_500 q_s16 q_498 rfl rfl (Nat.le_of_ble_eq_true rfl) d_TU_leastSecondsFrom_21 ⟨(Nat.le_of_ble_eq_true rfl), (Nat.le_of_ble_eq_true rfl)⟩ ⟨(Nat.le_of_ble_eq_true rfl), (Nat.le_of_ble_eq_true rfl)⟩ (g_K.no (fun _ h => h)) (fun r_ f2_ hp => ?_)
    obtain ⟨rfl, hf_⟩ := hp
    subst f2_
    refine g_st (st2 := [.int (nI (wF Du Re2 i))]) rfl ?_
    refine g_iconst (v := 4) X d_TU_leastSecondsFrom_24 (by decide) ?_
    refine g_ishr X d_TU_leastSecondsFrom_25 ?_
    refine g_eqi (y := nI (wF Du Re2 i / 16)) (pk_shrN (wF_lt hB hA.1 i) _ 4 (by decide)) ?_
    exact g_iret X rfl (Or.inr ⟨fun z => c6 ((nI_z (Nat.lt_trans (hS i) (by decide))).mpr z), Re2, hA, rfl, rfl⟩) (Nat.le_of_ble_eq_true rfl) (Nat.le_of_ble_eq_true rfl) d_TU_leastSecondsFrom_26
  · skip
    refine g_iconst (v := (-1)) X d_TU_leastSecondsFrom_9 (by decide) ?_
    exact g_iret X rfl (Or.inl ⟨(nI_z (Nat.lt_trans (hS i) (by decide))).mp c6, rfl, rfl⟩) (Nat.le_of_ble_eq_true rfl) (Nat.le_of_ble_eq_true rfl) d_TU_leastSecondsFrom_10
end
section
set_option maxHeartbeats 4000000 in
set_option maxRecDepth 100000 in
theorem c_CL_needWithin {l : Launch} {D : va_G} {cI cZ cO cJ : ClassId} {eA : Nat} (hl : l.stackTraces = false) {f : g_F} {x a b : Int32} : g_C l y_CL_needWithin b_CL_needWithin 3 none { frames := 6, cells := 1, slots := 6, locals := 82 } D g_cl (g_tys cI cZ cO cJ) (z_Z eA) [.int x, .int a, .int b] f (fun r f2 => (r = none ∧ f2 = f) ∧ ¬ x < a ∧ x ≤ b) (fun E => E = "java/lang/IllegalArgumentException" ∧ (x < a ∨ ¬ x ≤ b)) := by
  refine g_ofW [(0, .int x), (1, .int a), (2, .int b)] (by decide +kernel) (Nat.le_of_ble_eq_true rfl) rfl ?_
  intro p e s m args below meth c X ht hin
  refine g_iload_n X d_CL_needWithin_0 0 rfl ?_
  refine g_iload_n X d_CL_needWithin_1 1 rfl ?_
  refine g_icmp_lt X 10 d_CL_needWithin_2 (by decide) (fun c2 => ?_) (fun c2 => ?_)
  · skip
    exact g_throwS (cls := "java/lang/IllegalArgumentException") (text := "a number is out of its bounds") (names := ["java/lang/RuntimeException", "java/lang/Exception"]) (ik := 167) (is := 169) (ic := 171) X hl (by decide +kernel) (by decide +kernel) q_147 q_12 X.2.2.2.2.2.2.2.2.2.2.1.1 (z_hatIA X.1.2.2.2.2 X.2.2.2.2.2) (by decide +kernel) X.2.2.2.2.2.2.2.2.2.1.1 X.2.2.2.2.2.2.2.2.2.1.2 ht d_CL_needWithin_10 d_CL_needWithin_13 d_CL_needWithin_14 d_CL_needWithin_16 d_CL_needWithin_19 (Nat.le_of_ble_eq_true rfl) (Nat.le_of_ble_eq_true rfl) (Nat.le_of_ble_eq_true rfl) (Nat.le_of_ble_eq_true rfl) (⟨rfl, Or.inl c2⟩) (Nat.le_of_ble_eq_true rfl) (Nat.le_of_ble_eq_true rfl)
  · skip
    refine g_iload_n X d_CL_needWithin_5 0 rfl ?_
    refine g_iload_n X d_CL_needWithin_6 2 rfl ?_
    refine g_icmp_le X 20 d_CL_needWithin_7 (by decide) (fun c7 => ?_) (fun c7 => ?_)
    · skip
      exact g_vret X rfl (⟨⟨rfl, rfl⟩, c2, c7⟩) (Nat.le_of_ble_eq_true rfl) (Nat.le_of_ble_eq_true rfl) d_CL_needWithin_20
    · skip
      exact g_throwS (cls := "java/lang/IllegalArgumentException") (text := "a number is out of its bounds") (names := ["java/lang/RuntimeException", "java/lang/Exception"]) (ik := 167) (is := 169) (ic := 171) X hl (by decide +kernel) (by decide +kernel) q_147 q_12 X.2.2.2.2.2.2.2.2.2.2.1.1 (z_hatIA X.1.2.2.2.2 X.2.2.2.2.2) (by decide +kernel) X.2.2.2.2.2.2.2.2.2.1.1 X.2.2.2.2.2.2.2.2.2.1.2 ht d_CL_needWithin_10 d_CL_needWithin_13 d_CL_needWithin_14 d_CL_needWithin_16 d_CL_needWithin_19 (Nat.le_of_ble_eq_true rfl) (Nat.le_of_ble_eq_true rfl) (Nat.le_of_ble_eq_true rfl) (Nat.le_of_ble_eq_true rfl) (⟨rfl, Or.inr c7⟩) (Nat.le_of_ble_eq_true rfl) (Nat.le_of_ble_eq_true rfl)
set_option maxHeartbeats 4000000 in
set_option maxRecDepth 100000 in
theorem c_CL_needOther {l : Launch} {D : va_G} {cI cZ cO cJ : ClassId} {eA : Nat} (hl : l.stackTraces = false) {f : g_F} {x y : Int32} : g_C l y_CL_needOther b_CL_needOther 2 none { frames := 6, cells := 1, slots := 6, locals := 82 } D g_cl (g_tys cI cZ cO cJ) (z_Z eA) [.int x, .int y] f (fun r f2 => (r = none ∧ f2 = f) ∧ ¬ x = y) (fun E => E = "java/lang/IllegalArgumentException" ∧ x = y) := by
  refine g_ofW [(0, .int x), (1, .int y)] (by decide +kernel) (Nat.le_of_ble_eq_true rfl) rfl ?_
  intro p e s m args below meth c X ht hin
  refine g_iload_n X d_CL_needOther_0 0 rfl ?_
  refine g_iload_n X d_CL_needOther_1 1 rfl ?_
  refine g_icmp_ne X 15 d_CL_needOther_2 (by decide) (fun c2 => ?_) (fun c2 => ?_)
  · skip
    exact g_vret X rfl (⟨⟨rfl, rfl⟩, c2⟩) (Nat.le_of_ble_eq_true rfl) (Nat.le_of_ble_eq_true rfl) d_CL_needOther_15
  · skip
    exact g_throwS (cls := "java/lang/IllegalArgumentException") (text := "both are one") (names := ["java/lang/RuntimeException", "java/lang/Exception"]) (ik := 167) (is := 174) (ic := 171) X hl (by decide +kernel) (by decide +kernel) q_147 q_12 X.2.2.2.2.2.2.2.2.2.2.1.2.1 (z_hatIA X.1.2.2.2.2 X.2.2.2.2.2) (by decide +kernel) X.2.2.2.2.2.2.2.2.2.1.1 X.2.2.2.2.2.2.2.2.2.1.2 ht d_CL_needOther_5 d_CL_needOther_8 d_CL_needOther_9 d_CL_needOther_11 d_CL_needOther_14 (Nat.le_of_ble_eq_true rfl) (Nat.le_of_ble_eq_true rfl) (Nat.le_of_ble_eq_true rfl) (Nat.le_of_ble_eq_true rfl) (⟨rfl, c2⟩) (Nat.le_of_ble_eq_true rfl) (Nat.le_of_ble_eq_true rfl)
set_option maxHeartbeats 4000000 in
set_option maxRecDepth 100000 in
theorem c_CL_needRoom {l : Launch} {D : va_G} {cI cZ cO cJ : ClassId} {eA : Nat} (hl : l.stackTraces = false) {f : g_F} {x y : Int32} : g_C l y_CL_needRoom b_CL_needRoom 2 none { frames := 6, cells := 1, slots := 6, locals := 82 } D g_cl (g_tys cI cZ cO cJ) (z_Z eA) [.int x, .int y] f (fun r f2 => (r = none ∧ f2 = f) ∧ x < y) (fun E => E = "java/lang/IllegalStateException" ∧ ¬ x < y) := by
  refine g_ofW [(0, .int x), (1, .int y)] (by decide +kernel) (Nat.le_of_ble_eq_true rfl) rfl ?_
  intro p e s m args below meth c X ht hin
  refine g_iload_n X d_CL_needRoom_0 0 rfl ?_
  refine g_iload_n X d_CL_needRoom_1 1 rfl ?_
  refine g_icmp_lt X 15 d_CL_needRoom_2 (by decide) (fun c2 => ?_) (fun c2 => ?_)
  · skip
    exact g_vret X rfl (⟨⟨rfl, rfl⟩, c2⟩) (Nat.le_of_ble_eq_true rfl) (Nat.le_of_ble_eq_true rfl) d_CL_needRoom_15
  · skip
    exact g_throwS (cls := "java/lang/IllegalStateException") (text := "there is no room for one more") (names := ["java/lang/RuntimeException", "java/lang/Exception"]) (ik := 176) (is := 178) (ic := 180) X hl (by decide +kernel) (by decide +kernel) q_248 q_15 X.2.2.2.2.2.2.2.2.2.2.1.2.2 (z_hatIS X.1.2.2.2.2 X.2.2.2.2.2) (by decide +kernel) X.2.2.2.2.2.2.2.2.2.1.1 X.2.2.2.2.2.2.2.2.2.1.2 ht d_CL_needRoom_5 d_CL_needRoom_8 d_CL_needRoom_9 d_CL_needRoom_11 d_CL_needRoom_14 (Nat.le_of_ble_eq_true rfl) (Nat.le_of_ble_eq_true rfl) (Nat.le_of_ble_eq_true rfl) (Nat.le_of_ble_eq_true rfl) (⟨rfl, c2⟩) (Nat.le_of_ble_eq_true rfl) (Nat.le_of_ble_eq_true rfl)
set_option maxHeartbeats 4000000 in
set_option maxRecDepth 100000 in
theorem c_CL_needBelow {l : Launch} {D : va_G} {cI cZ cO cJ : ClassId} {eA : Nat} (hl : l.stackTraces = false) {f : g_F} {x b : Int32} : g_C l y_CL_needBelow b_CL_needBelow 2 none { frames := 7, cells := 1, slots := 6, locals := 104 } D g_cl (g_tys cI cZ cO cJ) (z_Z eA) [.int x, .int b] f (fun r f2 => (r = none ∧ f2 = f) ∧ ¬ x < 0 ∧ x ≤ b - 1) (fun E => E = "java/lang/IllegalArgumentException" ∧ (x < 0 ∨ ¬ x ≤ b - 1)) := by
  refine g_ofW [(0, .int x), (1, .int b)] (by decide +kernel) (Nat.le_of_ble_eq_true rfl) rfl ?_
  intro p e s m args below meth c X ht hin
  refine g_iload_n X d_CL_needBelow_0 0 rfl ?_
  refine g_iconst (v := 0) X d_CL_needBelow_1 (by decide) ?_
  refine g_iload_n X d_CL_needBelow_2 1 rfl ?_
  refine g_iconst (v := 1) X d_CL_needBelow_3 (by decide) ?_
  refine g_isub X d_CL_needBelow_4 ?_
  refine g_callS (As := [.int x, .int 0, .int (b - 1)]) (rest := []) X (z_ok eA) (c_CL_needWithin hl (f := f) (x := x) (a := 0) (b := b - 1)) v_CL_needWithin q_145 q_144 rfl rfl (Nat.le_of_ble_eq_true rfl) d_CL_needBelow_5 ⟨(Nat.le_of_ble_eq_true rfl), (Nat.le_of_ble_eq_true rfl)⟩ ⟨(Nat.le_of_ble_eq_true rfl), (Nat.le_of_ble_eq_true rfl)⟩ (g_K.out X ht (fun _ h => h) (Nat.le_of_ble_eq_true rfl) (Nat.le_of_ble_eq_true rfl)) (fun r_ f2_ hp => ?_)
  obtain ⟨⟨rfl, hf_⟩, hw_⟩ := hp
  refine g_st (st2 := []) rfl ?_
  exact g_vret X rfl (⟨⟨rfl, hf_⟩, hw_⟩) (Nat.le_of_ble_eq_true rfl) (Nat.le_of_ble_eq_true rfl) d_CL_needBelow_8
set_option maxHeartbeats 4000000 in
set_option maxRecDepth 100000 in
theorem c_CL_needDay {l : Launch} {D : va_G} {cI cZ cO cJ : ClassId} {eA : Nat} (hl : l.stackTraces = false) {f : g_F} {x : Int32} : g_C l y_CL_needDay b_CL_needDay 1 none { frames := 7, cells := 1, slots := 6, locals := 104 } D g_cl (g_tys cI cZ cO cJ) (z_Z eA) [.int x] f (fun r f2 => (r = none ∧ f2 = f) ∧ ¬ x < 0 ∧ x ≤ 100000) (fun E => E = "java/lang/IllegalArgumentException" ∧ (x < 0 ∨ ¬ x ≤ 100000)) := by
  refine g_ofW [(0, .int x)] (by decide +kernel) (Nat.le_of_ble_eq_true rfl) rfl ?_
  intro p e s m args below meth c X ht hin
  refine g_iload_n X d_CL_needDay_0 0 rfl ?_
  refine g_iconst (v := 0) X d_CL_needDay_1 (by decide) ?_
  refine g_ldc (v := 100000) X q_390 d_CL_needDay_2 ?_
  refine g_callS (As := [.int x, .int 0, .int 100000]) (rest := []) X (z_ok eA) (c_CL_needWithin hl (f := f) (x := x) (a := 0) (b := 100000)) v_CL_needWithin q_145 q_144 rfl rfl (Nat.le_of_ble_eq_true rfl) d_CL_needDay_4 ⟨(Nat.le_of_ble_eq_true rfl), (Nat.le_of_ble_eq_true rfl)⟩ ⟨(Nat.le_of_ble_eq_true rfl), (Nat.le_of_ble_eq_true rfl)⟩ (g_K.out X ht (fun _ h => h) (Nat.le_of_ble_eq_true rfl) (Nat.le_of_ble_eq_true rfl)) (fun r_ f2_ hp => ?_)
  obtain ⟨⟨rfl, hf_⟩, hw_⟩ := hp
  refine g_st (st2 := []) rfl ?_
  exact g_vret X rfl (⟨⟨rfl, hf_⟩, hw_⟩) (Nat.le_of_ble_eq_true rfl) (Nat.le_of_ble_eq_true rfl) d_CL_needDay_7
set_option maxHeartbeats 4000000 in
set_option maxRecDepth 100000 in
theorem c_CL_needNotNegative {l : Launch} {D : va_G} {cI cZ cO cJ : ClassId} {eA : Nat} (hl : l.stackTraces = false) {f : g_F} {x : Int32} : g_C l y_CL_needNotNegative b_CL_needNotNegative 1 none { frames := 7, cells := 1, slots := 6, locals := 104 } D g_cl (g_tys cI cZ cO cJ) (z_Z eA) [.int x] f (fun r f2 => (r = none ∧ f2 = f) ∧ ¬ x < 0 ∧ x ≤ 2147483647) (fun E => E = "java/lang/IllegalArgumentException" ∧ (x < 0 ∨ ¬ x ≤ 2147483647)) := by
  refine g_ofW [(0, .int x)] (by decide +kernel) (Nat.le_of_ble_eq_true rfl) rfl ?_
  intro p e s m args below meth c X ht hin
  refine g_iload_n X d_CL_needNotNegative_0 0 rfl ?_
  refine g_iconst (v := 0) X d_CL_needNotNegative_1 (by decide) ?_
  refine g_ldc (v := 2147483647) X q_553 d_CL_needNotNegative_2 ?_
  refine g_callS (As := [.int x, .int 0, .int 2147483647]) (rest := []) X (z_ok eA) (c_CL_needWithin hl (f := f) (x := x) (a := 0) (b := 2147483647)) v_CL_needWithin q_145 q_144 rfl rfl (Nat.le_of_ble_eq_true rfl) d_CL_needNotNegative_4 ⟨(Nat.le_of_ble_eq_true rfl), (Nat.le_of_ble_eq_true rfl)⟩ ⟨(Nat.le_of_ble_eq_true rfl), (Nat.le_of_ble_eq_true rfl)⟩ (g_K.out X ht (fun _ h => h) (Nat.le_of_ble_eq_true rfl) (Nat.le_of_ble_eq_true rfl)) (fun r_ f2_ hp => ?_)
  obtain ⟨⟨rfl, hf_⟩, hw_⟩ := hp
  refine g_st (st2 := []) rfl ?_
  exact g_vret X rfl (⟨⟨rfl, hf_⟩, hw_⟩) (Nat.le_of_ble_eq_true rfl) (Nat.le_of_ble_eq_true rfl) d_CL_needNotNegative_7
end
section
/-- a day or none: 0 is none, d + 1 the day d -/
def fI (x : Nat) : Int32 := nI x - 1
theorem fI_0 : fI 0 = -1 := by decide
theorem fI_s (d : Nat) : fI (d + 1) = nI d := nI_pred d
theorem fI_toInt {x : Nat} (h : x < 2 ^ 30) : (fI x).toInt = (x : Int) - 1 := pk_sub_toInt (b := 1) h (by decide)
theorem fI_le {d x : Nat} (hd : d < 2 ^ 30) (hx : x < 2 ^ 30) : nI d ≤ fI x ↔ d + 1 ≤ x := by
  rw [Int32.le_iff_toInt_le, fI_toInt hx, nI_toInt (by omega)]; omega
theorem fI_leN {d x : Nat} (hd : d < 2 ^ 30) (hx : x < 2 ^ 30) : fI x ≤ nI d ↔ x ≤ d + 1 := by
  rw [Int32.le_iff_toInt_le, fI_toInt hx, nI_toInt (by omega)]; omega
theorem fI_ltN {d x : Nat} (hd : d < 2 ^ 30) (hx : x < 2 ^ 30) : nI d < fI x ↔ d + 1 < x := by
  rw [Int32.lt_iff_toInt_lt, fI_toInt hx, nI_toInt (by omega)]; omega
theorem fI_n {x : Nat} (hx : x < 2 ^ 30) : fI x = -1 ↔ x = 0 := by
  constructor
  · intro h
    have := fI_toInt hx
    rw [h, show (-1 : Int32).toInt = -1 by decide] at this
    omega
  · intro h; subst h; exact fI_0
/-- the touch log's cells -/
def tl_R (cI : ClassId) (f : g_F) (g : Nat) (b : Nat → Nat) (td ts : Nat → Nat) (n : Nat) : Prop :=
  f g = some (.inr (1, [.ref (b 0), .ref (b 1), .int (nI n)])) ∧ f (b 0) = some (.inl (cI, 512, .inl (fun q9 => nI (td q9)))) ∧ f (b 1) = some (.inl (cI, 512, .inl (fun q9 => nI (ts q9))))
def tl_B (td ts : Nat → Nat) (n : Nat) : Prop := n ≤ 512 ∧ (∀ i, td i ≤ 100000) ∧ ∀ i, ts i < 2 ^ 24
/-- the latest day up to dd on which the case k was touched (plus 1, 0 is none) -/
def ltst (td ts : Nat → Nat) (k dd : Nat) : Nat → Nat
  | 0 => 0
  | i + 1 => if td i ≤ dd ∧ ltst td ts k dd i < td i + 1 ∧ (ts i).testBit k = true then td i + 1 else ltst td ts k dd i
theorem ltst_le {td ts : Nat → Nat} (h : ∀ i, td i ≤ 100000) (k dd : Nat) : ∀ i, ltst td ts k dd i ≤ 100001
  | 0 => Nat.zero_le _
  | i + 1 => by
    unfold ltst
    split
    · have := h i; omega
    · exact ltst_le h k dd i
/-- the first day behind dd on which the case k was touched -/
def nbh (td ts : Nat → Nat) (k dd : Nat) : Nat → Nat
  | 0 => 0
  | i + 1 => if dd < td i ∧ (nbh td ts k dd i = 0 ∨ td i + 1 < nbh td ts k dd i) ∧ (ts i).testBit k = true then td i + 1 else nbh td ts k dd i
theorem nbh_le {td ts : Nat → Nat} (h : ∀ i, td i ≤ 100000) (k dd : Nat) : ∀ i, nbh td ts k dd i ≤ 100001
  | 0 => Nat.zero_le _
  | i + 1 => by
    unfold nbh
    split
    · have := h i; omega
    · exact nbh_le h k dd i
set_option maxHeartbeats 4000000 in
set_option maxRecDepth 100000 in
theorem L_TL_latest {p : Program} {l : Launch} {e : Env} {s : State} {m : MethodId} {args : Array Value} {below : List Frame} {meth : Method} {c : Code} {Q : State → Prop} {A : Nat → Prop} {D : va_G} {cI cZ cO cJ : ClassId} {eA : Nat} {f : g_F} {g : Nat} {b : Nat → Nat} {td ts : Nat → Nat} {n : Nat} (hR : tl_R cI f g b td ts n) (hB : tl_B td ts n) {k dd : Nat} (hk : k < 24) (hD : dd < 2 ^ 30) (X : g_X p s m args meth c b_TL_latest 5 (some .int) g_T y_TL_latest.cls D g_cl (g_tys cI cZ cO cJ) A (z_Z eA)) (kk : g_W p l e { frames := 1, cells := 0, slots := 0, locals := 21 } s m args below meth c 5 D g_cl A f 0 0 Q 64 [(4, .int (nI n)), (3, .int (fI (ltst td ts k dd n))), (0, .ref g), (1, .int (nI k)), (2, .int (nI dd))] []) : ∀ (d : Nat) (i : Nat), (i + d = n) → g_W p l e { frames := 1, cells := 0, slots := 0, locals := 21 } s m args below meth c 5 D g_cl A f 0 0 Q 5 [(4, .int (nI i)), (3, .int (fI (ltst td ts k dd i))), (0, .ref g), (1, .int (nI k)), (2, .int (nI dd))] [] := by
  obtain ⟨hG, h0, h1⟩ := id hR
  obtain ⟨hn, htd, hts⟩ := id hB
  intro d
  induction d using Nat.strongRecOn with
  | _ d ih =>
    intro i hi
    refine g_iload X d_TL_latest_5 0 rfl ?_
    refine g_aload_n X d_TL_latest_7 2 rfl ?_
    refine g_get (ci := 1) (C := R_TL) (T := F_TL) (N := 3) (v := .int (nI n)) X i_TL rfl hG 2 (by decide) q_69 (fun _ h9 => h9) rfl d_TL_latest_8 ?_
    refine g_icmp_ge X 64 d_TL_latest_11 (by decide) (fun c11 => ?_) (fun c11 => ?_)
    · skip
      have e : i = n := by have := (nI_leI (by omega) (by omega)).mp c11; omega
      subst e
      exact kk
    · skip
      have hlt : i < n := Nat.lt_of_not_le (fun z => c11 ((nI_leI (by omega) (by omega)).mpr z))
      have hla := ltst_le htd (ts := ts) k dd i
      have hti := htd i
      refine g_aload_n X d_TL_latest_14 2 rfl ?_
      refine g_get (ci := 1) (C := R_TL) (T := F_TL) (N := 3) (v := .ref (b 0)) X i_TL rfl hG 0 (by decide) q_67 (fun _ h9 => h9) rfl d_TL_latest_15 ?_
      refine g_iload X d_TL_latest_18 0 rfl ?_
      refine g_iald (t0 := 0) (v := nI (td i)) X h0 rfl (nI_ix ((by omega : i < 512)) (by decide)) (nI_cl (g := fun q9 => nI (td q9)) (Nat.lt_trans ((by omega : i < 512)) (by decide))) d_TL_latest_20 ?_
      refine g_iload_n X d_TL_latest_21 4 rfl ?_
      refine g_icmp_gt X 58 d_TL_latest_22 (by decide) (fun c22 => ?_) (fun c22 => ?_)
      · skip
        have e : ltst td ts k dd (i + 1) = ltst td ts k dd i := if_neg (fun z => absurd z.1 (Nat.not_le.mpr ((nI_ltI (by omega) (by omega)).mp c22)))
        refine g_iinc (lv' := [(4, .int (nI (i + 1))), (3, .int (fI (ltst td ts k dd i))), (0, .ref g), (1, .int (nI k)), (2, .int (nI dd))]) X d_TL_latest_58 0 rfl (nI_1 i) (by decide) rfl ?_
        refine g_goto X 5 d_TL_latest_61 (by decide) ?_
        refine g_lv (lv' := [(4, .int (nI (i + 1))), (3, .int (fI (ltst td ts k dd (i + 1)))), (0, .ref g), (1, .int (nI k)), (2, .int (nI dd))]) [0, 1, 2, 3, 4] (by rw [e]; rfl) (ih (d - 1) (by omega) (i + 1) (by omega))
      · skip
        have h22 : td i ≤ dd := Nat.le_of_not_lt (fun z => c22 ((nI_ltI (by omega) (by omega)).mpr z))
        refine g_aload_n X d_TL_latest_25 2 rfl ?_
        refine g_get (ci := 1) (C := R_TL) (T := F_TL) (N := 3) (v := .ref (b 0)) X i_TL rfl hG 0 (by decide) q_67 (fun _ h9 => h9) rfl d_TL_latest_26 ?_
        refine g_iload X d_TL_latest_29 0 rfl ?_
        refine g_iald (t0 := 0) (v := nI (td i)) X h0 rfl (nI_ix ((by omega : i < 512)) (by decide)) (nI_cl (g := fun q9 => nI (td q9)) (Nat.lt_trans ((by omega : i < 512)) (by decide))) d_TL_latest_31 ?_
        refine g_iload_n X d_TL_latest_32 1 rfl ?_
        refine g_icmp_le X 58 d_TL_latest_33 (by decide) (fun c33 => ?_) (fun c33 => ?_)
        · skip
          have e : ltst td ts k dd (i + 1) = ltst td ts k dd i := if_neg (fun z => absurd z.2.1 (Nat.not_lt.mpr ((fI_le (by omega) (by omega)).mp c33)))
          refine g_iinc (lv' := [(4, .int (nI (i + 1))), (3, .int (fI (ltst td ts k dd i))), (0, .ref g), (1, .int (nI k)), (2, .int (nI dd))]) X d_TL_latest_58 0 rfl (nI_1 i) (by decide) rfl ?_
          refine g_goto X 5 d_TL_latest_61 (by decide) ?_
          refine g_lv (lv' := [(4, .int (nI (i + 1))), (3, .int (fI (ltst td ts k dd (i + 1)))), (0, .ref g), (1, .int (nI k)), (2, .int (nI dd))]) [0, 1, 2, 3, 4] (by rw [e]; rfl) (ih (d - 1) (by omega) (i + 1) (by omega))
        · skip
          have h33 : ltst td ts k dd i < td i + 1 := Nat.lt_of_not_le (fun z => c33 ((fI_le (by omega) (by omega)).mpr z))
          refine g_aload_n X d_TL_latest_36 2 rfl ?_
          refine g_get (ci := 1) (C := R_TL) (T := F_TL) (N := 3) (v := .ref (b 1)) X i_TL rfl hG 1 (by decide) q_68 (fun _ h9 => h9) rfl d_TL_latest_37 ?_
          refine g_iload X d_TL_latest_40 0 rfl ?_
          refine g_iald (t0 := 0) (v := nI (ts i)) X h1 rfl (nI_ix ((by omega : i < 512)) (by decide)) (nI_cl (g := fun q9 => nI (ts q9)) (Nat.lt_trans ((by omega : i < 512)) (by decide))) d_TL_latest_42 ?_
          refine g_iload_n X d_TL_latest_43 3 rfl ?_
          refine g_callSN (As := [.int (nI (ts i)), .int (nI k)]) (rest := []) X (z_ok eA) (c_CL_holds (f := f) (a := ts i) (k := k) (Nat.lt_trans (hts i) (by decide)) (by omega)) v_CL_holds q_367 (X.2.2.2.2.2.2.2.1.2) (fun _ h => h) rfl rfl (Nat.le_of_ble_eq_true rfl) d_TL_latest_44 ⟨(Nat.le_of_ble_eq_true rfl), (Nat.le_of_ble_eq_true rfl)⟩ ⟨(Nat.le_of_ble_eq_true rfl), (Nat.le_of_ble_eq_true rfl)⟩ (fun r_ f2_ hp => ?_)
          obtain ⟨rfl, hf_⟩ := hp
          subst f2_
          refine g_st (st2 := [.int (bI (Nat.testBit (ts i) k))]) rfl ?_
          refine g_if_eq X 58 d_TL_latest_47 (by decide) (fun c47 => ?_) (fun c47 => ?_)
          · skip
            have e : ltst td ts k dd (i + 1) = ltst td ts k dd i := if_neg (fun z => absurd z.2.2 (by rw [bI_z.mp c47]; decide))
            refine g_iinc (lv' := [(4, .int (nI (i + 1))), (3, .int (fI (ltst td ts k dd i))), (0, .ref g), (1, .int (nI k)), (2, .int (nI dd))]) X d_TL_latest_58 0 rfl (nI_1 i) (by decide) rfl ?_
            refine g_goto X 5 d_TL_latest_61 (by decide) ?_
            refine g_lv (lv' := [(4, .int (nI (i + 1))), (3, .int (fI (ltst td ts k dd (i + 1)))), (0, .ref g), (1, .int (nI k)), (2, .int (nI dd))]) [0, 1, 2, 3, 4] (by rw [e]; rfl) (ih (d - 1) (by omega) (i + 1) (by omega))
          · skip
            have e : ltst td ts k dd (i + 1) = td i + 1 := if_pos ⟨h22, h33, bt_nf (fun z => c47 (bI_z.mpr z))⟩
            refine g_aload_n X d_TL_latest_50 2 rfl ?_
            refine g_get (ci := 1) (C := R_TL) (T := F_TL) (N := 3) (v := .ref (b 0)) X i_TL rfl hG 0 (by decide) q_67 (fun _ h9 => h9) rfl d_TL_latest_51 ?_
            refine g_iload X d_TL_latest_54 0 rfl ?_
            refine g_iald (t0 := 0) (v := nI (td i)) X h0 rfl (nI_ix ((by omega : i < 512)) (by decide)) (nI_cl (g := fun q9 => nI (td q9)) (Nat.lt_trans ((by omega : i < 512)) (by decide))) d_TL_latest_56 ?_
            refine g_istore_n (lv' := [(3, .int (nI (td i))), (4, .int (nI i)), (0, .ref g), (1, .int (nI k)), (2, .int (nI dd))]) X d_TL_latest_57 rfl (by decide) rfl ?_
            refine g_iinc (lv' := [(4, .int (nI (i + 1))), (3, .int (nI (td i))), (0, .ref g), (1, .int (nI k)), (2, .int (nI dd))]) X d_TL_latest_58 1 rfl (nI_1 i) (by decide) rfl ?_
            refine g_goto X 5 d_TL_latest_61 (by decide) ?_
            refine g_lv (lv' := [(4, .int (nI (i + 1))), (3, .int (fI (ltst td ts k dd (i + 1)))), (0, .ref g), (1, .int (nI k)), (2, .int (nI dd))]) [0, 1, 2, 3, 4] (by rw [e, fI_s]; rfl) (ih (d - 1) (by omega) (i + 1) (by omega))
set_option maxHeartbeats 4000000 in
set_option maxRecDepth 100000 in
theorem c_TL_latest {l : Launch} {D : va_G} {cI cZ cO cJ : ClassId} {eA : Nat} {f : g_F} {g : Nat} {b : Nat → Nat} {td ts : Nat → Nat} {n : Nat} (hR : tl_R cI f g b td ts n) (hB : tl_B td ts n) {k dd : Nat} (hk : k < 24) (hD : dd < 2 ^ 30) : g_C l y_TL_latest b_TL_latest 5 (some .int) { frames := 1, cells := 0, slots := 0, locals := 21 } D g_cl (g_tys cI cZ cO cJ) (z_Z eA) [.ref g, .int (nI k), .int (nI dd)] f (fun r f2 => r = some (.int (fI (ltst td ts k dd n))) ∧ f2 = f) (fun _ => False) := by
  refine g_ofW [(0, .ref g), (1, .int (nI k)), (2, .int (nI dd))] (by decide +kernel) (Nat.le_of_ble_eq_true rfl) rfl ?_
  intro p e s m args below meth c X ht hin
  refine g_iconst (v := (-1)) X d_TL_latest_0 (by decide) ?_
  refine g_istore_n (lv' := [(3, .int (-1)), (0, .ref g), (1, .int (nI k)), (2, .int (nI dd))]) X d_TL_latest_1 rfl (by decide) rfl ?_
  refine g_iconst (v := 0) X d_TL_latest_2 (by decide) ?_
  refine g_istore (lv' := [(4, .int 0), (3, .int (-1)), (0, .ref g), (1, .int (nI k)), (2, .int (nI dd))]) X d_TL_latest_3 (by decide) rfl ?_
  refine L_TL_latest hR hB hk hD X ?_ n 0 (by omega)
  exact g_iload_n X d_TL_latest_64 1 rfl (g_iret X rfl ⟨rfl, rfl⟩ (Nat.le_of_ble_eq_true rfl) (Nat.le_of_ble_eq_true rfl) d_TL_latest_65)
set_option maxHeartbeats 4000000 in
set_option maxRecDepth 100000 in
theorem L_TL_nextBehind {p : Program} {l : Launch} {e : Env} {s : State} {m : MethodId} {args : Array Value} {below : List Frame} {meth : Method} {c : Code} {Q : State → Prop} {A : Nat → Prop} {D : va_G} {cI cZ cO cJ : ClassId} {eA : Nat} {f : g_F} {g : Nat} {b : Nat → Nat} {td ts : Nat → Nat} {n : Nat} (hR : tl_R cI f g b td ts n) (hB : tl_B td ts n) {k dd : Nat} (hk : k < 24) (hD : dd < 2 ^ 30) (X : g_X p s m args meth c b_TL_nextBehind 6 (some .int) g_T y_TL_nextBehind.cls D g_cl (g_tys cI cZ cO cJ) A (z_Z eA)) (kk : g_W p l e { frames := 1, cells := 0, slots := 0, locals := 21 } s m args below meth c 6 D g_cl A f 0 0 Q 81 [(4, .int (nI n)), (3, .int (fI (nbh td ts k dd n))), (0, .ref g), (1, .int (nI k)), (2, .int (nI dd))] []) : ∀ (d : Nat) (i : Nat), (i + d = n) → g_W p l e { frames := 1, cells := 0, slots := 0, locals := 21 } s m args below meth c 6 D g_cl A f 0 0 Q 5 [(4, .int (nI i)), (3, .int (fI (nbh td ts k dd i))), (0, .ref g), (1, .int (nI k)), (2, .int (nI dd))] [] := by
  obtain ⟨hG, h0, h1⟩ := id hR
  obtain ⟨hn, htd, hts⟩ := id hB
  intro d
  induction d using Nat.strongRecOn with
  | _ d ih =>
    intro i hi
    refine g_iload X d_TL_nextBehind_5 0 rfl ?_
    refine g_aload_n X d_TL_nextBehind_7 2 rfl ?_
    refine g_get (ci := 1) (C := R_TL) (T := F_TL) (N := 3) (v := .int (nI n)) X i_TL rfl hG 2 (by decide) q_69 (fun _ h9 => h9) rfl d_TL_nextBehind_8 ?_
    refine g_icmp_ge X 81 d_TL_nextBehind_11 (by decide) (fun c11 => ?_) (fun c11 => ?_)
    · skip
      have e : i = n := by have := (nI_leI (by omega) (by omega)).mp c11; omega
      subst e
      exact kk
    · skip
      have hlt : i < n := Nat.lt_of_not_le (fun z => c11 ((nI_leI (by omega) (by omega)).mpr z))
      have hla := nbh_le htd (ts := ts) k dd i
      have hti := htd i
      refine g_iload_n X d_TL_nextBehind_14 1 rfl ?_
      refine g_iconst (v := (-1)) X d_TL_nextBehind_15 (by decide) ?_
      refine g_icmp_eq X 30 d_TL_nextBehind_16 (by decide) (fun c16 => ?_) (fun c16 => ?_)
      · skip
        skip
        refine g_iconst (v := 1) X d_TL_nextBehind_30 (by decide) ?_
        refine g_goto X 35 d_TL_nextBehind_31 (by decide) ?_
        refine g_eqi (y := bI (decide (nbh td ts k dd i = 0 ∨ td i + 1 < nbh td ts k dd i))) (by rw [decide_eq_true (Or.inl ((fI_n (by omega)).mp c16))]; rfl) ?_
        refine g_istore (lv' := [(5, .int (bI (decide (nbh td ts k dd i = 0 ∨ td i + 1 < nbh td ts k dd i)))), (4, .int (nI i)), (3, .int (fI (nbh td ts k dd i))), (0, .ref g), (1, .int (nI k)), (2, .int (nI dd))]) X d_TL_nextBehind_35 (by decide) rfl ?_
        refine g_aload_n X d_TL_nextBehind_37 3 rfl ?_
        refine g_get (ci := 1) (C := R_TL) (T := F_TL) (N := 3) (v := .ref (b 0)) X i_TL rfl hG 0 (by decide) q_67 (fun _ h9 => h9) rfl d_TL_nextBehind_38 ?_
        refine g_iload X d_TL_nextBehind_41 1 rfl ?_
        refine g_iald (t0 := 0) (v := nI (td i)) X h0 rfl (nI_ix ((by omega : i < 512)) (by decide)) (nI_cl (g := fun q9 => nI (td q9)) (Nat.lt_trans ((by omega : i < 512)) (by decide))) d_TL_nextBehind_43 ?_
        refine g_iload_n X d_TL_nextBehind_44 5 rfl ?_
        refine g_icmp_le X 75 d_TL_nextBehind_45 (by decide) (fun c45 => ?_) (fun c45 => ?_)
        · skip
          have e : nbh td ts k dd (i + 1) = nbh td ts k dd i := if_neg (fun z => absurd z.1 (Nat.not_lt.mpr ((nI_leI (by omega) (by omega)).mp c45)))
          refine g_iinc (lv' := [(4, .int (nI (i + 1))), (5, .int (bI (decide (nbh td ts k dd i = 0 ∨ td i + 1 < nbh td ts k dd i)))), (3, .int (fI (nbh td ts k dd i))), (0, .ref g), (1, .int (nI k)), (2, .int (nI dd))]) X d_TL_nextBehind_75 1 rfl (nI_1 i) (by decide) rfl ?_
          refine g_goto X 5 d_TL_nextBehind_78 (by decide) ?_
          refine g_lv (lv' := [(4, .int (nI (i + 1))), (3, .int (fI (nbh td ts k dd (i + 1)))), (0, .ref g), (1, .int (nI k)), (2, .int (nI dd))]) [0, 2, 3, 4, 5] (by rw [e]; rfl) (ih (d - 1) (by omega) (i + 1) (by omega))
        · skip
          have h45 : dd < td i := Nat.lt_of_not_le (fun z => c45 ((nI_leI (by omega) (by omega)).mpr z))
          refine g_iload X d_TL_nextBehind_48 0 rfl ?_
          refine g_if_eq X 75 d_TL_nextBehind_50 (by decide) (fun c50 => ?_) (fun c50 => ?_)
          · skip
            have e : nbh td ts k dd (i + 1) = nbh td ts k dd i := if_neg (fun z => absurd z.2.1 (of_decide_eq_false (bI_z.mp c50)))
            refine g_iinc (lv' := [(4, .int (nI (i + 1))), (5, .int (bI (decide (nbh td ts k dd i = 0 ∨ td i + 1 < nbh td ts k dd i)))), (3, .int (fI (nbh td ts k dd i))), (0, .ref g), (1, .int (nI k)), (2, .int (nI dd))]) X d_TL_nextBehind_75 1 rfl (nI_1 i) (by decide) rfl ?_
            refine g_goto X 5 d_TL_nextBehind_78 (by decide) ?_
            refine g_lv (lv' := [(4, .int (nI (i + 1))), (3, .int (fI (nbh td ts k dd (i + 1)))), (0, .ref g), (1, .int (nI k)), (2, .int (nI dd))]) [0, 2, 3, 4, 5] (by rw [e]; rfl) (ih (d - 1) (by omega) (i + 1) (by omega))
          · skip
            have h50 : nbh td ts k dd i = 0 ∨ td i + 1 < nbh td ts k dd i := of_decide_eq_true (bt_nf (fun z => c50 (bI_z.mpr z)))
            refine g_aload_n X d_TL_nextBehind_53 3 rfl ?_
            refine g_get (ci := 1) (C := R_TL) (T := F_TL) (N := 3) (v := .ref (b 1)) X i_TL rfl hG 1 (by decide) q_68 (fun _ h9 => h9) rfl d_TL_nextBehind_54 ?_
            refine g_iload X d_TL_nextBehind_57 1 rfl ?_
            refine g_iald (t0 := 0) (v := nI (ts i)) X h1 rfl (nI_ix ((by omega : i < 512)) (by decide)) (nI_cl (g := fun q9 => nI (ts q9)) (Nat.lt_trans ((by omega : i < 512)) (by decide))) d_TL_nextBehind_59 ?_
            refine g_iload_n X d_TL_nextBehind_60 4 rfl ?_
            refine g_callSN (As := [.int (nI (ts i)), .int (nI k)]) (rest := []) X (z_ok eA) (c_CL_holds (f := f) (a := ts i) (k := k) (Nat.lt_trans (hts i) (by decide)) (by omega)) v_CL_holds q_367 (X.2.2.2.2.2.2.2.1.2) (fun _ h => h) rfl rfl (Nat.le_of_ble_eq_true rfl) d_TL_nextBehind_61 ⟨(Nat.le_of_ble_eq_true rfl), (Nat.le_of_ble_eq_true rfl)⟩ ⟨(Nat.le_of_ble_eq_true rfl), (Nat.le_of_ble_eq_true rfl)⟩ (fun r_ f2_ hp => ?_)
            obtain ⟨rfl, hf_⟩ := hp
            subst f2_
            refine g_st (st2 := [.int (bI (Nat.testBit (ts i) k))]) rfl ?_
            refine g_if_eq X 75 d_TL_nextBehind_64 (by decide) (fun c64 => ?_) (fun c64 => ?_)
            · skip
              have e : nbh td ts k dd (i + 1) = nbh td ts k dd i := if_neg (fun z => absurd z.2.2 (by rw [bI_z.mp c64]; decide))
              refine g_iinc (lv' := [(4, .int (nI (i + 1))), (5, .int (bI (decide (nbh td ts k dd i = 0 ∨ td i + 1 < nbh td ts k dd i)))), (3, .int (fI (nbh td ts k dd i))), (0, .ref g), (1, .int (nI k)), (2, .int (nI dd))]) X d_TL_nextBehind_75 1 rfl (nI_1 i) (by decide) rfl ?_
              refine g_goto X 5 d_TL_nextBehind_78 (by decide) ?_
              refine g_lv (lv' := [(4, .int (nI (i + 1))), (3, .int (fI (nbh td ts k dd (i + 1)))), (0, .ref g), (1, .int (nI k)), (2, .int (nI dd))]) [0, 2, 3, 4, 5] (by rw [e]; rfl) (ih (d - 1) (by omega) (i + 1) (by omega))
            · skip
              have e : nbh td ts k dd (i + 1) = td i + 1 := if_pos ⟨h45, h50, bt_nf (fun z => c64 (bI_z.mpr z))⟩
              refine g_aload_n X d_TL_nextBehind_67 3 rfl ?_
              refine g_get (ci := 1) (C := R_TL) (T := F_TL) (N := 3) (v := .ref (b 0)) X i_TL rfl hG 0 (by decide) q_67 (fun _ h9 => h9) rfl d_TL_nextBehind_68 ?_
              refine g_iload X d_TL_nextBehind_71 1 rfl ?_
              refine g_iald (t0 := 0) (v := nI (td i)) X h0 rfl (nI_ix ((by omega : i < 512)) (by decide)) (nI_cl (g := fun q9 => nI (td q9)) (Nat.lt_trans ((by omega : i < 512)) (by decide))) d_TL_nextBehind_73 ?_
              refine g_istore_n (lv' := [(3, .int (nI (td i))), (5, .int (bI (decide (nbh td ts k dd i = 0 ∨ td i + 1 < nbh td ts k dd i)))), (4, .int (nI i)), (0, .ref g), (1, .int (nI k)), (2, .int (nI dd))]) X d_TL_nextBehind_74 rfl (by decide) rfl ?_
              refine g_iinc (lv' := [(4, .int (nI (i + 1))), (3, .int (nI (td i))), (5, .int (bI (decide (nbh td ts k dd i = 0 ∨ td i + 1 < nbh td ts k dd i)))), (0, .ref g), (1, .int (nI k)), (2, .int (nI dd))]) X d_TL_nextBehind_75 2 rfl (nI_1 i) (by decide) rfl ?_
              refine g_goto X 5 d_TL_nextBehind_78 (by decide) ?_
              refine g_lv (lv' := [(4, .int (nI (i + 1))), (3, .int (fI (nbh td ts k dd (i + 1)))), (0, .ref g), (1, .int (nI k)), (2, .int (nI dd))]) [0, 1, 3, 4, 5] (by rw [e, fI_s]; rfl) (ih (d - 1) (by omega) (i + 1) (by omega))
      · skip
        refine g_aload_n X d_TL_nextBehind_19 2 rfl ?_
        refine g_get (ci := 1) (C := R_TL) (T := F_TL) (N := 3) (v := .ref (b 0)) X i_TL rfl hG 0 (by decide) q_67 (fun _ h9 => h9) rfl d_TL_nextBehind_20 ?_
        refine g_iload X d_TL_nextBehind_23 0 rfl ?_
        refine g_iald (t0 := 0) (v := nI (td i)) X h0 rfl (nI_ix ((by omega : i < 512)) (by decide)) (nI_cl (g := fun q9 => nI (td q9)) (Nat.lt_trans ((by omega : i < 512)) (by decide))) d_TL_nextBehind_25 ?_
        refine g_iload_n X d_TL_nextBehind_26 1 rfl ?_
        refine g_icmp_ge X 34 d_TL_nextBehind_27 (by decide) (fun c27 => ?_) (fun c27 => ?_)
        · skip
          refine g_iconst (v := 0) X d_TL_nextBehind_34 (by decide) ?_
          refine g_eqi (y := bI (decide (nbh td ts k dd i = 0 ∨ td i + 1 < nbh td ts k dd i))) (by rw [decide_eq_false (fun z => z.elim (fun z => c16 ((fI_n (by omega)).mpr z)) (fun z => absurd ((fI_leN (by omega) (by omega)).mp c27) (by omega)))]; rfl) ?_
          refine g_istore (lv' := [(5, .int (bI (decide (nbh td ts k dd i = 0 ∨ td i + 1 < nbh td ts k dd i)))), (4, .int (nI i)), (3, .int (fI (nbh td ts k dd i))), (0, .ref g), (1, .int (nI k)), (2, .int (nI dd))]) X d_TL_nextBehind_35 (by decide) rfl ?_
          refine g_aload_n X d_TL_nextBehind_37 3 rfl ?_
          refine g_get (ci := 1) (C := R_TL) (T := F_TL) (N := 3) (v := .ref (b 0)) X i_TL rfl hG 0 (by decide) q_67 (fun _ h9 => h9) rfl d_TL_nextBehind_38 ?_
          refine g_iload X d_TL_nextBehind_41 1 rfl ?_
          refine g_iald (t0 := 0) (v := nI (td i)) X h0 rfl (nI_ix ((by omega : i < 512)) (by decide)) (nI_cl (g := fun q9 => nI (td q9)) (Nat.lt_trans ((by omega : i < 512)) (by decide))) d_TL_nextBehind_43 ?_
          refine g_iload_n X d_TL_nextBehind_44 5 rfl ?_
          refine g_icmp_le X 75 d_TL_nextBehind_45 (by decide) (fun c45 => ?_) (fun c45 => ?_)
          · skip
            have e : nbh td ts k dd (i + 1) = nbh td ts k dd i := if_neg (fun z => absurd z.1 (Nat.not_lt.mpr ((nI_leI (by omega) (by omega)).mp c45)))
            refine g_iinc (lv' := [(4, .int (nI (i + 1))), (5, .int (bI (decide (nbh td ts k dd i = 0 ∨ td i + 1 < nbh td ts k dd i)))), (3, .int (fI (nbh td ts k dd i))), (0, .ref g), (1, .int (nI k)), (2, .int (nI dd))]) X d_TL_nextBehind_75 1 rfl (nI_1 i) (by decide) rfl ?_
            refine g_goto X 5 d_TL_nextBehind_78 (by decide) ?_
            refine g_lv (lv' := [(4, .int (nI (i + 1))), (3, .int (fI (nbh td ts k dd (i + 1)))), (0, .ref g), (1, .int (nI k)), (2, .int (nI dd))]) [0, 2, 3, 4, 5] (by rw [e]; rfl) (ih (d - 1) (by omega) (i + 1) (by omega))
          · skip
            have h45 : dd < td i := Nat.lt_of_not_le (fun z => c45 ((nI_leI (by omega) (by omega)).mpr z))
            refine g_iload X d_TL_nextBehind_48 0 rfl ?_
            refine g_if_eq X 75 d_TL_nextBehind_50 (by decide) (fun c50 => ?_) (fun c50 => ?_)
            · skip
              have e : nbh td ts k dd (i + 1) = nbh td ts k dd i := if_neg (fun z => absurd z.2.1 (of_decide_eq_false (bI_z.mp c50)))
              refine g_iinc (lv' := [(4, .int (nI (i + 1))), (5, .int (bI (decide (nbh td ts k dd i = 0 ∨ td i + 1 < nbh td ts k dd i)))), (3, .int (fI (nbh td ts k dd i))), (0, .ref g), (1, .int (nI k)), (2, .int (nI dd))]) X d_TL_nextBehind_75 1 rfl (nI_1 i) (by decide) rfl ?_
              refine g_goto X 5 d_TL_nextBehind_78 (by decide) ?_
              refine g_lv (lv' := [(4, .int (nI (i + 1))), (3, .int (fI (nbh td ts k dd (i + 1)))), (0, .ref g), (1, .int (nI k)), (2, .int (nI dd))]) [0, 2, 3, 4, 5] (by rw [e]; rfl) (ih (d - 1) (by omega) (i + 1) (by omega))
            · skip
              have h50 : nbh td ts k dd i = 0 ∨ td i + 1 < nbh td ts k dd i := of_decide_eq_true (bt_nf (fun z => c50 (bI_z.mpr z)))
              refine g_aload_n X d_TL_nextBehind_53 3 rfl ?_
              refine g_get (ci := 1) (C := R_TL) (T := F_TL) (N := 3) (v := .ref (b 1)) X i_TL rfl hG 1 (by decide) q_68 (fun _ h9 => h9) rfl d_TL_nextBehind_54 ?_
              refine g_iload X d_TL_nextBehind_57 1 rfl ?_
              refine g_iald (t0 := 0) (v := nI (ts i)) X h1 rfl (nI_ix ((by omega : i < 512)) (by decide)) (nI_cl (g := fun q9 => nI (ts q9)) (Nat.lt_trans ((by omega : i < 512)) (by decide))) d_TL_nextBehind_59 ?_
              refine g_iload_n X d_TL_nextBehind_60 4 rfl ?_
              refine g_callSN (As := [.int (nI (ts i)), .int (nI k)]) (rest := []) X (z_ok eA) (c_CL_holds (f := f) (a := ts i) (k := k) (Nat.lt_trans (hts i) (by decide)) (by omega)) v_CL_holds q_367 (X.2.2.2.2.2.2.2.1.2) (fun _ h => h) rfl rfl (Nat.le_of_ble_eq_true rfl) d_TL_nextBehind_61 ⟨(Nat.le_of_ble_eq_true rfl), (Nat.le_of_ble_eq_true rfl)⟩ ⟨(Nat.le_of_ble_eq_true rfl), (Nat.le_of_ble_eq_true rfl)⟩ (fun r_ f2_ hp => ?_)
              obtain ⟨rfl, hf_⟩ := hp
              subst f2_
              refine g_st (st2 := [.int (bI (Nat.testBit (ts i) k))]) rfl ?_
              refine g_if_eq X 75 d_TL_nextBehind_64 (by decide) (fun c64 => ?_) (fun c64 => ?_)
              · skip
                have e : nbh td ts k dd (i + 1) = nbh td ts k dd i := if_neg (fun z => absurd z.2.2 (by rw [bI_z.mp c64]; decide))
                refine g_iinc (lv' := [(4, .int (nI (i + 1))), (5, .int (bI (decide (nbh td ts k dd i = 0 ∨ td i + 1 < nbh td ts k dd i)))), (3, .int (fI (nbh td ts k dd i))), (0, .ref g), (1, .int (nI k)), (2, .int (nI dd))]) X d_TL_nextBehind_75 1 rfl (nI_1 i) (by decide) rfl ?_
                refine g_goto X 5 d_TL_nextBehind_78 (by decide) ?_
                refine g_lv (lv' := [(4, .int (nI (i + 1))), (3, .int (fI (nbh td ts k dd (i + 1)))), (0, .ref g), (1, .int (nI k)), (2, .int (nI dd))]) [0, 2, 3, 4, 5] (by rw [e]; rfl) (ih (d - 1) (by omega) (i + 1) (by omega))
              · skip
                have e : nbh td ts k dd (i + 1) = td i + 1 := if_pos ⟨h45, h50, bt_nf (fun z => c64 (bI_z.mpr z))⟩
                refine g_aload_n X d_TL_nextBehind_67 3 rfl ?_
                refine g_get (ci := 1) (C := R_TL) (T := F_TL) (N := 3) (v := .ref (b 0)) X i_TL rfl hG 0 (by decide) q_67 (fun _ h9 => h9) rfl d_TL_nextBehind_68 ?_
                refine g_iload X d_TL_nextBehind_71 1 rfl ?_
                refine g_iald (t0 := 0) (v := nI (td i)) X h0 rfl (nI_ix ((by omega : i < 512)) (by decide)) (nI_cl (g := fun q9 => nI (td q9)) (Nat.lt_trans ((by omega : i < 512)) (by decide))) d_TL_nextBehind_73 ?_
                refine g_istore_n (lv' := [(3, .int (nI (td i))), (5, .int (bI (decide (nbh td ts k dd i = 0 ∨ td i + 1 < nbh td ts k dd i)))), (4, .int (nI i)), (0, .ref g), (1, .int (nI k)), (2, .int (nI dd))]) X d_TL_nextBehind_74 rfl (by decide) rfl ?_
                refine g_iinc (lv' := [(4, .int (nI (i + 1))), (3, .int (nI (td i))), (5, .int (bI (decide (nbh td ts k dd i = 0 ∨ td i + 1 < nbh td ts k dd i)))), (0, .ref g), (1, .int (nI k)), (2, .int (nI dd))]) X d_TL_nextBehind_75 2 rfl (nI_1 i) (by decide) rfl ?_
                refine g_goto X 5 d_TL_nextBehind_78 (by decide) ?_
                refine g_lv (lv' := [(4, .int (nI (i + 1))), (3, .int (fI (nbh td ts k dd (i + 1)))), (0, .ref g), (1, .int (nI k)), (2, .int (nI dd))]) [0, 1, 3, 4, 5] (by rw [e, fI_s]; rfl) (ih (d - 1) (by omega) (i + 1) (by omega))
        · skip
          skip
          refine g_iconst (v := 1) X d_TL_nextBehind_30 (by decide) ?_
          refine g_goto X 35 d_TL_nextBehind_31 (by decide) ?_
          refine g_eqi (y := bI (decide (nbh td ts k dd i = 0 ∨ td i + 1 < nbh td ts k dd i))) (by rw [decide_eq_true (Or.inr (Nat.lt_of_not_le (fun z => c27 ((fI_leN (by omega) (by omega)).mpr z))))]; rfl) ?_
          refine g_istore (lv' := [(5, .int (bI (decide (nbh td ts k dd i = 0 ∨ td i + 1 < nbh td ts k dd i)))), (4, .int (nI i)), (3, .int (fI (nbh td ts k dd i))), (0, .ref g), (1, .int (nI k)), (2, .int (nI dd))]) X d_TL_nextBehind_35 (by decide) rfl ?_
          refine g_aload_n X d_TL_nextBehind_37 3 rfl ?_
          refine g_get (ci := 1) (C := R_TL) (T := F_TL) (N := 3) (v := .ref (b 0)) X i_TL rfl hG 0 (by decide) q_67 (fun _ h9 => h9) rfl d_TL_nextBehind_38 ?_
          refine g_iload X d_TL_nextBehind_41 1 rfl ?_
          refine g_iald (t0 := 0) (v := nI (td i)) X h0 rfl (nI_ix ((by omega : i < 512)) (by decide)) (nI_cl (g := fun q9 => nI (td q9)) (Nat.lt_trans ((by omega : i < 512)) (by decide))) d_TL_nextBehind_43 ?_
          refine g_iload_n X d_TL_nextBehind_44 5 rfl ?_
          refine g_icmp_le X 75 d_TL_nextBehind_45 (by decide) (fun c45 => ?_) (fun c45 => ?_)
          · skip
            have e : nbh td ts k dd (i + 1) = nbh td ts k dd i := if_neg (fun z => absurd z.1 (Nat.not_lt.mpr ((nI_leI (by omega) (by omega)).mp c45)))
            refine g_iinc (lv' := [(4, .int (nI (i + 1))), (5, .int (bI (decide (nbh td ts k dd i = 0 ∨ td i + 1 < nbh td ts k dd i)))), (3, .int (fI (nbh td ts k dd i))), (0, .ref g), (1, .int (nI k)), (2, .int (nI dd))]) X d_TL_nextBehind_75 1 rfl (nI_1 i) (by decide) rfl ?_
            refine g_goto X 5 d_TL_nextBehind_78 (by decide) ?_
            refine g_lv (lv' := [(4, .int (nI (i + 1))), (3, .int (fI (nbh td ts k dd (i + 1)))), (0, .ref g), (1, .int (nI k)), (2, .int (nI dd))]) [0, 2, 3, 4, 5] (by rw [e]; rfl) (ih (d - 1) (by omega) (i + 1) (by omega))
          · skip
            have h45 : dd < td i := Nat.lt_of_not_le (fun z => c45 ((nI_leI (by omega) (by omega)).mpr z))
            refine g_iload X d_TL_nextBehind_48 0 rfl ?_
            refine g_if_eq X 75 d_TL_nextBehind_50 (by decide) (fun c50 => ?_) (fun c50 => ?_)
            · skip
              have e : nbh td ts k dd (i + 1) = nbh td ts k dd i := if_neg (fun z => absurd z.2.1 (of_decide_eq_false (bI_z.mp c50)))
              refine g_iinc (lv' := [(4, .int (nI (i + 1))), (5, .int (bI (decide (nbh td ts k dd i = 0 ∨ td i + 1 < nbh td ts k dd i)))), (3, .int (fI (nbh td ts k dd i))), (0, .ref g), (1, .int (nI k)), (2, .int (nI dd))]) X d_TL_nextBehind_75 1 rfl (nI_1 i) (by decide) rfl ?_
              refine g_goto X 5 d_TL_nextBehind_78 (by decide) ?_
              refine g_lv (lv' := [(4, .int (nI (i + 1))), (3, .int (fI (nbh td ts k dd (i + 1)))), (0, .ref g), (1, .int (nI k)), (2, .int (nI dd))]) [0, 2, 3, 4, 5] (by rw [e]; rfl) (ih (d - 1) (by omega) (i + 1) (by omega))
            · skip
              have h50 : nbh td ts k dd i = 0 ∨ td i + 1 < nbh td ts k dd i := of_decide_eq_true (bt_nf (fun z => c50 (bI_z.mpr z)))
              refine g_aload_n X d_TL_nextBehind_53 3 rfl ?_
              refine g_get (ci := 1) (C := R_TL) (T := F_TL) (N := 3) (v := .ref (b 1)) X i_TL rfl hG 1 (by decide) q_68 (fun _ h9 => h9) rfl d_TL_nextBehind_54 ?_
              refine g_iload X d_TL_nextBehind_57 1 rfl ?_
              refine g_iald (t0 := 0) (v := nI (ts i)) X h1 rfl (nI_ix ((by omega : i < 512)) (by decide)) (nI_cl (g := fun q9 => nI (ts q9)) (Nat.lt_trans ((by omega : i < 512)) (by decide))) d_TL_nextBehind_59 ?_
              refine g_iload_n X d_TL_nextBehind_60 4 rfl ?_
              refine g_callSN (As := [.int (nI (ts i)), .int (nI k)]) (rest := []) X (z_ok eA) (c_CL_holds (f := f) (a := ts i) (k := k) (Nat.lt_trans (hts i) (by decide)) (by omega)) v_CL_holds q_367 (X.2.2.2.2.2.2.2.1.2) (fun _ h => h) rfl rfl (Nat.le_of_ble_eq_true rfl) d_TL_nextBehind_61 ⟨(Nat.le_of_ble_eq_true rfl), (Nat.le_of_ble_eq_true rfl)⟩ ⟨(Nat.le_of_ble_eq_true rfl), (Nat.le_of_ble_eq_true rfl)⟩ (fun r_ f2_ hp => ?_)
              obtain ⟨rfl, hf_⟩ := hp
              subst f2_
              refine g_st (st2 := [.int (bI (Nat.testBit (ts i) k))]) rfl ?_
              refine g_if_eq X 75 d_TL_nextBehind_64 (by decide) (fun c64 => ?_) (fun c64 => ?_)
              · skip
                have e : nbh td ts k dd (i + 1) = nbh td ts k dd i := if_neg (fun z => absurd z.2.2 (by rw [bI_z.mp c64]; decide))
                refine g_iinc (lv' := [(4, .int (nI (i + 1))), (5, .int (bI (decide (nbh td ts k dd i = 0 ∨ td i + 1 < nbh td ts k dd i)))), (3, .int (fI (nbh td ts k dd i))), (0, .ref g), (1, .int (nI k)), (2, .int (nI dd))]) X d_TL_nextBehind_75 1 rfl (nI_1 i) (by decide) rfl ?_
                refine g_goto X 5 d_TL_nextBehind_78 (by decide) ?_
                refine g_lv (lv' := [(4, .int (nI (i + 1))), (3, .int (fI (nbh td ts k dd (i + 1)))), (0, .ref g), (1, .int (nI k)), (2, .int (nI dd))]) [0, 2, 3, 4, 5] (by rw [e]; rfl) (ih (d - 1) (by omega) (i + 1) (by omega))
              · skip
                have e : nbh td ts k dd (i + 1) = td i + 1 := if_pos ⟨h45, h50, bt_nf (fun z => c64 (bI_z.mpr z))⟩
                refine g_aload_n X d_TL_nextBehind_67 3 rfl ?_
                refine g_get (ci := 1) (C := R_TL) (T := F_TL) (N := 3) (v := .ref (b 0)) X i_TL rfl hG 0 (by decide) q_67 (fun _ h9 => h9) rfl d_TL_nextBehind_68 ?_
                refine g_iload X d_TL_nextBehind_71 1 rfl ?_
                refine g_iald (t0 := 0) (v := nI (td i)) X h0 rfl (nI_ix ((by omega : i < 512)) (by decide)) (nI_cl (g := fun q9 => nI (td q9)) (Nat.lt_trans ((by omega : i < 512)) (by decide))) d_TL_nextBehind_73 ?_
                refine g_istore_n (lv' := [(3, .int (nI (td i))), (5, .int (bI (decide (nbh td ts k dd i = 0 ∨ td i + 1 < nbh td ts k dd i)))), (4, .int (nI i)), (0, .ref g), (1, .int (nI k)), (2, .int (nI dd))]) X d_TL_nextBehind_74 rfl (by decide) rfl ?_
                refine g_iinc (lv' := [(4, .int (nI (i + 1))), (3, .int (nI (td i))), (5, .int (bI (decide (nbh td ts k dd i = 0 ∨ td i + 1 < nbh td ts k dd i)))), (0, .ref g), (1, .int (nI k)), (2, .int (nI dd))]) X d_TL_nextBehind_75 2 rfl (nI_1 i) (by decide) rfl ?_
                refine g_goto X 5 d_TL_nextBehind_78 (by decide) ?_
                refine g_lv (lv' := [(4, .int (nI (i + 1))), (3, .int (fI (nbh td ts k dd (i + 1)))), (0, .ref g), (1, .int (nI k)), (2, .int (nI dd))]) [0, 1, 3, 4, 5] (by rw [e, fI_s]; rfl) (ih (d - 1) (by omega) (i + 1) (by omega))
set_option maxHeartbeats 4000000 in
set_option maxRecDepth 100000 in
theorem c_TL_nextBehind {l : Launch} {D : va_G} {cI cZ cO cJ : ClassId} {eA : Nat} {f : g_F} {g : Nat} {b : Nat → Nat} {td ts : Nat → Nat} {n : Nat} (hR : tl_R cI f g b td ts n) (hB : tl_B td ts n) {k dd : Nat} (hk : k < 24) (hD : dd < 2 ^ 30) : g_C l y_TL_nextBehind b_TL_nextBehind 6 (some .int) { frames := 1, cells := 0, slots := 0, locals := 21 } D g_cl (g_tys cI cZ cO cJ) (z_Z eA) [.ref g, .int (nI k), .int (nI dd)] f (fun r f2 => r = some (.int (fI (nbh td ts k dd n))) ∧ f2 = f) (fun _ => False) := by
  refine g_ofW [(0, .ref g), (1, .int (nI k)), (2, .int (nI dd))] (by decide +kernel) (Nat.le_of_ble_eq_true rfl) rfl ?_
  intro p e s m args below meth c X ht hin
  refine g_iconst (v := (-1)) X d_TL_nextBehind_0 (by decide) ?_
  refine g_istore_n (lv' := [(3, .int (-1)), (0, .ref g), (1, .int (nI k)), (2, .int (nI dd))]) X d_TL_nextBehind_1 rfl (by decide) rfl ?_
  refine g_iconst (v := 0) X d_TL_nextBehind_2 (by decide) ?_
  refine g_istore (lv' := [(4, .int 0), (3, .int (-1)), (0, .ref g), (1, .int (nI k)), (2, .int (nI dd))]) X d_TL_nextBehind_3 (by decide) rfl ?_
  refine L_TL_nextBehind hR hB hk hD X ?_ n 0 (by omega)
  exact g_iload_n X d_TL_nextBehind_81 1 rfl (g_iret X rfl ⟨rfl, rfl⟩ (Nat.le_of_ble_eq_true rfl) (Nat.le_of_ble_eq_true rfl) d_TL_nextBehind_82)
set_option maxHeartbeats 4000000 in
set_option maxRecDepth 100000 in
theorem L_TL_note {p : Program} {l : Launch} {e : Env} {s : State} {m : MethodId} {args : Array Value} {below : List Frame} {meth : Method} {c : Code} {Q : State → Prop} {A : Nat → Prop} {D : va_G} {cI cZ cO cJ : ClassId} {eA : Nat} {f : g_F} {g : Nat} {b : Nat → Nat} {td ts : Nat → Nat} {n : Nat} (hR : tl_R cI f g b td ts n) (hB : tl_B td ts n) {dd s0 : Nat} (hI : b 0 ≠ b 1) (hD : dd < 2 ^ 30) (hs0 : s0 < 2 ^ 24) (hn5 : n < 512) (X : g_X p s m args meth c b_TL_note 4 none g_T y_TL_note.cls D g_cl (g_tys cI cZ cO cJ) A (z_Z eA)) (k37 : (∀ j, j < n → td j ≠ dd) → g_W p l e { frames := 0, cells := 0, slots := 0, locals := 0 } s m args below meth c 4 D g_cl A f 0 0 Q 37 [(3, .int (nI n)), (0, .ref g), (1, .int (nI dd)), (2, .int (nI s0))] []) (k20 : ∀ i, i < n → td i = dd → (∀ j, j < i → td j ≠ dd) → g_W p l e { frames := 0, cells := 0, slots := 0, locals := 0 } s m args below meth c 4 D g_cl A f 0 0 Q 20 [(3, .int (nI i)), (0, .ref g), (1, .int (nI dd)), (2, .int (nI s0))] []) : ∀ (d : Nat) (i : Nat), (i + d = n) → (∀ j, j < i → td j ≠ dd) → g_W p l e { frames := 0, cells := 0, slots := 0, locals := 0 } s m args below meth c 4 D g_cl A f 0 0 Q 2 [(3, .int (nI i)), (0, .ref g), (1, .int (nI dd)), (2, .int (nI s0))] [] := by
  obtain ⟨hG, h0, h1⟩ := id hR
  obtain ⟨hn, htd, hts⟩ := id hB
  intro d
  induction d using Nat.strongRecOn with
  | _ d ih =>
    intro i hi hj
    refine g_iload_n X d_TL_note_2 0 rfl ?_
    refine g_aload_n X d_TL_note_3 1 rfl ?_
    refine g_get (ci := 1) (C := R_TL) (T := F_TL) (N := 3) (v := .int (nI n)) X i_TL rfl hG 2 (by decide) q_69 (fun _ h9 => h9) rfl d_TL_note_4 ?_
    refine g_icmp_ge X 37 d_TL_note_7 (by decide) (fun c7 => ?_) (fun c7 => ?_)
    · skip
      have e : i = n := by have := (nI_leI (by omega) (by omega)).mp c7; omega
      subst e
      exact k37 hj
    · skip
      have hlt : i < n := Nat.lt_of_not_le (fun z => c7 ((nI_leI (by omega) (by omega)).mpr z))
      refine g_aload_n X d_TL_note_10 1 rfl ?_
      refine g_get (ci := 1) (C := R_TL) (T := F_TL) (N := 3) (v := .ref (b 0)) X i_TL rfl hG 0 (by decide) q_67 (fun _ h9 => h9) rfl d_TL_note_11 ?_
      refine g_iload_n X d_TL_note_14 0 rfl ?_
      refine g_iald (t0 := 0) (v := nI (td i)) X h0 rfl (nI_ix ((by omega : i < 512)) (by decide)) (nI_cl (g := fun q9 => nI (td q9)) (Nat.lt_trans ((by omega : i < 512)) (by decide))) d_TL_note_15 ?_
      refine g_iload_n X d_TL_note_16 2 rfl ?_
      refine g_icmp_ne X 31 d_TL_note_17 (by decide) (fun c17 => ?_) (fun c17 => ?_)
      · skip
        have hne : td i ≠ dd := fun z => c17 (by rw [z])
        refine g_iinc (lv' := [(3, .int (nI (i + 1))), (0, .ref g), (1, .int (nI dd)), (2, .int (nI s0))]) X d_TL_note_31 0 rfl (nI_1 i) (by decide) rfl ?_
        refine g_goto X 2 d_TL_note_34 (by decide) ?_
        exact ih (d - 1) (by omega) (i + 1) (by omega) (fun j h9 => by
          by_cases e : j = i
          · rw [e]; exact hne
          · exact hj j (by omega))
      · skip
        have heq : td i = dd := (nI_eq (by have := htd i; omega) (by omega)).mp c17
        exact k20 i hlt heq hj
set_option maxHeartbeats 4000000 in
set_option maxRecDepth 100000 in
theorem c_TL_note {l : Launch} {D : va_G} {cI cZ cO cJ : ClassId} {eA : Nat} {f : g_F} {g : Nat} {b : Nat → Nat} {td ts : Nat → Nat} {n : Nat} (hR : tl_R cI f g b td ts n) (hB : tl_B td ts n) {dd s0 : Nat} (hI : b 0 ≠ b 1) (hD : dd < 2 ^ 30) (hs0 : s0 < 2 ^ 24) (hn5 : n < 512) : g_C l y_TL_note b_TL_note 4 none { frames := 0, cells := 0, slots := 0, locals := 0 } D g_cl (g_tys cI cZ cO cJ) (z_Z eA) [.ref g, .int (nI dd), .int (nI s0)] f (fun r f2 => r = none ∧ ((∃ i, i < n ∧ td i = dd ∧ (∀ j, j < i → td j ≠ dd) ∧ f2 = g_u f (b 1) (.inl (cI, 512, .inl (fun q9 => nI ((va_up ts i (ts i ||| s0)) q9))))) ∨ ((∀ j, j < n → td j ≠ dd) ∧ s0 = 0 ∧ f2 = f) ∨ ((∀ j, j < n → td j ≠ dd) ∧ s0 ≠ 0 ∧ f2 = g_u (g_u (g_u f (b 0) (.inl (cI, 512, .inl (fun q9 => nI ((va_up td n dd) q9))))) (b 1) (.inl (cI, 512, .inl (fun q9 => nI ((va_up ts n s0) q9))))) g (.inr (1, [.ref (b 0), .ref (b 1), .int (nI (n + 1))]))))) (fun _ => False) := by
  refine g_ofW [(0, .ref g), (1, .int (nI dd)), (2, .int (nI s0))] (by decide +kernel) (Nat.le_of_ble_eq_true rfl) rfl ?_
  intro p e s m args below meth c X ht hin
  obtain ⟨hG, h0, h1⟩ := id hR
  obtain ⟨hn, htd, hts⟩ := id hB
  refine g_iconst (v := 0) X d_TL_note_0 (by decide) ?_
  refine g_istore_n (lv' := [(3, .int 0), (0, .ref g), (1, .int (nI dd)), (2, .int (nI s0))]) X d_TL_note_1 rfl (by decide) rfl ?_
  refine L_TL_note hR hB hI hD hs0 hn5 X ?_ ?_ n 0 (by omega) (fun j h => absurd h (by omega))
  · intro hj
    refine g_iload_n X d_TL_note_37 3 rfl ?_
    refine g_if_eq X 81 d_TL_note_38 (by decide) (fun c38 => ?_) (fun c38 => ?_)
    · skip
      exact g_vret X rfl (⟨rfl, Or.inr (Or.inl ⟨hj, (nI_z (by omega)).mp c38, rfl⟩)⟩) (Nat.le_of_ble_eq_true rfl) (Nat.le_of_ble_eq_true rfl) d_TL_note_81
    · skip
      refine g_aload_n X d_TL_note_41 1 rfl ?_
      refine g_get (ci := 1) (C := R_TL) (T := F_TL) (N := 3) (v := .int (nI n)) X i_TL rfl hG 2 (by decide) q_69 (fun _ h9 => h9) rfl d_TL_note_42 ?_
      refine g_sipush (v := 512) X d_TL_note_45 (by decide) ?_
      refine g_icmp_ge X 81 d_TL_note_48 (by decide) (fun c48 => ?_) (fun c48 => ?_)
      · skip
        exact absurd ((nI_leI (a := 512) (by decide) (by omega)).mp c48) (by omega)
      · skip
        refine g_aload_n X d_TL_note_51 1 rfl ?_
        refine g_get (ci := 1) (C := R_TL) (T := F_TL) (N := 3) (v := .ref (b 0)) X i_TL rfl hG 0 (by decide) q_67 (fun _ h9 => h9) rfl d_TL_note_52 ?_
        refine g_aload_n X d_TL_note_55 1 rfl ?_
        refine g_get (ci := 1) (C := R_TL) (T := F_TL) (N := 3) (v := .int (nI n)) X i_TL rfl hG 2 (by decide) q_69 (fun _ h9 => h9) rfl d_TL_note_56 ?_
        refine g_iload_n X d_TL_note_59 2 rfl ?_
        refine g_iast (t0 := 0) (g2 := fun q9 => nI (va_up td n dd q9)) X h0 rfl (nI_ix (hn5) (by decide)) (upd_nI (g := td) (Nat.lt_trans (hn5) (by decide))) d_TL_note_60 ?_
        generalize ef_1 : g_u f (b 0) (.inl (cI, 512, .inl (fun q9 => nI (va_up td n dd q9)))) = f_1
        have h_2 : f_1 g = some (.inr (1, [.ref (b 0), .ref (b 1), .int (nI n)])) := by rw [← ef_1]; exact (g_u_n (tu_ne hG h0)).trans hG
        have h_3 : f_1 (b 0) = some (.inl (cI, 512, .inl (fun q9 => nI (va_up td n dd q9)))) := by rw [← ef_1]; exact g_u_s
        have h_4 : f_1 (b 1) = some (.inl (cI, 512, .inl (fun q9 => nI (ts q9)))) := by rw [← ef_1]; exact (g_u_n (Ne.symm hI)).trans h1
        refine g_aload_n X d_TL_note_61 1 rfl ?_
        refine g_get (ci := 1) (C := R_TL) (T := F_TL) (N := 3) (v := .ref (b 1)) X i_TL rfl h_2 1 (by decide) q_68 (fun _ h9 => h9) rfl d_TL_note_62 ?_
        refine g_aload_n X d_TL_note_65 1 rfl ?_
        refine g_get (ci := 1) (C := R_TL) (T := F_TL) (N := 3) (v := .int (nI n)) X i_TL rfl h_2 2 (by decide) q_69 (fun _ h9 => h9) rfl d_TL_note_66 ?_
        refine g_iload_n X d_TL_note_69 3 rfl ?_
        refine g_iast (t0 := 0) (g2 := fun q9 => nI (va_up ts n s0 q9)) X h_4 rfl (nI_ix (hn5) (by decide)) (upd_nI (g := ts) (Nat.lt_trans (hn5) (by decide))) d_TL_note_70 ?_
        generalize ef_5 : g_u f_1 (b 1) (.inl (cI, 512, .inl (fun q9 => nI (va_up ts n s0 q9)))) = f_5
        have h_6 : f_5 g = some (.inr (1, [.ref (b 0), .ref (b 1), .int (nI n)])) := by rw [← ef_5]; exact (g_u_n (tu_ne h_2 h_4)).trans h_2
        have h_7 : f_5 (b 0) = some (.inl (cI, 512, .inl (fun q9 => nI (va_up td n dd q9)))) := by rw [← ef_5]; exact (g_u_n (hI)).trans h_3
        have h_8 : f_5 (b 1) = some (.inl (cI, 512, .inl (fun q9 => nI (va_up ts n s0 q9)))) := by rw [← ef_5]; exact g_u_s
        refine g_aload_n X d_TL_note_71 1 rfl ?_
        refine g_dup X d_TL_note_72 rfl ?_
        refine g_get (ci := 1) (C := R_TL) (T := F_TL) (N := 3) (v := .int (nI n)) X i_TL rfl h_6 2 (by decide) q_69 (fun _ h9 => h9) rfl d_TL_note_73 ?_
        refine g_iconst (v := 1) X d_TL_note_76 (by decide) ?_
        refine g_iadd X d_TL_note_77 ?_
        refine g_eqi (y := nI (n + 1)) (nI_1 n) ?_
        refine g_put (ci := 1) (C := R_TL) (T := F_TL) (N := 3) (ty := .int) (fs2 := [.ref (b 0), .ref (b 1), .int (nI (n + 1))]) X i_TL t_TL t_TL_ok n_TL rfl h_6 2 (by decide) q_69 (fun _ h9 => h9) rfl (by decide +kernel) rfl rfl (Nat.le_of_ble_eq_true rfl) rfl d_TL_note_78 ?_
        generalize ef_9 : g_u f_5 g (.inr (1, [.ref (b 0), .ref (b 1), .int (nI (n + 1))])) = f_9
        have h_10 : f_9 g = some (.inr (1, [.ref (b 0), .ref (b 1), .int (nI (n + 1))])) := by rw [← ef_9]; exact g_u_s
        have h_11 : f_9 (b 0) = some (.inl (cI, 512, .inl (fun q9 => nI (va_up td n dd q9)))) := by rw [← ef_9]; exact (g_u_n (Ne.symm (tu_ne h_6 h_7))).trans h_7
        have h_12 : f_9 (b 1) = some (.inl (cI, 512, .inl (fun q9 => nI (va_up ts n s0 q9)))) := by rw [← ef_9]; exact (g_u_n (Ne.symm (tu_ne h_6 h_8))).trans h_8
        exact g_vret X rfl (⟨rfl, Or.inr (Or.inr ⟨hj, fun z => c38 ((nI_z (by omega)).mpr z), by rw [← ef_9, ← ef_5, ← ef_1]⟩)⟩) (Nat.le_of_ble_eq_true rfl) (Nat.le_of_ble_eq_true rfl) d_TL_note_81
  · intro i hi hD2 hj
    refine g_aload_n X d_TL_note_20 1 rfl ?_
    refine g_get (ci := 1) (C := R_TL) (T := F_TL) (N := 3) (v := .ref (b 1)) X i_TL rfl hG 1 (by decide) q_68 (fun _ h9 => h9) rfl d_TL_note_21 ?_
    refine g_iload_n X d_TL_note_24 0 rfl ?_
    refine g_dup2 X d_TL_note_25 rfl rfl ?_
    refine g_iald (t0 := 0) (v := nI (ts i)) X h1 rfl (nI_ix ((by omega : i < 512)) (by decide)) (nI_cl (g := fun q9 => nI (ts q9)) (Nat.lt_trans ((by omega : i < 512)) (by decide))) d_TL_note_26 ?_
    refine g_iload_n X d_TL_note_27 3 rfl ?_
    refine g_ior X d_TL_note_28 ?_
    refine g_eqi (y := nI (ts i ||| s0)) (nI_or _ _) ?_
    refine g_iast (t0 := 0) (g2 := fun q9 => nI (va_up ts i (ts i ||| s0) q9)) X h1 rfl (nI_ix ((by omega : i < 512)) (by decide)) (upd_nI (g := ts) (Nat.lt_trans ((by omega : i < 512)) (by decide))) d_TL_note_29 ?_
    generalize ef_1 : g_u f (b 1) (.inl (cI, 512, .inl (fun q9 => nI (va_up ts i (ts i ||| s0) q9)))) = f_1
    have h_2 : f_1 g = some (.inr (1, [.ref (b 0), .ref (b 1), .int (nI n)])) := by rw [← ef_1]; exact (g_u_n (tu_ne hG h1)).trans hG
    have h_3 : f_1 (b 0) = some (.inl (cI, 512, .inl (fun q9 => nI (td q9)))) := by rw [← ef_1]; exact (g_u_n (hI)).trans h0
    have h_4 : f_1 (b 1) = some (.inl (cI, 512, .inl (fun q9 => nI (va_up ts i (ts i ||| s0) q9)))) := by rw [← ef_1]; exact g_u_s
    exact g_vret X rfl (⟨rfl, Or.inl ⟨i, hi, hD2, hj, by rw [← ef_1]⟩⟩) (Nat.le_of_ble_eq_true rfl) (Nat.le_of_ble_eq_true rfl) d_TL_note_30
end
section
/-- a case's cells: its points, and its results -/
def cs_R (cI cZ : ClassId) (f : g_F) (q qp qd qg : Nat) (pt ot : Int32) (per dy : Nat → Nat) (gd : Nat → Bool) (ct : Nat) : Prop :=
  f q = some (.inr (4, [.int pt, .int ot, .ref qp, .ref qd, .ref qg, .int (nI ct)])) ∧ f qp = some (.inl (cI, 32, .inl (fun q9 => nI (per q9)))) ∧ f qd = some (.inl (cI, 32, .inl (fun q9 => nI (dy q9)))) ∧ f qg = some (.inl (cZ, 32, .inl (fun q9 => bI (gd q9))))
def cs_B (per dy : Nat → Nat) (ct : Nat) : Prop := ct ≤ 32 ∧ (∀ i, per i < 10) ∧ ∀ i, dy i ≤ 100000
theorem upd_bI {g : Nat → Bool} {j : Nat} {x : Bool} (h : j < 2 ^ 31) : upd (fun i => bI (g i)) (nI j).toNatClampNeg (vp_nar .boolean (bI x)) = fun i => bI (va_up g j x i) := by
  rw [nI_clamp h, show vp_nar .boolean (bI x) = bI x by cases x <;> decide]
  funext i
  by_cases hi : i = j
  · subst hi; simp [upd, va_up]
  · simp [upd, va_up, hi]
/-- the latest counting result of a person so far: its day plus 1, what it says -/
def wd (per dy : Nat → Nat) (gd : Nat → Bool) (pe : Nat) (fs : Int32) (dd : Nat) : Nat → Nat × Int32
  | 0 => (0, -1)
  | i + 1 => if per i = pe ∧ ¬ nI (dy i) < fs ∧ dy i ≤ dd ∧ (wd per dy gd pe fs dd i).1 < dy i + 1 then (dy i + 1, bI (gd i)) else wd per dy gd pe fs dd i
theorem wd_le {per dy : Nat → Nat} (h : ∀ i, dy i ≤ 100000) (gd : Nat → Bool) (pe : Nat) (fs : Int32) (dd : Nat) : ∀ i, (wd per dy gd pe fs dd i).1 ≤ 100001
  | 0 => Nat.zero_le _
  | i + 1 => by
    unfold wd
    split
    · have := h i; show dy i + 1 ≤ _; omega
    · exact wd_le h gd pe fs dd i
/-- the next day on which a result begins or ceases to count -/
def ntn (dy : Nat → Nat) (dd L M : Nat) : Nat → Nat
  | 0 => M
  | i + 1 => if dd < dy i then min (ntn dy dd L M i) (dy i) else if dd < dy i + L + 1 then min (ntn dy dd L M i) (dy i + L + 1) else ntn dy dd L M i
theorem ntn_le (dy : Nat → Nat) (dd L M : Nat) : ∀ i, ntn dy dd L M i ≤ M
  | 0 => Nat.le_refl _
  | i + 1 => by
    unfold ntn
    have := ntn_le dy dd L M i
    split
    · exact Nat.le_trans (Nat.min_le_left _ _) this
    · split
      · exact Nat.le_trans (Nat.min_le_left _ _) this
      · exact this
set_option maxHeartbeats 4000000 in
set_option maxRecDepth 100000 in
theorem c_CS_isOf {l : Launch} {D : va_G} {cI cZ cO cJ : ClassId} {eA : Nat} {f : g_F} {q qp qd qg : Nat} {pt ot : Int32} {per dy : Nat → Nat} {gd : Nat → Bool} {ct : Nat} (hR : cs_R cI cZ f q qp qd qg pt ot per dy gd ct) (hB : cs_B per dy ct) {x y : Int32} : g_C l y_CS_isOf b_CS_isOf 3 (some .boolean) { frames := 0, cells := 0, slots := 0, locals := 0 } D g_cl (g_tys cI cZ cO cJ) (z_Z eA) [.ref q, .int x, .int y] f (fun r f2 => r = some (.int (bI (decide ((pt = x ∧ ot = y) ∨ (pt = y ∧ ot = x))))) ∧ f2 = f) (fun _ => False) := by
  refine g_ofW [(0, .ref q), (1, .int x), (2, .int y)] (by decide +kernel) (Nat.le_of_ble_eq_true rfl) rfl ?_
  intro p e s m args below meth c X ht hin
  obtain ⟨hQ, h0, h1, h2⟩ := id hR
  obtain ⟨hct, hper, hdy⟩ := id hB
  refine g_aload_n X d_CS_isOf_0 0 rfl ?_
  refine g_get (ci := 4) (C := R_CS) (T := F_CS) (N := 6) (v := .int pt) X i_CS rfl hQ 0 (by decide) q_269 (fun _ h9 => h9) rfl d_CS_isOf_1 ?_
  refine g_iload_n X d_CS_isOf_4 1 rfl ?_
  refine g_icmp_ne X 16 d_CS_isOf_5 (by decide) (fun c5 => ?_) (fun c5 => ?_)
  · skip
    refine g_aload_n X d_CS_isOf_16 0 rfl ?_
    refine g_get (ci := 4) (C := R_CS) (T := F_CS) (N := 6) (v := .int pt) X i_CS rfl hQ 0 (by decide) q_269 (fun _ h9 => h9) rfl d_CS_isOf_17 ?_
    refine g_iload_n X d_CS_isOf_20 2 rfl ?_
    refine g_icmp_ne X 36 d_CS_isOf_21 (by decide) (fun c21 => ?_) (fun c21 => ?_)
    · skip
      refine g_iconst (v := 0) X d_CS_isOf_36 (by decide) ?_
      exact g_zret X rfl (by decide) (⟨by rw [decide_eq_false (show ¬ ((pt = x ∧ ot = y) ∨ (pt = y ∧ ot = x)) from fun z => by rcases z with z | z <;> first | exact c5 z.1 | exact c13 z.2 | exact c21 z.1 | exact c29 z.2)]; rfl, rfl⟩) (Nat.le_of_ble_eq_true rfl) (Nat.le_of_ble_eq_true rfl) d_CS_isOf_37
    · skip
      refine g_aload_n X d_CS_isOf_24 0 rfl ?_
      refine g_get (ci := 4) (C := R_CS) (T := F_CS) (N := 6) (v := .int ot) X i_CS rfl hQ 1 (by decide) q_270 (fun _ h9 => h9) rfl d_CS_isOf_25 ?_
      refine g_iload_n X d_CS_isOf_28 1 rfl ?_
      refine g_icmp_ne X 36 d_CS_isOf_29 (by decide) (fun c29 => ?_) (fun c29 => ?_)
      · skip
        refine g_iconst (v := 0) X d_CS_isOf_36 (by decide) ?_
        exact g_zret X rfl (by decide) (⟨by rw [decide_eq_false (show ¬ ((pt = x ∧ ot = y) ∨ (pt = y ∧ ot = x)) from fun z => by rcases z with z | z <;> first | exact c5 z.1 | exact c13 z.2 | exact c21 z.1 | exact c29 z.2)]; rfl, rfl⟩) (Nat.le_of_ble_eq_true rfl) (Nat.le_of_ble_eq_true rfl) d_CS_isOf_37
      · skip
        refine g_iconst (v := 1) X d_CS_isOf_32 (by decide) ?_
        refine g_goto X 37 d_CS_isOf_33 (by decide) ?_
        exact g_zret X rfl (by decide) (⟨by rw [decide_eq_true (show (pt = x ∧ ot = y) ∨ (pt = y ∧ ot = x) by first | exact Or.inl ⟨c5, c13⟩ | exact Or.inr ⟨c21, c29⟩)]; rfl, rfl⟩) (Nat.le_of_ble_eq_true rfl) (Nat.le_of_ble_eq_true rfl) d_CS_isOf_37
  · skip
    refine g_aload_n X d_CS_isOf_8 0 rfl ?_
    refine g_get (ci := 4) (C := R_CS) (T := F_CS) (N := 6) (v := .int ot) X i_CS rfl hQ 1 (by decide) q_270 (fun _ h9 => h9) rfl d_CS_isOf_9 ?_
    refine g_iload_n X d_CS_isOf_12 2 rfl ?_
    refine g_icmp_eq X 32 d_CS_isOf_13 (by decide) (fun c13 => ?_) (fun c13 => ?_)
    · skip
      refine g_iconst (v := 1) X d_CS_isOf_32 (by decide) ?_
      refine g_goto X 37 d_CS_isOf_33 (by decide) ?_
      exact g_zret X rfl (by decide) (⟨by rw [decide_eq_true (show (pt = x ∧ ot = y) ∨ (pt = y ∧ ot = x) by first | exact Or.inl ⟨c5, c13⟩ | exact Or.inr ⟨c21, c29⟩)]; rfl, rfl⟩) (Nat.le_of_ble_eq_true rfl) (Nat.le_of_ble_eq_true rfl) d_CS_isOf_37
    · skip
      refine g_aload_n X d_CS_isOf_16 0 rfl ?_
      refine g_get (ci := 4) (C := R_CS) (T := F_CS) (N := 6) (v := .int pt) X i_CS rfl hQ 0 (by decide) q_269 (fun _ h9 => h9) rfl d_CS_isOf_17 ?_
      refine g_iload_n X d_CS_isOf_20 2 rfl ?_
      refine g_icmp_ne X 36 d_CS_isOf_21 (by decide) (fun c21 => ?_) (fun c21 => ?_)
      · skip
        refine g_iconst (v := 0) X d_CS_isOf_36 (by decide) ?_
        exact g_zret X rfl (by decide) (⟨by rw [decide_eq_false (show ¬ ((pt = x ∧ ot = y) ∨ (pt = y ∧ ot = x)) from fun z => by rcases z with z | z <;> first | exact c5 z.1 | exact c13 z.2 | exact c21 z.1 | exact c29 z.2)]; rfl, rfl⟩) (Nat.le_of_ble_eq_true rfl) (Nat.le_of_ble_eq_true rfl) d_CS_isOf_37
      · skip
        refine g_aload_n X d_CS_isOf_24 0 rfl ?_
        refine g_get (ci := 4) (C := R_CS) (T := F_CS) (N := 6) (v := .int ot) X i_CS rfl hQ 1 (by decide) q_270 (fun _ h9 => h9) rfl d_CS_isOf_25 ?_
        refine g_iload_n X d_CS_isOf_28 1 rfl ?_
        refine g_icmp_ne X 36 d_CS_isOf_29 (by decide) (fun c29 => ?_) (fun c29 => ?_)
        · skip
          refine g_iconst (v := 0) X d_CS_isOf_36 (by decide) ?_
          exact g_zret X rfl (by decide) (⟨by rw [decide_eq_false (show ¬ ((pt = x ∧ ot = y) ∨ (pt = y ∧ ot = x)) from fun z => by rcases z with z | z <;> first | exact c5 z.1 | exact c13 z.2 | exact c21 z.1 | exact c29 z.2)]; rfl, rfl⟩) (Nat.le_of_ble_eq_true rfl) (Nat.le_of_ble_eq_true rfl) d_CS_isOf_37
        · skip
          refine g_iconst (v := 1) X d_CS_isOf_32 (by decide) ?_
          refine g_goto X 37 d_CS_isOf_33 (by decide) ?_
          exact g_zret X rfl (by decide) (⟨by rw [decide_eq_true (show (pt = x ∧ ot = y) ∨ (pt = y ∧ ot = x) by first | exact Or.inl ⟨c5, c13⟩ | exact Or.inr ⟨c21, c29⟩)]; rfl, rfl⟩) (Nat.le_of_ble_eq_true rfl) (Nat.le_of_ble_eq_true rfl) d_CS_isOf_37
set_option maxHeartbeats 4000000 in
set_option maxRecDepth 100000 in
theorem c_CS_has {l : Launch} {D : va_G} {cI cZ cO cJ : ClassId} {eA : Nat} {f : g_F} {q qp qd qg : Nat} {pt ot : Int32} {per dy : Nat → Nat} {gd : Nat → Bool} {ct : Nat} (hR : cs_R cI cZ f q qp qd qg pt ot per dy gd ct) (hB : cs_B per dy ct) {x : Int32} : g_C l y_CS_has b_CS_has 2 (some .boolean) { frames := 0, cells := 0, slots := 0, locals := 0 } D g_cl (g_tys cI cZ cO cJ) (z_Z eA) [.ref q, .int x] f (fun r f2 => r = some (.int (bI (decide (pt = x ∨ ot = x)))) ∧ f2 = f) (fun _ => False) := by
  refine g_ofW [(0, .ref q), (1, .int x)] (by decide +kernel) (Nat.le_of_ble_eq_true rfl) rfl ?_
  intro p e s m args below meth c X ht hin
  obtain ⟨hQ, h0, h1, h2⟩ := id hR
  obtain ⟨hct, hper, hdy⟩ := id hB
  refine g_aload_n X d_CS_has_0 0 rfl ?_
  refine g_get (ci := 4) (C := R_CS) (T := F_CS) (N := 6) (v := .int pt) X i_CS rfl hQ 0 (by decide) q_269 (fun _ h9 => h9) rfl d_CS_has_1 ?_
  refine g_iload_n X d_CS_has_4 1 rfl ?_
  refine g_icmp_eq X 16 d_CS_has_5 (by decide) (fun c5 => ?_) (fun c5 => ?_)
  · skip
    refine g_iconst (v := 1) X d_CS_has_16 (by decide) ?_
    refine g_goto X 21 d_CS_has_17 (by decide) ?_
    exact g_zret X rfl (by decide) (⟨by rw [decide_eq_true (show pt = x ∨ ot = x by first | exact Or.inl c5 | exact Or.inr c13)]; rfl, rfl⟩) (Nat.le_of_ble_eq_true rfl) (Nat.le_of_ble_eq_true rfl) d_CS_has_21
  · skip
    refine g_aload_n X d_CS_has_8 0 rfl ?_
    refine g_get (ci := 4) (C := R_CS) (T := F_CS) (N := 6) (v := .int ot) X i_CS rfl hQ 1 (by decide) q_270 (fun _ h9 => h9) rfl d_CS_has_9 ?_
    refine g_iload_n X d_CS_has_12 1 rfl ?_
    refine g_icmp_ne X 20 d_CS_has_13 (by decide) (fun c13 => ?_) (fun c13 => ?_)
    · skip
      refine g_iconst (v := 0) X d_CS_has_20 (by decide) ?_
      exact g_zret X rfl (by decide) (⟨by rw [decide_eq_false (show ¬ (pt = x ∨ ot = x) from fun z => z.elim c5 c13)]; rfl, rfl⟩) (Nat.le_of_ble_eq_true rfl) (Nat.le_of_ble_eq_true rfl) d_CS_has_21
    · skip
      refine g_iconst (v := 1) X d_CS_has_16 (by decide) ?_
      refine g_goto X 21 d_CS_has_17 (by decide) ?_
      exact g_zret X rfl (by decide) (⟨by rw [decide_eq_true (show pt = x ∨ ot = x by first | exact Or.inl c5 | exact Or.inr c13)]; rfl, rfl⟩) (Nat.le_of_ble_eq_true rfl) (Nat.le_of_ble_eq_true rfl) d_CS_has_21
set_option maxHeartbeats 4000000 in
set_option maxRecDepth 100000 in
theorem c_CS_resultCount {l : Launch} {D : va_G} {cI cZ cO cJ : ClassId} {eA : Nat} {f : g_F} {q qp qd qg : Nat} {pt ot : Int32} {per dy : Nat → Nat} {gd : Nat → Bool} {ct : Nat} (hR : cs_R cI cZ f q qp qd qg pt ot per dy gd ct) (hB : cs_B per dy ct) : g_C l y_CS_resultCount b_CS_resultCount 1 (some .int) { frames := 0, cells := 0, slots := 0, locals := 0 } D g_cl (g_tys cI cZ cO cJ) (z_Z eA) [.ref q] f (fun r f2 => r = some (.int (nI ct)) ∧ f2 = f) (fun _ => False) := by
  refine g_ofW [(0, .ref q)] (by decide +kernel) (Nat.le_of_ble_eq_true rfl) rfl ?_
  intro p e s m args below meth c X ht hin
  obtain ⟨hQ, h0, h1, h2⟩ := id hR
  obtain ⟨hct, hper, hdy⟩ := id hB
  refine g_aload_n X d_CS_resultCount_0 0 rfl ?_
  refine g_get (ci := 4) (C := R_CS) (T := F_CS) (N := 6) (v := .int (nI ct)) X i_CS rfl hQ 5 (by decide) q_274 (fun _ h9 => h9) rfl d_CS_resultCount_1 ?_
  exact g_iret X rfl (⟨rfl, rfl⟩) (Nat.le_of_ble_eq_true rfl) (Nat.le_of_ble_eq_true rfl) d_CS_resultCount_4
set_option maxHeartbeats 4000000 in
set_option maxRecDepth 100000 in
theorem L_CS_rowOf {p : Program} {l : Launch} {e : Env} {s : State} {m : MethodId} {args : Array Value} {below : List Frame} {meth : Method} {c : Code} {Q : State → Prop} {A : Nat → Prop} {D : va_G} {cI cZ cO cJ : ClassId} {eA : Nat} {f : g_F} {q qp qd qg : Nat} {pt ot : Int32} {per dy : Nat → Nat} {gd : Nat → Bool} {ct : Nat} (hR : cs_R cI cZ f q qp qd qg pt ot per dy gd ct) (hB : cs_B per dy ct) {pe dd : Nat} (hpe : pe < 10) (hdd : dd < 2 ^ 30) (X : g_X p s m args meth c b_CS_rowOf 4 (some .int) g_T y_CS_rowOf.cls D g_cl (g_tys cI cZ cO cJ) A (z_Z eA)) (k38 : (∀ j, j < ct → ¬ (per j = pe ∧ dy j = dd)) → g_W p l e { frames := 0, cells := 0, slots := 0, locals := 0 } s m args below meth c 4 D g_cl A f 0 0 Q 38 [(3, .int (nI ct)), (0, .ref q), (1, .int (nI pe)), (2, .int (nI dd))] []) (k30 : ∀ i, i < ct → (∀ j, j < i → ¬ (per j = pe ∧ dy j = dd)) → per i = pe → dy i = dd → g_W p l e { frames := 0, cells := 0, slots := 0, locals := 0 } s m args below meth c 4 D g_cl A f 0 0 Q 30 [(3, .int (nI i)), (0, .ref q), (1, .int (nI pe)), (2, .int (nI dd))] []) : ∀ (d : Nat) (i : Nat), (i + d = ct) → (∀ j, j < i → ¬ (per j = pe ∧ dy j = dd)) → g_W p l e { frames := 0, cells := 0, slots := 0, locals := 0 } s m args below meth c 4 D g_cl A f 0 0 Q 2 [(3, .int (nI i)), (0, .ref q), (1, .int (nI pe)), (2, .int (nI dd))] [] := by
  obtain ⟨hQ, h0, h1, h2⟩ := id hR
  obtain ⟨hct, hper, hdy⟩ := id hB
  intro d
  induction d using Nat.strongRecOn with
  | _ d ih =>
    intro i hi hj
    refine g_iload_n X d_CS_rowOf_2 0 rfl ?_
    refine g_aload_n X d_CS_rowOf_3 1 rfl ?_
    refine g_get (ci := 4) (C := R_CS) (T := F_CS) (N := 6) (v := .int (nI ct)) X i_CS rfl hQ 5 (by decide) q_274 (fun _ h9 => h9) rfl d_CS_rowOf_4 ?_
    refine g_icmp_ge X 38 d_CS_rowOf_7 (by decide) (fun c7 => ?_) (fun c7 => ?_)
    · skip
      have e : i = ct := by have := (nI_leI (by omega) (by omega)).mp c7; omega
      subst e
      exact k38 hj
    · skip
      have hlt : i < ct := Nat.lt_of_not_le (fun z => c7 ((nI_leI (by omega) (by omega)).mpr z))
      refine g_aload_n X d_CS_rowOf_10 1 rfl ?_
      refine g_get (ci := 4) (C := R_CS) (T := F_CS) (N := 6) (v := .ref qp) X i_CS rfl hQ 2 (by decide) q_271 (fun _ h9 => h9) rfl d_CS_rowOf_11 ?_
      refine g_iload_n X d_CS_rowOf_14 0 rfl ?_
      refine g_iald (t0 := 0) (v := nI (per i)) X h0 rfl (nI_ix ((by omega : i < 32)) (by decide)) (nI_cl (g := fun q9 => nI (per q9)) (Nat.lt_trans ((by omega : i < 32)) (by decide))) d_CS_rowOf_15 ?_
      refine g_iload_n X d_CS_rowOf_16 2 rfl ?_
      refine g_icmp_ne X 32 d_CS_rowOf_17 (by decide) (fun c17 => ?_) (fun c17 => ?_)
      · skip
        have hne : ¬ (per i = pe ∧ dy i = dd) := fun z => c17 (by rw [z.1])
        refine g_iinc (lv' := [(3, .int (nI (i + 1))), (0, .ref q), (1, .int (nI pe)), (2, .int (nI dd))]) X d_CS_rowOf_32 0 rfl (nI_1 i) (by decide) rfl ?_
        refine g_goto X 2 d_CS_rowOf_35 (by decide) ?_
        exact ih (d - 1) (by omega) (i + 1) (by omega) (fun j h9 => by
          by_cases e : j = i
          · rw [e]; exact hne
          · exact hj j (by omega))
      · skip
        refine g_aload_n X d_CS_rowOf_20 1 rfl ?_
        refine g_get (ci := 4) (C := R_CS) (T := F_CS) (N := 6) (v := .ref qd) X i_CS rfl hQ 3 (by decide) q_272 (fun _ h9 => h9) rfl d_CS_rowOf_21 ?_
        refine g_iload_n X d_CS_rowOf_24 0 rfl ?_
        refine g_iald (t0 := 0) (v := nI (dy i)) X h1 rfl (nI_ix ((by omega : i < 32)) (by decide)) (nI_cl (g := fun q9 => nI (dy q9)) (Nat.lt_trans ((by omega : i < 32)) (by decide))) d_CS_rowOf_25 ?_
        refine g_iload_n X d_CS_rowOf_26 3 rfl ?_
        refine g_icmp_ne X 32 d_CS_rowOf_27 (by decide) (fun c27 => ?_) (fun c27 => ?_)
        · skip
          have hne : ¬ (per i = pe ∧ dy i = dd) := fun z => c27 (by rw [z.2])
          refine g_iinc (lv' := [(3, .int (nI (i + 1))), (0, .ref q), (1, .int (nI pe)), (2, .int (nI dd))]) X d_CS_rowOf_32 0 rfl (nI_1 i) (by decide) rfl ?_
          refine g_goto X 2 d_CS_rowOf_35 (by decide) ?_
          exact ih (d - 1) (by omega) (i + 1) (by omega) (fun j h9 => by
            by_cases e : j = i
            · rw [e]; exact hne
            · exact hj j (by omega))
        · skip
          exact k30 i hlt hj ((nI_eq (by have := hper i; omega) (by omega)).mp c17) ((nI_eq (by have := hdy i; omega) (by omega)).mp c27)
set_option maxHeartbeats 4000000 in
set_option maxRecDepth 100000 in
theorem c_CS_rowOf {l : Launch} {D : va_G} {cI cZ cO cJ : ClassId} {eA : Nat} {f : g_F} {q qp qd qg : Nat} {pt ot : Int32} {per dy : Nat → Nat} {gd : Nat → Bool} {ct : Nat} (hR : cs_R cI cZ f q qp qd qg pt ot per dy gd ct) (hB : cs_B per dy ct) {pe dd : Nat} (hpe : pe < 10) (hdd : dd < 2 ^ 30) : g_C l y_CS_rowOf b_CS_rowOf 4 (some .int) { frames := 0, cells := 0, slots := 0, locals := 0 } D g_cl (g_tys cI cZ cO cJ) (z_Z eA) [.ref q, .int (nI pe), .int (nI dd)] f (fun r f2 => (∃ i, i ≤ ct ∧ (∀ j, j < i → ¬ (per j = pe ∧ dy j = dd)) ∧ (i < ct → per i = pe ∧ dy i = dd) ∧ r = some (.int (nI i))) ∧ f2 = f) (fun _ => False) := by
  refine g_ofW [(0, .ref q), (1, .int (nI pe)), (2, .int (nI dd))] (by decide +kernel) (Nat.le_of_ble_eq_true rfl) rfl ?_
  intro p e s m args below meth c X ht hin
  obtain ⟨hQ, h0, h1, h2⟩ := id hR
  obtain ⟨hct, hper, hdy⟩ := id hB
  refine g_iconst (v := 0) X d_CS_rowOf_0 (by decide) ?_
  refine g_istore_n (lv' := [(3, .int 0), (0, .ref q), (1, .int (nI pe)), (2, .int (nI dd))]) X d_CS_rowOf_1 rfl (by decide) rfl ?_
  refine L_CS_rowOf hR hB hpe hdd X ?_ ?_ ct 0 (by omega) (fun j h => absurd h (by omega))
  · intro hj
    refine g_aload_n X d_CS_rowOf_38 1 rfl ?_
    refine g_get (ci := 4) (C := R_CS) (T := F_CS) (N := 6) (v := .int (nI ct)) X i_CS rfl hQ 5 (by decide) q_274 (fun _ h9 => h9) rfl d_CS_rowOf_39 ?_
    exact g_iret X rfl (⟨⟨ct, Nat.le_refl _, hj, fun h => absurd h (Nat.lt_irrefl _), rfl⟩, rfl⟩) (Nat.le_of_ble_eq_true rfl) (Nat.le_of_ble_eq_true rfl) d_CS_rowOf_42
  · intro i hi hj h3 h4
    refine g_iload_n X d_CS_rowOf_30 0 rfl ?_
    exact g_iret X rfl (⟨⟨i, Nat.le_of_lt hi, hj, fun _ => ⟨h3, h4⟩, rfl⟩, rfl⟩) (Nat.le_of_ble_eq_true rfl) (Nat.le_of_ble_eq_true rfl) d_CS_rowOf_31
set_option maxHeartbeats 4000000 in
set_option maxRecDepth 100000 in
theorem c_CS_tell {l : Launch} {D : va_G} {cI cZ cO cJ : ClassId} {eA : Nat} {f : g_F} {q qp qd qg : Nat} {pt ot : Int32} {per dy : Nat → Nat} {gd : Nat → Bool} {ct : Nat} (hR : cs_R cI cZ f q qp qd qg pt ot per dy gd ct) (hB : cs_B per dy ct) (hI1 : qp ≠ qd) (hI2 : qp ≠ qg) (hI3 : qd ≠ qg) {i pe dd : Nat} {b : Bool} (hi : i < 32) : g_C l y_CS_tell b_CS_tell 5 none { frames := 1, cells := 0, slots := 0, locals := 21 } D g_cl (g_tys cI cZ cO cJ) (z_Z eA) [.ref q, .int (nI i), .int (nI pe), .int (nI dd), .int (bI b)] f (fun r f2 => r = none ∧ f2 = g_u (g_u (g_u (g_u f qp (.inl (cI, 32, .inl (fun q9 => nI ((va_up per i pe) q9))))) qd (.inl (cI, 32, .inl (fun q9 => nI ((va_up dy i dd) q9))))) qg (.inl (cZ, 32, .inl (fun q9 => bI ((va_up gd i b) q9))))) q (.inr (4, [.int pt, .int ot, .ref qp, .ref qd, .ref qg, .int (nI (max ct (i + 1)))]))) (fun _ => False) := by
  refine g_ofW [(0, .ref q), (1, .int (nI i)), (2, .int (nI pe)), (3, .int (nI dd)), (4, .int (bI b))] (by decide +kernel) (Nat.le_of_ble_eq_true rfl) rfl ?_
  intro p e s m args below meth c X ht hin
  obtain ⟨hQ, h0, h1, h2⟩ := id hR
  obtain ⟨hct, hper, hdy⟩ := id hB
  refine g_iload_n X d_CS_tell_0 1 rfl ?_
  refine g_if_lt X 10 d_CS_tell_1 (by decide) (fun c1 => ?_) (fun c1 => ?_)
  · skip
    exact absurd c1 (nI_pos (by omega))
  · skip
    refine g_iload_n X d_CS_tell_4 1 rfl ?_
    refine g_bipush (v := 32) X d_CS_tell_5 (by decide) ?_
    refine g_icmp_lt X 11 d_CS_tell_7 (by decide) (fun c7 => ?_) (fun c7 => ?_)
    · skip
      refine g_aload_n X d_CS_tell_11 0 rfl ?_
      refine g_get (ci := 4) (C := R_CS) (T := F_CS) (N := 6) (v := .ref qp) X i_CS rfl hQ 2 (by decide) q_271 (fun _ h9 => h9) rfl d_CS_tell_12 ?_
      refine g_iload_n X d_CS_tell_15 1 rfl ?_
      refine g_iload_n X d_CS_tell_16 2 rfl ?_
      refine g_iast (t0 := 0) (g2 := fun q9 => nI ((va_up per i pe) q9)) X h0 rfl (nI_ix (hi) (by decide)) (upd_nI (g := per) (Nat.lt_trans (hi) (by decide))) d_CS_tell_17 ?_
      generalize ef_1 : g_u f qp (.inl (cI, 32, .inl (fun q9 => nI ((va_up per i pe) q9)))) = f_1
      have h_2 : f_1 q = some (.inr (4, [.int pt, .int ot, .ref qp, .ref qd, .ref qg, .int (nI ct)])) := by rw [← ef_1]; exact (g_u_n (tu_ne hQ h0)).trans hQ
      have h_3 : f_1 qp = some (.inl (cI, 32, .inl (fun q9 => nI ((va_up per i pe) q9)))) := by rw [← ef_1]; exact g_u_s
      have h_4 : f_1 qd = some (.inl (cI, 32, .inl (fun q9 => nI (dy q9)))) := by rw [← ef_1]; exact (g_u_n (Ne.symm hI1)).trans h1
      have h_5 : f_1 qg = some (.inl (cZ, 32, .inl (fun q9 => bI (gd q9)))) := by rw [← ef_1]; exact (g_u_n (Ne.symm hI2)).trans h2
      refine g_aload_n X d_CS_tell_18 0 rfl ?_
      refine g_get (ci := 4) (C := R_CS) (T := F_CS) (N := 6) (v := .ref qd) X i_CS rfl h_2 3 (by decide) q_272 (fun _ h9 => h9) rfl d_CS_tell_19 ?_
      refine g_iload_n X d_CS_tell_22 1 rfl ?_
      refine g_iload_n X d_CS_tell_23 3 rfl ?_
      refine g_iast (t0 := 0) (g2 := fun q9 => nI ((va_up dy i dd) q9)) X h_4 rfl (nI_ix (hi) (by decide)) (upd_nI (g := dy) (Nat.lt_trans (hi) (by decide))) d_CS_tell_24 ?_
      generalize ef_6 : g_u f_1 qd (.inl (cI, 32, .inl (fun q9 => nI ((va_up dy i dd) q9)))) = f_6
      have h_7 : f_6 q = some (.inr (4, [.int pt, .int ot, .ref qp, .ref qd, .ref qg, .int (nI ct)])) := by rw [← ef_6]; exact (g_u_n (tu_ne h_2 h_4)).trans h_2
      have h_8 : f_6 qp = some (.inl (cI, 32, .inl (fun q9 => nI ((va_up per i pe) q9)))) := by rw [← ef_6]; exact (g_u_n (hI1)).trans h_3
      have h_9 : f_6 qd = some (.inl (cI, 32, .inl (fun q9 => nI ((va_up dy i dd) q9)))) := by rw [← ef_6]; exact g_u_s
      have h_10 : f_6 qg = some (.inl (cZ, 32, .inl (fun q9 => bI (gd q9)))) := by rw [← ef_6]; exact (g_u_n (Ne.symm hI3)).trans h_5
      refine g_aload_n X d_CS_tell_25 0 rfl ?_
      refine g_get (ci := 4) (C := R_CS) (T := F_CS) (N := 6) (v := .ref qg) X i_CS rfl h_7 4 (by decide) q_273 (fun _ h9 => h9) rfl d_CS_tell_26 ?_
      refine g_iload_n X d_CS_tell_29 1 rfl ?_
      refine g_iload X d_CS_tell_30 4 rfl ?_
      refine g_zast (t0 := 1) (g2 := fun q9 => bI ((va_up gd i b) q9)) X h_10 rfl (nI_ix hi (by decide)) (upd_bI (Nat.lt_trans hi (by decide))) d_CS_tell_32 ?_
      generalize ef_11 : g_u f_6 qg (.inl (cZ, 32, .inl (fun q9 => bI ((va_up gd i b) q9)))) = f_11
      have h_12 : f_11 q = some (.inr (4, [.int pt, .int ot, .ref qp, .ref qd, .ref qg, .int (nI ct)])) := by rw [← ef_11]; exact (g_u_n (tu_ne h_7 h_10)).trans h_7
      have h_13 : f_11 qp = some (.inl (cI, 32, .inl (fun q9 => nI ((va_up per i pe) q9)))) := by rw [← ef_11]; exact (g_u_n (hI2)).trans h_8
      have h_14 : f_11 qd = some (.inl (cI, 32, .inl (fun q9 => nI ((va_up dy i dd) q9)))) := by rw [← ef_11]; exact (g_u_n (hI3)).trans h_9
      have h_15 : f_11 qg = some (.inl (cZ, 32, .inl (fun q9 => bI ((va_up gd i b) q9)))) := by rw [← ef_11]; exact g_u_s
      refine g_aload_n X d_CS_tell_33 0 rfl ?_
      refine g_aload_n X d_CS_tell_34 0 rfl ?_
      refine g_get (ci := 4) (C := R_CS) (T := F_CS) (N := 6) (v := .int (nI ct)) X i_CS rfl h_12 5 (by decide) q_274 (fun _ h9 => h9) rfl d_CS_tell_35 ?_
      refine g_iload_n X d_CS_tell_38 1 rfl ?_
      refine g_iconst (v := 1) X d_CS_tell_39 (by decide) ?_
      refine g_iadd X d_CS_tell_40 ?_
      refine g_eqi (y := nI (i + 1)) (nI_1 i) ?_
      refine g_mmax (a := ct) (b := i + 1) X q_424 (by omega) (by omega) (Nat.le_of_ble_eq_true rfl) (Nat.le_of_ble_eq_true rfl) (Nat.le_of_ble_eq_true rfl) (Nat.le_of_ble_eq_true rfl) d_CS_tell_41 ?_
      refine g_put (ci := 4) (C := R_CS) (T := F_CS) (N := 6) (ty := .int) (fs2 := [.int pt, .int ot, .ref qp, .ref qd, .ref qg, .int (nI (max ct (i + 1)))]) X i_CS t_CS t_CS_ok n_CS rfl h_12 5 (by decide) q_274 (fun _ h9 => h9) rfl (by decide +kernel) rfl rfl (Nat.le_of_ble_eq_true rfl) rfl d_CS_tell_44 ?_
      generalize ef_16 : g_u f_11 q (.inr (4, [.int pt, .int ot, .ref qp, .ref qd, .ref qg, .int (nI (max ct (i + 1)))])) = f_16
      have h_17 : f_16 q = some (.inr (4, [.int pt, .int ot, .ref qp, .ref qd, .ref qg, .int (nI (max ct (i + 1)))])) := by rw [← ef_16]; exact g_u_s
      have h_18 : f_16 qp = some (.inl (cI, 32, .inl (fun q9 => nI ((va_up per i pe) q9)))) := by rw [← ef_16]; exact (g_u_n (Ne.symm (tu_ne h_12 h_13))).trans h_13
      have h_19 : f_16 qd = some (.inl (cI, 32, .inl (fun q9 => nI ((va_up dy i dd) q9)))) := by rw [← ef_16]; exact (g_u_n (Ne.symm (tu_ne h_12 h_14))).trans h_14
      have h_20 : f_16 qg = some (.inl (cZ, 32, .inl (fun q9 => bI ((va_up gd i b) q9)))) := by rw [← ef_16]; exact (g_u_n (Ne.symm (tu_ne h_12 h_15))).trans h_15
      exact g_vret X rfl (⟨rfl, by rw [← ef_16, ← ef_11, ← ef_6, ← ef_1]⟩) (Nat.le_of_ble_eq_true rfl) (Nat.le_of_ble_eq_true rfl) d_CS_tell_47
    · skip
      exact absurd ((nI_ltI (b := 32) (by omega) (by decide)).mpr hi) c7
set_option maxHeartbeats 4000000 in
set_option maxRecDepth 100000 in
theorem L_CS_wordOf {p : Program} {l : Launch} {e : Env} {s : State} {m : MethodId} {args : Array Value} {below : List Frame} {meth : Method} {c : Code} {Q : State → Prop} {A : Nat → Prop} {D : va_G} {cI cZ cO cJ : ClassId} {eA : Nat} {f : g_F} {q qp qd qg : Nat} {pt ot : Int32} {per dy : Nat → Nat} {gd : Nat → Bool} {ct : Nat} (hR : cs_R cI cZ f q qp qd qg pt ot per dy gd ct) (hB : cs_B per dy ct) {pe dd : Nat} {fs : Int32} (hpe : pe < 10) (hdd : dd < 2 ^ 30) (X : g_X p s m args meth c b_CS_wordOf 7 (some .int) g_T y_CS_wordOf.cls D g_cl (g_tys cI cZ cO cJ) A (z_Z eA)) (kk : g_W p l e { frames := 0, cells := 0, slots := 0, locals := 0 } s m args below meth c 7 D g_cl A f 0 0 Q 95 [(6, .int (nI ct)), (5, .int ((wd per dy gd pe fs dd ct).2)), (4, .int (fI (wd per dy gd pe fs dd ct).1)), (0, .ref q), (1, .int (nI pe)), (2, .int fs), (3, .int (nI dd))] []) : ∀ (d : Nat) (i : Nat), (i + d = ct) → g_W p l e { frames := 0, cells := 0, slots := 0, locals := 0 } s m args below meth c 7 D g_cl A f 0 0 Q 9 [(6, .int (nI i)), (5, .int ((wd per dy gd pe fs dd i).2)), (4, .int (fI (wd per dy gd pe fs dd i).1)), (0, .ref q), (1, .int (nI pe)), (2, .int fs), (3, .int (nI dd))] [] := by
  obtain ⟨hQ, h0, h1, h2⟩ := id hR
  obtain ⟨hct, hper, hdy⟩ := id hB
  intro d
  induction d using Nat.strongRecOn with
  | _ d ih =>
    intro i hi
    refine g_iload X d_CS_wordOf_9 0 rfl ?_
    refine g_aload_n X d_CS_wordOf_11 3 rfl ?_
    refine g_get (ci := 4) (C := R_CS) (T := F_CS) (N := 6) (v := .int (nI ct)) X i_CS rfl hQ 5 (by decide) q_274 (fun _ h9 => h9) rfl d_CS_wordOf_12 ?_
    refine g_icmp_ge X 95 d_CS_wordOf_15 (by decide) (fun c15 => ?_) (fun c15 => ?_)
    · skip
      have e : i = ct := by have := (nI_leI (by omega) (by omega)).mp c15; omega
      subst e
      exact kk
    · skip
      have hlt : i < ct := Nat.lt_of_not_le (fun z => c15 ((nI_leI (by omega) (by omega)).mpr z))
      have hla := wd_le (per := per) hdy gd pe fs dd i
      have hdi := hdy i
      have hpi := hper i
      refine g_aload_n X d_CS_wordOf_18 3 rfl ?_
      refine g_get (ci := 4) (C := R_CS) (T := F_CS) (N := 6) (v := .ref qp) X i_CS rfl hQ 2 (by decide) q_271 (fun _ h9 => h9) rfl d_CS_wordOf_19 ?_
      refine g_iload X d_CS_wordOf_22 0 rfl ?_
      refine g_iald (t0 := 0) (v := nI (per i)) X h0 rfl (nI_ix ((by omega : i < 32)) (by decide)) (nI_cl (g := fun q9 => nI (per q9)) (Nat.lt_trans ((by omega : i < 32)) (by decide))) d_CS_wordOf_24 ?_
      refine g_iload_n X d_CS_wordOf_25 4 rfl ?_
      refine g_icmp_ne X 89 d_CS_wordOf_26 (by decide) (fun c26 => ?_) (fun c26 => ?_)
      · skip
        have e : wd per dy gd pe fs dd (i + 1) = wd per dy gd pe fs dd i := if_neg (fun z => c26 (by rw [z.1]))
        refine g_iinc (lv' := [(6, .int (nI (i + 1))), (5, .int ((wd per dy gd pe fs dd i).2)), (4, .int (fI (wd per dy gd pe fs dd i).1)), (0, .ref q), (1, .int (nI pe)), (2, .int fs), (3, .int (nI dd))]) X d_CS_wordOf_89 0 rfl (nI_1 i) (by decide) rfl ?_
        refine g_goto X 9 d_CS_wordOf_92 (by decide) ?_
        refine g_lv (lv' := [(6, .int (nI (i + 1))), (5, .int ((wd per dy gd pe fs dd (i + 1)).2)), (4, .int (fI (wd per dy gd pe fs dd (i + 1)).1)), (0, .ref q), (1, .int (nI pe)), (2, .int fs), (3, .int (nI dd))]) [0, 1, 2, 3, 4, 5, 6] (by rw [e]; rfl) (ih (d - 1) (by omega) (i + 1) (by omega))
      · skip
        have h26 : per i = pe := (nI_eq (by omega) (by omega)).mp c26
        refine g_aload_n X d_CS_wordOf_29 3 rfl ?_
        refine g_get (ci := 4) (C := R_CS) (T := F_CS) (N := 6) (v := .ref qd) X i_CS rfl hQ 3 (by decide) q_272 (fun _ h9 => h9) rfl d_CS_wordOf_30 ?_
        refine g_iload X d_CS_wordOf_33 0 rfl ?_
        refine g_iald (t0 := 0) (v := nI (dy i)) X h1 rfl (nI_ix ((by omega : i < 32)) (by decide)) (nI_cl (g := fun q9 => nI (dy q9)) (Nat.lt_trans ((by omega : i < 32)) (by decide))) d_CS_wordOf_35 ?_
        refine g_iload_n X d_CS_wordOf_36 5 rfl ?_
        refine g_icmp_lt X 89 d_CS_wordOf_37 (by decide) (fun c37 => ?_) (fun c37 => ?_)
        · skip
          have e : wd per dy gd pe fs dd (i + 1) = wd per dy gd pe fs dd i := if_neg (fun z => z.2.1 c37)
          refine g_iinc (lv' := [(6, .int (nI (i + 1))), (5, .int ((wd per dy gd pe fs dd i).2)), (4, .int (fI (wd per dy gd pe fs dd i).1)), (0, .ref q), (1, .int (nI pe)), (2, .int fs), (3, .int (nI dd))]) X d_CS_wordOf_89 0 rfl (nI_1 i) (by decide) rfl ?_
          refine g_goto X 9 d_CS_wordOf_92 (by decide) ?_
          refine g_lv (lv' := [(6, .int (nI (i + 1))), (5, .int ((wd per dy gd pe fs dd (i + 1)).2)), (4, .int (fI (wd per dy gd pe fs dd (i + 1)).1)), (0, .ref q), (1, .int (nI pe)), (2, .int fs), (3, .int (nI dd))]) [0, 1, 2, 3, 4, 5, 6] (by rw [e]; rfl) (ih (d - 1) (by omega) (i + 1) (by omega))
        · skip
          refine g_aload_n X d_CS_wordOf_40 3 rfl ?_
          refine g_get (ci := 4) (C := R_CS) (T := F_CS) (N := 6) (v := .ref qd) X i_CS rfl hQ 3 (by decide) q_272 (fun _ h9 => h9) rfl d_CS_wordOf_41 ?_
          refine g_iload X d_CS_wordOf_44 0 rfl ?_
          refine g_iald (t0 := 0) (v := nI (dy i)) X h1 rfl (nI_ix ((by omega : i < 32)) (by decide)) (nI_cl (g := fun q9 => nI (dy q9)) (Nat.lt_trans ((by omega : i < 32)) (by decide))) d_CS_wordOf_46 ?_
          refine g_iload_n X d_CS_wordOf_47 6 rfl ?_
          refine g_icmp_gt X 89 d_CS_wordOf_48 (by decide) (fun c48 => ?_) (fun c48 => ?_)
          · skip
            have e : wd per dy gd pe fs dd (i + 1) = wd per dy gd pe fs dd i := if_neg (fun z => absurd z.2.2.1 (Nat.not_le.mpr ((nI_ltI (by omega) (by omega)).mp c48)))
            refine g_iinc (lv' := [(6, .int (nI (i + 1))), (5, .int ((wd per dy gd pe fs dd i).2)), (4, .int (fI (wd per dy gd pe fs dd i).1)), (0, .ref q), (1, .int (nI pe)), (2, .int fs), (3, .int (nI dd))]) X d_CS_wordOf_89 0 rfl (nI_1 i) (by decide) rfl ?_
            refine g_goto X 9 d_CS_wordOf_92 (by decide) ?_
            refine g_lv (lv' := [(6, .int (nI (i + 1))), (5, .int ((wd per dy gd pe fs dd (i + 1)).2)), (4, .int (fI (wd per dy gd pe fs dd (i + 1)).1)), (0, .ref q), (1, .int (nI pe)), (2, .int fs), (3, .int (nI dd))]) [0, 1, 2, 3, 4, 5, 6] (by rw [e]; rfl) (ih (d - 1) (by omega) (i + 1) (by omega))
          · skip
            have h48 : dy i ≤ dd := Nat.le_of_not_lt (fun z => c48 ((nI_ltI (by omega) (by omega)).mpr z))
            refine g_aload_n X d_CS_wordOf_51 3 rfl ?_
            refine g_get (ci := 4) (C := R_CS) (T := F_CS) (N := 6) (v := .ref qd) X i_CS rfl hQ 3 (by decide) q_272 (fun _ h9 => h9) rfl d_CS_wordOf_52 ?_
            refine g_iload X d_CS_wordOf_55 0 rfl ?_
            refine g_iald (t0 := 0) (v := nI (dy i)) X h1 rfl (nI_ix ((by omega : i < 32)) (by decide)) (nI_cl (g := fun q9 => nI (dy q9)) (Nat.lt_trans ((by omega : i < 32)) (by decide))) d_CS_wordOf_57 ?_
            refine g_iload X d_CS_wordOf_58 2 rfl ?_
            refine g_icmp_le X 89 d_CS_wordOf_60 (by decide) (fun c60 => ?_) (fun c60 => ?_)
            · skip
              have e : wd per dy gd pe fs dd (i + 1) = wd per dy gd pe fs dd i := if_neg (fun z => absurd z.2.2.2 (Nat.not_lt.mpr ((fI_le (by omega) (by omega)).mp c60)))
              refine g_iinc (lv' := [(6, .int (nI (i + 1))), (5, .int ((wd per dy gd pe fs dd i).2)), (4, .int (fI (wd per dy gd pe fs dd i).1)), (0, .ref q), (1, .int (nI pe)), (2, .int fs), (3, .int (nI dd))]) X d_CS_wordOf_89 0 rfl (nI_1 i) (by decide) rfl ?_
              refine g_goto X 9 d_CS_wordOf_92 (by decide) ?_
              refine g_lv (lv' := [(6, .int (nI (i + 1))), (5, .int ((wd per dy gd pe fs dd (i + 1)).2)), (4, .int (fI (wd per dy gd pe fs dd (i + 1)).1)), (0, .ref q), (1, .int (nI pe)), (2, .int fs), (3, .int (nI dd))]) [0, 1, 2, 3, 4, 5, 6] (by rw [e]; rfl) (ih (d - 1) (by omega) (i + 1) (by omega))
            · skip
              have e : wd per dy gd pe fs dd (i + 1) = (dy i + 1, bI (gd i)) := if_pos ⟨h26, c37, h48, Nat.lt_of_not_le (fun z => c60 ((fI_le (by omega) (by omega)).mpr z))⟩
              refine g_aload_n X d_CS_wordOf_63 3 rfl ?_
              refine g_get (ci := 4) (C := R_CS) (T := F_CS) (N := 6) (v := .ref qd) X i_CS rfl hQ 3 (by decide) q_272 (fun _ h9 => h9) rfl d_CS_wordOf_64 ?_
              refine g_iload X d_CS_wordOf_67 0 rfl ?_
              refine g_iald (t0 := 0) (v := nI (dy i)) X h1 rfl (nI_ix ((by omega : i < 32)) (by decide)) (nI_cl (g := fun q9 => nI (dy q9)) (Nat.lt_trans ((by omega : i < 32)) (by decide))) d_CS_wordOf_69 ?_
              refine g_istore (lv' := [(4, .int (nI (dy i))), (6, .int (nI i)), (5, .int ((wd per dy gd pe fs dd i).2)), (0, .ref q), (1, .int (nI pe)), (2, .int fs), (3, .int (nI dd))]) X d_CS_wordOf_70 (by decide) rfl ?_
              refine g_aload_n X d_CS_wordOf_72 3 rfl ?_
              refine g_get (ci := 4) (C := R_CS) (T := F_CS) (N := 6) (v := .ref qg) X i_CS rfl hQ 4 (by decide) q_273 (fun _ h9 => h9) rfl d_CS_wordOf_73 ?_
              refine g_iload X d_CS_wordOf_76 1 rfl ?_
              refine g_zald (t0 := 1) (v := bI (gd i)) X h2 rfl (nI_ix (by omega : i < 32) (by decide)) (nI_cl (g := fun q9 => bI (gd q9)) (by omega)) d_CS_wordOf_78 ?_
              refine g_if_eq X 86 d_CS_wordOf_79 (by decide) (fun c79 => ?_) (fun c79 => ?_)
              · skip
                refine g_iconst (v := 0) X d_CS_wordOf_86 (by decide) ?_
                refine g_istore (lv' := [(5, .int 0), (4, .int (nI (dy i))), (6, .int (nI i)), (0, .ref q), (1, .int (nI pe)), (2, .int fs), (3, .int (nI dd))]) X d_CS_wordOf_87 (by decide) rfl ?_
                refine g_iinc (lv' := [(6, .int (nI (i + 1))), (5, .int 0), (4, .int (nI (dy i))), (0, .ref q), (1, .int (nI pe)), (2, .int fs), (3, .int (nI dd))]) X d_CS_wordOf_89 2 rfl (nI_1 i) (by decide) rfl ?_
                refine g_goto X 9 d_CS_wordOf_92 (by decide) ?_
                refine g_lv (lv' := [(6, .int (nI (i + 1))), (5, .int ((wd per dy gd pe fs dd (i + 1)).2)), (4, .int (fI (wd per dy gd pe fs dd (i + 1)).1)), (0, .ref q), (1, .int (nI pe)), (2, .int fs), (3, .int (nI dd))]) [0, 1, 2, 3, 4, 5, 6] (by rw [e, fI_s, show bI (gd i) = 0 by rw [bI_z.mp c79]; rfl]; rfl) (ih (d - 1) (by omega) (i + 1) (by omega))
              · skip
                refine g_iconst (v := 1) X d_CS_wordOf_82 (by decide) ?_
                refine g_goto X 87 d_CS_wordOf_83 (by decide) ?_
                refine g_istore (lv' := [(5, .int 1), (4, .int (nI (dy i))), (6, .int (nI i)), (0, .ref q), (1, .int (nI pe)), (2, .int fs), (3, .int (nI dd))]) X d_CS_wordOf_87 (by decide) rfl ?_
                refine g_iinc (lv' := [(6, .int (nI (i + 1))), (5, .int 1), (4, .int (nI (dy i))), (0, .ref q), (1, .int (nI pe)), (2, .int fs), (3, .int (nI dd))]) X d_CS_wordOf_89 2 rfl (nI_1 i) (by decide) rfl ?_
                refine g_goto X 9 d_CS_wordOf_92 (by decide) ?_
                refine g_lv (lv' := [(6, .int (nI (i + 1))), (5, .int ((wd per dy gd pe fs dd (i + 1)).2)), (4, .int (fI (wd per dy gd pe fs dd (i + 1)).1)), (0, .ref q), (1, .int (nI pe)), (2, .int fs), (3, .int (nI dd))]) [0, 1, 2, 3, 4, 5, 6] (by rw [e, fI_s, show bI (gd i) = 1 by rw [bt_nf (fun z => c79 (bI_z.mpr z))]; rfl]; rfl) (ih (d - 1) (by omega) (i + 1) (by omega))
set_option maxHeartbeats 4000000 in
set_option maxRecDepth 100000 in
theorem c_CS_wordOf {l : Launch} {D : va_G} {cI cZ cO cJ : ClassId} {eA : Nat} {f : g_F} {q qp qd qg : Nat} {pt ot : Int32} {per dy : Nat → Nat} {gd : Nat → Bool} {ct : Nat} (hR : cs_R cI cZ f q qp qd qg pt ot per dy gd ct) (hB : cs_B per dy ct) {pe dd : Nat} {fs : Int32} (hpe : pe < 10) (hdd : dd < 2 ^ 30) : g_C l y_CS_wordOf b_CS_wordOf 7 (some .int) { frames := 0, cells := 0, slots := 0, locals := 0 } D g_cl (g_tys cI cZ cO cJ) (z_Z eA) [.ref q, .int (nI pe), .int fs, .int (nI dd)] f (fun r f2 => r = some (.int (wd per dy gd pe fs dd ct).2) ∧ f2 = f) (fun _ => False) := by
  refine g_ofW [(0, .ref q), (1, .int (nI pe)), (2, .int fs), (3, .int (nI dd))] (by decide +kernel) (Nat.le_of_ble_eq_true rfl) rfl ?_
  intro p e s m args below meth c X ht hin
  refine g_iconst (v := (-1)) X d_CS_wordOf_0 (by decide) ?_
  refine g_istore (lv' := [(4, .int (-1)), (0, .ref q), (1, .int (nI pe)), (2, .int fs), (3, .int (nI dd))]) X d_CS_wordOf_1 (by decide) rfl ?_
  refine g_iconst (v := (-1)) X d_CS_wordOf_3 (by decide) ?_
  refine g_istore (lv' := [(5, .int (-1)), (4, .int (-1)), (0, .ref q), (1, .int (nI pe)), (2, .int fs), (3, .int (nI dd))]) X d_CS_wordOf_4 (by decide) rfl ?_
  refine g_iconst (v := 0) X d_CS_wordOf_6 (by decide) ?_
  refine g_istore (lv' := [(6, .int 0), (5, .int (-1)), (4, .int (-1)), (0, .ref q), (1, .int (nI pe)), (2, .int fs), (3, .int (nI dd))]) X d_CS_wordOf_7 (by decide) rfl ?_
  refine g_lv [0, 1, 2, 3, 4, 5, 6] rfl (L_CS_wordOf hR hB hpe hdd X ?_ ct 0 (by omega))
  exact g_iload X d_CS_wordOf_95 1 rfl (g_iret X rfl ⟨rfl, rfl⟩ (Nat.le_of_ble_eq_true rfl) (Nat.le_of_ble_eq_true rfl) d_CS_wordOf_97)
set_option maxHeartbeats 4000000 in
set_option maxRecDepth 100000 in
theorem L_CS_nextTurn {p : Program} {l : Launch} {e : Env} {s : State} {m : MethodId} {args : Array Value} {below : List Frame} {meth : Method} {c : Code} {Q : State → Prop} {A : Nat → Prop} {D : va_G} {cI cZ cO cJ : ClassId} {eA : Nat} {f : g_F} {q qp qd qg : Nat} {pt ot : Int32} {per dy : Nat → Nat} {gd : Nat → Bool} {ct : Nat} (hR : cs_R cI cZ f q qp qd qg pt ot per dy gd ct) (hB : cs_B per dy ct) {dd L M : Nat} (hdd : dd < 2 ^ 30) (hL : L ≤ 5000) (hM : M < 2 ^ 30) (X : g_X p s m args meth c b_CS_nextTurn 7 (some .int) g_T y_CS_nextTurn.cls D g_cl (g_tys cI cZ cO cJ) A (z_Z eA)) (kk : g_W p l e { frames := 1, cells := 0, slots := 0, locals := 21 } s m args below meth c 7 D g_cl A f 0 0 Q 77 [(5, .int (nI ct)), (4, .int (nI (ntn dy dd L M ct))), (0, .ref q), (1, .int (nI dd)), (2, .int (nI L)), (3, .int (nI M))] []) : ∀ (d : Nat) (i : Nat), (i + d = ct) → g_W p l e { frames := 1, cells := 0, slots := 0, locals := 21 } s m args below meth c 7 D g_cl A f 0 0 Q 6 [(5, .int (nI i)), (4, .int (nI (ntn dy dd L M i))), (0, .ref q), (1, .int (nI dd)), (2, .int (nI L)), (3, .int (nI M))] [] := by
  obtain ⟨hQ, h0, h1, h2⟩ := id hR
  obtain ⟨hct, hper, hdy⟩ := id hB
  intro d
  induction d using Nat.strongRecOn with
  | _ d ih =>
    intro i hi
    refine g_iload X d_CS_nextTurn_6 0 rfl ?_
    refine g_aload_n X d_CS_nextTurn_8 2 rfl ?_
    refine g_get (ci := 4) (C := R_CS) (T := F_CS) (N := 6) (v := .int (nI ct)) X i_CS rfl hQ 5 (by decide) q_274 (fun _ h9 => h9) rfl d_CS_nextTurn_9 ?_
    refine g_icmp_ge X 77 d_CS_nextTurn_12 (by decide) (fun c12 => ?_) (fun c12 => ?_)
    · skip
      have e : i = ct := by have := (nI_leI (by omega) (by omega)).mp c12; omega
      subst e
      exact kk
    · skip
      have hlt : i < ct := Nat.lt_of_not_le (fun z => c12 ((nI_leI (by omega) (by omega)).mpr z))
      have hnl := ntn_le dy dd L M i
      have hdi := hdy i
      refine g_aload_n X d_CS_nextTurn_15 2 rfl ?_
      refine g_get (ci := 4) (C := R_CS) (T := F_CS) (N := 6) (v := .ref qd) X i_CS rfl hQ 3 (by decide) q_272 (fun _ h9 => h9) rfl d_CS_nextTurn_16 ?_
      refine g_iload X d_CS_nextTurn_19 0 rfl ?_
      refine g_iald (t0 := 0) (v := nI (dy i)) X h1 rfl (nI_ix ((by omega : i < 32)) (by decide)) (nI_cl (g := fun q9 => nI (dy q9)) (Nat.lt_trans ((by omega : i < 32)) (by decide))) d_CS_nextTurn_21 ?_
      refine g_iload_n X d_CS_nextTurn_22 4 rfl ?_
      refine g_iadd X d_CS_nextTurn_23 ?_
      refine g_eqi (y := nI (dy i + L)) (nI_add _ _) ?_
      refine g_iconst (v := 1) X d_CS_nextTurn_24 (by decide) ?_
      refine g_iadd X d_CS_nextTurn_25 ?_
      refine g_eqi (y := nI (dy i + L + 1)) (nI_1 _) ?_
      refine g_istore (lv' := [(6, .int (nI (dy i + L + 1))), (5, .int (nI i)), (4, .int (nI (ntn dy dd L M i))), (0, .ref q), (1, .int (nI dd)), (2, .int (nI L)), (3, .int (nI M))]) X d_CS_nextTurn_26 (by decide) rfl ?_
      refine g_aload_n X d_CS_nextTurn_28 3 rfl ?_
      refine g_get (ci := 4) (C := R_CS) (T := F_CS) (N := 6) (v := .ref qd) X i_CS rfl hQ 3 (by decide) q_272 (fun _ h9 => h9) rfl d_CS_nextTurn_29 ?_
      refine g_iload X d_CS_nextTurn_32 1 rfl ?_
      refine g_iald (t0 := 0) (v := nI (dy i)) X h1 rfl (nI_ix ((by omega : i < 32)) (by decide)) (nI_cl (g := fun q9 => nI (dy q9)) (Nat.lt_trans ((by omega : i < 32)) (by decide))) d_CS_nextTurn_34 ?_
      refine g_iload_n X d_CS_nextTurn_35 4 rfl ?_
      refine g_icmp_le X 56 d_CS_nextTurn_36 (by decide) (fun c36 => ?_) (fun c36 => ?_)
      · skip
        have h36 : ¬ dd < dy i := Nat.not_lt.mpr ((nI_leI (by omega) (by omega)).mp c36)
        refine g_iload X d_CS_nextTurn_56 0 rfl ?_
        refine g_iload_n X d_CS_nextTurn_58 4 rfl ?_
        refine g_icmp_le X 71 d_CS_nextTurn_59 (by decide) (fun c59 => ?_) (fun c59 => ?_)
        · skip
          have e : ntn dy dd L M (i + 1) = ntn dy dd L M i := (if_neg h36).trans (if_neg (Nat.not_lt.mpr ((nI_leI (by omega) (by omega)).mp c59)))
          refine g_iinc (lv' := [(5, .int (nI (i + 1))), (6, .int (nI (dy i + L + 1))), (4, .int (nI (ntn dy dd L M i))), (0, .ref q), (1, .int (nI dd)), (2, .int (nI L)), (3, .int (nI M))]) X d_CS_nextTurn_71 1 rfl (nI_1 i) (by decide) rfl ?_
          refine g_goto X 6 d_CS_nextTurn_74 (by decide) ?_
          refine g_lv (lv' := [(5, .int (nI (i + 1))), (4, .int (nI (ntn dy dd L M (i + 1)))), (0, .ref q), (1, .int (nI dd)), (2, .int (nI L)), (3, .int (nI M))]) [0, 2, 3, 4, 5, 6] (by rw [e]; rfl) (ih (d - 1) (by omega) (i + 1) (by omega))
        · skip
          have e : ntn dy dd L M (i + 1) = min (ntn dy dd L M i) (dy i + L + 1) := (if_neg h36).trans (if_pos (Nat.lt_of_not_le (fun z => c59 ((nI_leI (by omega) (by omega)).mpr z))))
          refine g_iload X d_CS_nextTurn_62 2 rfl ?_
          refine g_iload X d_CS_nextTurn_64 0 rfl ?_
          refine g_mmin (a := ntn dy dd L M i) (b := dy i + L + 1) X q_582 (by omega) (by omega) (Nat.le_of_ble_eq_true rfl) (Nat.le_of_ble_eq_true rfl) (Nat.le_of_ble_eq_true rfl) (Nat.le_of_ble_eq_true rfl) d_CS_nextTurn_66 ?_
          refine g_istore (lv' := [(4, .int (nI (min (ntn dy dd L M i) (dy i + L + 1)))), (6, .int (nI (dy i + L + 1))), (5, .int (nI i)), (0, .ref q), (1, .int (nI dd)), (2, .int (nI L)), (3, .int (nI M))]) X d_CS_nextTurn_69 (by decide) rfl ?_
          refine g_iinc (lv' := [(5, .int (nI (i + 1))), (4, .int (nI (min (ntn dy dd L M i) (dy i + L + 1)))), (6, .int (nI (dy i + L + 1))), (0, .ref q), (1, .int (nI dd)), (2, .int (nI L)), (3, .int (nI M))]) X d_CS_nextTurn_71 2 rfl (nI_1 i) (by decide) rfl ?_
          refine g_goto X 6 d_CS_nextTurn_74 (by decide) ?_
          refine g_lv (lv' := [(5, .int (nI (i + 1))), (4, .int (nI (ntn dy dd L M (i + 1)))), (0, .ref q), (1, .int (nI dd)), (2, .int (nI L)), (3, .int (nI M))]) [0, 1, 3, 4, 5, 6] (by rw [e]; rfl) (ih (d - 1) (by omega) (i + 1) (by omega))
      · skip
        have h36 : dd < dy i := Nat.lt_of_not_le (fun z => c36 ((nI_leI (by omega) (by omega)).mpr z))
        have e : ntn dy dd L M (i + 1) = min (ntn dy dd L M i) (dy i) := if_pos h36
        refine g_iload X d_CS_nextTurn_39 2 rfl ?_
        refine g_aload_n X d_CS_nextTurn_41 3 rfl ?_
        refine g_get (ci := 4) (C := R_CS) (T := F_CS) (N := 6) (v := .ref qd) X i_CS rfl hQ 3 (by decide) q_272 (fun _ h9 => h9) rfl d_CS_nextTurn_42 ?_
        refine g_iload X d_CS_nextTurn_45 1 rfl ?_
        refine g_iald (t0 := 0) (v := nI (dy i)) X h1 rfl (nI_ix ((by omega : i < 32)) (by decide)) (nI_cl (g := fun q9 => nI (dy q9)) (Nat.lt_trans ((by omega : i < 32)) (by decide))) d_CS_nextTurn_47 ?_
        refine g_mmin (a := ntn dy dd L M i) (b := dy i) X q_582 (by omega) (by omega) (Nat.le_of_ble_eq_true rfl) (Nat.le_of_ble_eq_true rfl) (Nat.le_of_ble_eq_true rfl) (Nat.le_of_ble_eq_true rfl) d_CS_nextTurn_48 ?_
        refine g_istore (lv' := [(4, .int (nI (min (ntn dy dd L M i) (dy i)))), (6, .int (nI (dy i + L + 1))), (5, .int (nI i)), (0, .ref q), (1, .int (nI dd)), (2, .int (nI L)), (3, .int (nI M))]) X d_CS_nextTurn_51 (by decide) rfl ?_
        refine g_goto X 71 d_CS_nextTurn_53 (by decide) ?_
        refine g_iinc (lv' := [(5, .int (nI (i + 1))), (4, .int (nI (min (ntn dy dd L M i) (dy i)))), (6, .int (nI (dy i + L + 1))), (0, .ref q), (1, .int (nI dd)), (2, .int (nI L)), (3, .int (nI M))]) X d_CS_nextTurn_71 2 rfl (nI_1 i) (by decide) rfl ?_
        refine g_goto X 6 d_CS_nextTurn_74 (by decide) ?_
        refine g_lv (lv' := [(5, .int (nI (i + 1))), (4, .int (nI (ntn dy dd L M (i + 1)))), (0, .ref q), (1, .int (nI dd)), (2, .int (nI L)), (3, .int (nI M))]) [0, 1, 3, 4, 5, 6] (by rw [e]; rfl) (ih (d - 1) (by omega) (i + 1) (by omega))
set_option maxHeartbeats 4000000 in
set_option maxRecDepth 100000 in
theorem c_CS_nextTurn {l : Launch} {D : va_G} {cI cZ cO cJ : ClassId} {eA : Nat} {f : g_F} {q qp qd qg : Nat} {pt ot : Int32} {per dy : Nat → Nat} {gd : Nat → Bool} {ct : Nat} (hR : cs_R cI cZ f q qp qd qg pt ot per dy gd ct) (hB : cs_B per dy ct) {dd L M : Nat} (hdd : dd < 2 ^ 30) (hL : L ≤ 5000) (hM : M < 2 ^ 30) : g_C l y_CS_nextTurn b_CS_nextTurn 7 (some .int) { frames := 1, cells := 0, slots := 0, locals := 21 } D g_cl (g_tys cI cZ cO cJ) (z_Z eA) [.ref q, .int (nI dd), .int (nI L), .int (nI M)] f (fun r f2 => r = some (.int (nI (ntn dy dd L M ct))) ∧ f2 = f) (fun _ => False) := by
  refine g_ofW [(0, .ref q), (1, .int (nI dd)), (2, .int (nI L)), (3, .int (nI M))] (by decide +kernel) (Nat.le_of_ble_eq_true rfl) rfl ?_
  intro p e s m args below meth c X ht hin
  refine g_iload_n X d_CS_nextTurn_0 3 rfl ?_
  refine g_istore (lv' := [(4, .int (nI M)), (0, .ref q), (1, .int (nI dd)), (2, .int (nI L)), (3, .int (nI M))]) X d_CS_nextTurn_1 (by decide) rfl ?_
  refine g_iconst (v := 0) X d_CS_nextTurn_3 (by decide) ?_
  refine g_istore (lv' := [(5, .int 0), (4, .int (nI M)), (0, .ref q), (1, .int (nI dd)), (2, .int (nI L)), (3, .int (nI M))]) X d_CS_nextTurn_4 (by decide) rfl ?_
  refine g_lv [0, 1, 2, 3, 4, 5] rfl (L_CS_nextTurn hR hB hdd hL hM X ?_ ct 0 (by omega))
  exact g_iload X d_CS_nextTurn_77 1 rfl (g_iret X rfl ⟨rfl, rfl⟩ (Nat.le_of_ble_eq_true rfl) (Nat.le_of_ble_eq_true rfl) d_CS_nextTurn_79)
end
section
theorem g_cast {p : Program} {l : Launch} {e : Env} {R : Room} {s : State} {m : MethodId} {args : Array Value} {below : List Frame} {meth : Method} {c : Code} {cells slots : Nat} {Q : State → Prop} {cc : ByteArray} {pc nL : Nat} {D : va_G} {cl : List vw_C} {tys : List (ClassId × FieldType)} {A : Nat → Prop} {f : g_F} {lv : List (Nat × Value)} {st : List Value} {own : String} {ret : Option FieldType} {Z : (Nat → Prop) → State → Heap → Prop} (X : g_X p s m args meth c cc nL ret g_T own D cl tys A Z) {a ci index : Nat} {fs : List Value} {cq : vw_C} {nm : String} (hlk : Cond.classLink own index nm ∈ g_T) (hcl : cl[ci]? = some cq) (hc : va_Nw (.castable cq.1 nm) s) (he : f a = some (.inr (ci, fs))) (d : decode cc pc = .ok (.checkcast index, 3)) (kk : g_W p l e R s m args below meth c nL D cl A f cells slots Q (pc + 3) lv (.ref a :: st)) : g_W p l e R s m args below meth c nL D cl A f cells slots Q pc lv (.ref a :: st) := by
  intro H locs ls hP hD hS hl
  exact va_castY X.1.1 X.1.2.1 X.1.2.2.2.1 (X.1.2.2.2.2 _ hlk) hc (va_recv X.2.1 (hP.one he) (ci := ci) (q0 := 0) hcl rfl) d (kk H locs ls hP hD hS hl)
theorem g_mmaxI {p : Program} {l : Launch} {e : Env} {R : Room} {s : State} {m : MethodId} {args : Array Value} {below : List Frame} {meth : Method} {c : Code} {cells slots : Nat} {Q : State → Prop} {cc : ByteArray} {pc nL : Nat} {D : va_G} {cl : List vw_C} {tys : List (ClassId × FieldType)} {A : Nat → Prop} {f : g_F} {lv : List (Nat × Value)} {st : List Value} {own : String} {ret : Option FieldType} {Z : (Nat → Prop) → State → Heap → Prop} (X : g_X p s m args meth c cc nL ret g_T own D cl tys A Z) {x y : Int32} {index : Nat} (hlk : Cond.methodLink own index y_MA_max ∈ g_T) (hRf : 1 ≤ R.frames) (hRl : (st.map fun v => v.category).sum + 13 ≤ R.locals) (hc : cells ≤ R.cells) (hs : slots ≤ R.slots) (d : decode cc pc = .ok (.invokestatic index, 3)) (kk : g_W p l e R s m args below meth c nL D cl A f cells slots Q (pc + 3) lv (.int (if x < y then y else x) :: st)) : g_W p l e R s m args below meth c nL D cl A f cells slots Q pc lv (.int y :: .int x :: st) := by
  intro H locs ls hP hD hS hl
  exact va_mmax X.1.1 X.1.2.1 (X.1.2.2.1.trans hl.1.symm) X.1.2.2.2.1 (X.1.2.2.2.2 _ hlk) (X.1.2.2.2.2 _ q_33) (X.1.2.2.2.2 _ q_2) (X.1.2.2.2.2 _ q_34) hRf hRl hc hs d (kk H locs ls hP hD hS hl)
theorem g_mminI {p : Program} {l : Launch} {e : Env} {R : Room} {s : State} {m : MethodId} {args : Array Value} {below : List Frame} {meth : Method} {c : Code} {cells slots : Nat} {Q : State → Prop} {cc : ByteArray} {pc nL : Nat} {D : va_G} {cl : List vw_C} {tys : List (ClassId × FieldType)} {A : Nat → Prop} {f : g_F} {lv : List (Nat × Value)} {st : List Value} {own : String} {ret : Option FieldType} {Z : (Nat → Prop) → State → Heap → Prop} (X : g_X p s m args meth c cc nL ret g_T own D cl tys A Z) {x y : Int32} {index : Nat} (hlk : Cond.methodLink own index y_MA_min ∈ g_T) (hRf : 1 ≤ R.frames) (hRl : (st.map fun v => v.category).sum + 13 ≤ R.locals) (hc : cells ≤ R.cells) (hs : slots ≤ R.slots) (d : decode cc pc = .ok (.invokestatic index, 3)) (kk : g_W p l e R s m args below meth c nL D cl A f cells slots Q (pc + 3) lv (.int (if y < x then y else x) :: st)) : g_W p l e R s m args below meth c nL D cl A f cells slots Q pc lv (.int y :: .int x :: st) := by
  intro H locs ls hP hD hS hl
  exact va_mmin X.1.1 X.1.2.1 (X.1.2.2.1.trans hl.1.symm) X.1.2.2.2.1 (X.1.2.2.2.2 _ hlk) (X.1.2.2.2.2 _ q_30) (X.1.2.2.2.2 _ q_2) (X.1.2.2.2.2 _ q_31) hRf hRl hc hs d (kk H locs ls hP hD hS hl)
/-- a list's cells: the array, its places, the objects in it -/
def al_R (cO : ClassId) (f : g_F) (q eD : Nat) (ca : Nat → Nat) (n cap : Nat) (mc : Int32) : Prop :=
  f q = some (.inr (0, [.ref eD, .int (nI n), .int mc])) ∧ n ≤ cap ∧ cap ≤ 40 ∧ (0 < n → ∃ g : Nat → Option Nat, f eD = some (.inl (cO, cap, .inr (.inr (.inr (.inr g))))) ∧ ∀ k, k < n → g k = some (ca k))
set_option maxHeartbeats 4000000 in
set_option maxRecDepth 100000 in
theorem c_AL_size {l : Launch} {D : va_G} {cI cZ cO cJ : ClassId} {eA : Nat} {f : g_F} {q eD : Nat} {ca : Nat → Nat} {n cap : Nat} {mc : Int32} (hR : al_R cO f q eD ca n cap mc) : g_C l y_AL_size b_AL_size 1 (some .int) { frames := 0, cells := 0, slots := 0, locals := 0 } D g_cl (g_tys cI cZ cO cJ) (z_Z eA) [.ref q] f (fun r f2 => r = some (.int (nI n)) ∧ f2 = f) (fun _ => False) := by
  refine g_ofW [(0, .ref q)] (by decide +kernel) (Nat.le_of_ble_eq_true rfl) rfl ?_
  intro p e s m args below meth c X ht hin
  obtain ⟨hQ, hn, hcap, hE⟩ := id hR
  refine g_aload_n X d_AL_size_0 0 rfl ?_
  refine g_get (ci := 0) (C := R_AL) (T := F_AL) (N := 3) (v := .int (nI n)) X i_AL rfl hQ 1 (by decide) q_50 (fun _ h9 => h9) rfl d_AL_size_1 ?_
  exact g_iret X rfl (⟨rfl, rfl⟩) (Nat.le_of_ble_eq_true rfl) (Nat.le_of_ble_eq_true rfl) d_AL_size_4
set_option maxHeartbeats 4000000 in
set_option maxRecDepth 100000 in
theorem c_PR_checkIndex {l : Launch} {D : va_G} {cI cZ cO cJ : ClassId} {eA : Nat} {f : g_F} {i n : Nat} (hi : i < n) (hn : n < 2 ^ 31) : g_C l y_PR_checkIndex b_PR_checkIndex 3 (some .int) { frames := 0, cells := 0, slots := 0, locals := 0 } D g_cl (g_tys cI cZ cO cJ) (z_Z eA) [.int (nI i), .int (nI n), .null] f (fun r f2 => r = some (.int (nI i)) ∧ f2 = f) (fun _ => False) := by
  refine g_ofW [(0, .int (nI i)), (1, .int (nI n)), (2, .null)] (by decide +kernel) (Nat.le_of_ble_eq_true rfl) rfl ?_
  intro p e s m args below meth c X ht hin
  refine g_iload_n X d_PR_checkIndex_0 0 rfl ?_
  refine g_if_lt X 9 d_PR_checkIndex_1 (by decide) (fun c1 => ?_) (fun c1 => ?_)
  · skip
    exact absurd c1 (nI_pos (by omega))
  · skip
    refine g_iload_n X d_PR_checkIndex_4 0 rfl ?_
    refine g_iload_n X d_PR_checkIndex_5 1 rfl ?_
    refine g_icmp_lt X 16 d_PR_checkIndex_6 (by decide) (fun c6 => ?_) (fun c6 => ?_)
    · skip
      refine g_iload_n X d_PR_checkIndex_16 0 rfl ?_
      exact g_iret X rfl (⟨rfl, rfl⟩) (Nat.le_of_ble_eq_true rfl) (Nat.le_of_ble_eq_true rfl) d_PR_checkIndex_17
    · skip
      exact absurd (nI_lt hi hn) c6
set_option maxHeartbeats 4000000 in
set_option maxRecDepth 100000 in
theorem c_OB_checkIndex {l : Launch} {D : va_G} {cI cZ cO cJ : ClassId} {eA : Nat} {f : g_F} {i n : Nat} (hi : i < n) (hn : n < 2 ^ 31) : g_C l y_OB_checkIndex b_OB_checkIndex 2 (some .int) { frames := 1, cells := 0, slots := 0, locals := 22 } D g_cl (g_tys cI cZ cO cJ) (z_Z eA) [.int (nI i), .int (nI n)] f (fun r f2 => r = some (.int (nI i)) ∧ f2 = f) (fun _ => False) := by
  refine g_ofW [(0, .int (nI i)), (1, .int (nI n))] (by decide +kernel) (Nat.le_of_ble_eq_true rfl) rfl ?_
  intro p e s m args below meth c X ht hin
  refine g_iload_n X d_OB_checkIndex_0 0 rfl ?_
  refine g_iload_n X d_OB_checkIndex_1 1 rfl ?_
  refine g_null X d_OB_checkIndex_2 ?_
  refine g_callS (As := [.int (nI i), .int (nI n), .null]) (rest := []) X (z_ok eA) (c_PR_checkIndex (f := f) hi hn) v_PR_checkIndex q_234 q_233 rfl rfl (Nat.le_of_ble_eq_true rfl) d_OB_checkIndex_3 ⟨(Nat.le_of_ble_eq_true rfl), (Nat.le_of_ble_eq_true rfl)⟩ ⟨(Nat.le_of_ble_eq_true rfl), (Nat.le_of_ble_eq_true rfl)⟩ (g_K.no (fun _ h => h)) (fun r_ f2_ hp => ?_)
  obtain ⟨rfl, hf_⟩ := hp
  subst f2_
  refine g_st (st2 := [.int (nI i)]) rfl ?_
  exact g_iret X rfl (⟨rfl, rfl⟩) (Nat.le_of_ble_eq_true rfl) (Nat.le_of_ble_eq_true rfl) d_OB_checkIndex_6
set_option maxHeartbeats 4000000 in
set_option maxRecDepth 100000 in
theorem c_AL_elementData {l : Launch} {D : va_G} {cI cZ cO cJ : ClassId} {eA : Nat} {f : g_F} {q eD : Nat} {ca : Nat → Nat} {n cap : Nat} {mc : Int32} (hR : al_R cO f q eD ca n cap mc) {i : Nat} (hi : i < n) : g_C l y_AL_elementData b_AL_elementData 2 (some (.object "java/lang/Object")) { frames := 0, cells := 0, slots := 0, locals := 0 } D g_cl (g_tys cI cZ cO cJ) (z_Z eA) [.ref q, .int (nI i)] f (fun r f2 => r = some (.ref (ca i)) ∧ f2 = f) (fun _ => False) := by
  refine g_ofW [(0, .ref q), (1, .int (nI i))] (by decide +kernel) (Nat.le_of_ble_eq_true rfl) rfl ?_
  intro p e s m args below meth c X ht hin
  obtain ⟨hQ, hn, hcap, hE⟩ := id hR
  obtain ⟨g, hE0, hg⟩ := hE (by omega)
  refine g_aload_n X d_AL_elementData_0 0 rfl ?_
  refine g_get (ci := 0) (C := R_AL) (T := F_AL) (N := 3) (v := .ref eD) X i_AL rfl hQ 0 (by decide) q_49 (fun _ h9 => h9) rfl d_AL_elementData_1 ?_
  refine g_iload_n X d_AL_elementData_4 1 rfl ?_
  refine g_aldq (t0 := 2) (v := .ref (ca i)) X hE0 rfl (nI_ix (by omega : i < cap) (by omega)) (by rw [nI_clamp (by omega), hg i hi]; rfl) d_AL_elementData_5 ?_
  exact g_aret X rfl (Or.inl ⟨_, rfl⟩) (Or.inr ⟨_, rfl⟩) (⟨rfl, rfl⟩) (Nat.le_of_ble_eq_true rfl) (Nat.le_of_ble_eq_true rfl) d_AL_elementData_6
set_option maxHeartbeats 4000000 in
set_option maxRecDepth 100000 in
theorem c_AL_get {l : Launch} {D : va_G} {cI cZ cO cJ : ClassId} {eA : Nat} {f : g_F} {q eD : Nat} {ca : Nat → Nat} {n cap : Nat} {mc : Int32} (hR : al_R cO f q eD ca n cap mc) {i : Nat} (hi : i < n) : g_C l y_AL_get b_AL_get 2 (some (.object "java/lang/Object")) { frames := 2, cells := 0, slots := 0, locals := 43 } D g_cl (g_tys cI cZ cO cJ) (z_Z eA) [.ref q, .int (nI i)] f (fun r f2 => r = some (.ref (ca i)) ∧ f2 = f) (fun _ => False) := by
  refine g_ofW [(0, .ref q), (1, .int (nI i))] (by decide +kernel) (Nat.le_of_ble_eq_true rfl) rfl ?_
  intro p e s m args below meth c X ht hin
  obtain ⟨hQ, hn, hcap, hE⟩ := id hR
  refine g_iload_n X d_AL_get_0 1 rfl ?_
  refine g_aload_n X d_AL_get_1 0 rfl ?_
  refine g_get (ci := 0) (C := R_AL) (T := F_AL) (N := 3) (v := .int (nI n)) X i_AL rfl hQ 1 (by decide) q_50 (fun _ h9 => h9) rfl d_AL_get_2 ?_
  refine g_callS (As := [.int (nI i), .int (nI n)]) (rest := []) X (z_ok eA) (c_OB_checkIndex (f := f) hi (by omega)) v_OB_checkIndex q_231 q_230 rfl rfl (Nat.le_of_ble_eq_true rfl) d_AL_get_5 ⟨(Nat.le_of_ble_eq_true rfl), (Nat.le_of_ble_eq_true rfl)⟩ ⟨(Nat.le_of_ble_eq_true rfl), (Nat.le_of_ble_eq_true rfl)⟩ (g_K.no (fun _ h => h)) (fun r_ f2_ hp => ?_)
  obtain ⟨rfl, hf_⟩ := hp
  subst f2_
  refine g_st (st2 := [.int (nI i)]) rfl ?_
  refine g_pop X d_AL_get_8 rfl ?_
  refine g_aload_n X d_AL_get_9 0 rfl ?_
  refine g_iload_n X d_AL_get_10 1 rfl ?_
  refine g_callV (ci := 0) (As := [.int (nI i)]) (rest := []) X (z_ok eA) rfl rfl hQ (c_AL_elementData hR hi) v_AL_elementData q_237 q_238 q_236 rfl rfl (Nat.le_of_ble_eq_true rfl) d_AL_get_11 ⟨(Nat.le_of_ble_eq_true rfl), (Nat.le_of_ble_eq_true rfl)⟩ ⟨(Nat.le_of_ble_eq_true rfl), (Nat.le_of_ble_eq_true rfl)⟩ (g_K.no (fun _ h => h)) (fun r_ f2_ hp => ?_)
  obtain ⟨rfl, hf_⟩ := hp
  subst f2_
  refine g_st (st2 := [.ref (ca i)]) rfl ?_
  exact g_aret X rfl (Or.inl ⟨_, rfl⟩) (Or.inr ⟨_, rfl⟩) (⟨rfl, rfl⟩) (Nat.le_of_ble_eq_true rfl) (Nat.le_of_ble_eq_true rfl) d_AL_get_14
end
section
/-- the system's cells. ad: 0 the object, 1 the list, 2 its array, 3 the touch log, 4 5 its arrays, 6 the tours, 7 .. 11 their arrays, 12 the plan; case k: 13 + 4 k, its arrays behind it -/
def cl_R (cI cZ cO : ClassId) (f : g_F) (ad : Nat → Nat) (L nc : Nat) (pt ot : Nat → Int32) (per dy : Nat → Nat → Nat) (gd : Nat → Nat → Bool) (ct : Nat → Nat) (td ts : Nat → Nat) (tn : Nat) (P Du S Wy Re : Nat → Nat) (n : Nat) (O : Nat → Nat) (pl ps cap : Nat) (mc : Int32) : Prop :=
  f (ad 0) = some (.inr (3, [.int (nI L), .ref (ad 1), .ref (ad 3), .ref (ad 6), .ref (ad 12), .int (nI pl), .int (nI ps)])) ∧ al_R cO f (ad 1) (ad 2) (fun k => ad (13 + 4 * k)) nc cap mc ∧ tl_R cI f (ad 3) (fun i => ad (4 + i)) td ts tn ∧ tu_R cI f (ad 6) (fun i => ad (7 + i)) P Du S Wy Re n ∧ f (ad 12) = some (.inl (cI, 8, .inl (fun q9 => nI (O q9)))) ∧
  (∀ k, k < nc → cs_R cI cZ f (ad (13 + 4 * k)) (ad (14 + 4 * k)) (ad (15 + 4 * k)) (ad (16 + 4 * k)) (pt k) (ot k) (per k) (dy k) (gd k) (ct k))
/-- what the numbers keep to -/
def cl_B (L nc : Nat) (per dy : Nat → Nat → Nat) (ct : Nat → Nat) (td ts : Nat → Nat) (tn : Nat) (P Du S Wy Re : Nat → Nat) (n : Nat) (O : Nat → Nat) (pl ps : Nat) : Prop :=
  (1 ≤ L ∧ L ≤ 5000) ∧ nc ≤ 24 ∧ (∀ k, cs_B (per k) (dy k) (ct k)) ∧ tl_B td ts tn ∧ tu_B P Du S Wy n ∧ (∀ i, Re i ≤ 2 ^ 28) ∧ (pl ≤ 8 ∧ (∀ i, O i < 8) ∧ ps ≤ 160000)
/-- the first day whose results count on a day -/
def fcd (dd L lt : Nat) : Int32 := if nI dd - nI L < nI lt then nI lt else nI dd - nI L
/-- how many of the first persons say v -/
def cnw (w : Nat → Int32) (v : Int32) : Nat → Nat
  | 0 => 0
  | i + 1 => if w i = v then cnw w v i + 1 else cnw w v i
theorem cnw_le (w : Nat → Int32) (v : Int32) : ∀ i, cnw w v i ≤ i
  | 0 => Nat.le_refl _
  | i + 1 => by
    unfold cnw
    have := cnw_le w v i
    split <;> omega
/-- the state by the numbers of good and bad words -/
def stv (g b : Nat) : Nat := if 0 < b then (if 0 < g then 2 else 1) else if 2 ≤ g then 3 else 0
/-- a person's word, a case's state on a day -/
abbrev wrd (L : Nat) (per dy : Nat → Nat → Nat) (gd : Nat → Nat → Bool) (ct : Nat → Nat) (td ts : Nat → Nat) (tn k dd pe : Nat) : Int32 := (wd (per k) (dy k) (gd k) pe (fcd dd L (ltst td ts k dd tn)) dd (ct k)).2
def sta (L : Nat) (per dy : Nat → Nat → Nat) (gd : Nat → Nat → Bool) (ct : Nat → Nat) (td ts : Nat → Nat) (tn k dd : Nat) : Nat := stv (cnw (wrd L per dy gd ct td ts tn k dd) 1 10) (cnw (wrd L per dy gd ct td ts tn k dd) 0 10)
/-- the cases below a number with a property, as a set -/
def bset (p : Nat → Bool) : Nat → Nat
  | 0 => 0
  | i + 1 => if p i then bset p i ||| 2 ^ i else bset p i
theorem bset_lt (p : Nat → Bool) : ∀ i, bset p i < 2 ^ i
  | 0 => (by decide : 0 < 2 ^ 0)
  | i + 1 => by
    unfold bset
    have h := bset_lt p i
    have h2 : bset p i < 2 ^ (i + 1) := Nat.lt_trans h (Nat.pow_lt_pow_right (by decide) (by omega))
    split
    · exact or_lt h2 (Nat.pow_lt_pow_right (by decide) (by omega))
    · exact h2
theorem bset_lt31 (p : Nat → Bool) {i : Nat} (h : i ≤ 24) : bset p i < 2 ^ 24 := Nat.lt_of_lt_of_le (bset_lt p i) (Nat.pow_le_pow_right (by decide) h)
set_option maxHeartbeats 4000000 in
set_option maxRecDepth 100000 in
theorem L_CL_caseOf {p : Program} {l : Launch} {e : Env} {s : State} {m : MethodId} {args : Array Value} {below : List Frame} {meth : Method} {c : Code} {Q : State → Prop} {A : Nat → Prop} {D : va_G} {cI cZ cO cJ : ClassId} {eA : Nat} {f : g_F} {ad : Nat → Nat} {L nc : Nat} {pt ot : Nat → Int32} {per dy : Nat → Nat → Nat} {gd : Nat → Nat → Bool} {ct : Nat → Nat} {td ts : Nat → Nat} {tn : Nat} {P Du S Wy Re : Nat → Nat} {n : Nat} {O : Nat → Nat} {pl ps cap : Nat} {mc : Int32} (hR : cl_R cI cZ cO f ad L nc pt ot per dy gd ct td ts tn P Du S Wy Re n O pl ps cap mc) (hB : cl_B L nc per dy ct td ts tn P Du S Wy Re n O pl ps) {x y : Int32} (X : g_X p s m args meth c b_CL_caseOf 4 (some .int) g_T y_CL_caseOf.cls D g_cl (g_tys cI cZ cO cJ) A (z_Z eA)) (k40 : (∀ j, j < nc → ¬ ((pt j = x ∧ ot j = y) ∨ (pt j = y ∧ ot j = x))) → g_W p l e { frames := 3, cells := 0, slots := 0, locals := 64 } s m args below meth c 4 D g_cl A f 0 0 Q 40 [(3, .int (nI nc)), (0, .ref (ad 0)), (1, .int x), (2, .int y)] []) (k32 : ∀ i, i < nc → (∀ j, j < i → ¬ ((pt j = x ∧ ot j = y) ∨ (pt j = y ∧ ot j = x))) → ((pt i = x ∧ ot i = y) ∨ (pt i = y ∧ ot i = x)) → g_W p l e { frames := 3, cells := 0, slots := 0, locals := 64 } s m args below meth c 4 D g_cl A f 0 0 Q 32 [(3, .int (nI i)), (0, .ref (ad 0)), (1, .int x), (2, .int y)] []) : ∀ (d : Nat) (i : Nat), (i + d = nc) → (∀ j, j < i → ¬ ((pt j = x ∧ ot j = y) ∨ (pt j = y ∧ ot j = x))) → g_W p l e { frames := 3, cells := 0, slots := 0, locals := 64 } s m args below meth c 4 D g_cl A f 0 0 Q 2 [(3, .int (nI i)), (0, .ref (ad 0)), (1, .int x), (2, .int y)] [] := by
  obtain ⟨hO0, hAL, hTL, hTU, hPL, hCS⟩ := id hR
  obtain ⟨⟨hL1, hL5⟩, hnc, hCB, hTB, hUB, hRe, hpl8, hO8, hps⟩ := id hB
  obtain ⟨hQ, hn, hcap, hE⟩ := id hAL
  have hG := hTL.1
  have hT := hTU.1
  intro d
  induction d using Nat.strongRecOn with
  | _ d ih =>
    intro i hi hj
    refine g_iload_n X d_CL_caseOf_2 0 rfl ?_
    refine g_aload_n X d_CL_caseOf_3 1 rfl ?_
    refine g_get (ci := 3) (C := R_CL) (T := F_CL) (N := 7) (v := .ref (ad 1)) X i_CL rfl hO0 1 (by decide) q_104 (fun _ h9 => h9) rfl d_CL_caseOf_4 ?_
    refine g_callV (ci := 0) (As := []) (rest := [.int (nI i)]) X (z_ok eA) rfl rfl hQ (c_AL_size hAL) v_AL_size q_223 q_224 q_222 rfl rfl (Nat.le_of_ble_eq_true rfl) d_CL_caseOf_7 ⟨(Nat.le_of_ble_eq_true rfl), (Nat.le_of_ble_eq_true rfl)⟩ ⟨(Nat.le_of_ble_eq_true rfl), (Nat.le_of_ble_eq_true rfl)⟩ (g_K.no (fun _ h => h)) (fun r_ f2_ hp => ?_)
    obtain ⟨rfl, hf_⟩ := hp
    subst f2_
    refine g_st (st2 := [.int (nI nc), .int (nI i)]) rfl ?_
    refine g_icmp_ge X 40 d_CL_caseOf_10 (by decide) (fun c10 => ?_) (fun c10 => ?_)
    · skip
      have e : i = nc := by have := (nI_leI (by omega) (by omega)).mp c10; omega
      subst e
      exact k40 hj
    · skip
      have hlt : i < nc := Nat.lt_of_not_le (fun z => c10 ((nI_leI (by omega) (by omega)).mpr z))
      refine g_aload_n X d_CL_caseOf_13 1 rfl ?_
      refine g_get (ci := 3) (C := R_CL) (T := F_CL) (N := 7) (v := .ref (ad 1)) X i_CL rfl hO0 1 (by decide) q_104 (fun _ h9 => h9) rfl d_CL_caseOf_14 ?_
      refine g_iload_n X d_CL_caseOf_17 0 rfl ?_
      refine g_callV (ci := 0) (As := [.int (nI i)]) (rest := []) X (z_ok eA) rfl rfl hQ (c_AL_get hAL (i := i) (hlt)) v_AL_get q_227 q_228 q_226 rfl rfl (Nat.le_of_ble_eq_true rfl) d_CL_caseOf_18 ⟨(Nat.le_of_ble_eq_true rfl), (Nat.le_of_ble_eq_true rfl)⟩ ⟨(Nat.le_of_ble_eq_true rfl), (Nat.le_of_ble_eq_true rfl)⟩ (g_K.no (fun _ h => h)) (fun r_ f2_ hp => ?_)
      obtain ⟨rfl, hf_⟩ := hp
      subst f2_
      refine g_st (st2 := [.ref (ad (13 + 4 * i))]) rfl ?_
      have hcs := hCS i (hlt)
      have hcq := hcs.1
      refine g_cast (ci := 4) (nm := "CaseLists$Case") X q_240 rfl X.2.2.2.2.2.2.2.2.1.1 hcq d_CL_caseOf_21 ?_
      refine g_iload_n X d_CL_caseOf_24 2 rfl ?_
      refine g_iload_n X d_CL_caseOf_25 3 rfl ?_
      refine g_callV (ci := 4) (As := [.int x, .int y]) (rest := []) X (z_ok eA) rfl rfl hcq (c_CS_isOf hcs (hCB i) (x := x) (y := y)) v_CS_isOf q_242 q_243 q_241 rfl rfl (Nat.le_of_ble_eq_true rfl) d_CL_caseOf_26 ⟨(Nat.le_of_ble_eq_true rfl), (Nat.le_of_ble_eq_true rfl)⟩ ⟨(Nat.le_of_ble_eq_true rfl), (Nat.le_of_ble_eq_true rfl)⟩ (g_K.no (fun _ h => h)) (fun r_ f2_ hp => ?_)
      obtain ⟨rfl, hf_⟩ := hp
      subst f2_
      refine g_st (st2 := [.int (bI (decide ((pt i = x ∧ ot i = y) ∨ (pt i = y ∧ ot i = x))))]) rfl ?_
      refine g_if_eq X 34 d_CL_caseOf_29 (by decide) (fun c29 => ?_) (fun c29 => ?_)
      · skip
        have hne : ¬ ((pt i = x ∧ ot i = y) ∨ (pt i = y ∧ ot i = x)) := of_decide_eq_false (bI_z.mp c29)
        refine g_iinc (lv' := [(3, .int (nI (i + 1))), (0, .ref (ad 0)), (1, .int x), (2, .int y)]) X d_CL_caseOf_34 0 rfl (nI_1 i) (by decide) rfl ?_
        refine g_goto X 2 d_CL_caseOf_37 (by decide) ?_
        exact ih (d - 1) (by omega) (i + 1) (by omega) (fun j h9 => by
          by_cases e : j = i
          · rw [e]; exact hne
          · exact hj j (by omega))
      · skip
        have heq : (pt i = x ∧ ot i = y) ∨ (pt i = y ∧ ot i = x) := of_decide_eq_true (bt_nf (fun z => c29 (bI_z.mpr z)))
        exact k32 i hlt hj heq
set_option maxHeartbeats 4000000 in
set_option maxRecDepth 100000 in
theorem c_CL_caseOf {l : Launch} {D : va_G} {cI cZ cO cJ : ClassId} {eA : Nat} {f : g_F} {ad : Nat → Nat} {L nc : Nat} {pt ot : Nat → Int32} {per dy : Nat → Nat → Nat} {gd : Nat → Nat → Bool} {ct : Nat → Nat} {td ts : Nat → Nat} {tn : Nat} {P Du S Wy Re : Nat → Nat} {n : Nat} {O : Nat → Nat} {pl ps cap : Nat} {mc : Int32} (hR : cl_R cI cZ cO f ad L nc pt ot per dy gd ct td ts tn P Du S Wy Re n O pl ps cap mc) (hB : cl_B L nc per dy ct td ts tn P Du S Wy Re n O pl ps) {x y : Int32} : g_C l y_CL_caseOf b_CL_caseOf 4 (some .int) { frames := 3, cells := 0, slots := 0, locals := 64 } D g_cl (g_tys cI cZ cO cJ) (z_Z eA) [.ref (ad 0), .int x, .int y] f (fun r f2 => (((∀ j, j < nc → ¬ ((pt j = x ∧ ot j = y) ∨ (pt j = y ∧ ot j = x))) ∧ r = some (.int (-1))) ∨ ∃ i, i < nc ∧ (∀ j, j < i → ¬ ((pt j = x ∧ ot j = y) ∨ (pt j = y ∧ ot j = x))) ∧ ((pt i = x ∧ ot i = y) ∨ (pt i = y ∧ ot i = x)) ∧ r = some (.int (nI i))) ∧ f2 = f) (fun _ => False) := by
  refine g_ofW [(0, .ref (ad 0)), (1, .int x), (2, .int y)] (by decide +kernel) (Nat.le_of_ble_eq_true rfl) rfl ?_
  intro p e s m args below meth c X ht hin
  obtain ⟨hO0, hAL, hTL, hTU, hPL, hCS⟩ := id hR
  obtain ⟨⟨hL1, hL5⟩, hnc, hCB, hTB, hUB, hRe, hpl8, hO8, hps⟩ := id hB
  obtain ⟨hQ, hn, hcap, hE⟩ := id hAL
  have hG := hTL.1
  have hT := hTU.1
  refine g_iconst (v := 0) X d_CL_caseOf_0 (by decide) ?_
  refine g_istore_n (lv' := [(3, .int 0), (0, .ref (ad 0)), (1, .int x), (2, .int y)]) X d_CL_caseOf_1 rfl (by decide) rfl ?_
  refine L_CL_caseOf hR hB X ?_ ?_ nc 0 (by omega) (fun j h => absurd h (by omega))
  · intro hj
    refine g_iconst (v := (-1)) X d_CL_caseOf_40 (by decide) ?_
    exact g_iret X rfl (⟨Or.inl ⟨hj, rfl⟩, rfl⟩) (Nat.le_of_ble_eq_true rfl) (Nat.le_of_ble_eq_true rfl) d_CL_caseOf_41
  · intro i hi hj h3
    refine g_iload_n X d_CL_caseOf_32 0 rfl ?_
    exact g_iret X rfl (⟨Or.inr ⟨i, hi, hj, h3, rfl⟩, rfl⟩) (Nat.le_of_ble_eq_true rfl) (Nat.le_of_ble_eq_true rfl) d_CL_caseOf_33
set_option maxHeartbeats 4000000 in
set_option maxRecDepth 100000 in
theorem L_CL_casesWith {p : Program} {l : Launch} {e : Env} {s : State} {m : MethodId} {args : Array Value} {below : List Frame} {meth : Method} {c : Code} {Q : State → Prop} {A : Nat → Prop} {D : va_G} {cI cZ cO cJ : ClassId} {eA : Nat} {f : g_F} {ad : Nat → Nat} {L nc : Nat} {pt ot : Nat → Int32} {per dy : Nat → Nat → Nat} {gd : Nat → Nat → Bool} {ct : Nat → Nat} {td ts : Nat → Nat} {tn : Nat} {P Du S Wy Re : Nat → Nat} {n : Nat} {O : Nat → Nat} {pl ps cap : Nat} {mc : Int32} (hR : cl_R cI cZ cO f ad L nc pt ot per dy gd ct td ts tn P Du S Wy Re n O pl ps cap mc) (hB : cl_B L nc per dy ct td ts tn P Du S Wy Re n O pl ps) {x : Int32} (X : g_X p s m args meth c b_CL_casesWith 4 (some .int) g_T y_CL_casesWith.cls D g_cl (g_tys cI cZ cO cJ) A (z_Z eA)) (kk : g_W p l e { frames := 3, cells := 0, slots := 0, locals := 64 } s m args below meth c 4 D g_cl A f 0 0 Q 45 [(3, .int (nI nc)), (2, .int (nI (bset (fun k => decide (pt k = x ∨ ot k = x)) nc))), (0, .ref (ad 0)), (1, .int x)] []) : ∀ (d : Nat) (i : Nat), (i + d = nc) → g_W p l e { frames := 3, cells := 0, slots := 0, locals := 64 } s m args below meth c 4 D g_cl A f 0 0 Q 4 [(3, .int (nI i)), (2, .int (nI (bset (fun k => decide (pt k = x ∨ ot k = x)) i))), (0, .ref (ad 0)), (1, .int x)] [] := by
  obtain ⟨hO0, hAL, hTL, hTU, hPL, hCS⟩ := id hR
  obtain ⟨⟨hL1, hL5⟩, hnc, hCB, hTB, hUB, hRe, hpl8, hO8, hps⟩ := id hB
  obtain ⟨hQ, hn, hcap, hE⟩ := id hAL
  have hG := hTL.1
  have hT := hTU.1
  intro d
  induction d using Nat.strongRecOn with
  | _ d ih =>
    intro i hi
    refine g_iload_n X d_CL_casesWith_4 0 rfl ?_
    refine g_aload_n X d_CL_casesWith_5 2 rfl ?_
    refine g_get (ci := 3) (C := R_CL) (T := F_CL) (N := 7) (v := .ref (ad 1)) X i_CL rfl hO0 1 (by decide) q_104 (fun _ h9 => h9) rfl d_CL_casesWith_6 ?_
    refine g_callV (ci := 0) (As := []) (rest := [.int (nI i)]) X (z_ok eA) rfl rfl hQ (c_AL_size hAL) v_AL_size q_223 q_224 q_222 rfl rfl (Nat.le_of_ble_eq_true rfl) d_CL_casesWith_9 ⟨(Nat.le_of_ble_eq_true rfl), (Nat.le_of_ble_eq_true rfl)⟩ ⟨(Nat.le_of_ble_eq_true rfl), (Nat.le_of_ble_eq_true rfl)⟩ (g_K.no (fun _ h => h)) (fun r_ f2_ hp => ?_)
    obtain ⟨rfl, hf_⟩ := hp
    subst f2_
    refine g_st (st2 := [.int (nI nc), .int (nI i)]) rfl ?_
    refine g_icmp_ge X 45 d_CL_casesWith_12 (by decide) (fun c12 => ?_) (fun c12 => ?_)
    · skip
      have e : i = nc := by have := (nI_leI (by omega) (by omega)).mp c12; omega
      subst e
      exact kk
    · skip
      have hlt : i < nc := Nat.lt_of_not_le (fun z => c12 ((nI_leI (by omega) (by omega)).mpr z))
      refine g_aload_n X d_CL_casesWith_15 2 rfl ?_
      refine g_get (ci := 3) (C := R_CL) (T := F_CL) (N := 7) (v := .ref (ad 1)) X i_CL rfl hO0 1 (by decide) q_104 (fun _ h9 => h9) rfl d_CL_casesWith_16 ?_
      refine g_iload_n X d_CL_casesWith_19 0 rfl ?_
      refine g_callV (ci := 0) (As := [.int (nI i)]) (rest := []) X (z_ok eA) rfl rfl hQ (c_AL_get hAL (i := i) (hlt)) v_AL_get q_227 q_228 q_226 rfl rfl (Nat.le_of_ble_eq_true rfl) d_CL_casesWith_20 ⟨(Nat.le_of_ble_eq_true rfl), (Nat.le_of_ble_eq_true rfl)⟩ ⟨(Nat.le_of_ble_eq_true rfl), (Nat.le_of_ble_eq_true rfl)⟩ (g_K.no (fun _ h => h)) (fun r_ f2_ hp => ?_)
      obtain ⟨rfl, hf_⟩ := hp
      subst f2_
      refine g_st (st2 := [.ref (ad (13 + 4 * i))]) rfl ?_
      have hcs := hCS i (hlt)
      have hcq := hcs.1
      refine g_cast (ci := 4) (nm := "CaseLists$Case") X q_240 rfl X.2.2.2.2.2.2.2.2.1.1 hcq d_CL_casesWith_23 ?_
      refine g_iload_n X d_CL_casesWith_26 3 rfl ?_
      refine g_callV (ci := 4) (As := [.int x]) (rest := []) X (z_ok eA) rfl rfl hcq (c_CS_has hcs (hCB i) (x := x)) v_CS_has q_396 q_397 q_395 rfl rfl (Nat.le_of_ble_eq_true rfl) d_CL_casesWith_27 ⟨(Nat.le_of_ble_eq_true rfl), (Nat.le_of_ble_eq_true rfl)⟩ ⟨(Nat.le_of_ble_eq_true rfl), (Nat.le_of_ble_eq_true rfl)⟩ (g_K.no (fun _ h => h)) (fun r_ f2_ hp => ?_)
      obtain ⟨rfl, hf_⟩ := hp
      subst f2_
      refine g_st (st2 := [.int (bI (decide (pt i = x ∨ ot i = x)))]) rfl ?_
      refine g_if_eq X 39 d_CL_casesWith_30 (by decide) (fun c30 => ?_) (fun c30 => ?_)
      · skip
        have e : bset (fun k => decide (pt k = x ∨ ot k = x)) (i + 1) = bset (fun k => decide (pt k = x ∨ ot k = x)) i := if_neg (fun z => absurd ((bI_z.mp c30).symm.trans (show decide (pt i = x ∨ ot i = x) = true from z)) (by decide))
        refine g_iinc (lv' := [(3, .int (nI (i + 1))), (2, .int (nI (bset (fun k => decide (pt k = x ∨ ot k = x)) i))), (0, .ref (ad 0)), (1, .int x)]) X d_CL_casesWith_39 0 rfl (nI_1 i) (by decide) rfl ?_
        refine g_goto X 4 d_CL_casesWith_42 (by decide) ?_
        rw [← e]
        exact g_lv [0, 1, 2, 3] rfl (ih (d - 1) (by omega) (i + 1) (by omega))
      · skip
        have e : bset (fun k => decide (pt k = x ∨ ot k = x)) (i + 1) = bset (fun k => decide (pt k = x ∨ ot k = x)) i ||| 2 ^ i := if_pos (bt_nf (fun z => c30 (bI_z.mpr z)))
        refine g_iload_n X d_CL_casesWith_33 1 rfl ?_
        refine g_iconst (v := 1) X d_CL_casesWith_34 (by decide) ?_
        refine g_iload_n X d_CL_casesWith_35 0 rfl ?_
        refine g_ishl X d_CL_casesWith_36 ?_
        refine g_eqi (y := nI (2 ^ i)) (nI_bit (by omega)) ?_
        refine g_ior X d_CL_casesWith_37 ?_
        refine g_eqi (y := nI (bset (fun k => decide (pt k = x ∨ ot k = x)) i ||| 2 ^ i)) (nI_or _ _) ?_
        refine g_istore_n (lv' := [(2, .int (nI (bset (fun k => decide (pt k = x ∨ ot k = x)) i ||| 2 ^ i))), (3, .int (nI i)), (0, .ref (ad 0)), (1, .int x)]) X d_CL_casesWith_38 rfl (by decide) rfl ?_
        refine g_iinc (lv' := [(3, .int (nI (i + 1))), (2, .int (nI (bset (fun k => decide (pt k = x ∨ ot k = x)) i ||| 2 ^ i))), (0, .ref (ad 0)), (1, .int x)]) X d_CL_casesWith_39 1 rfl (nI_1 i) (by decide) rfl ?_
        refine g_goto X 4 d_CL_casesWith_42 (by decide) ?_
        rw [← e]
        exact g_lv [0, 1, 2, 3] rfl (ih (d - 1) (by omega) (i + 1) (by omega))
set_option maxHeartbeats 4000000 in
set_option maxRecDepth 100000 in
theorem c_CL_casesWith {l : Launch} {D : va_G} {cI cZ cO cJ : ClassId} {eA : Nat} {f : g_F} {ad : Nat → Nat} {L nc : Nat} {pt ot : Nat → Int32} {per dy : Nat → Nat → Nat} {gd : Nat → Nat → Bool} {ct : Nat → Nat} {td ts : Nat → Nat} {tn : Nat} {P Du S Wy Re : Nat → Nat} {n : Nat} {O : Nat → Nat} {pl ps cap : Nat} {mc : Int32} (hR : cl_R cI cZ cO f ad L nc pt ot per dy gd ct td ts tn P Du S Wy Re n O pl ps cap mc) (hB : cl_B L nc per dy ct td ts tn P Du S Wy Re n O pl ps) {x : Int32} : g_C l y_CL_casesWith b_CL_casesWith 4 (some .int) { frames := 3, cells := 0, slots := 0, locals := 64 } D g_cl (g_tys cI cZ cO cJ) (z_Z eA) [.ref (ad 0), .int x] f (fun r f2 => r = some (.int (nI (bset (fun k => decide (pt k = x ∨ ot k = x)) nc))) ∧ f2 = f) (fun _ => False) := by
  refine g_ofW [(0, .ref (ad 0)), (1, .int x)] (by decide +kernel) (Nat.le_of_ble_eq_true rfl) rfl ?_
  intro p e s m args below meth c X ht hin
  obtain ⟨hO0, hAL, hTL, hTU, hPL, hCS⟩ := id hR
  obtain ⟨⟨hL1, hL5⟩, hnc, hCB, hTB, hUB, hRe, hpl8, hO8, hps⟩ := id hB
  obtain ⟨hQ, hn, hcap, hE⟩ := id hAL
  have hG := hTL.1
  have hT := hTU.1
  refine g_iconst (v := 0) X d_CL_casesWith_0 (by decide) ?_
  refine g_istore_n (lv' := [(2, .int 0), (0, .ref (ad 0)), (1, .int x)]) X d_CL_casesWith_1 rfl (by decide) rfl ?_
  refine g_iconst (v := 0) X d_CL_casesWith_2 (by decide) ?_
  refine g_istore_n (lv' := [(3, .int 0), (2, .int 0), (0, .ref (ad 0)), (1, .int x)]) X d_CL_casesWith_3 rfl (by decide) rfl ?_
  refine L_CL_casesWith hR hB X ?_ nc 0 (by omega)
  exact g_iload_n X d_CL_casesWith_45 1 rfl (g_iret X rfl ⟨rfl, rfl⟩ (Nat.le_of_ble_eq_true rfl) (Nat.le_of_ble_eq_true rfl) d_CL_casesWith_46)
theorem fI_1 (x : Nat) : fI x + 1 = nI x := by
  show nI x - 1 + 1 = nI x
  exact Int32.sub_add_cancel _ _
set_option maxHeartbeats 4000000 in
set_option maxRecDepth 100000 in
theorem c_CL_firstCountingDay {l : Launch} {D : va_G} {cI cZ cO cJ : ClassId} {eA : Nat} {f : g_F} {ad : Nat → Nat} {L nc : Nat} {pt ot : Nat → Int32} {per dy : Nat → Nat → Nat} {gd : Nat → Nat → Bool} {ct : Nat → Nat} {td ts : Nat → Nat} {tn : Nat} {P Du S Wy Re : Nat → Nat} {n : Nat} {O : Nat → Nat} {pl ps cap : Nat} {mc : Int32} (hR : cl_R cI cZ cO f ad L nc pt ot per dy gd ct td ts tn P Du S Wy Re n O pl ps cap mc) (hB : cl_B L nc per dy ct td ts tn P Du S Wy Re n O pl ps) {k dd : Nat} (hk : k < nc) (hdd : dd < 2 ^ 30) : g_C l y_CL_firstCountingDay b_CL_firstCountingDay 3 (some .int) { frames := 2, cells := 0, slots := 0, locals := 45 } D g_cl (g_tys cI cZ cO cJ) (z_Z eA) [.ref (ad 0), .int (nI k), .int (nI dd)] f (fun r f2 => r = some (.int (fcd dd L (ltst td ts k dd tn))) ∧ f2 = f) (fun _ => False) := by
  refine g_ofW [(0, .ref (ad 0)), (1, .int (nI k)), (2, .int (nI dd))] (by decide +kernel) (Nat.le_of_ble_eq_true rfl) rfl ?_
  intro p e s m args below meth c X ht hin
  obtain ⟨hO0, hAL, hTL, hTU, hPL, hCS⟩ := id hR
  obtain ⟨⟨hL1, hL5⟩, hnc, hCB, hTB, hUB, hRe, hpl8, hO8, hps⟩ := id hB
  obtain ⟨hQ, hn, hcap, hE⟩ := id hAL
  have hG := hTL.1
  have hT := hTU.1
  refine g_iload_n X d_CL_firstCountingDay_0 2 rfl ?_
  refine g_aload_n X d_CL_firstCountingDay_1 0 rfl ?_
  refine g_get (ci := 3) (C := R_CL) (T := F_CL) (N := 7) (v := .int (nI L)) X i_CL rfl hO0 0 (by decide) q_103 (fun _ h9 => h9) rfl d_CL_firstCountingDay_2 ?_
  refine g_isub X d_CL_firstCountingDay_5 ?_
  refine g_aload_n X d_CL_firstCountingDay_6 0 rfl ?_
  refine g_get (ci := 3) (C := R_CL) (T := F_CL) (N := 7) (v := .ref (ad 3)) X i_CL rfl hO0 2 (by decide) q_105 (fun _ h9 => h9) rfl d_CL_firstCountingDay_7 ?_
  refine g_iload_n X d_CL_firstCountingDay_10 1 rfl ?_
  refine g_iload_n X d_CL_firstCountingDay_11 2 rfl ?_
  refine g_callV (ci := 1) (As := [.int (nI k), .int (nI dd)]) (rest := [.int ((nI dd) - (nI L))]) X (z_ok eA) rfl rfl hG (c_TL_latest hTL hTB (k := k) (dd := dd) (by omega) hdd) v_TL_latest q_449 q_450 q_448 rfl rfl (Nat.le_of_ble_eq_true rfl) d_CL_firstCountingDay_12 ⟨(Nat.le_of_ble_eq_true rfl), (Nat.le_of_ble_eq_true rfl)⟩ ⟨(Nat.le_of_ble_eq_true rfl), (Nat.le_of_ble_eq_true rfl)⟩ (g_K.no (fun _ h => h)) (fun r_ f2_ hp => ?_)
  obtain ⟨rfl, hf_⟩ := hp
  subst f2_
  refine g_st (st2 := [.int (fI (ltst td ts k dd tn)), .int ((nI dd) - (nI L))]) rfl ?_
  refine g_iconst (v := 1) X d_CL_firstCountingDay_15 (by decide) ?_
  refine g_iadd X d_CL_firstCountingDay_16 ?_
  refine g_eqi (y := nI (ltst td ts k dd tn)) (fI_1 _) ?_
  refine g_mmaxI X q_32 (Nat.le_of_ble_eq_true rfl) (Nat.le_of_ble_eq_true rfl) (Nat.le_of_ble_eq_true rfl) (Nat.le_of_ble_eq_true rfl) d_CL_firstCountingDay_17 ?_
  exact g_iret X rfl (⟨rfl, rfl⟩) (Nat.le_of_ble_eq_true rfl) (Nat.le_of_ble_eq_true rfl) d_CL_firstCountingDay_20
set_option maxHeartbeats 4000000 in
set_option maxRecDepth 100000 in
theorem L_CL_stateOn {p : Program} {l : Launch} {e : Env} {s : State} {m : MethodId} {args : Array Value} {below : List Frame} {meth : Method} {c : Code} {Q : State → Prop} {A : Nat → Prop} {D : va_G} {cI cZ cO cJ : ClassId} {eA : Nat} {f : g_F} {ad : Nat → Nat} {L nc : Nat} {pt ot : Nat → Int32} {per dy : Nat → Nat → Nat} {gd : Nat → Nat → Bool} {ct : Nat → Nat} {td ts : Nat → Nat} {tn : Nat} {P Du S Wy Re : Nat → Nat} {n : Nat} {O : Nat → Nat} {pl ps cap : Nat} {mc : Int32} (hR : cl_R cI cZ cO f ad L nc pt ot per dy gd ct td ts tn P Du S Wy Re n O pl ps cap mc) (hB : cl_B L nc per dy ct td ts tn P Du S Wy Re n O pl ps) {k dd : Nat} (hk : k < nc) (hdd : dd < 2 ^ 30) (X : g_X p s m args meth c b_CL_stateOn 9 (some .int) g_T y_CL_stateOn.cls D g_cl (g_tys cI cZ cO cJ) A (z_Z eA)) (kk : g_W p l e { frames := 3, cells := 0, slots := 0, locals := 67 } s m args below meth c 9 D g_cl A f 0 0 Q 73 [(7, .int (nI 10)), (6, .int (nI (cnw (wrd L per dy gd ct td ts tn k dd) 0 10))), (5, .int (nI (cnw (wrd L per dy gd ct td ts tn k dd) 1 10))), (4, .int (fcd dd L (ltst td ts k dd tn))), (3, .ref (ad (13 + 4 * k))), (0, .ref (ad 0)), (1, .int (nI k)), (2, .int (nI dd))] []) : ∀ (d : Nat) (i : Nat), (i + d = 10) → g_W p l e { frames := 3, cells := 0, slots := 0, locals := 67 } s m args below meth c 9 D g_cl A f 0 0 Q 29 [(7, .int (nI i)), (6, .int (nI (cnw (wrd L per dy gd ct td ts tn k dd) 0 i))), (5, .int (nI (cnw (wrd L per dy gd ct td ts tn k dd) 1 i))), (4, .int (fcd dd L (ltst td ts k dd tn))), (3, .ref (ad (13 + 4 * k))), (0, .ref (ad 0)), (1, .int (nI k)), (2, .int (nI dd))] [] := by
  obtain ⟨hO0, hAL, hTL, hTU, hPL, hCS⟩ := id hR
  obtain ⟨⟨hL1, hL5⟩, hnc, hCB, hTB, hUB, hRe, hpl8, hO8, hps⟩ := id hB
  obtain ⟨hQ, hn, hcap, hE⟩ := id hAL
  have hG := hTL.1
  have hT := hTU.1
  have hcs := hCS k hk
  have hcq := hcs.1
  intro d
  induction d using Nat.strongRecOn with
  | _ d ih =>
    intro i hi
    refine g_iload X d_CL_stateOn_29 0 rfl ?_
    refine g_bipush (v := 10) X d_CL_stateOn_31 (by decide) ?_
    refine g_icmp_ge X 73 d_CL_stateOn_33 (by decide) (fun c33 => ?_) (fun c33 => ?_)
    · skip
      have e : i = 10 := by have := (nI_leI (a := 10) (b := i) (by decide) (by omega)).mp c33; omega
      subst e
      exact kk
    · skip
      have hlt : i < 10 := Nat.lt_of_not_le (fun z => c33 ((nI_leI (a := 10) (b := i) (by decide) (by omega)).mpr z))
      refine g_aload_n X d_CL_stateOn_36 4 rfl ?_
      refine g_iload X d_CL_stateOn_37 0 rfl ?_
      refine g_iload X d_CL_stateOn_39 3 rfl ?_
      refine g_iload_n X d_CL_stateOn_41 7 rfl ?_
      refine g_callV (ci := 4) (As := [.int (nI i), .int (fcd dd L (ltst td ts k dd tn)), .int (nI dd)]) (rest := []) X (z_ok eA) rfl rfl hcq (c_CS_wordOf hcs (hCB k) (pe := i) (dd := dd) (fs := fcd dd L (ltst td ts k dd tn)) (by omega) hdd) v_CS_wordOf q_454 q_455 q_453 rfl rfl (Nat.le_of_ble_eq_true rfl) d_CL_stateOn_42 ⟨(Nat.le_of_ble_eq_true rfl), (Nat.le_of_ble_eq_true rfl)⟩ ⟨(Nat.le_of_ble_eq_true rfl), (Nat.le_of_ble_eq_true rfl)⟩ (g_K.no (fun _ h => h)) (fun r_ f2_ hp => ?_)
      obtain ⟨rfl, hf_⟩ := hp
      subst f2_
      refine g_st (st2 := [.int (wrd L per dy gd ct td ts tn k dd i)]) rfl ?_
      refine g_istore (lv' := [(8, .int (wrd L per dy gd ct td ts tn k dd i)), (7, .int (nI i)), (6, .int (nI (cnw (wrd L per dy gd ct td ts tn k dd) 0 i))), (5, .int (nI (cnw (wrd L per dy gd ct td ts tn k dd) 1 i))), (4, .int (fcd dd L (ltst td ts k dd tn))), (3, .ref (ad (13 + 4 * k))), (0, .ref (ad 0)), (1, .int (nI k)), (2, .int (nI dd))]) X d_CL_stateOn_45 (by decide) rfl ?_
      refine g_iload X d_CL_stateOn_47 0 rfl ?_
      refine g_iconst (v := 1) X d_CL_stateOn_49 (by decide) ?_
      refine g_icmp_ne X 59 d_CL_stateOn_50 (by decide) (fun c50 => ?_) (fun c50 => ?_)
      · skip
        have e1 : cnw (wrd L per dy gd ct td ts tn k dd) 1 (i + 1) = cnw (wrd L per dy gd ct td ts tn k dd) 1 i := if_neg c50
        refine g_iload X d_CL_stateOn_59 0 rfl ?_
        refine g_if_ne X 67 d_CL_stateOn_61 (by decide) (fun c61 => ?_) (fun c61 => ?_)
        · skip
          have e0 : cnw (wrd L per dy gd ct td ts tn k dd) 0 (i + 1) = cnw (wrd L per dy gd ct td ts tn k dd) 0 i := if_neg c61
          refine g_iinc (lv' := [(7, .int (nI (i + 1))), (8, .int (wrd L per dy gd ct td ts tn k dd i)), (6, .int (nI (cnw (wrd L per dy gd ct td ts tn k dd) 0 i))), (5, .int (nI (cnw (wrd L per dy gd ct td ts tn k dd) 1 i))), (4, .int (fcd dd L (ltst td ts k dd tn))), (3, .ref (ad (13 + 4 * k))), (0, .ref (ad 0)), (1, .int (nI k)), (2, .int (nI dd))]) X d_CL_stateOn_67 1 rfl (nI_1 i) (by decide) rfl ?_
          refine g_goto X 29 d_CL_stateOn_70 (by decide) ?_
          refine g_lv (lv' := [(7, .int (nI (i + 1))), (6, .int (nI (cnw (wrd L per dy gd ct td ts tn k dd) 0 (i + 1)))), (5, .int (nI (cnw (wrd L per dy gd ct td ts tn k dd) 1 (i + 1)))), (4, .int (fcd dd L (ltst td ts k dd tn))), (3, .ref (ad (13 + 4 * k))), (0, .ref (ad 0)), (1, .int (nI k)), (2, .int (nI dd))]) [0, 2, 3, 4, 5, 6, 7, 8] (by rw [e0, e1]; rfl) (ih (d - 1) (by omega) (i + 1) (by omega))
        · skip
          have e0 : cnw (wrd L per dy gd ct td ts tn k dd) 0 (i + 1) = cnw (wrd L per dy gd ct td ts tn k dd) 0 i + 1 := if_pos c61
          refine g_iinc (lv' := [(6, .int (nI (cnw (wrd L per dy gd ct td ts tn k dd) 0 i + 1))), (8, .int (wrd L per dy gd ct td ts tn k dd i)), (7, .int (nI i)), (5, .int (nI (cnw (wrd L per dy gd ct td ts tn k dd) 1 i))), (4, .int (fcd dd L (ltst td ts k dd tn))), (3, .ref (ad (13 + 4 * k))), (0, .ref (ad 0)), (1, .int (nI k)), (2, .int (nI dd))]) X d_CL_stateOn_64 2 rfl (nI_1 _) (by decide) rfl ?_
          refine g_iinc (lv' := [(7, .int (nI (i + 1))), (6, .int (nI (cnw (wrd L per dy gd ct td ts tn k dd) 0 i + 1))), (8, .int (wrd L per dy gd ct td ts tn k dd i)), (5, .int (nI (cnw (wrd L per dy gd ct td ts tn k dd) 1 i))), (4, .int (fcd dd L (ltst td ts k dd tn))), (3, .ref (ad (13 + 4 * k))), (0, .ref (ad 0)), (1, .int (nI k)), (2, .int (nI dd))]) X d_CL_stateOn_67 2 rfl (nI_1 i) (by decide) rfl ?_
          refine g_goto X 29 d_CL_stateOn_70 (by decide) ?_
          refine g_lv (lv' := [(7, .int (nI (i + 1))), (6, .int (nI (cnw (wrd L per dy gd ct td ts tn k dd) 0 (i + 1)))), (5, .int (nI (cnw (wrd L per dy gd ct td ts tn k dd) 1 (i + 1)))), (4, .int (fcd dd L (ltst td ts k dd tn))), (3, .ref (ad (13 + 4 * k))), (0, .ref (ad 0)), (1, .int (nI k)), (2, .int (nI dd))]) [0, 1, 3, 4, 5, 6, 7, 8] (by rw [e0, e1]; rfl) (ih (d - 1) (by omega) (i + 1) (by omega))
      · skip
        have e1 : cnw (wrd L per dy gd ct td ts tn k dd) 1 (i + 1) = cnw (wrd L per dy gd ct td ts tn k dd) 1 i + 1 := if_pos c50
        have e0 : cnw (wrd L per dy gd ct td ts tn k dd) 0 (i + 1) = cnw (wrd L per dy gd ct td ts tn k dd) 0 i := if_neg (fun z => by rw [c50] at z; exact absurd z (by decide))
        refine g_iinc (lv' := [(5, .int (nI (cnw (wrd L per dy gd ct td ts tn k dd) 1 i + 1))), (8, .int (wrd L per dy gd ct td ts tn k dd i)), (7, .int (nI i)), (6, .int (nI (cnw (wrd L per dy gd ct td ts tn k dd) 0 i))), (4, .int (fcd dd L (ltst td ts k dd tn))), (3, .ref (ad (13 + 4 * k))), (0, .ref (ad 0)), (1, .int (nI k)), (2, .int (nI dd))]) X d_CL_stateOn_53 3 rfl (nI_1 _) (by decide) rfl ?_
        refine g_goto X 67 d_CL_stateOn_56 (by decide) ?_
        refine g_iinc (lv' := [(7, .int (nI (i + 1))), (5, .int (nI (cnw (wrd L per dy gd ct td ts tn k dd) 1 i + 1))), (8, .int (wrd L per dy gd ct td ts tn k dd i)), (6, .int (nI (cnw (wrd L per dy gd ct td ts tn k dd) 0 i))), (4, .int (fcd dd L (ltst td ts k dd tn))), (3, .ref (ad (13 + 4 * k))), (0, .ref (ad 0)), (1, .int (nI k)), (2, .int (nI dd))]) X d_CL_stateOn_67 2 rfl (nI_1 i) (by decide) rfl ?_
        refine g_goto X 29 d_CL_stateOn_70 (by decide) ?_
        refine g_lv (lv' := [(7, .int (nI (i + 1))), (6, .int (nI (cnw (wrd L per dy gd ct td ts tn k dd) 0 (i + 1)))), (5, .int (nI (cnw (wrd L per dy gd ct td ts tn k dd) 1 (i + 1)))), (4, .int (fcd dd L (ltst td ts k dd tn))), (3, .ref (ad (13 + 4 * k))), (0, .ref (ad 0)), (1, .int (nI k)), (2, .int (nI dd))]) [0, 3, 1, 4, 5, 6, 7, 8] (by rw [e0, e1]; rfl) (ih (d - 1) (by omega) (i + 1) (by omega))
set_option maxHeartbeats 4000000 in
set_option maxRecDepth 100000 in
theorem c_CL_stateOn {l : Launch} {D : va_G} {cI cZ cO cJ : ClassId} {eA : Nat} {f : g_F} {ad : Nat → Nat} {L nc : Nat} {pt ot : Nat → Int32} {per dy : Nat → Nat → Nat} {gd : Nat → Nat → Bool} {ct : Nat → Nat} {td ts : Nat → Nat} {tn : Nat} {P Du S Wy Re : Nat → Nat} {n : Nat} {O : Nat → Nat} {pl ps cap : Nat} {mc : Int32} (hR : cl_R cI cZ cO f ad L nc pt ot per dy gd ct td ts tn P Du S Wy Re n O pl ps cap mc) (hB : cl_B L nc per dy ct td ts tn P Du S Wy Re n O pl ps) {k dd : Nat} (hk : k < nc) (hdd : dd < 2 ^ 30) : g_C l y_CL_stateOn b_CL_stateOn 9 (some .int) { frames := 3, cells := 0, slots := 0, locals := 67 } D g_cl (g_tys cI cZ cO cJ) (z_Z eA) [.ref (ad 0), .int (nI k), .int (nI dd)] f (fun r f2 => r = some (.int (nI (sta L per dy gd ct td ts tn k dd))) ∧ f2 = f) (fun _ => False) := by
  refine g_ofW [(0, .ref (ad 0)), (1, .int (nI k)), (2, .int (nI dd))] (by decide +kernel) (Nat.le_of_ble_eq_true rfl) rfl ?_
  intro p e s m args below meth c X ht hin
  obtain ⟨hO0, hAL, hTL, hTU, hPL, hCS⟩ := id hR
  obtain ⟨⟨hL1, hL5⟩, hnc, hCB, hTB, hUB, hRe, hpl8, hO8, hps⟩ := id hB
  obtain ⟨hQ, hn, hcap, hE⟩ := id hAL
  have hG := hTL.1
  have hT := hTU.1
  refine g_aload_n X d_CL_stateOn_0 0 rfl ?_
  refine g_get (ci := 3) (C := R_CL) (T := F_CL) (N := 7) (v := .ref (ad 1)) X i_CL rfl hO0 1 (by decide) q_104 (fun _ h9 => h9) rfl d_CL_stateOn_1 ?_
  refine g_iload_n X d_CL_stateOn_4 1 rfl ?_
  refine g_callV (ci := 0) (As := [.int (nI k)]) (rest := []) X (z_ok eA) rfl rfl hQ (c_AL_get hAL (i := k) (hk)) v_AL_get q_227 q_228 q_226 rfl rfl (Nat.le_of_ble_eq_true rfl) d_CL_stateOn_5 ⟨(Nat.le_of_ble_eq_true rfl), (Nat.le_of_ble_eq_true rfl)⟩ ⟨(Nat.le_of_ble_eq_true rfl), (Nat.le_of_ble_eq_true rfl)⟩ (g_K.no (fun _ h => h)) (fun r_ f2_ hp => ?_)
  obtain ⟨rfl, hf_⟩ := hp
  subst f2_
  refine g_st (st2 := [.ref (ad (13 + 4 * k))]) rfl ?_
  have hcs := hCS k (hk)
  have hcq := hcs.1
  refine g_cast (ci := 4) (nm := "CaseLists$Case") X q_240 rfl X.2.2.2.2.2.2.2.2.1.1 hcq d_CL_stateOn_8 ?_
  refine g_astore_n (lv' := [(3, .ref (ad (13 + 4 * k))), (0, .ref (ad 0)), (1, .int (nI k)), (2, .int (nI dd))]) X d_CL_stateOn_11 rfl (by decide) rfl ?_
  refine g_aload_n X d_CL_stateOn_12 1 rfl ?_
  refine g_iload_n X d_CL_stateOn_13 2 rfl ?_
  refine g_iload_n X d_CL_stateOn_14 3 rfl ?_
  refine g_callV (ci := 3) (As := [.int (nI k), .int (nI dd)]) (rest := []) X (z_ok eA) rfl rfl hO0 (c_CL_firstCountingDay hR hB hk hdd) v_CL_firstCountingDay q_446 q_s8 q_444 rfl rfl (Nat.le_of_ble_eq_true rfl) d_CL_stateOn_15 ⟨(Nat.le_of_ble_eq_true rfl), (Nat.le_of_ble_eq_true rfl)⟩ ⟨(Nat.le_of_ble_eq_true rfl), (Nat.le_of_ble_eq_true rfl)⟩ (g_K.no (fun _ h => h)) (fun r_ f2_ hp => ?_)
  obtain ⟨rfl, hf_⟩ := hp
  subst f2_
  refine g_st (st2 := [.int (fcd dd L (ltst td ts k dd tn))]) rfl ?_
  refine g_istore (lv' := [(4, .int (fcd dd L (ltst td ts k dd tn))), (3, .ref (ad (13 + 4 * k))), (0, .ref (ad 0)), (1, .int (nI k)), (2, .int (nI dd))]) X d_CL_stateOn_18 (by decide) rfl ?_
  refine g_iconst (v := 0) X d_CL_stateOn_20 (by decide) ?_
  refine g_istore (lv' := [(5, .int 0), (4, .int (fcd dd L (ltst td ts k dd tn))), (3, .ref (ad (13 + 4 * k))), (0, .ref (ad 0)), (1, .int (nI k)), (2, .int (nI dd))]) X d_CL_stateOn_21 (by decide) rfl ?_
  refine g_iconst (v := 0) X d_CL_stateOn_23 (by decide) ?_
  refine g_istore (lv' := [(6, .int 0), (5, .int 0), (4, .int (fcd dd L (ltst td ts k dd tn))), (3, .ref (ad (13 + 4 * k))), (0, .ref (ad 0)), (1, .int (nI k)), (2, .int (nI dd))]) X d_CL_stateOn_24 (by decide) rfl ?_
  refine g_iconst (v := 0) X d_CL_stateOn_26 (by decide) ?_
  refine g_istore (lv' := [(7, .int 0), (6, .int 0), (5, .int 0), (4, .int (fcd dd L (ltst td ts k dd tn))), (3, .ref (ad (13 + 4 * k))), (0, .ref (ad 0)), (1, .int (nI k)), (2, .int (nI dd))]) X d_CL_stateOn_27 (by decide) rfl ?_
  refine g_lv [0, 1, 2, 3, 4, 5, 6, 7] rfl (L_CL_stateOn hR hB hk hdd X ?_ 10 0 (by omega))
  refine g_iload X d_CL_stateOn_73 1 rfl ?_
  refine g_if_le X 89 d_CL_stateOn_75 (by decide) (fun c75 => ?_) (fun c75 => ?_)
  · skip
    refine g_iload X d_CL_stateOn_89 2 rfl ?_
    refine g_iconst (v := 2) X d_CL_stateOn_91 (by decide) ?_
    refine g_icmp_lt X 99 d_CL_stateOn_92 (by decide) (fun c92 => ?_) (fun c92 => ?_)
    · skip
      refine g_iconst (v := 0) X d_CL_stateOn_99 (by decide) ?_
      exact g_iret X rfl (⟨by rw [show sta L per dy gd ct td ts tn k dd = 0 from (if_neg (Nat.not_lt.mpr ((nI_leI (a := cnw (wrd L per dy gd ct td ts tn k dd) 0 10) (b := 0) (by have := cnw_le (wrd L per dy gd ct td ts tn k dd) 0 10; have := cnw_le (wrd L per dy gd ct td ts tn k dd) 1 10; omega) (by decide)).mp c75))).trans (if_neg (Nat.not_le.mpr ((nI_ltI (b := 2) (by have := cnw_le (wrd L per dy gd ct td ts tn k dd) 1 10; omega) (by decide)).mp c92)))]; rfl, rfl⟩) (Nat.le_of_ble_eq_true rfl) (Nat.le_of_ble_eq_true rfl) d_CL_stateOn_100
    · skip
      refine g_iconst (v := 3) X d_CL_stateOn_95 (by decide) ?_
      refine g_goto X 100 d_CL_stateOn_96 (by decide) ?_
      exact g_iret X rfl (⟨by rw [show sta L per dy gd ct td ts tn k dd = 3 from (if_neg (Nat.not_lt.mpr ((nI_leI (a := cnw (wrd L per dy gd ct td ts tn k dd) 0 10) (b := 0) (by have := cnw_le (wrd L per dy gd ct td ts tn k dd) 0 10; have := cnw_le (wrd L per dy gd ct td ts tn k dd) 1 10; omega) (by decide)).mp c75))).trans (if_pos (Nat.le_of_not_lt (fun z => c92 ((nI_ltI (b := 2) (by have := cnw_le (wrd L per dy gd ct td ts tn k dd) 1 10; omega) (by decide)).mpr z))))]; rfl, rfl⟩) (Nat.le_of_ble_eq_true rfl) (Nat.le_of_ble_eq_true rfl) d_CL_stateOn_100
  · skip
    refine g_iload X d_CL_stateOn_78 2 rfl ?_
    refine g_if_le X 87 d_CL_stateOn_80 (by decide) (fun c80 => ?_) (fun c80 => ?_)
    · skip
      refine g_iconst (v := 1) X d_CL_stateOn_87 (by decide) ?_
      exact g_iret X rfl (⟨by rw [show sta L per dy gd ct td ts tn k dd = 1 from (if_pos (Nat.lt_of_not_le (fun z => c75 ((nI_leI (a := cnw (wrd L per dy gd ct td ts tn k dd) 0 10) (b := 0) (by have := cnw_le (wrd L per dy gd ct td ts tn k dd) 0 10; have := cnw_le (wrd L per dy gd ct td ts tn k dd) 1 10; omega) (by decide)).mpr z)))).trans (if_neg (Nat.not_lt.mpr ((nI_leI (a := cnw (wrd L per dy gd ct td ts tn k dd) 1 10) (b := 0) (by have := cnw_le (wrd L per dy gd ct td ts tn k dd) 0 10; have := cnw_le (wrd L per dy gd ct td ts tn k dd) 1 10; omega) (by decide)).mp c80)))]; rfl, rfl⟩) (Nat.le_of_ble_eq_true rfl) (Nat.le_of_ble_eq_true rfl) d_CL_stateOn_88
    · skip
      refine g_iconst (v := 2) X d_CL_stateOn_83 (by decide) ?_
      refine g_goto X 88 d_CL_stateOn_84 (by decide) ?_
      exact g_iret X rfl (⟨by rw [show sta L per dy gd ct td ts tn k dd = 2 from (if_pos (Nat.lt_of_not_le (fun z => c75 ((nI_leI (a := cnw (wrd L per dy gd ct td ts tn k dd) 0 10) (b := 0) (by have := cnw_le (wrd L per dy gd ct td ts tn k dd) 0 10; have := cnw_le (wrd L per dy gd ct td ts tn k dd) 1 10; omega) (by decide)).mpr z)))).trans (if_pos (Nat.lt_of_not_le (fun z => c80 ((nI_leI (a := cnw (wrd L per dy gd ct td ts tn k dd) 1 10) (b := 0) (by have := cnw_le (wrd L per dy gd ct td ts tn k dd) 0 10; have := cnw_le (wrd L per dy gd ct td ts tn k dd) 1 10; omega) (by decide)).mpr z))))]; rfl, rfl⟩) (Nat.le_of_ble_eq_true rfl) (Nat.le_of_ble_eq_true rfl) d_CL_stateOn_88
theorem stv_lt (g b : Nat) : stv g b < 4 := by
  unfold stv
  split
  · split <;> decide
  · split <;> decide
set_option maxHeartbeats 4000000 in
set_option maxRecDepth 100000 in
theorem L_CL_unprovedCases {p : Program} {l : Launch} {e : Env} {s : State} {m : MethodId} {args : Array Value} {below : List Frame} {meth : Method} {c : Code} {Q : State → Prop} {A : Nat → Prop} {D : va_G} {cI cZ cO cJ : ClassId} {eA : Nat} {f : g_F} {ad : Nat → Nat} {L nc : Nat} {pt ot : Nat → Int32} {per dy : Nat → Nat → Nat} {gd : Nat → Nat → Bool} {ct : Nat → Nat} {td ts : Nat → Nat} {tn : Nat} {P Du S Wy Re : Nat → Nat} {n : Nat} {O : Nat → Nat} {pl ps cap : Nat} {mc : Int32} (hR : cl_R cI cZ cO f ad L nc pt ot per dy gd ct td ts tn P Du S Wy Re n O pl ps cap mc) (hB : cl_B L nc per dy ct td ts tn P Du S Wy Re n O pl ps) {dd : Nat} (hdd : dd < 2 ^ 30) (X : g_X p s m args meth c b_CL_unprovedCases 4 (some .int) g_T y_CL_unprovedCases.cls D g_cl (g_tys cI cZ cO cJ) A (z_Z eA)) (kk : g_W p l e { frames := 4, cells := 0, slots := 0, locals := 95 } s m args below meth c 4 D g_cl A f 0 0 Q 37 [(3, .int (nI nc)), (2, .int (nI (bset (fun k => decide (sta L per dy gd ct td ts tn k dd ≠ 3)) nc))), (0, .ref (ad 0)), (1, .int (nI dd))] []) : ∀ (d : Nat) (i : Nat), (i + d = nc) → g_W p l e { frames := 4, cells := 0, slots := 0, locals := 95 } s m args below meth c 4 D g_cl A f 0 0 Q 4 [(3, .int (nI i)), (2, .int (nI (bset (fun k => decide (sta L per dy gd ct td ts tn k dd ≠ 3)) i))), (0, .ref (ad 0)), (1, .int (nI dd))] [] := by
  obtain ⟨hO0, hAL, hTL, hTU, hPL, hCS⟩ := id hR
  obtain ⟨⟨hL1, hL5⟩, hnc, hCB, hTB, hUB, hRe, hpl8, hO8, hps⟩ := id hB
  obtain ⟨hQ, hn, hcap, hE⟩ := id hAL
  have hG := hTL.1
  have hT := hTU.1
  intro d
  induction d using Nat.strongRecOn with
  | _ d ih =>
    intro i hi
    refine g_iload_n X d_CL_unprovedCases_4 0 rfl ?_
    refine g_aload_n X d_CL_unprovedCases_5 2 rfl ?_
    refine g_get (ci := 3) (C := R_CL) (T := F_CL) (N := 7) (v := .ref (ad 1)) X i_CL rfl hO0 1 (by decide) q_104 (fun _ h9 => h9) rfl d_CL_unprovedCases_6 ?_
    refine g_callV (ci := 0) (As := []) (rest := [.int (nI i)]) X (z_ok eA) rfl rfl hQ (c_AL_size hAL) v_AL_size q_223 q_224 q_222 rfl rfl (Nat.le_of_ble_eq_true rfl) d_CL_unprovedCases_9 ⟨(Nat.le_of_ble_eq_true rfl), (Nat.le_of_ble_eq_true rfl)⟩ ⟨(Nat.le_of_ble_eq_true rfl), (Nat.le_of_ble_eq_true rfl)⟩ (g_K.no (fun _ h => h)) (fun r_ f2_ hp => ?_)
    obtain ⟨rfl, hf_⟩ := hp
    subst f2_
    refine g_st (st2 := [.int (nI nc), .int (nI i)]) rfl ?_
    refine g_icmp_ge X 37 d_CL_unprovedCases_12 (by decide) (fun c12 => ?_) (fun c12 => ?_)
    · skip
      have e : i = nc := by have := (nI_leI (by omega) (by omega)).mp c12; omega
      subst e
      exact kk
    · skip
      have hlt : i < nc := Nat.lt_of_not_le (fun z => c12 ((nI_leI (by omega) (by omega)).mpr z))
      refine g_aload_n X d_CL_unprovedCases_15 2 rfl ?_
      refine g_iload_n X d_CL_unprovedCases_16 0 rfl ?_
      refine g_iload_n X d_CL_unprovedCases_17 3 rfl ?_
      refine g_callV (ci := 3) (As := [.int (nI i), .int (nI dd)]) (rest := []) X (z_ok eA) rfl rfl hO0 (c_CL_stateOn hR hB (k := i) (dd := dd) (hlt) hdd) v_CL_stateOn q_442 q_s7 q_440 rfl rfl (Nat.le_of_ble_eq_true rfl) d_CL_unprovedCases_18 ⟨(Nat.le_of_ble_eq_true rfl), (Nat.le_of_ble_eq_true rfl)⟩ ⟨(Nat.le_of_ble_eq_true rfl), (Nat.le_of_ble_eq_true rfl)⟩ (g_K.no (fun _ h => h)) (fun r_ f2_ hp => ?_)
      obtain ⟨rfl, hf_⟩ := hp
      subst f2_
      refine g_st (st2 := [.int (nI (sta L per dy gd ct td ts tn i dd))]) rfl ?_
      refine g_iconst (v := 3) X d_CL_unprovedCases_21 (by decide) ?_
      refine g_icmp_eq X 31 d_CL_unprovedCases_22 (by decide) (fun c22 => ?_) (fun c22 => ?_)
      · skip
        have e : bset (fun k => decide (sta L per dy gd ct td ts tn k dd ≠ 3)) (i + 1) = bset (fun k => decide (sta L per dy gd ct td ts tn k dd ≠ 3)) i := if_neg (fun z => of_decide_eq_true (p := sta L per dy gd ct td ts tn i dd ≠ 3) z ((nI_eq (b := 3) (Nat.lt_trans (stv_lt _ _) (by decide)) (by decide)).mp c22))
        refine g_iinc (lv' := [(3, .int (nI (i + 1))), (2, .int (nI (bset (fun k => decide (sta L per dy gd ct td ts tn k dd ≠ 3)) i))), (0, .ref (ad 0)), (1, .int (nI dd))]) X d_CL_unprovedCases_31 0 rfl (nI_1 i) (by decide) rfl ?_
        refine g_goto X 4 d_CL_unprovedCases_34 (by decide) ?_
        rw [← e]
        exact g_lv [0, 1, 2, 3] rfl (ih (d - 1) (by omega) (i + 1) (by omega))
      · skip
        have e : bset (fun k => decide (sta L per dy gd ct td ts tn k dd ≠ 3)) (i + 1) = bset (fun k => decide (sta L per dy gd ct td ts tn k dd ≠ 3)) i ||| 2 ^ i := if_pos (decide_eq_true (p := sta L per dy gd ct td ts tn i dd ≠ 3) (fun z => c22 (by rw [z]; rfl)))
        refine g_iload_n X d_CL_unprovedCases_25 1 rfl ?_
        refine g_iconst (v := 1) X d_CL_unprovedCases_26 (by decide) ?_
        refine g_iload_n X d_CL_unprovedCases_27 0 rfl ?_
        refine g_ishl X d_CL_unprovedCases_28 ?_
        refine g_eqi (y := nI (2 ^ i)) (nI_bit (by omega)) ?_
        refine g_ior X d_CL_unprovedCases_29 ?_
        refine g_eqi (y := nI (bset (fun k => decide (sta L per dy gd ct td ts tn k dd ≠ 3)) i ||| 2 ^ i)) (nI_or _ _) ?_
        refine g_istore_n (lv' := [(2, .int (nI (bset (fun k => decide (sta L per dy gd ct td ts tn k dd ≠ 3)) i ||| 2 ^ i))), (3, .int (nI i)), (0, .ref (ad 0)), (1, .int (nI dd))]) X d_CL_unprovedCases_30 rfl (by decide) rfl ?_
        refine g_iinc (lv' := [(3, .int (nI (i + 1))), (2, .int (nI (bset (fun k => decide (sta L per dy gd ct td ts tn k dd ≠ 3)) i ||| 2 ^ i))), (0, .ref (ad 0)), (1, .int (nI dd))]) X d_CL_unprovedCases_31 1 rfl (nI_1 i) (by decide) rfl ?_
        refine g_goto X 4 d_CL_unprovedCases_34 (by decide) ?_
        rw [← e]
        exact g_lv [0, 1, 2, 3] rfl (ih (d - 1) (by omega) (i + 1) (by omega))
set_option maxHeartbeats 4000000 in
set_option maxRecDepth 100000 in
theorem c_CL_unprovedCases {l : Launch} {D : va_G} {cI cZ cO cJ : ClassId} {eA : Nat} {f : g_F} {ad : Nat → Nat} {L nc : Nat} {pt ot : Nat → Int32} {per dy : Nat → Nat → Nat} {gd : Nat → Nat → Bool} {ct : Nat → Nat} {td ts : Nat → Nat} {tn : Nat} {P Du S Wy Re : Nat → Nat} {n : Nat} {O : Nat → Nat} {pl ps cap : Nat} {mc : Int32} (hR : cl_R cI cZ cO f ad L nc pt ot per dy gd ct td ts tn P Du S Wy Re n O pl ps cap mc) (hB : cl_B L nc per dy ct td ts tn P Du S Wy Re n O pl ps) {dd : Nat} (hdd : dd < 2 ^ 30) : g_C l y_CL_unprovedCases b_CL_unprovedCases 4 (some .int) { frames := 4, cells := 0, slots := 0, locals := 95 } D g_cl (g_tys cI cZ cO cJ) (z_Z eA) [.ref (ad 0), .int (nI dd)] f (fun r f2 => r = some (.int (nI (bset (fun k => decide (sta L per dy gd ct td ts tn k dd ≠ 3)) nc))) ∧ f2 = f) (fun _ => False) := by
  refine g_ofW [(0, .ref (ad 0)), (1, .int (nI dd))] (by decide +kernel) (Nat.le_of_ble_eq_true rfl) rfl ?_
  intro p e s m args below meth c X ht hin
  obtain ⟨hO0, hAL, hTL, hTU, hPL, hCS⟩ := id hR
  obtain ⟨⟨hL1, hL5⟩, hnc, hCB, hTB, hUB, hRe, hpl8, hO8, hps⟩ := id hB
  obtain ⟨hQ, hn, hcap, hE⟩ := id hAL
  have hG := hTL.1
  have hT := hTU.1
  refine g_iconst (v := 0) X d_CL_unprovedCases_0 (by decide) ?_
  refine g_istore_n (lv' := [(2, .int 0), (0, .ref (ad 0)), (1, .int (nI dd))]) X d_CL_unprovedCases_1 rfl (by decide) rfl ?_
  refine g_iconst (v := 0) X d_CL_unprovedCases_2 (by decide) ?_
  refine g_istore_n (lv' := [(3, .int 0), (2, .int 0), (0, .ref (ad 0)), (1, .int (nI dd))]) X d_CL_unprovedCases_3 rfl (by decide) rfl ?_
  refine L_CL_unprovedCases hR hB hdd X ?_ nc 0 (by omega)
  exact g_iload_n X d_CL_unprovedCases_37 1 rfl (g_iret X rfl ⟨rfl, rfl⟩ (Nat.le_of_ble_eq_true rfl) (Nat.le_of_ble_eq_true rfl) d_CL_unprovedCases_38)
/-- the next turn of a case behind a day -/
def mxt (x : Nat) : Nat := if x = 0 then 105001 else min 105001 (x - 1)
theorem mxt_lt (x : Nat) : mxt x ≤ 105001 := by
  unfold mxt
  split
  · exact Nat.le_refl _
  · exact Nat.min_le_left _ _
abbrev nxt (L : Nat) (dy : Nat → Nat → Nat) (ct : Nat → Nat) (td ts : Nat → Nat) (tn k dd : Nat) : Nat := ntn (dy k) dd L (mxt (nbh td ts k dd tn)) (ct k)
set_option maxHeartbeats 4000000 in
set_option maxRecDepth 100000 in
theorem c_CL_nextTurn {l : Launch} {D : va_G} {cI cZ cO cJ : ClassId} {eA : Nat} {f : g_F} {ad : Nat → Nat} {L nc : Nat} {pt ot : Nat → Int32} {per dy : Nat → Nat → Nat} {gd : Nat → Nat → Bool} {ct : Nat → Nat} {td ts : Nat → Nat} {tn : Nat} {P Du S Wy Re : Nat → Nat} {n : Nat} {O : Nat → Nat} {pl ps cap : Nat} {mc : Int32} (hR : cl_R cI cZ cO f ad L nc pt ot per dy gd ct td ts tn P Du S Wy Re n O pl ps cap mc) (hB : cl_B L nc per dy ct td ts tn P Du S Wy Re n O pl ps) {k dd : Nat} (hk : k < nc) (hdd : dd < 2 ^ 30) : g_C l y_CL_nextTurn b_CL_nextTurn 5 (some .int) { frames := 3, cells := 0, slots := 0, locals := 64 } D g_cl (g_tys cI cZ cO cJ) (z_Z eA) [.ref (ad 0), .int (nI k), .int (nI dd)] f (fun r f2 => r = some (.int (nI (nxt L dy ct td ts tn k dd))) ∧ f2 = f) (fun _ => False) := by
  refine g_ofW [(0, .ref (ad 0)), (1, .int (nI k)), (2, .int (nI dd))] (by decide +kernel) (Nat.le_of_ble_eq_true rfl) rfl ?_
  intro p e s m args below meth c X ht hin
  obtain ⟨hO0, hAL, hTL, hTU, hPL, hCS⟩ := id hR
  obtain ⟨⟨hL1, hL5⟩, hnc, hCB, hTB, hUB, hRe, hpl8, hO8, hps⟩ := id hB
  obtain ⟨hQ, hn, hcap, hE⟩ := id hAL
  have hG := hTL.1
  have hT := hTU.1
  refine g_ldc (v := 105001) X q_573 d_CL_nextTurn_0 ?_
  refine g_istore_n (lv' := [(3, .int 105001), (0, .ref (ad 0)), (1, .int (nI k)), (2, .int (nI dd))]) X d_CL_nextTurn_2 rfl (by decide) rfl ?_
  refine g_aload_n X d_CL_nextTurn_3 1 rfl ?_
  refine g_get (ci := 3) (C := R_CL) (T := F_CL) (N := 7) (v := .ref (ad 3)) X i_CL rfl hO0 2 (by decide) q_105 (fun _ h9 => h9) rfl d_CL_nextTurn_4 ?_
  refine g_iload_n X d_CL_nextTurn_7 2 rfl ?_
  refine g_iload_n X d_CL_nextTurn_8 3 rfl ?_
  refine g_callV (ci := 1) (As := [.int (nI k), .int (nI dd)]) (rest := []) X (z_ok eA) rfl rfl hG (c_TL_nextBehind hTL hTB (k := k) (dd := dd) (by omega) hdd) v_TL_nextBehind q_575 q_576 q_574 rfl rfl (Nat.le_of_ble_eq_true rfl) d_CL_nextTurn_9 ⟨(Nat.le_of_ble_eq_true rfl), (Nat.le_of_ble_eq_true rfl)⟩ ⟨(Nat.le_of_ble_eq_true rfl), (Nat.le_of_ble_eq_true rfl)⟩ (g_K.no (fun _ h => h)) (fun r_ f2_ hp => ?_)
  obtain ⟨rfl, hf_⟩ := hp
  subst f2_
  refine g_st (st2 := [.int (fI (nbh td ts k dd tn))]) rfl ?_
  refine g_istore (lv' := [(4, .int (fI (nbh td ts k dd tn))), (3, .int 105001), (0, .ref (ad 0)), (1, .int (nI k)), (2, .int (nI dd))]) X d_CL_nextTurn_12 (by decide) rfl ?_
  refine g_iload X d_CL_nextTurn_14 0 rfl ?_
  refine g_iconst (v := (-1)) X d_CL_nextTurn_16 (by decide) ?_
  refine g_icmp_eq X 27 d_CL_nextTurn_17 (by decide) (fun c17 => ?_) (fun c17 => ?_)
  · skip
    refine g_aload_n X d_CL_nextTurn_27 2 rfl ?_
    refine g_get (ci := 3) (C := R_CL) (T := F_CL) (N := 7) (v := .ref (ad 1)) X i_CL rfl hO0 1 (by decide) q_104 (fun _ h9 => h9) rfl d_CL_nextTurn_28 ?_
    refine g_iload_n X d_CL_nextTurn_31 3 rfl ?_
    refine g_callV (ci := 0) (As := [.int (nI k)]) (rest := []) X (z_ok eA) rfl rfl hQ (c_AL_get hAL (i := k) (hk)) v_AL_get q_227 q_228 q_226 rfl rfl (Nat.le_of_ble_eq_true rfl) d_CL_nextTurn_32 ⟨(Nat.le_of_ble_eq_true rfl), (Nat.le_of_ble_eq_true rfl)⟩ ⟨(Nat.le_of_ble_eq_true rfl), (Nat.le_of_ble_eq_true rfl)⟩ (g_K.no (fun _ h => h)) (fun r_ f2_ hp => ?_)
    obtain ⟨rfl, hf_⟩ := hp
    subst f2_
    refine g_st (st2 := [.ref (ad (13 + 4 * k))]) rfl ?_
    have hcs := hCS k (hk)
    have hcq := hcs.1
    refine g_cast (ci := 4) (nm := "CaseLists$Case") X q_240 rfl X.2.2.2.2.2.2.2.2.1.1 hcq d_CL_nextTurn_35 ?_
    refine g_iload_n X d_CL_nextTurn_38 4 rfl ?_
    refine g_aload_n X d_CL_nextTurn_39 2 rfl ?_
    refine g_get (ci := 3) (C := R_CL) (T := F_CL) (N := 7) (v := .int (nI L)) X i_CL rfl hO0 0 (by decide) q_103 (fun _ h9 => h9) rfl d_CL_nextTurn_40 ?_
    refine g_iload_n X d_CL_nextTurn_43 1 rfl ?_
    have hnb := nbh_le hTB.2.1 (ts := ts) k dd tn
    refine g_eqi (y := nI (mxt (nbh td ts k dd tn))) (by rw [show mxt (nbh td ts k dd tn) = 105001 from if_pos ((fI_n (by omega)).mp c17)]; rfl) ?_
    refine g_callV (ci := 4) (As := [.int (nI dd), .int (nI L), .int (nI (mxt (nbh td ts k dd tn)))]) (rest := []) X (z_ok eA) rfl rfl hcq (c_CS_nextTurn hcs (hCB k) (dd := dd) (L := L) (M := mxt (nbh td ts k dd tn)) hdd hL5 (Nat.lt_of_le_of_lt (mxt_lt _) (by decide))) v_CS_nextTurn q_579 q_580 q_578 rfl rfl (Nat.le_of_ble_eq_true rfl) d_CL_nextTurn_44 ⟨(Nat.le_of_ble_eq_true rfl), (Nat.le_of_ble_eq_true rfl)⟩ ⟨(Nat.le_of_ble_eq_true rfl), (Nat.le_of_ble_eq_true rfl)⟩ (g_K.no (fun _ h => h)) (fun r_ f2_ hp => ?_)
    obtain ⟨rfl, hf_⟩ := hp
    subst f2_
    refine g_st (st2 := [.int (nI (nxt L dy ct td ts tn k dd))]) rfl ?_
    exact g_iret X rfl (⟨rfl, rfl⟩) (Nat.le_of_ble_eq_true rfl) (Nat.le_of_ble_eq_true rfl) d_CL_nextTurn_47
  · skip
    refine g_iload_n X d_CL_nextTurn_20 1 rfl ?_
    refine g_iload X d_CL_nextTurn_21 0 rfl ?_
    have hnb := nbh_le hTB.2.1 (ts := ts) k dd tn
    have hx0 : nbh td ts k dd tn ≠ 0 := fun z => c17 ((fI_n (by omega)).mpr z)
    have hfx : fI (nbh td ts k dd tn) = nI (nbh td ts k dd tn - 1) := nI_m1 (by omega)
    refine g_eqi hfx ?_
    refine g_mmin (a := 105001) (b := nbh td ts k dd tn - 1) X q_29 (by decide) (by omega) (Nat.le_of_ble_eq_true rfl) (Nat.le_of_ble_eq_true rfl) (Nat.le_of_ble_eq_true rfl) (Nat.le_of_ble_eq_true rfl) d_CL_nextTurn_23 ?_
    refine g_istore_n (lv' := [(3, .int (nI (min 105001 (nbh td ts k dd tn - 1)))), (4, .int (fI (nbh td ts k dd tn))), (0, .ref (ad 0)), (1, .int (nI k)), (2, .int (nI dd))]) X d_CL_nextTurn_26 rfl (by decide) rfl ?_
    refine g_aload_n X d_CL_nextTurn_27 2 rfl ?_
    refine g_get (ci := 3) (C := R_CL) (T := F_CL) (N := 7) (v := .ref (ad 1)) X i_CL rfl hO0 1 (by decide) q_104 (fun _ h9 => h9) rfl d_CL_nextTurn_28 ?_
    refine g_iload_n X d_CL_nextTurn_31 3 rfl ?_
    refine g_callV (ci := 0) (As := [.int (nI k)]) (rest := []) X (z_ok eA) rfl rfl hQ (c_AL_get hAL (i := k) (hk)) v_AL_get q_227 q_228 q_226 rfl rfl (Nat.le_of_ble_eq_true rfl) d_CL_nextTurn_32 ⟨(Nat.le_of_ble_eq_true rfl), (Nat.le_of_ble_eq_true rfl)⟩ ⟨(Nat.le_of_ble_eq_true rfl), (Nat.le_of_ble_eq_true rfl)⟩ (g_K.no (fun _ h => h)) (fun r_ f2_ hp => ?_)
    obtain ⟨rfl, hf_⟩ := hp
    subst f2_
    refine g_st (st2 := [.ref (ad (13 + 4 * k))]) rfl ?_
    have hcs := hCS k (hk)
    have hcq := hcs.1
    refine g_cast (ci := 4) (nm := "CaseLists$Case") X q_240 rfl X.2.2.2.2.2.2.2.2.1.1 hcq d_CL_nextTurn_35 ?_
    refine g_iload_n X d_CL_nextTurn_38 4 rfl ?_
    refine g_aload_n X d_CL_nextTurn_39 2 rfl ?_
    refine g_get (ci := 3) (C := R_CL) (T := F_CL) (N := 7) (v := .int (nI L)) X i_CL rfl hO0 0 (by decide) q_103 (fun _ h9 => h9) rfl d_CL_nextTurn_40 ?_
    refine g_iload_n X d_CL_nextTurn_43 0 rfl ?_
    refine g_eqi (y := nI (mxt (nbh td ts k dd tn))) (by rw [show mxt (nbh td ts k dd tn) = min 105001 (nbh td ts k dd tn - 1) from if_neg hx0]) ?_
    refine g_callV (ci := 4) (As := [.int (nI dd), .int (nI L), .int (nI (mxt (nbh td ts k dd tn)))]) (rest := []) X (z_ok eA) rfl rfl hcq (c_CS_nextTurn hcs (hCB k) (dd := dd) (L := L) (M := mxt (nbh td ts k dd tn)) hdd hL5 (Nat.lt_of_le_of_lt (mxt_lt _) (by decide))) v_CS_nextTurn q_579 q_580 q_578 rfl rfl (Nat.le_of_ble_eq_true rfl) d_CL_nextTurn_44 ⟨(Nat.le_of_ble_eq_true rfl), (Nat.le_of_ble_eq_true rfl)⟩ ⟨(Nat.le_of_ble_eq_true rfl), (Nat.le_of_ble_eq_true rfl)⟩ (g_K.no (fun _ h => h)) (fun r_ f2_ hp => ?_)
    obtain ⟨rfl, hf_⟩ := hp
    subst f2_
    refine g_st (st2 := [.int (nI (nxt L dy ct td ts tn k dd))]) rfl ?_
    exact g_iret X rfl (⟨rfl, rfl⟩) (Nat.le_of_ble_eq_true rfl) (Nat.le_of_ble_eq_true rfl) d_CL_nextTurn_47
end
section
/-- an int that is a number below n; between two numbers -/
def inR (x : Int32) (n : Nat) : Prop := ∃ j, j < n ∧ x = nI j
theorem inR_iff {x : Int32} {n : Nat} (hn : n < 2 ^ 30) : (¬ x < 0 ∧ x ≤ nI n - 1) ↔ inR x n := by
  constructor
  · intro h
    obtain ⟨j, hj, rfl⟩ := nI_of h.1
    refine ⟨j, ?_, rfl⟩
    have h2 := h.2
    rw [Int32.le_iff_toInt_le, nI_toInt hj, show nI n - 1 = fI n from rfl, fI_toInt hn] at h2
    omega
  · rintro ⟨j, hj, rfl⟩
    refine ⟨nI_pos (by omega), ?_⟩
    rw [Int32.le_iff_toInt_le, nI_toInt (by omega), show nI n - 1 = fI n from rfl, fI_toInt hn]
    omega
theorem inD_iff {x : Int32} : (¬ x < 0 ∧ x ≤ 100000) ↔ inR x 100001 := inR_iff (n := 100001) (by decide)
def inW (x : Int32) (lo hi : Nat) : Prop := ∃ j, lo ≤ j ∧ j ≤ hi ∧ x = nI j
theorem inW_iff {x : Int32} {lo hi : Nat} (hl : lo < 2 ^ 31) (hh : hi < 2 ^ 31) : (¬ x < nI lo ∧ x ≤ nI hi) ↔ inW x lo hi := by
  constructor
  · intro h
    have h0 : ¬ x < 0 := fun z => h.1 (by
      rw [Int32.lt_iff_toInt_lt] at z ⊢
      rw [nI_toInt hl]
      rw [Int32.toInt_zero] at z
      omega)
    obtain ⟨j, hj, rfl⟩ := nI_of h0
    exact ⟨j, Nat.le_of_not_lt (fun z => h.1 ((nI_ltI hj hl).mpr z)), (nI_leI hj hh).mp h.2, rfl⟩
  · rintro ⟨j, h1, h2, rfl⟩
    exact ⟨fun z => absurd ((nI_ltI (by omega) hl).mp z) (by omega), (nI_leI (by omega) hh).mpr h2⟩
theorem inN_iff {x : Int32} : (¬ x < 0 ∧ x ≤ 2147483647) ↔ ¬ x < 0 := ⟨fun h => h.1, fun h => ⟨h, by
  rw [Int32.le_iff_toInt_le, show (2147483647 : Int32).toInt = 2147483647 by decide]
  have := x.toInt_lt
  omega⟩⟩
/-- the l-th of the cases from i on with a property -/
def nthc (p : Nat → Bool) : Nat → Nat → Nat → Int32
  | 0, _, _ => -1
  | d + 1, i, l => if p i then (if l = 0 then nI i else nthc p d (i + 1) (l - 1)) else nthc p d (i + 1) l
theorem nthc_s (p : Nat → Bool) (d i l : Nat) : nthc p (d + 1) i l = if p i then (if l = 0 then nI i else nthc p d (i + 1) (l - 1)) else nthc p d (i + 1) l := rfl
/-- the first turn from a day on that isn't proved -/
def prv (st nx : Nat → Nat) : Nat → Nat → Nat
  | 0, a => a
  | d + 1, a => if st a = 3 then prv st nx d (nx a) else a
theorem prv_s (st nx : Nat → Nat) (d a : Nat) : prv st nx (d + 1) a = if st a = 3 then prv st nx d (nx a) else a := rfl
set_option maxHeartbeats 4000000 in
set_option maxRecDepth 100000 in
theorem c_CL_seconds {l : Launch} {D : va_G} {cI cZ cO cJ : ClassId} {eA : Nat} {f : g_F} {ad : Nat → Nat} {L nc : Nat} {pt ot : Nat → Int32} {per dy : Nat → Nat → Nat} {gd : Nat → Nat → Bool} {ct : Nat → Nat} {td ts : Nat → Nat} {tn : Nat} {P Du S Wy Re : Nat → Nat} {n : Nat} {O : Nat → Nat} {pl ps cap : Nat} {mc : Int32} (hR : cl_R cI cZ cO f ad L nc pt ot per dy gd ct td ts tn P Du S Wy Re n O pl ps cap mc) (hB : cl_B L nc per dy ct td ts tn P Du S Wy Re n O pl ps) : g_C l y_CL_seconds b_CL_seconds 1 (some .int) { frames := 0, cells := 0, slots := 0, locals := 0 } D g_cl (g_tys cI cZ cO cJ) (z_Z eA) [.ref (ad 0)] f (fun r f2 => r = some (.int (nI ps)) ∧ f2 = f) (fun _ => False) := by
  refine g_ofW [(0, .ref (ad 0))] (by decide +kernel) (Nat.le_of_ble_eq_true rfl) rfl ?_
  intro p e s m args below meth c X ht hin
  obtain ⟨hO0, hAL, hTL, hTU, hPL, hCS⟩ := id hR
  obtain ⟨⟨hL1, hL5⟩, hnc, hCB, hTB, hUB, hRe, hpl8, hO8, hps⟩ := id hB
  obtain ⟨hQ, hn, hcap, hE⟩ := id hAL
  have hG := hTL.1
  have hT := hTU.1
  refine g_aload_n X d_CL_seconds_0 0 rfl ?_
  refine g_get (ci := 3) (C := R_CL) (T := F_CL) (N := 7) (v := .int (nI ps)) X i_CL rfl hO0 6 (by decide) q_109 (fun _ h9 => h9) rfl d_CL_seconds_1 ?_
  exact g_iret X rfl (⟨rfl, rfl⟩) (Nat.le_of_ble_eq_true rfl) (Nat.le_of_ble_eq_true rfl) d_CL_seconds_4
set_option maxHeartbeats 4000000 in
set_option maxRecDepth 100000 in
theorem c_CL_planned {l : Launch} {D : va_G} {cI cZ cO cJ : ClassId} {eA : Nat} (hl : l.stackTraces = false) {f : g_F} {ad : Nat → Nat} {L nc : Nat} {pt ot : Nat → Int32} {per dy : Nat → Nat → Nat} {gd : Nat → Nat → Bool} {ct : Nat → Nat} {td ts : Nat → Nat} {tn : Nat} {P Du S Wy Re : Nat → Nat} {n : Nat} {O : Nat → Nat} {pl ps cap : Nat} {mc : Int32} (hR : cl_R cI cZ cO f ad L nc pt ot per dy gd ct td ts tn P Du S Wy Re n O pl ps cap mc) (hB : cl_B L nc per dy ct td ts tn P Du S Wy Re n O pl ps) {x : Int32} : g_C l y_CL_planned b_CL_planned 2 (some .int) { frames := 8, cells := 1, slots := 6, locals := 125 } D g_cl (g_tys cI cZ cO cJ) (z_Z eA) [.ref (ad 0), .int x] f (fun r f2 => (∃ k, k < pl ∧ x = nI k ∧ r = some (.int (nI (O k)))) ∧ f2 = f) (fun E => E = "java/lang/IllegalArgumentException" ∧ ¬ (inR x pl)) := by
  refine g_ofW [(0, .ref (ad 0)), (1, .int x)] (by decide +kernel) (Nat.le_of_ble_eq_true rfl) rfl ?_
  intro p e s m args below meth c X ht hin
  obtain ⟨hO0, hAL, hTL, hTU, hPL, hCS⟩ := id hR
  obtain ⟨⟨hL1, hL5⟩, hnc, hCB, hTB, hUB, hRe, hpl8, hO8, hps⟩ := id hB
  obtain ⟨hQ, hn, hcap, hE⟩ := id hAL
  have hG := hTL.1
  have hT := hTU.1
  refine g_iload_n X d_CL_planned_0 1 rfl ?_
  refine g_aload_n X d_CL_planned_1 0 rfl ?_
  refine g_get (ci := 3) (C := R_CL) (T := F_CL) (N := 7) (v := .int (nI pl)) X i_CL rfl hO0 5 (by decide) q_108 (fun _ h9 => h9) rfl d_CL_planned_2 ?_
  refine g_callS (As := [.int x, .int (nI pl)]) (rest := []) X (z_ok eA) (c_CL_needBelow hl (f := f) (x := x) (b := nI (pl))) v_CL_needBelow q_142 q_141 rfl rfl (Nat.le_of_ble_eq_true rfl) d_CL_planned_5 ⟨(Nat.le_of_ble_eq_true rfl), (Nat.le_of_ble_eq_true rfl)⟩ ⟨(Nat.le_of_ble_eq_true rfl), (Nat.le_of_ble_eq_true rfl)⟩ (g_K.out X ht (fun E_ h_ => ⟨h_.1, fun z => h_.2.elim ((inR_iff (n := pl) (by omega)).mpr z).1 (fun v_ => v_ ((inR_iff (n := pl) (by omega)).mpr z).2)⟩) (Nat.le_of_ble_eq_true rfl) (Nat.le_of_ble_eq_true rfl)) (fun r_ f2_ hp => ?_)
  obtain ⟨⟨rfl, hf_⟩, hw_⟩ := hp
  refine g_st (st2 := []) rfl ?_
  have hf_ := hf_.symm
  subst hf_
  obtain ⟨k, hk, rfl⟩ := (inR_iff (n := pl) (by omega)).mp hw_
  refine g_aload_n X d_CL_planned_8 0 rfl ?_
  refine g_get (ci := 3) (C := R_CL) (T := F_CL) (N := 7) (v := .ref (ad 12)) X i_CL rfl hO0 4 (by decide) q_107 (fun _ h9 => h9) rfl d_CL_planned_9 ?_
  refine g_iload_n X d_CL_planned_12 1 rfl ?_
  refine g_iald (t0 := 0) (v := nI (O k)) X hPL rfl (nI_ix ((by omega : k < 8)) (by decide)) (nI_cl (g := fun q9 => nI (O q9)) (Nat.lt_trans ((by omega : k < 8)) (by decide))) d_CL_planned_13 ?_
  exact g_iret X rfl (⟨⟨k, hk, rfl, rfl⟩, rfl⟩) (Nat.le_of_ble_eq_true rfl) (Nat.le_of_ble_eq_true rfl) d_CL_planned_14
set_option maxHeartbeats 4000000 in
set_option maxRecDepth 100000 in
theorem c_CL_state {l : Launch} {D : va_G} {cI cZ cO cJ : ClassId} {eA : Nat} (hl : l.stackTraces = false) {f : g_F} {ad : Nat → Nat} {L nc : Nat} {pt ot : Nat → Int32} {per dy : Nat → Nat → Nat} {gd : Nat → Nat → Bool} {ct : Nat → Nat} {td ts : Nat → Nat} {tn : Nat} {P Du S Wy Re : Nat → Nat} {n : Nat} {O : Nat → Nat} {pl ps cap : Nat} {mc : Int32} (hR : cl_R cI cZ cO f ad L nc pt ot per dy gd ct td ts tn P Du S Wy Re n O pl ps cap mc) (hB : cl_B L nc per dy ct td ts tn P Du S Wy Re n O pl ps) {x y : Int32} : g_C l y_CL_state b_CL_state 3 (some .int) { frames := 8, cells := 2, slots := 12, locals := 125 } D g_cl (g_tys cI cZ cO cJ) (z_Z eA) [.ref (ad 0), .int x, .int y] f (fun r f2 => (∃ k dd, k < nc ∧ dd < 100001 ∧ x = nI k ∧ y = nI dd ∧ r = some (.int (nI (sta L per dy gd ct td ts tn k dd)))) ∧ f2 = f) (fun E => E = "java/lang/IllegalArgumentException" ∧ ¬ (inR x nc ∧ inR y 100001)) := by
  refine g_ofW [(0, .ref (ad 0)), (1, .int x), (2, .int y)] (by decide +kernel) (Nat.le_of_ble_eq_true rfl) rfl ?_
  intro p e s m args below meth c X ht hin
  obtain ⟨hO0, hAL, hTL, hTU, hPL, hCS⟩ := id hR
  obtain ⟨⟨hL1, hL5⟩, hnc, hCB, hTB, hUB, hRe, hpl8, hO8, hps⟩ := id hB
  obtain ⟨hQ, hn, hcap, hE⟩ := id hAL
  have hG := hTL.1
  have hT := hTU.1
  refine g_iload_n X d_CL_state_0 1 rfl ?_
  refine g_aload_n X d_CL_state_1 0 rfl ?_
  refine g_get (ci := 3) (C := R_CL) (T := F_CL) (N := 7) (v := .ref (ad 1)) X i_CL rfl hO0 1 (by decide) q_104 (fun _ h9 => h9) rfl d_CL_state_2 ?_
  refine g_callV (ci := 0) (As := []) (rest := [.int x]) X (z_ok eA) rfl rfl hQ (c_AL_size hAL) v_AL_size q_223 q_224 q_222 rfl rfl (Nat.le_of_ble_eq_true rfl) d_CL_state_5 ⟨(Nat.le_of_ble_eq_true rfl), (Nat.le_of_ble_eq_true rfl)⟩ ⟨(Nat.le_of_ble_eq_true rfl), (Nat.le_of_ble_eq_true rfl)⟩ (g_K.no (fun _ h => h)) (fun r_ f2_ hp => ?_)
  obtain ⟨rfl, hf_⟩ := hp
  subst f2_
  refine g_st (st2 := [.int (nI nc), .int x]) rfl ?_
  refine g_callS (As := [.int x, .int (nI nc)]) (rest := []) X (z_ok eA) (c_CL_needBelow hl (f := f) (x := x) (b := nI (nc))) v_CL_needBelow q_142 q_141 rfl rfl (Nat.le_of_ble_eq_true rfl) d_CL_state_8 ⟨(Nat.le_of_ble_eq_true rfl), (Nat.le_of_ble_eq_true rfl)⟩ ⟨(Nat.le_of_ble_eq_true rfl), (Nat.le_of_ble_eq_true rfl)⟩ (g_K.out X ht (fun E_ h_ => ⟨h_.1, fun z => h_.2.elim ((inR_iff (n := nc) (by omega)).mpr z.1).1 (fun v_ => v_ ((inR_iff (n := nc) (by omega)).mpr z.1).2)⟩) (Nat.le_of_ble_eq_true rfl) (Nat.le_of_ble_eq_true rfl)) (fun r_ f2_ hp => ?_)
  obtain ⟨⟨rfl, hf_⟩, hw_⟩ := hp
  refine g_st (st2 := []) rfl ?_
  have hf_ := hf_.symm
  subst hf_
  obtain ⟨k, hk, rfl⟩ := (inR_iff (n := nc) (by omega)).mp hw_
  refine g_iload_n X d_CL_state_11 2 rfl ?_
  refine g_callS (As := [.int y]) (rest := []) X (z_ok eA) (c_CL_needDay hl (f := f) (x := y)) v_CL_needDay q_388 q_387 rfl rfl (Nat.le_of_ble_eq_true rfl) d_CL_state_12 ⟨(Nat.le_of_ble_eq_true rfl), (Nat.le_of_ble_eq_true rfl)⟩ ⟨(Nat.le_of_ble_eq_true rfl), (Nat.le_of_ble_eq_true rfl)⟩ (g_K.out X ht (fun E_ h_ => ⟨h_.1, fun z => h_.2.elim (inD_iff.mpr z.2).1 (fun v_ => v_ (inD_iff.mpr z.2).2)⟩) (Nat.le_of_ble_eq_true rfl) (Nat.le_of_ble_eq_true rfl)) (fun r_ f2_ hp => ?_)
  obtain ⟨⟨rfl, hf_⟩, hw_⟩ := hp
  refine g_st (st2 := []) rfl ?_
  have hf_ := hf_.symm
  subst hf_
  obtain ⟨dd, hd, rfl⟩ := inD_iff.mp hw_
  refine g_aload_n X d_CL_state_15 0 rfl ?_
  refine g_iload_n X d_CL_state_16 1 rfl ?_
  refine g_iload_n X d_CL_state_17 2 rfl ?_
  refine g_callV (ci := 3) (As := [.int (nI k), .int (nI dd)]) (rest := []) X (z_ok eA) rfl rfl hO0 (c_CL_stateOn hR hB (k := k) (dd := dd) hk (by omega)) v_CL_stateOn q_442 q_s7 q_440 rfl rfl (Nat.le_of_ble_eq_true rfl) d_CL_state_18 ⟨(Nat.le_of_ble_eq_true rfl), (Nat.le_of_ble_eq_true rfl)⟩ ⟨(Nat.le_of_ble_eq_true rfl), (Nat.le_of_ble_eq_true rfl)⟩ (g_K.no (fun _ h => h)) (fun r_ f2_ hp => ?_)
  obtain ⟨rfl, hf_⟩ := hp
  subst f2_
  refine g_st (st2 := [.int (nI (sta L per dy gd ct td ts tn k dd))]) rfl ?_
  exact g_iret X rfl (⟨⟨k, dd, hk, hd, rfl, rfl, rfl⟩, rfl⟩) (Nat.le_of_ble_eq_true rfl) (Nat.le_of_ble_eq_true rfl) d_CL_state_21
set_option maxHeartbeats 4000000 in
set_option maxRecDepth 100000 in
theorem c_CL_touched {l : Launch} {D : va_G} {cI cZ cO cJ : ClassId} {eA : Nat} (hl : l.stackTraces = false) {f : g_F} {ad : Nat → Nat} {L nc : Nat} {pt ot : Nat → Int32} {per dy : Nat → Nat → Nat} {gd : Nat → Nat → Bool} {ct : Nat → Nat} {td ts : Nat → Nat} {tn : Nat} {P Du S Wy Re : Nat → Nat} {n : Nat} {O : Nat → Nat} {pl ps cap : Nat} {mc : Int32} (hR : cl_R cI cZ cO f ad L nc pt ot per dy gd ct td ts tn P Du S Wy Re n O pl ps cap mc) (hB : cl_B L nc per dy ct td ts tn P Du S Wy Re n O pl ps) {x y : Int32} : g_C l y_CL_touched b_CL_touched 3 (some .int) { frames := 8, cells := 2, slots := 12, locals := 125 } D g_cl (g_tys cI cZ cO cJ) (z_Z eA) [.ref (ad 0), .int x, .int y] f (fun r f2 => (∃ k dd, k < nc ∧ dd < 100001 ∧ x = nI k ∧ y = nI dd ∧ r = some (.int (fI (ltst td ts k dd tn)))) ∧ f2 = f) (fun E => E = "java/lang/IllegalArgumentException" ∧ ¬ (inR x nc ∧ inR y 100001)) := by
  refine g_ofW [(0, .ref (ad 0)), (1, .int x), (2, .int y)] (by decide +kernel) (Nat.le_of_ble_eq_true rfl) rfl ?_
  intro p e s m args below meth c X ht hin
  obtain ⟨hO0, hAL, hTL, hTU, hPL, hCS⟩ := id hR
  obtain ⟨⟨hL1, hL5⟩, hnc, hCB, hTB, hUB, hRe, hpl8, hO8, hps⟩ := id hB
  obtain ⟨hQ, hn, hcap, hE⟩ := id hAL
  have hG := hTL.1
  have hT := hTU.1
  refine g_iload_n X d_CL_touched_0 1 rfl ?_
  refine g_aload_n X d_CL_touched_1 0 rfl ?_
  refine g_get (ci := 3) (C := R_CL) (T := F_CL) (N := 7) (v := .ref (ad 1)) X i_CL rfl hO0 1 (by decide) q_104 (fun _ h9 => h9) rfl d_CL_touched_2 ?_
  refine g_callV (ci := 0) (As := []) (rest := [.int x]) X (z_ok eA) rfl rfl hQ (c_AL_size hAL) v_AL_size q_223 q_224 q_222 rfl rfl (Nat.le_of_ble_eq_true rfl) d_CL_touched_5 ⟨(Nat.le_of_ble_eq_true rfl), (Nat.le_of_ble_eq_true rfl)⟩ ⟨(Nat.le_of_ble_eq_true rfl), (Nat.le_of_ble_eq_true rfl)⟩ (g_K.no (fun _ h => h)) (fun r_ f2_ hp => ?_)
  obtain ⟨rfl, hf_⟩ := hp
  subst f2_
  refine g_st (st2 := [.int (nI nc), .int x]) rfl ?_
  refine g_callS (As := [.int x, .int (nI nc)]) (rest := []) X (z_ok eA) (c_CL_needBelow hl (f := f) (x := x) (b := nI (nc))) v_CL_needBelow q_142 q_141 rfl rfl (Nat.le_of_ble_eq_true rfl) d_CL_touched_8 ⟨(Nat.le_of_ble_eq_true rfl), (Nat.le_of_ble_eq_true rfl)⟩ ⟨(Nat.le_of_ble_eq_true rfl), (Nat.le_of_ble_eq_true rfl)⟩ (g_K.out X ht (fun E_ h_ => ⟨h_.1, fun z => h_.2.elim ((inR_iff (n := nc) (by omega)).mpr z.1).1 (fun v_ => v_ ((inR_iff (n := nc) (by omega)).mpr z.1).2)⟩) (Nat.le_of_ble_eq_true rfl) (Nat.le_of_ble_eq_true rfl)) (fun r_ f2_ hp => ?_)
  obtain ⟨⟨rfl, hf_⟩, hw_⟩ := hp
  refine g_st (st2 := []) rfl ?_
  have hf_ := hf_.symm
  subst hf_
  obtain ⟨k, hk, rfl⟩ := (inR_iff (n := nc) (by omega)).mp hw_
  refine g_iload_n X d_CL_touched_11 2 rfl ?_
  refine g_callS (As := [.int y]) (rest := []) X (z_ok eA) (c_CL_needDay hl (f := f) (x := y)) v_CL_needDay q_388 q_387 rfl rfl (Nat.le_of_ble_eq_true rfl) d_CL_touched_12 ⟨(Nat.le_of_ble_eq_true rfl), (Nat.le_of_ble_eq_true rfl)⟩ ⟨(Nat.le_of_ble_eq_true rfl), (Nat.le_of_ble_eq_true rfl)⟩ (g_K.out X ht (fun E_ h_ => ⟨h_.1, fun z => h_.2.elim (inD_iff.mpr z.2).1 (fun v_ => v_ (inD_iff.mpr z.2).2)⟩) (Nat.le_of_ble_eq_true rfl) (Nat.le_of_ble_eq_true rfl)) (fun r_ f2_ hp => ?_)
  obtain ⟨⟨rfl, hf_⟩, hw_⟩ := hp
  refine g_st (st2 := []) rfl ?_
  have hf_ := hf_.symm
  subst hf_
  obtain ⟨dd, hd, rfl⟩ := inD_iff.mp hw_
  refine g_aload_n X d_CL_touched_15 0 rfl ?_
  refine g_get (ci := 3) (C := R_CL) (T := F_CL) (N := 7) (v := .ref (ad 3)) X i_CL rfl hO0 2 (by decide) q_105 (fun _ h9 => h9) rfl d_CL_touched_16 ?_
  refine g_iload_n X d_CL_touched_19 1 rfl ?_
  refine g_iload_n X d_CL_touched_20 2 rfl ?_
  refine g_callV (ci := 1) (As := [.int (nI k), .int (nI dd)]) (rest := []) X (z_ok eA) rfl rfl hG (c_TL_latest hTL hTB (k := k) (dd := dd) (by omega) (by omega)) v_TL_latest q_449 q_450 q_448 rfl rfl (Nat.le_of_ble_eq_true rfl) d_CL_touched_21 ⟨(Nat.le_of_ble_eq_true rfl), (Nat.le_of_ble_eq_true rfl)⟩ ⟨(Nat.le_of_ble_eq_true rfl), (Nat.le_of_ble_eq_true rfl)⟩ (g_K.no (fun _ h => h)) (fun r_ f2_ hp => ?_)
  obtain ⟨rfl, hf_⟩ := hp
  subst f2_
  refine g_st (st2 := [.int (fI (ltst td ts k dd tn))]) rfl ?_
  exact g_iret X rfl (⟨⟨k, dd, hk, hd, rfl, rfl, rfl⟩, rfl⟩) (Nat.le_of_ble_eq_true rfl) (Nat.le_of_ble_eq_true rfl) d_CL_touched_24
set_option maxHeartbeats 4000000 in
set_option maxRecDepth 100000 in
theorem c_CL_word {l : Launch} {D : va_G} {cI cZ cO cJ : ClassId} {eA : Nat} (hl : l.stackTraces = false) {f : g_F} {ad : Nat → Nat} {L nc : Nat} {pt ot : Nat → Int32} {per dy : Nat → Nat → Nat} {gd : Nat → Nat → Bool} {ct : Nat → Nat} {td ts : Nat → Nat} {tn : Nat} {P Du S Wy Re : Nat → Nat} {n : Nat} {O : Nat → Nat} {pl ps cap : Nat} {mc : Int32} (hR : cl_R cI cZ cO f ad L nc pt ot per dy gd ct td ts tn P Du S Wy Re n O pl ps cap mc) (hB : cl_B L nc per dy ct td ts tn P Du S Wy Re n O pl ps) {x y w : Int32} : g_C l y_CL_word b_CL_word 4 (some .int) { frames := 8, cells := 3, slots := 18, locals := 125 } D g_cl (g_tys cI cZ cO cJ) (z_Z eA) [.ref (ad 0), .int x, .int y, .int w] f (fun r f2 => (∃ k pe dd, k < nc ∧ pe < 10 ∧ dd < 100001 ∧ x = nI k ∧ y = nI pe ∧ w = nI dd ∧ r = some (.int (wrd L per dy gd ct td ts tn k dd pe))) ∧ f2 = f) (fun E => E = "java/lang/IllegalArgumentException" ∧ ¬ (inR x nc ∧ inR y 10 ∧ inR w 100001)) := by
  refine g_ofW [(0, .ref (ad 0)), (1, .int x), (2, .int y), (3, .int w)] (by decide +kernel) (Nat.le_of_ble_eq_true rfl) rfl ?_
  intro p e s m args below meth c X ht hin
  obtain ⟨hO0, hAL, hTL, hTU, hPL, hCS⟩ := id hR
  obtain ⟨⟨hL1, hL5⟩, hnc, hCB, hTB, hUB, hRe, hpl8, hO8, hps⟩ := id hB
  obtain ⟨hQ, hn, hcap, hE⟩ := id hAL
  have hG := hTL.1
  have hT := hTU.1
  refine g_iload_n X d_CL_word_0 1 rfl ?_
  refine g_aload_n X d_CL_word_1 0 rfl ?_
  refine g_get (ci := 3) (C := R_CL) (T := F_CL) (N := 7) (v := .ref (ad 1)) X i_CL rfl hO0 1 (by decide) q_104 (fun _ h9 => h9) rfl d_CL_word_2 ?_
  refine g_callV (ci := 0) (As := []) (rest := [.int x]) X (z_ok eA) rfl rfl hQ (c_AL_size hAL) v_AL_size q_223 q_224 q_222 rfl rfl (Nat.le_of_ble_eq_true rfl) d_CL_word_5 ⟨(Nat.le_of_ble_eq_true rfl), (Nat.le_of_ble_eq_true rfl)⟩ ⟨(Nat.le_of_ble_eq_true rfl), (Nat.le_of_ble_eq_true rfl)⟩ (g_K.no (fun _ h => h)) (fun r_ f2_ hp => ?_)
  obtain ⟨rfl, hf_⟩ := hp
  subst f2_
  refine g_st (st2 := [.int (nI nc), .int x]) rfl ?_
  refine g_callS (As := [.int x, .int (nI nc)]) (rest := []) X (z_ok eA) (c_CL_needBelow hl (f := f) (x := x) (b := nI (nc))) v_CL_needBelow q_142 q_141 rfl rfl (Nat.le_of_ble_eq_true rfl) d_CL_word_8 ⟨(Nat.le_of_ble_eq_true rfl), (Nat.le_of_ble_eq_true rfl)⟩ ⟨(Nat.le_of_ble_eq_true rfl), (Nat.le_of_ble_eq_true rfl)⟩ (g_K.out X ht (fun E_ h_ => ⟨h_.1, fun z => h_.2.elim ((inR_iff (n := nc) (by omega)).mpr z.1).1 (fun v_ => v_ ((inR_iff (n := nc) (by omega)).mpr z.1).2)⟩) (Nat.le_of_ble_eq_true rfl) (Nat.le_of_ble_eq_true rfl)) (fun r_ f2_ hp => ?_)
  obtain ⟨⟨rfl, hf_⟩, hw_⟩ := hp
  refine g_st (st2 := []) rfl ?_
  have hf_ := hf_.symm
  subst hf_
  obtain ⟨k, hk, rfl⟩ := (inR_iff (n := nc) (by omega)).mp hw_
  refine g_iload_n X d_CL_word_11 2 rfl ?_
  refine g_bipush (v := 10) X d_CL_word_12 (by decide) ?_
  refine g_callS (As := [.int y, .int 10]) (rest := []) X (z_ok eA) (c_CL_needBelow hl (f := f) (x := y) (b := 10)) v_CL_needBelow q_142 q_141 rfl rfl (Nat.le_of_ble_eq_true rfl) d_CL_word_14 ⟨(Nat.le_of_ble_eq_true rfl), (Nat.le_of_ble_eq_true rfl)⟩ ⟨(Nat.le_of_ble_eq_true rfl), (Nat.le_of_ble_eq_true rfl)⟩ (g_K.out X ht (fun E_ h_ => ⟨h_.1, fun z => h_.2.elim ((inR_iff (n := 10) (by decide)).mpr z.2.1).1 (fun v_ => v_ ((inR_iff (n := 10) (by decide)).mpr z.2.1).2)⟩) (Nat.le_of_ble_eq_true rfl) (Nat.le_of_ble_eq_true rfl)) (fun r_ f2_ hp => ?_)
  obtain ⟨⟨rfl, hf_⟩, hw_⟩ := hp
  refine g_st (st2 := []) rfl ?_
  have hf_ := hf_.symm
  subst hf_
  obtain ⟨pe, hpe, rfl⟩ := (inR_iff (n := 10) (by decide)).mp hw_
  refine g_iload_n X d_CL_word_17 3 rfl ?_
  refine g_callS (As := [.int w]) (rest := []) X (z_ok eA) (c_CL_needDay hl (f := f) (x := w)) v_CL_needDay q_388 q_387 rfl rfl (Nat.le_of_ble_eq_true rfl) d_CL_word_18 ⟨(Nat.le_of_ble_eq_true rfl), (Nat.le_of_ble_eq_true rfl)⟩ ⟨(Nat.le_of_ble_eq_true rfl), (Nat.le_of_ble_eq_true rfl)⟩ (g_K.out X ht (fun E_ h_ => ⟨h_.1, fun z => h_.2.elim (inD_iff.mpr z.2.2).1 (fun v_ => v_ (inD_iff.mpr z.2.2).2)⟩) (Nat.le_of_ble_eq_true rfl) (Nat.le_of_ble_eq_true rfl)) (fun r_ f2_ hp => ?_)
  obtain ⟨⟨rfl, hf_⟩, hw_⟩ := hp
  refine g_st (st2 := []) rfl ?_
  have hf_ := hf_.symm
  subst hf_
  obtain ⟨dd, hd, rfl⟩ := inD_iff.mp hw_
  refine g_aload_n X d_CL_word_21 0 rfl ?_
  refine g_get (ci := 3) (C := R_CL) (T := F_CL) (N := 7) (v := .ref (ad 1)) X i_CL rfl hO0 1 (by decide) q_104 (fun _ h9 => h9) rfl d_CL_word_22 ?_
  refine g_iload_n X d_CL_word_25 1 rfl ?_
  refine g_callV (ci := 0) (As := [.int (nI k)]) (rest := []) X (z_ok eA) rfl rfl hQ (c_AL_get hAL (i := k) (hk)) v_AL_get q_227 q_228 q_226 rfl rfl (Nat.le_of_ble_eq_true rfl) d_CL_word_26 ⟨(Nat.le_of_ble_eq_true rfl), (Nat.le_of_ble_eq_true rfl)⟩ ⟨(Nat.le_of_ble_eq_true rfl), (Nat.le_of_ble_eq_true rfl)⟩ (g_K.no (fun _ h => h)) (fun r_ f2_ hp => ?_)
  obtain ⟨rfl, hf_⟩ := hp
  subst f2_
  refine g_st (st2 := [.ref (ad (13 + 4 * k))]) rfl ?_
  have hcs := hCS k (hk)
  have hcq := hcs.1
  refine g_cast (ci := 4) (nm := "CaseLists$Case") X q_240 rfl X.2.2.2.2.2.2.2.2.1.1 hcq d_CL_word_29 ?_
  refine g_iload_n X d_CL_word_32 2 rfl ?_
  refine g_aload_n X d_CL_word_33 0 rfl ?_
  refine g_iload_n X d_CL_word_34 1 rfl ?_
  refine g_iload_n X d_CL_word_35 3 rfl ?_
  refine g_callV (ci := 3) (As := [.int (nI k), .int (nI dd)]) (rest := [.int (nI pe), .ref (ad (13 + 4 * k))]) X (z_ok eA) rfl rfl hO0 (c_CL_firstCountingDay hR hB (k := k) (dd := dd) hk (by omega)) v_CL_firstCountingDay q_446 q_s8 q_444 rfl rfl (Nat.le_of_ble_eq_true rfl) d_CL_word_36 ⟨(Nat.le_of_ble_eq_true rfl), (Nat.le_of_ble_eq_true rfl)⟩ ⟨(Nat.le_of_ble_eq_true rfl), (Nat.le_of_ble_eq_true rfl)⟩ (g_K.no (fun _ h => h)) (fun r_ f2_ hp => ?_)
  obtain ⟨rfl, hf_⟩ := hp
  subst f2_
  refine g_st (st2 := [.int (fcd dd L (ltst td ts k dd tn)), .int (nI pe), .ref (ad (13 + 4 * k))]) rfl ?_
  refine g_iload_n X d_CL_word_39 3 rfl ?_
  refine g_callV (ci := 4) (As := [.int (nI pe), .int (fcd dd L (ltst td ts k dd tn)), .int (nI dd)]) (rest := []) X (z_ok eA) rfl rfl hcq (c_CS_wordOf hcs (hCB k) (pe := pe) (dd := dd) (fs := fcd dd L (ltst td ts k dd tn)) hpe (by omega)) v_CS_wordOf q_454 q_455 q_453 rfl rfl (Nat.le_of_ble_eq_true rfl) d_CL_word_40 ⟨(Nat.le_of_ble_eq_true rfl), (Nat.le_of_ble_eq_true rfl)⟩ ⟨(Nat.le_of_ble_eq_true rfl), (Nat.le_of_ble_eq_true rfl)⟩ (g_K.no (fun _ h => h)) (fun r_ f2_ hp => ?_)
  obtain ⟨rfl, hf_⟩ := hp
  subst f2_
  refine g_st (st2 := [.int (wrd L per dy gd ct td ts tn k dd pe)]) rfl ?_
  exact g_iret X rfl (⟨⟨k, pe, dd, hk, hpe, hd, rfl, rfl, rfl, rfl⟩, rfl⟩) (Nat.le_of_ble_eq_true rfl) (Nat.le_of_ble_eq_true rfl) d_CL_word_43
set_option maxHeartbeats 4000000 in
set_option maxRecDepth 100000 in
theorem c_CL_from {l : Launch} {D : va_G} {cI cZ cO cJ : ClassId} {eA : Nat} (hl : l.stackTraces = false) {f : g_F} {ad : Nat → Nat} {L nc : Nat} {pt ot : Nat → Int32} {per dy : Nat → Nat → Nat} {gd : Nat → Nat → Bool} {ct : Nat → Nat} {td ts : Nat → Nat} {tn : Nat} {P Du S Wy Re : Nat → Nat} {n : Nat} {O : Nat → Nat} {pl ps cap : Nat} {mc : Int32} (hR : cl_R cI cZ cO f ad L nc pt ot per dy gd ct td ts tn P Du S Wy Re n O pl ps cap mc) (hB : cl_B L nc per dy ct td ts tn P Du S Wy Re n O pl ps) (hIn : ∀ i j, i < 13 + 4 * nc → j < 13 + 4 * nc → ad i = ad j → i = j) {x : Int32} : g_C l y_CL_from b_CL_from 2 (some .int) { frames := 8, cells := 1, slots := 6, locals := 125 } D g_cl (g_tys cI cZ cO cJ) (z_Z eA) [.ref (ad 0), .int x] f (fun r f2 => ∃ k, k < n ∧ x = nI k ∧ ((S k = 0 ∧ r = some (.int (-1)) ∧ f2 = f) ∨ (S k ≠ 0 ∧ ∃ Re2 : Nat → Nat, bellA P Du S Wy n (orS S (2 ^ n - 1) n) Re2 0 ∧ r = some (.int (nI (wF Du Re2 k / 16))) ∧ f2 = tu_w cI f (fun i => ad (7 + i)) Re2))) (fun E => E = "java/lang/IllegalArgumentException" ∧ ¬ (inR x n)) := by
  refine g_ofW [(0, .ref (ad 0)), (1, .int x)] (by decide +kernel) (Nat.le_of_ble_eq_true rfl) rfl ?_
  intro p e s m args below meth c X ht hin
  obtain ⟨hO0, hAL, hTL, hTU, hPL, hCS⟩ := id hR
  obtain ⟨⟨hL1, hL5⟩, hnc, hCB, hTB, hUB, hRe, hpl8, hO8, hps⟩ := id hB
  obtain ⟨hQ, hn, hcap, hE⟩ := id hAL
  have hG := hTL.1
  have hT := hTU.1
  have hn8 := hUB.1
  have hI : ∀ i j, i < 5 → j < 5 → ad (7 + i) = ad (7 + j) → i = j := fun i j h1 h2 h3 => by have := hIn (7 + i) (7 + j) (by omega) (by omega) h3; omega
  refine g_iload_n X d_CL_from_0 1 rfl ?_
  refine g_aload_n X d_CL_from_1 0 rfl ?_
  refine g_get (ci := 3) (C := R_CL) (T := F_CL) (N := 7) (v := .ref (ad 6)) X i_CL rfl hO0 3 (by decide) q_106 (fun _ h9 => h9) rfl d_CL_from_2 ?_
  refine g_callV (ci := 2) (As := []) (rest := [.int x]) X (z_ok eA) rfl rfl hT (c_TU_actCount hTU hUB) v_TU_actCount q_348 q_349 q_347 rfl rfl (Nat.le_of_ble_eq_true rfl) d_CL_from_5 ⟨(Nat.le_of_ble_eq_true rfl), (Nat.le_of_ble_eq_true rfl)⟩ ⟨(Nat.le_of_ble_eq_true rfl), (Nat.le_of_ble_eq_true rfl)⟩ (g_K.no (fun _ h => h)) (fun r_ f2_ hp => ?_)
  obtain ⟨rfl, hf_⟩ := hp
  subst f2_
  refine g_st (st2 := [.int (nI n), .int x]) rfl ?_
  refine g_callS (As := [.int x, .int (nI n)]) (rest := []) X (z_ok eA) (c_CL_needBelow hl (f := f) (x := x) (b := nI (n))) v_CL_needBelow q_142 q_141 rfl rfl (Nat.le_of_ble_eq_true rfl) d_CL_from_8 ⟨(Nat.le_of_ble_eq_true rfl), (Nat.le_of_ble_eq_true rfl)⟩ ⟨(Nat.le_of_ble_eq_true rfl), (Nat.le_of_ble_eq_true rfl)⟩ (g_K.out X ht (fun E_ h_ => ⟨h_.1, fun z => h_.2.elim ((inR_iff (n := n) (by omega)).mpr z).1 (fun v_ => v_ ((inR_iff (n := n) (by omega)).mpr z).2)⟩) (Nat.le_of_ble_eq_true rfl) (Nat.le_of_ble_eq_true rfl)) (fun r_ f2_ hp => ?_)
  obtain ⟨⟨rfl, hf_⟩, hw_⟩ := hp
  refine g_st (st2 := []) rfl ?_
  have hf_ := hf_.symm
  subst hf_
  obtain ⟨k, hk, rfl⟩ := (inR_iff (n := n) (by omega)).mp hw_
  refine g_aload_n X d_CL_from_11 0 rfl ?_
  refine g_get (ci := 3) (C := R_CL) (T := F_CL) (N := 7) (v := .ref (ad 6)) X i_CL rfl hO0 3 (by decide) q_106 (fun _ h9 => h9) rfl d_CL_from_12 ?_
  refine g_iload_n X d_CL_from_15 1 rfl ?_
  refine g_callV (ci := 2) (As := [.int (nI k)]) (rest := []) X (z_ok eA) rfl rfl hT (c_TU_leastSecondsFrom hTU hUB hRe hI (i := k) (by omega)) v_TU_leastSecondsFrom q_525 q_526 q_524 rfl rfl (Nat.le_of_ble_eq_true rfl) d_CL_from_16 ⟨(Nat.le_of_ble_eq_true rfl), (Nat.le_of_ble_eq_true rfl)⟩ ⟨(Nat.le_of_ble_eq_true rfl), (Nat.le_of_ble_eq_true rfl)⟩ (g_K.no (fun _ h => h)) (fun r_ f2_ hp => ?_)
  rcases hp with ⟨h1_, rfl, rfl⟩ | ⟨h1_, Re2, h2_, rfl, rfl⟩
  · exact g_iret X rfl ⟨k, hk, rfl, Or.inl ⟨h1_, rfl, rfl⟩⟩ (Nat.le_of_ble_eq_true rfl) (Nat.le_of_ble_eq_true rfl) d_CL_from_19
  · exact g_iret X rfl ⟨k, hk, rfl, Or.inr ⟨h1_, Re2, h2_, rfl, rfl⟩⟩ (Nat.le_of_ble_eq_true rfl) (Nat.le_of_ble_eq_true rfl) d_CL_from_19
set_option maxHeartbeats 4000000 in
set_option maxRecDepth 100000 in
theorem L_CL_listed {p : Program} {l : Launch} {e : Env} {s : State} {m : MethodId} {args : Array Value} {below : List Frame} {meth : Method} {c : Code} {Q : State → Prop} {A : Nat → Prop} {D : va_G} {cI cZ cO cJ : ClassId} {eA : Nat} {f : g_F} {ad : Nat → Nat} {L nc : Nat} {pt ot : Nat → Int32} {per dy : Nat → Nat → Nat} {gd : Nat → Nat → Bool} {ct : Nat → Nat} {td ts : Nat → Nat} {tn : Nat} {P Du S Wy Re : Nat → Nat} {n : Nat} {O : Nat → Nat} {pl ps cap : Nat} {mc : Int32} (hR : cl_R cI cZ cO f ad L nc pt ot per dy gd ct td ts tn P Du S Wy Re n O pl ps cap mc) (hB : cl_B L nc per dy ct td ts tn P Du S Wy Re n O pl ps) {dd v : Nat} {res : Int32} (hdd : dd < 2 ^ 30) (hv : v < 4) (X : g_X p s m args meth c b_CL_listed 6 (some .int) g_T y_CL_listed.cls D g_cl (g_tys cI cZ cO cJ) A (z_Z eA)) (k59 : res = -1 → g_W p l e { frames := 8, cells := 3, slots := 18, locals := 125 } s m args below meth c 6 D g_cl A f 3 18 Q 59 [(0, .ref (ad 0))] []) (k47 : ∀ i, res = nI i → g_W p l e { frames := 8, cells := 3, slots := 18, locals := 125 } s m args below meth c 6 D g_cl A f 3 18 Q 47 [(5, .int (nI i))] []) : ∀ (d : Nat) (i l_ : Nat), (i + d = nc) → (l_ < 2 ^ 31) → (nthc (fun k => decide (sta L per dy gd ct td ts tn k dd = v)) d i l_ = res) → g_W p l e { frames := 8, cells := 3, slots := 18, locals := 125 } s m args below meth c 6 D g_cl A f 3 18 Q 19 [(5, .int (nI i)), (4, .int (nI l_)), (0, .ref (ad 0)), (1, .int (nI v)), (2, .int (nI dd))] [] := by
  obtain ⟨hO0, hAL, hTL, hTU, hPL, hCS⟩ := id hR
  obtain ⟨⟨hL1, hL5⟩, hnc, hCB, hTB, hUB, hRe, hpl8, hO8, hps⟩ := id hB
  obtain ⟨hQ, hn, hcap, hE⟩ := id hAL
  have hG := hTL.1
  have hT := hTU.1
  intro d
  induction d using Nat.strongRecOn with
  | _ d ih =>
    intro i l_ hi hl_ hr
    refine g_iload X d_CL_listed_19 0 rfl ?_
    refine g_aload_n X d_CL_listed_21 2 rfl ?_
    refine g_get (ci := 3) (C := R_CL) (T := F_CL) (N := 7) (v := .ref (ad 1)) X i_CL rfl hO0 1 (by decide) q_104 (fun _ h9 => h9) rfl d_CL_listed_22 ?_
    refine g_callV (ci := 0) (As := []) (rest := [.int (nI i)]) X (z_ok eA) rfl rfl hQ (c_AL_size hAL) v_AL_size q_223 q_224 q_222 rfl rfl (Nat.le_of_ble_eq_true rfl) d_CL_listed_25 ⟨(Nat.le_of_ble_eq_true rfl), (Nat.le_of_ble_eq_true rfl)⟩ ⟨(Nat.le_of_ble_eq_true rfl), (Nat.le_of_ble_eq_true rfl)⟩ (g_K.no (fun _ h => h)) (fun r_ f2_ hp => ?_)
    obtain ⟨rfl, hf_⟩ := hp
    subst f2_
    refine g_st (st2 := [.int (nI nc), .int (nI i)]) rfl ?_
    refine g_icmp_ge X 59 d_CL_listed_28 (by decide) (fun c28 => ?_) (fun c28 => ?_)
    · skip
      have e : d = 0 := by have := (nI_leI (by omega) (by omega)).mp c28; omega
      subst e
      exact g_lv [2] rfl (k59 hr.symm)
    · skip
      have hlt : i < nc := Nat.lt_of_not_le (fun z => c28 ((nI_leI (by omega) (by omega)).mpr z))
      obtain ⟨d, rfl⟩ : ∃ d9, d = d9 + 1 := ⟨d - 1, by omega⟩
      rw [nthc_s] at hr
      refine g_aload_n X d_CL_listed_31 2 rfl ?_
      refine g_iload X d_CL_listed_32 0 rfl ?_
      refine g_iload_n X d_CL_listed_34 4 rfl ?_
      refine g_callV (ci := 3) (As := [.int (nI i), .int (nI dd)]) (rest := []) X (z_ok eA) rfl rfl hO0 (c_CL_stateOn hR hB (k := i) (dd := dd) (hlt) hdd) v_CL_stateOn q_442 q_s7 q_440 rfl rfl (Nat.le_of_ble_eq_true rfl) d_CL_listed_35 ⟨(Nat.le_of_ble_eq_true rfl), (Nat.le_of_ble_eq_true rfl)⟩ ⟨(Nat.le_of_ble_eq_true rfl), (Nat.le_of_ble_eq_true rfl)⟩ (g_K.no (fun _ h => h)) (fun r_ f2_ hp => ?_)
      obtain ⟨rfl, hf_⟩ := hp
      subst f2_
      refine g_st (st2 := [.int (nI (sta L per dy gd ct td ts tn i dd))]) rfl ?_
      refine g_iload_n X d_CL_listed_38 3 rfl ?_
      refine g_icmp_ne X 53 d_CL_listed_39 (by decide) (fun c39 => ?_) (fun c39 => ?_)
      · skip
        rw [if_neg (fun z => c39 (by rw [of_decide_eq_true (p := sta L per dy gd ct td ts tn i dd = v) z]))] at hr
        refine g_iinc (lv' := [(5, .int (nI (i + 1))), (4, .int (nI l_)), (0, .ref (ad 0)), (1, .int (nI v)), (2, .int (nI dd))]) X d_CL_listed_53 0 rfl (nI_1 i) (by decide) rfl ?_
        refine g_goto X 19 d_CL_listed_56 (by decide) ?_
        exact g_lv [0, 1, 2, 3, 4] rfl (ih d (by omega) (i + 1) (l_) (by omega) (by omega) hr)
      · skip
        rw [if_pos (decide_eq_true (p := sta L per dy gd ct td ts tn i dd = v) ((nI_eq (Nat.lt_trans (stv_lt _ _) (by decide)) (by omega)).mp c39))] at hr
        refine g_iload X d_CL_listed_42 1 rfl ?_
        refine g_if_ne X 50 d_CL_listed_44 (by decide) (fun c44 => ?_) (fun c44 => ?_)
        · skip
          have hl0 : 0 < l_ := Nat.pos_of_ne_zero (fun z => c44 ((nI_z hl_).mpr z))
          rw [if_neg (by omega)] at hr
          refine g_iinc (lv' := [(4, .int (nI (l_ - 1))), (5, .int (nI i)), (0, .ref (ad 0)), (1, .int (nI v)), (2, .int (nI dd))]) X d_CL_listed_50 1 rfl (nI_dec hl0) (by decide) rfl ?_
          refine g_iinc (lv' := [(5, .int (nI (i + 1))), (4, .int (nI (l_ - 1))), (0, .ref (ad 0)), (1, .int (nI v)), (2, .int (nI dd))]) X d_CL_listed_53 1 rfl (nI_1 i) (by decide) rfl ?_
          refine g_goto X 19 d_CL_listed_56 (by decide) ?_
          exact g_lv [0, 1, 2, 3, 4] rfl (ih d (by omega) (i + 1) (l_ - 1) (by omega) (by omega) hr)
        · skip
          rw [if_pos ((nI_z hl_).mp c44)] at hr
          exact g_lv [0] rfl (k47 i hr.symm)
set_option maxHeartbeats 4000000 in
set_option maxRecDepth 100000 in
theorem c_CL_listed {l : Launch} {D : va_G} {cI cZ cO cJ : ClassId} {eA : Nat} (hl : l.stackTraces = false) {f : g_F} {ad : Nat → Nat} {L nc : Nat} {pt ot : Nat → Int32} {per dy : Nat → Nat → Nat} {gd : Nat → Nat → Bool} {ct : Nat → Nat} {td ts : Nat → Nat} {tn : Nat} {P Du S Wy Re : Nat → Nat} {n : Nat} {O : Nat → Nat} {pl ps cap : Nat} {mc : Int32} (hR : cl_R cI cZ cO f ad L nc pt ot per dy gd ct td ts tn P Du S Wy Re n O pl ps cap mc) (hB : cl_B L nc per dy ct td ts tn P Du S Wy Re n O pl ps) {x y w : Int32} : g_C l y_CL_listed b_CL_listed 6 (some .int) { frames := 8, cells := 3, slots := 18, locals := 125 } D g_cl (g_tys cI cZ cO cJ) (z_Z eA) [.ref (ad 0), .int x, .int y, .int w] f (fun r f2 => (∃ v dd kk, v < 4 ∧ dd < 100001 ∧ kk < 2 ^ 31 ∧ x = nI v ∧ y = nI dd ∧ w = nI kk ∧ r = some (.int (nthc (fun k => decide (sta L per dy gd ct td ts tn k dd = v)) nc 0 kk))) ∧ f2 = f) (fun E => E = "java/lang/IllegalArgumentException" ∧ ¬ (inR x 4 ∧ inR y 100001 ∧ ¬ w < 0)) := by
  refine g_ofW [(0, .ref (ad 0)), (1, .int x), (2, .int y), (3, .int w)] (by decide +kernel) (Nat.le_of_ble_eq_true rfl) rfl ?_
  intro p e s m args below meth c X ht hin
  obtain ⟨hO0, hAL, hTL, hTU, hPL, hCS⟩ := id hR
  obtain ⟨⟨hL1, hL5⟩, hnc, hCB, hTB, hUB, hRe, hpl8, hO8, hps⟩ := id hB
  obtain ⟨hQ, hn, hcap, hE⟩ := id hAL
  have hG := hTL.1
  have hT := hTU.1
  refine g_iload_n X d_CL_listed_0 1 rfl ?_
  refine g_iconst (v := 4) X d_CL_listed_1 (by decide) ?_
  refine g_callS (As := [.int x, .int 4]) (rest := []) X (z_ok eA) (c_CL_needBelow hl (f := f) (x := x) (b := 4)) v_CL_needBelow q_142 q_141 rfl rfl (Nat.le_of_ble_eq_true rfl) d_CL_listed_2 ⟨(Nat.le_of_ble_eq_true rfl), (Nat.le_of_ble_eq_true rfl)⟩ ⟨(Nat.le_of_ble_eq_true rfl), (Nat.le_of_ble_eq_true rfl)⟩ (g_K.out X ht (fun E_ h_ => ⟨h_.1, fun z => h_.2.elim ((inR_iff (n := 4) (by decide)).mpr z.1).1 (fun v_ => v_ ((inR_iff (n := 4) (by decide)).mpr z.1).2)⟩) (Nat.le_of_ble_eq_true rfl) (Nat.le_of_ble_eq_true rfl)) (fun r_ f2_ hp => ?_)
  obtain ⟨⟨rfl, hf_⟩, hw_⟩ := hp
  refine g_st (st2 := []) rfl ?_
  have hf_ := hf_.symm
  subst hf_
  obtain ⟨v, hv, rfl⟩ := (inR_iff (n := 4) (by decide)).mp hw_
  refine g_iload_n X d_CL_listed_5 2 rfl ?_
  refine g_callS (As := [.int y]) (rest := []) X (z_ok eA) (c_CL_needDay hl (f := f) (x := y)) v_CL_needDay q_388 q_387 rfl rfl (Nat.le_of_ble_eq_true rfl) d_CL_listed_6 ⟨(Nat.le_of_ble_eq_true rfl), (Nat.le_of_ble_eq_true rfl)⟩ ⟨(Nat.le_of_ble_eq_true rfl), (Nat.le_of_ble_eq_true rfl)⟩ (g_K.out X ht (fun E_ h_ => ⟨h_.1, fun z => h_.2.elim (inD_iff.mpr z.2.1).1 (fun v_ => v_ (inD_iff.mpr z.2.1).2)⟩) (Nat.le_of_ble_eq_true rfl) (Nat.le_of_ble_eq_true rfl)) (fun r_ f2_ hp => ?_)
  obtain ⟨⟨rfl, hf_⟩, hw_⟩ := hp
  refine g_st (st2 := []) rfl ?_
  have hf_ := hf_.symm
  subst hf_
  obtain ⟨dd, hd, rfl⟩ := inD_iff.mp hw_
  refine g_iload_n X d_CL_listed_9 3 rfl ?_
  refine g_callS (As := [.int w]) (rest := []) X (z_ok eA) (c_CL_needNotNegative hl (f := f) (x := w)) v_CL_needNotNegative q_551 q_550 rfl rfl (Nat.le_of_ble_eq_true rfl) d_CL_listed_10 ⟨(Nat.le_of_ble_eq_true rfl), (Nat.le_of_ble_eq_true rfl)⟩ ⟨(Nat.le_of_ble_eq_true rfl), (Nat.le_of_ble_eq_true rfl)⟩ (g_K.out X ht (fun E_ h_ => ⟨h_.1, fun z => h_.2.elim z.2.2 (fun v_ => v_ (inN_iff.mpr z.2.2).2)⟩) (Nat.le_of_ble_eq_true rfl) (Nat.le_of_ble_eq_true rfl)) (fun r_ f2_ hp => ?_)
  obtain ⟨⟨rfl, hf_⟩, hw_⟩ := hp
  refine g_st (st2 := []) rfl ?_
  have hf_ := hf_.symm
  subst hf_
  obtain ⟨kk, hkk, rfl⟩ := nI_of hw_.1
  refine g_iload_n X d_CL_listed_13 3 rfl ?_
  refine g_istore (lv' := [(4, .int (nI kk)), (0, .ref (ad 0)), (1, .int (nI v)), (2, .int (nI dd)), (3, .int (nI kk))]) X d_CL_listed_14 (by decide) rfl ?_
  refine g_iconst (v := 0) X d_CL_listed_16 (by decide) ?_
  refine g_istore (lv' := [(5, .int 0), (4, .int (nI kk)), (0, .ref (ad 0)), (1, .int (nI v)), (2, .int (nI dd)), (3, .int (nI kk))]) X d_CL_listed_17 (by decide) rfl ?_
  refine g_lv [0, 1, 2, 3, 4] rfl (L_CL_listed hR hB (dd := dd) (v := v) (by omega) hv X ?_ ?_ nc 0 kk (by omega) hkk rfl)
  · intro hr
    exact g_iconst (v := -1) X d_CL_listed_59 (by decide) (g_iret X rfl ⟨⟨v, dd, kk, hv, hd, hkk, rfl, rfl, rfl, by rw [hr]⟩, rfl⟩ (Nat.le_of_ble_eq_true rfl) (Nat.le_of_ble_eq_true rfl) d_CL_listed_60)
  · intro i hr
    exact g_iload X d_CL_listed_47 0 rfl (g_iret X rfl ⟨⟨v, dd, kk, hv, hd, hkk, rfl, rfl, rfl, by rw [hr]⟩, rfl⟩ (Nat.le_of_ble_eq_true rfl) (Nat.le_of_ble_eq_true rfl) d_CL_listed_49)
set_option maxHeartbeats 4000000 in
set_option maxRecDepth 100000 in
theorem L_CL_hidden {p : Program} {l : Launch} {e : Env} {s : State} {m : MethodId} {args : Array Value} {below : List Frame} {meth : Method} {c : Code} {Q : State → Prop} {A : Nat → Prop} {D : va_G} {cI cZ cO cJ : ClassId} {eA : Nat} {f : g_F} {ad : Nat → Nat} {L nc : Nat} {pt ot : Nat → Int32} {per dy : Nat → Nat → Nat} {gd : Nat → Nat → Bool} {ct : Nat → Nat} {td ts : Nat → Nat} {tn : Nat} {P Du S Wy Re : Nat → Nat} {n : Nat} {O : Nat → Nat} {pl ps cap : Nat} {mc : Int32} (hR : cl_R cI cZ cO f ad L nc pt ot per dy gd ct td ts tn P Du S Wy Re n O pl ps cap mc) (hB : cl_B L nc per dy ct td ts tn P Du S Wy Re n O pl ps) {res : Int32} (X : g_X p s m args meth c b_CL_hidden 5 (some .int) g_T y_CL_hidden.cls D g_cl (g_tys cI cZ cO cJ) A (z_Z eA)) (k54 : res = -1 → g_W p l e { frames := 8, cells := 1, slots := 6, locals := 124 } s m args below meth c 5 D g_cl A f 1 6 Q 54 [(0, .ref (ad 0))] []) (k42 : ∀ i, res = nI i → g_W p l e { frames := 8, cells := 1, slots := 6, locals := 124 } s m args below meth c 5 D g_cl A f 1 6 Q 42 [(4, .int (nI i))] []) : ∀ (d : Nat) (i l_ : Nat), (i + d = nc) → (l_ < 2 ^ 31) → (nthc (fun k => !(Nat.testBit (orS S (2 ^ n - 1) n) k)) d i l_ = res) → g_W p l e { frames := 8, cells := 1, slots := 6, locals := 124 } s m args below meth c 5 D g_cl A f 1 6 Q 17 [(4, .int (nI i)), (3, .int (nI l_)), (2, .int (nI (orS S (2 ^ n - 1) n))), (0, .ref (ad 0))] [] := by
  obtain ⟨hO0, hAL, hTL, hTU, hPL, hCS⟩ := id hR
  obtain ⟨⟨hL1, hL5⟩, hnc, hCB, hTB, hUB, hRe, hpl8, hO8, hps⟩ := id hB
  obtain ⟨hQ, hn, hcap, hE⟩ := id hAL
  have hG := hTL.1
  have hT := hTU.1
  intro d
  induction d using Nat.strongRecOn with
  | _ d ih =>
    intro i l_ hi hl_ hr
    refine g_iload X d_CL_hidden_17 0 rfl ?_
    refine g_aload_n X d_CL_hidden_19 3 rfl ?_
    refine g_get (ci := 3) (C := R_CL) (T := F_CL) (N := 7) (v := .ref (ad 1)) X i_CL rfl hO0 1 (by decide) q_104 (fun _ h9 => h9) rfl d_CL_hidden_20 ?_
    refine g_callV (ci := 0) (As := []) (rest := [.int (nI i)]) X (z_ok eA) rfl rfl hQ (c_AL_size hAL) v_AL_size q_223 q_224 q_222 rfl rfl (Nat.le_of_ble_eq_true rfl) d_CL_hidden_23 ⟨(Nat.le_of_ble_eq_true rfl), (Nat.le_of_ble_eq_true rfl)⟩ ⟨(Nat.le_of_ble_eq_true rfl), (Nat.le_of_ble_eq_true rfl)⟩ (g_K.no (fun _ h => h)) (fun r_ f2_ hp => ?_)
    obtain ⟨rfl, hf_⟩ := hp
    subst f2_
    refine g_st (st2 := [.int (nI nc), .int (nI i)]) rfl ?_
    refine g_icmp_ge X 54 d_CL_hidden_26 (by decide) (fun c26 => ?_) (fun c26 => ?_)
    · skip
      have e : d = 0 := by have := (nI_leI (by omega) (by omega)).mp c26; omega
      subst e
      exact g_lv [3] rfl (k54 hr.symm)
    · skip
      have hlt : i < nc := Nat.lt_of_not_le (fun z => c26 ((nI_leI (by omega) (by omega)).mpr z))
      obtain ⟨d, rfl⟩ : ∃ d9, d = d9 + 1 := ⟨d - 1, by omega⟩
      rw [nthc_s] at hr
      refine g_iload_n X d_CL_hidden_29 2 rfl ?_
      refine g_iload X d_CL_hidden_30 0 rfl ?_
      refine g_callS (As := [.int (nI (orS S (2 ^ n - 1) n)), .int (nI i)]) (rest := []) X (z_ok eA) (c_CL_holds (f := f) (a := orS S (2 ^ n - 1) n) (k := i) (Nat.lt_trans (orS_lt hUB.2.2.2.1 _ n) (by decide)) (by omega)) v_CL_holds q_367 q_561 rfl rfl (Nat.le_of_ble_eq_true rfl) d_CL_hidden_32 ⟨(Nat.le_of_ble_eq_true rfl), (Nat.le_of_ble_eq_true rfl)⟩ ⟨(Nat.le_of_ble_eq_true rfl), (Nat.le_of_ble_eq_true rfl)⟩ (g_K.no (fun _ h => h)) (fun r_ f2_ hp => ?_)
      obtain ⟨rfl, hf_⟩ := hp
      subst f2_
      refine g_st (st2 := [.int (bI (Nat.testBit (orS S (2 ^ n - 1) n) i))]) rfl ?_
      refine g_if_ne X 48 d_CL_hidden_35 (by decide) (fun c35 => ?_) (fun c35 => ?_)
      · skip
        have hb9 : Nat.testBit (orS S (2 ^ n - 1) n) i = true := bt_nf (fun z => c35 (bI_z.mpr z))
        rw [if_neg (by show ¬ (!(Nat.testBit (orS S (2 ^ n - 1) n) i)) = true; rw [hb9]; decide)] at hr
        refine g_iinc (lv' := [(4, .int (nI (i + 1))), (3, .int (nI l_)), (2, .int (nI (orS S (2 ^ n - 1) n))), (0, .ref (ad 0))]) X d_CL_hidden_48 0 rfl (nI_1 i) (by decide) rfl ?_
        refine g_goto X 17 d_CL_hidden_51 (by decide) ?_
        exact g_lv [0, 1, 2, 3] rfl (ih d (by omega) (i + 1) (l_) (by omega) (by omega) hr)
      · skip
        have hb9 : Nat.testBit (orS S (2 ^ n - 1) n) i = false := bI_z.mp c35
        rw [if_pos (by show (!(Nat.testBit (orS S (2 ^ n - 1) n) i)) = true; rw [hb9]; rfl)] at hr
        refine g_iload_n X d_CL_hidden_38 1 rfl ?_
        refine g_if_ne X 45 d_CL_hidden_39 (by decide) (fun c39 => ?_) (fun c39 => ?_)
        · skip
          have hl0 : 0 < l_ := Nat.pos_of_ne_zero (fun z => c39 ((nI_z hl_).mpr z))
          rw [if_neg (by omega)] at hr
          refine g_iinc (lv' := [(3, .int (nI (l_ - 1))), (4, .int (nI i)), (2, .int (nI (orS S (2 ^ n - 1) n))), (0, .ref (ad 0))]) X d_CL_hidden_45 1 rfl (nI_dec hl0) (by decide) rfl ?_
          refine g_iinc (lv' := [(4, .int (nI (i + 1))), (3, .int (nI (l_ - 1))), (2, .int (nI (orS S (2 ^ n - 1) n))), (0, .ref (ad 0))]) X d_CL_hidden_48 1 rfl (nI_1 i) (by decide) rfl ?_
          refine g_goto X 17 d_CL_hidden_51 (by decide) ?_
          exact g_lv [0, 1, 2, 3] rfl (ih d (by omega) (i + 1) (l_ - 1) (by omega) (by omega) hr)
        · skip
          rw [if_pos ((nI_z hl_).mp c39)] at hr
          exact g_lv [0] rfl (k42 i hr.symm)
set_option maxHeartbeats 4000000 in
set_option maxRecDepth 100000 in
theorem c_CL_hidden {l : Launch} {D : va_G} {cI cZ cO cJ : ClassId} {eA : Nat} (hl : l.stackTraces = false) {f : g_F} {ad : Nat → Nat} {L nc : Nat} {pt ot : Nat → Int32} {per dy : Nat → Nat → Nat} {gd : Nat → Nat → Bool} {ct : Nat → Nat} {td ts : Nat → Nat} {tn : Nat} {P Du S Wy Re : Nat → Nat} {n : Nat} {O : Nat → Nat} {pl ps cap : Nat} {mc : Int32} (hR : cl_R cI cZ cO f ad L nc pt ot per dy gd ct td ts tn P Du S Wy Re n O pl ps cap mc) (hB : cl_B L nc per dy ct td ts tn P Du S Wy Re n O pl ps) {w : Int32} : g_C l y_CL_hidden b_CL_hidden 5 (some .int) { frames := 8, cells := 1, slots := 6, locals := 124 } D g_cl (g_tys cI cZ cO cJ) (z_Z eA) [.ref (ad 0), .int w] f (fun r f2 => (∃ kk, kk < 2 ^ 31 ∧ w = nI kk ∧ r = some (.int (nthc (fun k => !(Nat.testBit (orS S (2 ^ n - 1) n) k)) nc 0 kk))) ∧ f2 = f) (fun E => E = "java/lang/IllegalArgumentException" ∧ ¬ (¬ w < 0)) := by
  refine g_ofW [(0, .ref (ad 0)), (1, .int w)] (by decide +kernel) (Nat.le_of_ble_eq_true rfl) rfl ?_
  intro p e s m args below meth c X ht hin
  obtain ⟨hO0, hAL, hTL, hTU, hPL, hCS⟩ := id hR
  obtain ⟨⟨hL1, hL5⟩, hnc, hCB, hTB, hUB, hRe, hpl8, hO8, hps⟩ := id hB
  obtain ⟨hQ, hn, hcap, hE⟩ := id hAL
  have hG := hTL.1
  have hT := hTU.1
  refine g_iload_n X d_CL_hidden_0 1 rfl ?_
  refine g_callS (As := [.int w]) (rest := []) X (z_ok eA) (c_CL_needNotNegative hl (f := f) (x := w)) v_CL_needNotNegative q_551 q_550 rfl rfl (Nat.le_of_ble_eq_true rfl) d_CL_hidden_1 ⟨(Nat.le_of_ble_eq_true rfl), (Nat.le_of_ble_eq_true rfl)⟩ ⟨(Nat.le_of_ble_eq_true rfl), (Nat.le_of_ble_eq_true rfl)⟩ (g_K.out X ht (fun E_ h_ => ⟨h_.1, fun z => h_.2.elim z (fun v_ => v_ (inN_iff.mpr z).2)⟩) (Nat.le_of_ble_eq_true rfl) (Nat.le_of_ble_eq_true rfl)) (fun r_ f2_ hp => ?_)
  obtain ⟨⟨rfl, hf_⟩, hw_⟩ := hp
  refine g_st (st2 := []) rfl ?_
  have hf_ := hf_.symm
  subst hf_
  obtain ⟨kk, hkk, rfl⟩ := nI_of hw_.1
  refine g_aload_n X d_CL_hidden_4 0 rfl ?_
  refine g_get (ci := 3) (C := R_CL) (T := F_CL) (N := 7) (v := .ref (ad 6)) X i_CL rfl hO0 3 (by decide) q_106 (fun _ h9 => h9) rfl d_CL_hidden_5 ?_
  refine g_callV (ci := 2) (As := []) (rest := []) X (z_ok eA) rfl rfl hT (c_TU_shownByAny hTU hUB) v_TU_shownByAny q_458 q_459 q_457 rfl rfl (Nat.le_of_ble_eq_true rfl) d_CL_hidden_8 ⟨(Nat.le_of_ble_eq_true rfl), (Nat.le_of_ble_eq_true rfl)⟩ ⟨(Nat.le_of_ble_eq_true rfl), (Nat.le_of_ble_eq_true rfl)⟩ (g_K.no (fun _ h => h)) (fun r_ f2_ hp => ?_)
  obtain ⟨rfl, hf_⟩ := hp
  subst f2_
  refine g_st (st2 := [.int (nI (orS S (2 ^ n - 1) n))]) rfl ?_
  refine g_istore_n (lv' := [(2, .int (nI (orS S (2 ^ n - 1) n))), (0, .ref (ad 0)), (1, .int (nI kk))]) X d_CL_hidden_11 rfl (by decide) rfl ?_
  refine g_iload_n X d_CL_hidden_12 2 rfl ?_
  refine g_istore_n (lv' := [(3, .int (nI kk)), (2, .int (nI (orS S (2 ^ n - 1) n))), (0, .ref (ad 0)), (1, .int (nI kk))]) X d_CL_hidden_13 rfl (by decide) rfl ?_
  refine g_iconst (v := 0) X d_CL_hidden_14 (by decide) ?_
  refine g_istore (lv' := [(4, .int 0), (3, .int (nI kk)), (2, .int (nI (orS S (2 ^ n - 1) n))), (0, .ref (ad 0)), (1, .int (nI kk))]) X d_CL_hidden_15 (by decide) rfl ?_
  refine g_lv [0, 1, 2, 3] rfl (L_CL_hidden hR hB X ?_ ?_ nc 0 kk (by omega) hkk rfl)
  · intro hr
    exact g_iconst (v := -1) X d_CL_hidden_54 (by decide) (g_iret X rfl ⟨⟨kk, hkk, rfl, by rw [hr]⟩, rfl⟩ (Nat.le_of_ble_eq_true rfl) (Nat.le_of_ble_eq_true rfl) d_CL_hidden_55)
  · intro i hr
    exact g_iload X d_CL_hidden_42 0 rfl (g_iret X rfl ⟨⟨kk, hkk, rfl, by rw [hr]⟩, rfl⟩ (Nat.le_of_ble_eq_true rfl) (Nat.le_of_ble_eq_true rfl) d_CL_hidden_44)
set_option maxHeartbeats 4000000 in
set_option maxRecDepth 100000 in
theorem L_CL_proves {p : Program} {l : Launch} {e : Env} {s : State} {m : MethodId} {args : Array Value} {below : List Frame} {meth : Method} {c : Code} {Q : State → Prop} {A : Nat → Prop} {D : va_G} {cI cZ cO cJ : ClassId} {eA : Nat} {f : g_F} {ad : Nat → Nat} {L nc : Nat} {pt ot : Nat → Int32} {per dy : Nat → Nat → Nat} {gd : Nat → Nat → Bool} {ct : Nat → Nat} {td ts : Nat → Nat} {tn : Nat} {P Du S Wy Re : Nat → Nat} {n : Nat} {O : Nat → Nat} {pl ps cap : Nat} {mc : Int32} (hR : cl_R cI cZ cO f ad L nc pt ot per dy gd ct td ts tn P Du S Wy Re n O pl ps cap mc) (hB : cl_B L nc per dy ct td ts tn P Du S Wy Re n O pl ps) {k res : Nat} (hk : k < nc) (X : g_X p s m args meth c b_CL_proves 5 (some .int) g_T y_CL_proves.cls D g_cl (g_tys cI cZ cO cJ) A (z_Z eA)) (k53 : g_W p l e { frames := 8, cells := 2, slots := 12, locals := 125 } s m args below meth c 5 D g_cl A f 2 12 Q 53 [(3, .int (nI res))] []) (k38 : g_W p l e { frames := 8, cells := 2, slots := 12, locals := 125 } s m args below meth c 5 D g_cl A f 2 12 Q 38 [(3, .int (nI res))] []) : ∀ (d : Nat) (i a_ : Nat), (i + d = 577) → (a_ < 2 ^ 30) → (prv (fun a_ => sta L per dy gd ct td ts tn k a_) (fun a_ => nxt L dy ct td ts tn k a_) d a_ = res) → g_W p l e { frames := 8, cells := 2, slots := 12, locals := 125 } s m args below meth c 5 D g_cl A f 2 12 Q 20 [(4, .int (nI i)), (3, .int (nI a_)), (0, .ref (ad 0)), (1, .int (nI k))] [] := by
  obtain ⟨hO0, hAL, hTL, hTU, hPL, hCS⟩ := id hR
  obtain ⟨⟨hL1, hL5⟩, hnc, hCB, hTB, hUB, hRe, hpl8, hO8, hps⟩ := id hB
  obtain ⟨hQ, hn, hcap, hE⟩ := id hAL
  have hG := hTL.1
  have hT := hTU.1
  intro d
  induction d using Nat.strongRecOn with
  | _ d ih =>
    intro i a_ hi ha_ hr
    refine g_iload X d_CL_proves_20 0 rfl ?_
    refine g_sipush (v := 576) X d_CL_proves_22 (by decide) ?_
    refine g_icmp_gt X 53 d_CL_proves_25 (by decide) (fun c25 => ?_) (fun c25 => ?_)
    · skip
      have e : d = 0 := by have := (nI_ltI (a := 576) (by decide) (by omega)).mp c25; omega
      subst e
      have hr : a_ = res := hr
      subst hr
      exact g_lv [1] rfl k53
    · skip
      have hlt : i < 577 := Nat.lt_succ_of_le (Nat.le_of_not_lt (fun z => c25 ((nI_ltI (a := 576) (b := i) (by decide) (by omega)).mpr z)))
      obtain ⟨d, rfl⟩ : ∃ d9, d = d9 + 1 := ⟨d - 1, by omega⟩
      rw [prv_s] at hr
      refine g_aload_n X d_CL_proves_28 2 rfl ?_
      refine g_iload_n X d_CL_proves_29 3 rfl ?_
      refine g_iload_n X d_CL_proves_30 1 rfl ?_
      refine g_callV (ci := 3) (As := [.int (nI k), .int (nI a_)]) (rest := []) X (z_ok eA) rfl rfl hO0 (c_CL_stateOn hR hB (k := k) (dd := a_) hk ha_) v_CL_stateOn q_442 q_s7 q_440 rfl rfl (Nat.le_of_ble_eq_true rfl) d_CL_proves_31 ⟨(Nat.le_of_ble_eq_true rfl), (Nat.le_of_ble_eq_true rfl)⟩ ⟨(Nat.le_of_ble_eq_true rfl), (Nat.le_of_ble_eq_true rfl)⟩ (g_K.no (fun _ h => h)) (fun r_ f2_ hp => ?_)
      obtain ⟨rfl, hf_⟩ := hp
      subst f2_
      refine g_st (st2 := [.int (nI (sta L per dy gd ct td ts tn k a_))]) rfl ?_
      refine g_iconst (v := 3) X d_CL_proves_34 (by decide) ?_
      refine g_icmp_eq X 40 d_CL_proves_35 (by decide) (fun c35 => ?_) (fun c35 => ?_)
      · skip
        rw [if_pos (show sta L per dy gd ct td ts tn k a_ = 3 from (nI_eq (b := 3) (Nat.lt_trans (stv_lt _ _) (by decide)) (by decide)).mp c35)] at hr
        have hnl : nxt L dy ct td ts tn k a_ ≤ 105001 := Nat.le_trans (ntn_le _ _ _ _ _) (mxt_lt _)
        refine g_aload_n X d_CL_proves_40 2 rfl ?_
        refine g_iload_n X d_CL_proves_41 3 rfl ?_
        refine g_iload_n X d_CL_proves_42 1 rfl ?_
        refine g_callV (ci := 3) (As := [.int (nI k), .int (nI a_)]) (rest := []) X (z_ok eA) rfl rfl hO0 (c_CL_nextTurn hR hB (k := k) (dd := a_) hk ha_) v_CL_nextTurn q_571 q_s18 q_569 rfl rfl (Nat.le_of_ble_eq_true rfl) d_CL_proves_43 ⟨(Nat.le_of_ble_eq_true rfl), (Nat.le_of_ble_eq_true rfl)⟩ ⟨(Nat.le_of_ble_eq_true rfl), (Nat.le_of_ble_eq_true rfl)⟩ (g_K.no (fun _ h => h)) (fun r_ f2_ hp => ?_)
        obtain ⟨rfl, hf_⟩ := hp
        subst f2_
        refine g_st (st2 := [.int (nI (nxt L dy ct td ts tn k a_))]) rfl ?_
        refine g_istore_n (lv' := [(3, .int (nI (nxt L dy ct td ts tn k a_))), (4, .int (nI i)), (0, .ref (ad 0)), (1, .int (nI k))]) X d_CL_proves_46 rfl (by decide) rfl ?_
        refine g_iinc (lv' := [(4, .int (nI (i + 1))), (3, .int (nI (nxt L dy ct td ts tn k a_))), (0, .ref (ad 0)), (1, .int (nI k))]) X d_CL_proves_47 1 rfl (nI_1 i) (by decide) rfl ?_
        refine g_goto X 20 d_CL_proves_50 (by decide) ?_
        exact g_lv [0, 1, 2, 3] rfl (ih d (by omega) (i + 1) (nxt L dy ct td ts tn k a_) (by omega) (by omega) hr)
      · skip
        rw [if_neg (fun z => c35 (by rw [z]; rfl))] at hr
        subst hr
        exact g_lv [1] rfl k38
set_option maxHeartbeats 4000000 in
set_option maxRecDepth 100000 in
theorem c_CL_proves {l : Launch} {D : va_G} {cI cZ cO cJ : ClassId} {eA : Nat} (hl : l.stackTraces = false) {f : g_F} {ad : Nat → Nat} {L nc : Nat} {pt ot : Nat → Int32} {per dy : Nat → Nat → Nat} {gd : Nat → Nat → Bool} {ct : Nat → Nat} {td ts : Nat → Nat} {tn : Nat} {P Du S Wy Re : Nat → Nat} {n : Nat} {O : Nat → Nat} {pl ps cap : Nat} {mc : Int32} (hR : cl_R cI cZ cO f ad L nc pt ot per dy gd ct td ts tn P Du S Wy Re n O pl ps cap mc) (hB : cl_B L nc per dy ct td ts tn P Du S Wy Re n O pl ps) {x y : Int32} : g_C l y_CL_proves b_CL_proves 5 (some .int) { frames := 8, cells := 2, slots := 12, locals := 125 } D g_cl (g_tys cI cZ cO cJ) (z_Z eA) [.ref (ad 0), .int x, .int y] f (fun r f2 => (∃ k dd, k < nc ∧ dd < 100001 ∧ x = nI k ∧ y = nI dd ∧ r = some (.int (nI (prv (fun a_ => sta L per dy gd ct td ts tn k a_) (fun a_ => nxt L dy ct td ts tn k a_) 577 dd)))) ∧ f2 = f) (fun E => E = "java/lang/IllegalArgumentException" ∧ ¬ (inR x nc ∧ inR y 100001)) := by
  refine g_ofW [(0, .ref (ad 0)), (1, .int x), (2, .int y)] (by decide +kernel) (Nat.le_of_ble_eq_true rfl) rfl ?_
  intro p e s m args below meth c X ht hin
  obtain ⟨hO0, hAL, hTL, hTU, hPL, hCS⟩ := id hR
  obtain ⟨⟨hL1, hL5⟩, hnc, hCB, hTB, hUB, hRe, hpl8, hO8, hps⟩ := id hB
  obtain ⟨hQ, hn, hcap, hE⟩ := id hAL
  have hG := hTL.1
  have hT := hTU.1
  refine g_iload_n X d_CL_proves_0 1 rfl ?_
  refine g_aload_n X d_CL_proves_1 0 rfl ?_
  refine g_get (ci := 3) (C := R_CL) (T := F_CL) (N := 7) (v := .ref (ad 1)) X i_CL rfl hO0 1 (by decide) q_104 (fun _ h9 => h9) rfl d_CL_proves_2 ?_
  refine g_callV (ci := 0) (As := []) (rest := [.int x]) X (z_ok eA) rfl rfl hQ (c_AL_size hAL) v_AL_size q_223 q_224 q_222 rfl rfl (Nat.le_of_ble_eq_true rfl) d_CL_proves_5 ⟨(Nat.le_of_ble_eq_true rfl), (Nat.le_of_ble_eq_true rfl)⟩ ⟨(Nat.le_of_ble_eq_true rfl), (Nat.le_of_ble_eq_true rfl)⟩ (g_K.no (fun _ h => h)) (fun r_ f2_ hp => ?_)
  obtain ⟨rfl, hf_⟩ := hp
  subst f2_
  refine g_st (st2 := [.int (nI nc), .int x]) rfl ?_
  refine g_callS (As := [.int x, .int (nI nc)]) (rest := []) X (z_ok eA) (c_CL_needBelow hl (f := f) (x := x) (b := nI (nc))) v_CL_needBelow q_142 q_141 rfl rfl (Nat.le_of_ble_eq_true rfl) d_CL_proves_8 ⟨(Nat.le_of_ble_eq_true rfl), (Nat.le_of_ble_eq_true rfl)⟩ ⟨(Nat.le_of_ble_eq_true rfl), (Nat.le_of_ble_eq_true rfl)⟩ (g_K.out X ht (fun E_ h_ => ⟨h_.1, fun z => h_.2.elim ((inR_iff (n := nc) (by omega)).mpr z.1).1 (fun v_ => v_ ((inR_iff (n := nc) (by omega)).mpr z.1).2)⟩) (Nat.le_of_ble_eq_true rfl) (Nat.le_of_ble_eq_true rfl)) (fun r_ f2_ hp => ?_)
  obtain ⟨⟨rfl, hf_⟩, hw_⟩ := hp
  refine g_st (st2 := []) rfl ?_
  have hf_ := hf_.symm
  subst hf_
  obtain ⟨k, hk, rfl⟩ := (inR_iff (n := nc) (by omega)).mp hw_
  refine g_iload_n X d_CL_proves_11 2 rfl ?_
  refine g_callS (As := [.int y]) (rest := []) X (z_ok eA) (c_CL_needDay hl (f := f) (x := y)) v_CL_needDay q_388 q_387 rfl rfl (Nat.le_of_ble_eq_true rfl) d_CL_proves_12 ⟨(Nat.le_of_ble_eq_true rfl), (Nat.le_of_ble_eq_true rfl)⟩ ⟨(Nat.le_of_ble_eq_true rfl), (Nat.le_of_ble_eq_true rfl)⟩ (g_K.out X ht (fun E_ h_ => ⟨h_.1, fun z => h_.2.elim (inD_iff.mpr z.2).1 (fun v_ => v_ (inD_iff.mpr z.2).2)⟩) (Nat.le_of_ble_eq_true rfl) (Nat.le_of_ble_eq_true rfl)) (fun r_ f2_ hp => ?_)
  obtain ⟨⟨rfl, hf_⟩, hw_⟩ := hp
  refine g_st (st2 := []) rfl ?_
  have hf_ := hf_.symm
  subst hf_
  obtain ⟨dd, hd, rfl⟩ := inD_iff.mp hw_
  refine g_iload_n X d_CL_proves_15 2 rfl ?_
  refine g_istore_n (lv' := [(3, .int (nI dd)), (0, .ref (ad 0)), (1, .int (nI k)), (2, .int (nI dd))]) X d_CL_proves_16 rfl (by decide) rfl ?_
  refine g_iconst (v := 0) X d_CL_proves_17 (by decide) ?_
  refine g_istore (lv' := [(4, .int 0), (3, .int (nI dd)), (0, .ref (ad 0)), (1, .int (nI k)), (2, .int (nI dd))]) X d_CL_proves_18 (by decide) rfl ?_
  refine g_lv [0, 1, 2, 3] rfl (L_CL_proves hR hB hk X ?_ ?_ 577 0 dd (by omega) (by omega) rfl)
  · exact g_iload_n X d_CL_proves_53 0 rfl (g_iret X rfl ⟨⟨k, dd, hk, hd, rfl, rfl, rfl⟩, rfl⟩ (Nat.le_of_ble_eq_true rfl) (Nat.le_of_ble_eq_true rfl) d_CL_proves_54)
  · exact g_iload_n X d_CL_proves_38 0 rfl (g_iret X rfl ⟨⟨k, dd, hk, hd, rfl, rfl, rfl⟩, rfl⟩ (Nat.le_of_ble_eq_true rfl) (Nat.le_of_ble_eq_true rfl) d_CL_proves_39)
end
