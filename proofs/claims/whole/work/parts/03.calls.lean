/-! Contracts over worlds as functions. -/
/-- what is known of the statics: it stays as the machine warms, as cells of A change, for a smaller A -/
def g_ZC (Z : (Nat → Prop) → State → Heap → Prop) : Prop :=
  (∀ (A : Nat → Prop) (u U : State) (H : Heap), u.WarmedH U.vm → Z A u H → Z A U H) ∧ (∀ (A : Nat → Prop) (U : State) (H H1 : Heap), Z A U H → (∀ a : Nat, a < H.size → ¬ A a → H1[a]? = H[a]?) → Z A U H1) ∧ ∀ (A B : Nat → Prop) (U : State) (H : Heap), Z A U H → (∀ q, B q → A q) → Z B U H
def g_Pc (D : va_G) (cl : List vw_C) (tys : List (ClassId × FieldType)) (Z : (Nat → Prop) → State → Heap → Prop) (f : g_F) (sz : Nat) (av : List Value) : Array Value → State → Prop :=
  va_Pc av (fun U => U.heap.size = sz ∧ g_P D cl f U.heap ∧ va_K D cl tys U ∧ Z (g_A f sz) U U.heap)
def g_Qc (D : va_G) (cl : List vw_C) (f : g_F) (sz : Nat) (post : Option Value → g_F → Prop) : Array Value → State → Outcome → State → Prop := fun _ st oc t =>
  (∃ (r : Option Value) (f2 : g_F), oc = .returned r ∧ post r f2 ∧ g_P D cl f2 t.heap ∧ ∀ q : Nat, f2 q ≠ none → g_A f sz q) ∧ va_F (g_A f sz) st t
def g_XC (D : va_G) (cl : List vw_C) (f : g_F) (sz : Nat) (px : String → Prop) : String → State → State → Prop := fun E st t => px E ∧ g_P D cl f t.heap ∧ va_F (g_A f sz) st t
abbrev g_ws (y : MethodName) (bytes : ByteArray) (maxL : Nat) (ret : Option FieldType) : List Cond := Cond.code y bytes maxL ret :: g_T
/-- a method's contract: from the world f, with the arguments av, it answers by 'post', or throws an E with 'px E' and leaves the world -/
def g_C (l : Launch) (y : MethodName) (bytes : ByteArray) (maxL : Nat) (ret : Option FieldType) (rm : Room) (D : va_G) (cl : List vw_C) (tys : List (ClassId × FieldType)) (Z : (Nat → Prop) → State → Heap → Prop) (av : List Value) (f : g_F) (post : Option Value → g_F → Prop) (px : String → Prop) : Prop :=
  ∀ sz : Nat, vx_Met l y (g_ws y bytes maxL ret) rm (g_Pc D cl tys Z f sz av) (g_Qc D cl f sz post) (g_XC D cl f sz px) rm.cells rm.slots (g_A f sz)
/-- what a body owes at its end -/
def g_End (below : List Frame) (D : va_G) (cl : List vw_C) (f0 : g_F) (post : Option Value → g_F → Prop) (px : String → Prop) (args : Array Value) (s : State) (rm : Room) : State → Prop :=
  vx_MQ below (g_Qc D cl f0 s.heap.size post) (g_XC D cl f0 s.heap.size px) args s rm.cells rm.slots (g_A f0 s.heap.size)
theorem g_ofW {l : Launch} {y : MethodName} {rm : Room} {D : va_G} {cl : List vw_C} {tys : List (ClassId × FieldType)} {Z : (Nat → Prop) → State → Heap → Prop} {av : List Value} {f : g_F} {post : Option Value → g_F → Prop} {px : String → Prop} {cc : ByteArray} {maxL : Nat} {ret : Option FieldType} (lv : List (Nat × Value))
    (hy : plainName y.cls = true) (hlen : (lg_sl av).length ≤ maxL) (hlv : lv_args 0 av = lv)
    (body : ∀ (p : Program) (e : Env) (s : State) (m : MethodId) (args : Array Value) (below : List Frame) (meth : Method) (c : Code), g_X p s m args meth c cc maxL ret g_T y.cls D cl tys (g_A f s.heap.size) Z → (∀ x ∈ c.exceptionTable.toList, False) → meth.name = y.name →
      g_W p l e rm s m args below meth c maxL D cl (g_A f s.heap.size) f 0 0 (g_End below D cl f post px args s rm) 0 lv []) : g_C l y cc maxL ret rm D cl tys Z av f post px := by
  intro sz
  refine vx_ofW (cc := cc) (maxL := maxL) (ret := ret) hy rfl ?_
  intro p e s m args below meth c s₁ B hml ht hv
  obtain ⟨rfl, hsz, hP, hK, hZ⟩ := hv
  subst hsz
  have hx := B.exec
  have hb := B.bytes
  have hts := atoms_spec (ws := g_ws y cc maxL ret) B.pre
  have hown : s.vm.findClass y.cls = some m.cls := findClass_of_methodNamed B.named
  have hl := lv_entry av (n := maxL) hlen
  rw [lg_entry_eq]
  rw [hlv] at hl
  exact body p e s m _ below meth c ⟨⟨hx, hb, hml, hown, fun w h => hts w (List.mem_cons_of_mem _ h)⟩, hK, fun q h => Or.inr h, B.returns, B.notSynchronized, hZ⟩ ht (name_of_methodNamed B.named B.method).1 s.heap [] _ hP (fun q h => Or.inl h) va_S.rf hl
/-- a contract that says less -/
theorem g_C.weaken {l : Launch} {y : MethodName} {bytes : ByteArray} {maxL : Nat} {ret : Option FieldType} {rm : Room} {D : va_G} {cl : List vw_C} {tys : List (ClassId × FieldType)} {Z : (Nat → Prop) → State → Heap → Prop} {av : List Value} {f : g_F} {post post2 : Option Value → g_F → Prop} {px px2 : String → Prop} (h : g_C l y bytes maxL ret rm D cl tys Z av f post px) (h1 : ∀ r f2, post r f2 → post2 r f2) (h2 : ∀ E, px E → px2 E) : g_C l y bytes maxL ret rm D cl tys Z av f post2 px2 := by
  intro sz p e a1 a2 a3 s m args below a4 a5 a6 a7
  obtain ⟨n, o, b1, b2, b3, b4⟩ := h sz p e a1 a2 a3 s m args below a4 a5 a6 a7
  refine ⟨n, o, b1, b2, b3, ?_⟩
  rcases b4 with ⟨⟨⟨r, f2, c1, c2, c3⟩, c4⟩, c5⟩ | ⟨q, c1, E, ce, L, ⟨c2, c3⟩, c4⟩
  · exact Or.inl ⟨⟨⟨r, f2, c1, h1 r f2 c2, c3⟩, c4⟩, c5⟩
  · exact Or.inr ⟨q, c1, E, ce, L, ⟨h2 E c2, c3⟩, c4⟩
/-- a contract of a method that never throws, as the calls without that case take it -/
theorem g_C.met {l : Launch} {y : MethodName} {bytes : ByteArray} {maxL : Nat} {ret : Option FieldType} {rm : Room} {D : va_G} {cl : List vw_C} {tys : List (ClassId × FieldType)} {Z : (Nat → Prop) → State → Heap → Prop} {av : List Value} {f : g_F} {post : Option Value → g_F → Prop} {px : String → Prop} (h : g_C l y bytes maxL ret rm D cl tys Z av f post px) (hx : ∀ E, ¬ px E) (sz : Nat) :
    Met l y (g_ws y bytes maxL ret) rm (g_Pc D cl tys Z f sz av) (g_Qc D cl f sz post) rm.cells rm.slots (g_A f sz) := by
  intro p e a1 a2 a3 s m args below a4 a5 a6 a7
  obtain ⟨n, o, b1, b2, b3, b4⟩ := h sz p e a1 a2 a3 s m args below a4 a5 a6 a7
  refine ⟨n, o, b1, b2, b3, ?_⟩
  rcases b4 with b4 | ⟨q, c1, E, ce, L, ⟨c2, c3⟩, c4⟩
  · exact b4
  · exact absurd c2 (hx E)
/-- what the tables say of a callee -/
def g_y (y : MethodName) (bytes : ByteArray) (maxL : Nat) (ret : Option FieldType) (n : Nat) : Prop :=
  Cond.code y bytes maxL ret ∈ g_T ∧ Cond.initialized y.cls ∈ g_T ∧ y.cls ≠ "java/lang/invoke/MethodHandle" ∧ y.cls ≠ "java/lang/invoke/VarHandle" ∧ (parseMethodDescriptor y.desc).map (fun d => d.parameters.length) = some n
section GE
variable {p : Program} {l : Launch} {e : Env} {R rm : Room} {s : State} {m : MethodId} {args : Array Value} {below : List Frame} {meth : Method} {c : Code} {cells slots : Nat} {Q : State → Prop}
variable {cc : ByteArray} {pc nL : Nat} {D : va_G} {cl : List vw_C} {tys : List (ClassId × FieldType)} {A : Nat → Prop} {f f0 : g_F} {lv lv' : List (Nat × Value)} {st : List Value} {own : String} {ret : Option FieldType} {Z : (Nat → Prop) → State → Heap → Prop} {post : Option Value → g_F → Prop} {px : String → Prop}
theorem g_iret (X : g_X p s m args meth c cc nL ret g_T own D cl tys (g_A f0 s.heap.size) Z) {v : Int32} (hr : ret = some .int) (hp : post (some (.int v)) f) (hc : cells ≤ rm.cells) (hs : slots ≤ rm.slots) (d : decode cc pc = .ok (.ireturn, 1)) : g_W p l e R s m args below meth c nL D cl (g_A f0 s.heap.size) f cells slots (g_End below D cl f0 post px args s rm) pc lv [.int v] := by
  intro H locs ls hP hD hS hl
  refine W.widen hc hs (vx_ret ?_)
  exact W.iret X.1.1 X.1.2.1 (X.2.2.2.1.trans hr) (fun t ht hW => ⟨⟨_, f, rfl, hp, by rw [ht]; exact hP, hD⟩, hS.F ht⟩) hS.2.2 d X.2.2.2.2.1
theorem g_zret (X : g_X p s m args meth c cc nL ret g_T own D cl tys (g_A f0 s.heap.size) Z) {v : Int32} (hr : ret = some .boolean) (hn : narrow .boolean (.int v) = .int v) (hp : post (some (.int v)) f) (hc : cells ≤ rm.cells) (hs : slots ≤ rm.slots) (d : decode cc pc = .ok (.ireturn, 1)) : g_W p l e R s m args below meth c nL D cl (g_A f0 s.heap.size) f cells slots (g_End below D cl f0 post px args s rm) pc lv [.int v] := by
  intro H locs ls hP hD hS hl
  refine W.widen hc hs (vx_ret ?_)
  exact W.zret X.1.1 X.1.2.1 (X.2.2.2.1.trans hr) hn (fun t ht hW => ⟨⟨_, f, rfl, hp, by rw [ht]; exact hP, hD⟩, hS.F ht⟩) hS.2.2 d X.2.2.2.2.1
theorem g_vret (X : g_X p s m args meth c cc nL ret g_T own D cl tys (g_A f0 s.heap.size) Z) (hr : ret = none) (hp : post none f) (hc : cells ≤ rm.cells) (hs : slots ≤ rm.slots) (d : decode cc pc = .ok (.return_, 1)) : g_W p l e R s m args below meth c nL D cl (g_A f0 s.heap.size) f cells slots (g_End below D cl f0 post px args s rm) pc lv [] := by
  intro H locs ls hP hD hS hl
  refine W.widen hc hs (vx_ret ?_)
  exact W.vret X.1.1 X.1.2.1 (X.2.2.2.1.trans hr) (fun t ht hW => ⟨⟨_, f, rfl, hp, by rw [ht]; exact hP, hD⟩, hS.F ht⟩) hS.2.2 d X.2.2.2.2.1
theorem g_aret (X : g_X p s m args meth c cc nL ret g_T own D cl tys (g_A f0 s.heap.size) Z) {v : Value} {rt : FieldType} (hr : ret = some rt) (hrt : (∃ n, rt = .object n) ∨ ∃ t, rt = .array t) (hv : v = .null ∨ ∃ a, v = .ref a) (hp : post (some v) f) (hc : cells ≤ rm.cells) (hs : slots ≤ rm.slots) (d : decode cc pc = .ok (.areturn, 1)) : g_W p l e R s m args below meth c nL D cl (g_A f0 s.heap.size) f cells slots (g_End below D cl f0 post px args s rm) pc lv [v] := by
  intro H locs ls hP hD hS hl
  refine W.widen hc hs (vx_ret ?_)
  exact W.aret X.1.1 X.1.2.1 (X.2.2.2.1.trans hr) hrt hv (fun t ht hW => ⟨⟨_, f, rfl, hp, by rw [ht]; exact hP, hD⟩, hS.F ht⟩) hS.2.2 d X.2.2.2.2.1
/-- what is owed where a callee has thrown -/
def g_K (p : Program) (l : Launch) (e : Env) (R : Room) (s : State) (m : MethodId) (args : Array Value) (below : List Frame) (meth : Method) (c : Code) (nL : Nat) (D : va_G) (cl : List vw_C) (A : Nat → Prop) (f : g_F) (cells slots : Nat) (Q : State → Prop) (pc : Nat) (lv : List (Nat × Value)) (rest : List Value) (px : String → Prop) : Prop :=
  ∀ (E : String) (ce : Cell) (q : Addr) (H : Heap) (locs : List Loc) (ls : Array Slot), px E → g_P D cl f H → (∀ q : Nat, f q ≠ none → A q) → va_S A s.heap H locs → lv_has ls nL lv → H[q]? = some ce → ce.vm = .none → s.vm.findClass E = some ce.cls → vx_W p l e R s m args below meth c H locs cells slots Q (F0 m pc ls rest) q
theorem g_K.no {rest : List Value} {px2 : String → Prop} (h : ∀ E, ¬ px2 E) : g_K p l e R s m args below meth c nL D cl A f cells slots Q pc lv rest px2 := fun E _ _ _ _ _ hx => absurd hx (h E)
theorem g_K.out {rest : List Value} {px2 : String → Prop} (X : g_X p s m args meth c cc nL ret g_T own D cl tys (g_A f0 s.heap.size) Z) (ht : ∀ x ∈ c.exceptionTable.toList, False) (hx : ∀ E, px2 E → px E) (hc : cells ≤ rm.cells) (hs : slots ≤ rm.slots) : g_K p l e R s m args below meth c nL D cl (g_A f0 s.heap.size) f0 cells slots (g_End below D cl f0 post px args s rm) pc lv rest px2 := by
  intro E ce q H locs ls h1 hP hD hS hl hce hcv hcl
  exact vx_out (fun x hx => absurd (ht x hx) id) X.2.2.2.2.1 hce hcv hcl (fun t ht2 hal => ⟨hx E h1, by rw [ht2]; exact hP, hS.F ht2⟩) hS.2.2 hc hs
theorem g_call (X : g_X p s m args meth c cc nL ret g_T own D cl tys A Z) {k n : Nat} {st0 rest : List Value} {a : Array Value} {px2 : String → Prop} {post2 : Option Value → g_F → Prop}
    (run : ∀ (H : Heap) (locs : List Loc) (ls : Array Slot), g_P D cl f H → va_S A s.heap H locs → lv_has ls nL lv → vx_Run p l e R s m args below meth c H locs cells slots k n (F0 m pc ls st0) rest (g_Qc D cl f H.size post2 a) (g_XC D cl f H.size px2) (g_A f H.size))
    (kx : g_K p l e R s m args below meth c nL D cl A f (cells + k) (slots + n) Q pc lv rest px2)
    (kk : ∀ (r : Option Value) (f2 : g_F), post2 r f2 → g_W p l e R s m args below meth c nL D cl A f2 (cells + k) (slots + n) Q (pc + 3) lv (r.toList ++ rest)) : g_W p l e R s m args below meth c nL D cl A f cells slots Q pc lv st0 := by
  intro H locs ls hP hD hS hl T hT Xs
  have hsub : ∀ q : Nat, g_A f H.size q → A q := fun q h => h.elim (hD q) (fun h => X.2.2.1 q (Nat.le_trans hS.1 h))
  rcases run H locs ls hP hS hl T hT Xs with ⟨v, st₀, t, T', L, h0, X', hL, e1, e2, ⟨⟨r, f2, hv, hp, hP2, hD2⟩, hF⟩, stp⟩ | ⟨q, st₀, t, T', L, E, ce, h0, X', hL, e1, e2, ⟨hp, hP2, hF⟩, hce, hcv, hcl, stp⟩
  · cases hv
    obtain ⟨k1, k2, k3⟩ := vx_keep h0 e1 hS (fun q _ => hsub q) hsub hL hF
    obtain ⟨t2, a1, b1⟩ := kk v f2 hp T'.heap (locs ++ L) ls (by rw [e1]; exact hP2) (fun q hq => hsub q (hD2 q hq)) k3 hl T' rfl X'
    exact ⟨t2, stp t2 a1, b1⟩
  · obtain ⟨k1, k2, k3⟩ := vx_keep h0 e1 hS (fun q _ => hsub q) hsub hL hF
    obtain ⟨t2, a1, b1⟩ := kx E ce q T'.heap (locs ++ L) ls hp (by rw [e1]; exact hP2) hD k3 hl (by rw [e1]; exact hce) hcv hcl T' rfl X'
    exact ⟨t2, stp.trans a1, b1⟩
theorem g_blind (hZ : g_ZC Z) {f : g_F} {sz : Nat} {av : List Value} : FrameBlind (g_Pc D cl tys Z f sz av) := by
  intro a U g mk q
  obtain ⟨q0, q1, qP, qK, qZ⟩ := q
  exact ⟨q0, q1, qP, va_K.moved (u := U) (U := U.calling g mk a) (Vm.Alike.refl U.vm) qK, hZ.1 _ U (U.calling g mk a) _ (State.WarmedH.refl U) qZ⟩
theorem g_pre (X : g_X p s m args meth c cc nL ret g_T own D cl tys A Z) (hZ : g_ZC Z) {H : Heap} {locs : List Loc} {av : List Value} (hP : g_P D cl f H) (hD : ∀ q : Nat, f q ≠ none → A q) (hS : va_S A s.heap H locs) : ∀ U : State, U.heap = H → s.WarmedH U.vm → g_Pc D cl tys Z f H.size av av.toArray U := by
  intro U hU hW
  refine ⟨rfl, by rw [hU], by rw [hU]; exact hP, va_K.moved hW.alike X.2.1, ?_⟩
  have hsub : ∀ q : Nat, g_A f H.size q → A q := fun q h => h.elim (hD q) (fun h => X.2.2.1 q (Nat.le_trans hS.1 h))
  rw [hU]
  exact hZ.2.2 _ _ _ _ (hZ.1 _ _ _ _ hW (hZ.2.1 _ _ _ _ X.2.2.2.2.2 (fun a h1 h2 => hS.2.1 a h1 h2))) hsub
theorem g_callV (X : g_X p s m args meth c cc nL ret g_T own D cl tys A Z) (hZ : g_ZC Z) {C : String} {y : MethodName} {bytes : ByteArray} {maxL n index : Nat} {ret2 : Option FieldType} {rm2 : Room} {As rest st0 : List Value} {px2 : String → Prop} {post2 : Option Value → g_F → Prop} {b ci : Nat} {fs : List Value} {cq : vw_C} (hcl : cl[ci]? = some cq) (hcq : cq.1 = C) (he : f b = some (.inr (ci, fs))) 
    (hM : g_C l y bytes maxL ret2 rm2 D cl tys Z (.ref b :: As) f post2 px2) (hy : g_y y bytes maxL ret2 n) (hin : Cond.instanceMethod y ∈ g_T) (hse : Cond.selects C y y ∈ g_T) (hlk : Cond.methodLink own index y ∈ g_T) (hn : As.length = n) (hst : st0 = As.reverse ++ .ref b :: rest) (hW : (rest.map fun v => v.category).sum ≤ 8) (d : decode cc pc = .ok (.invokevirtual index, 3)) (hR : rm2.frames + 1 ≤ R.frames ∧ 8 + (maxL + 11) + rm2.locals ≤ R.locals) (hf : cells + rm2.cells ≤ R.cells ∧ slots + rm2.slots ≤ R.slots)
    (kx : g_K p l e R s m args below meth c nL D cl A f (cells + rm2.cells) (slots + rm2.slots) Q pc lv rest px2)
    (kk : ∀ (r : Option Value) (f2 : g_F), post2 r f2 → g_W p l e R s m args below meth c nL D cl A f2 (cells + rm2.cells) (slots + rm2.slots) Q (pc + 3) lv (r.toList ++ rest)) : g_W p l e R s m args below meth c nL D cl A f cells slots Q pc lv st0 := by
  intro H locs ls hP hD hS hl
  refine g_call X (a := (Value.ref b :: As).toArray) (k := rm2.cells) (n := rm2.slots) (rest := rest) (px2 := px2) (fun H locs ls hP hS hl => ?_) kx kk H locs ls hP hD hS hl
  subst hcq
  obtain ⟨cellB, g1, g2, g3⟩ := va_recv X.2.1 (hP.one he) (ci := ci) (q0 := 0) hcl rfl
  exact vx_runV X.1 (hM H.size) ⟨(callB_of n X.1.2.2.2.2 (g_goodc hy.1) rfl rfl rfl (X.1.2.2.2.2 _ hy.2.1) (X.1.2.2.2.2 _ hlk) hy.2.2 hR), X.1.2.2.2.2 _ hin, X.1.2.2.2.2 _ hse⟩ ⟨g_blind hZ, ⟨cellB, g1, g2, g3⟩, g_pre X hZ hP hD hS⟩ rfl hn hl.1 hst (lv_room hW) d hf
theorem g_callVN (X : g_X p s m args meth c cc nL ret g_T own D cl tys A Z) (hZ : g_ZC Z) {C host : String} {y : MethodName} {bytes : ByteArray} {maxL n index : Nat} {ret2 : Option FieldType} {rm2 : Room} {As rest st0 : List Value} {px2 : String → Prop} {post2 : Option Value → g_F → Prop} {b ci : Nat} {fs : List Value} {cq : vw_C} (hcl : cl[ci]? = some cq) (hcq : cq.1 = C) (he : f b = some (.inr (ci, fs))) 
    (hM : g_C l y bytes maxL ret2 rm2 D cl tys Z (.ref b :: As) f post2 px2) (hy : g_y y bytes maxL ret2 n) (hin : Cond.instanceMethod y ∈ g_T) (hse : Cond.selects C y y ∈ g_T) (hlk : va_Nw (.methodLinkNest own index y host) s) (hno : ∀ E, ¬ px2 E) (hn : As.length = n) (hst : st0 = As.reverse ++ .ref b :: rest) (hW : (rest.map fun v => v.category).sum ≤ 8) (d : decode cc pc = .ok (.invokevirtual index, 3)) (hR : rm2.frames + 1 ≤ R.frames ∧ 8 + (maxL + 11) + rm2.locals ≤ R.locals) (hf : cells + rm2.cells ≤ R.cells ∧ slots + rm2.slots ≤ R.slots)
    
    (kk : ∀ (r : Option Value) (f2 : g_F), post2 r f2 → g_W p l e R s m args below meth c nL D cl A f2 (cells + rm2.cells) (slots + rm2.slots) Q (pc + 3) lv (r.toList ++ rest)) : g_W p l e R s m args below meth c nL D cl A f cells slots Q pc lv st0 := by
  intro H locs ls hP hD hS hl
  refine g_call X (a := (Value.ref b :: As).toArray) (k := rm2.cells) (n := rm2.slots) (rest := rest) (px2 := px2) (fun H locs ls hP hS hl => ?_) (g_K.no hno) kk H locs ls hP hD hS hl
  subst hcq
  obtain ⟨cellB, g1, g2, g3⟩ := va_recv X.2.1 (hP.one he) (ci := ci) (q0 := 0) hcl rfl
  exact fun T hT XT => Or.inl (va_runVN X.1 (hM.met hno H.size) ⟨(va_cnB n X.1.2.2.2.2 (g_goodc hy.1) rfl rfl rfl hlk (X.1.2.2.2.2 _ hy.2.1) hy.2.2 hR), X.1.2.2.2.2 _ hin, X.1.2.2.2.2 _ hse⟩ ⟨g_blind hZ, ⟨cellB, g1, g2, g3⟩, g_pre X hZ hP hD hS⟩ rfl hn hl.1 hst (lv_room hW) d hf T hT XT)
theorem g_callS (X : g_X p s m args meth c cc nL ret g_T own D cl tys A Z) (hZ : g_ZC Z) {y : MethodName} {bytes : ByteArray} {maxL n index : Nat} {ret2 : Option FieldType} {rm2 : Room} {As rest st0 : List Value} {px2 : String → Prop} {post2 : Option Value → g_F → Prop} 
    (hM : g_C l y bytes maxL ret2 rm2 D cl tys Z As f post2 px2) (hy : g_y y bytes maxL ret2 n) (hsc : Cond.static y ∈ g_T) (hlk : Cond.methodLink own index y ∈ g_T) (hn : As.length = n) (hst : st0 = As.reverse ++ rest) (hW : (rest.map fun v => v.category).sum ≤ 8) (d : decode cc pc = .ok (.invokestatic index, 3)) (hR : rm2.frames + 1 ≤ R.frames ∧ 8 + (maxL + 11) + rm2.locals ≤ R.locals) (hf : cells + rm2.cells ≤ R.cells ∧ slots + rm2.slots ≤ R.slots)
    (kx : g_K p l e R s m args below meth c nL D cl A f (cells + rm2.cells) (slots + rm2.slots) Q pc lv rest px2)
    (kk : ∀ (r : Option Value) (f2 : g_F), post2 r f2 → g_W p l e R s m args below meth c nL D cl A f2 (cells + rm2.cells) (slots + rm2.slots) Q (pc + 3) lv (r.toList ++ rest)) : g_W p l e R s m args below meth c nL D cl A f cells slots Q pc lv st0 := by
  intro H locs ls hP hD hS hl
  refine g_call X (a := As.toArray) (k := rm2.cells) (n := rm2.slots) (rest := rest) (px2 := px2) (fun H locs ls hP hS hl => ?_) kx kk H locs ls hP hD hS hl
  exact vx_runS X.1 (hM H.size) ⟨(callB_of n X.1.2.2.2.2 (g_goodc hy.1) rfl rfl rfl (X.1.2.2.2.2 _ hy.2.1) (X.1.2.2.2.2 _ hlk) hy.2.2 hR), X.1.2.2.2.2 _ hsc⟩ ⟨g_blind hZ, g_pre X hZ hP hD hS⟩ rfl hn hl.1 hst (lv_room hW) d hf
theorem g_callSN (X : g_X p s m args meth c cc nL ret g_T own D cl tys A Z) (hZ : g_ZC Z) {host : String} {y : MethodName} {bytes : ByteArray} {maxL n index : Nat} {ret2 : Option FieldType} {rm2 : Room} {As rest st0 : List Value} {px2 : String → Prop} {post2 : Option Value → g_F → Prop} 
    (hM : g_C l y bytes maxL ret2 rm2 D cl tys Z As f post2 px2) (hy : g_y y bytes maxL ret2 n) (hsc : Cond.static y ∈ g_T) (hlk : va_Nw (.methodLinkNest own index y host) s) (hno : ∀ E, ¬ px2 E) (hn : As.length = n) (hst : st0 = As.reverse ++ rest) (hW : (rest.map fun v => v.category).sum ≤ 8) (d : decode cc pc = .ok (.invokestatic index, 3)) (hR : rm2.frames + 1 ≤ R.frames ∧ 8 + (maxL + 11) + rm2.locals ≤ R.locals) (hf : cells + rm2.cells ≤ R.cells ∧ slots + rm2.slots ≤ R.slots)
    
    (kk : ∀ (r : Option Value) (f2 : g_F), post2 r f2 → g_W p l e R s m args below meth c nL D cl A f2 (cells + rm2.cells) (slots + rm2.slots) Q (pc + 3) lv (r.toList ++ rest)) : g_W p l e R s m args below meth c nL D cl A f cells slots Q pc lv st0 := by
  intro H locs ls hP hD hS hl
  refine g_call X (a := As.toArray) (k := rm2.cells) (n := rm2.slots) (rest := rest) (px2 := px2) (fun H locs ls hP hS hl => ?_) (g_K.no hno) kk H locs ls hP hD hS hl
  exact fun T hT XT => Or.inl (va_runSN X.1 (hM.met hno H.size) ⟨(va_cnB n X.1.2.2.2.2 (g_goodc hy.1) rfl rfl rfl hlk (X.1.2.2.2.2 _ hy.2.1) hy.2.2 hR), X.1.2.2.2.2 _ hsc, trivial⟩ ⟨g_blind hZ, g_pre X hZ hP hD hS⟩ rfl hn hl.1 hst (lv_room hW) d hf T hT XT)
theorem g_callI (X : g_X p s m args meth c cc nL ret g_T own D cl tys A Z) (hZ : g_ZC Z) {y : MethodName} {bytes : ByteArray} {maxL n index : Nat} {ret2 : Option FieldType} {rm2 : Room} {As rest st0 : List Value} {px2 : String → Prop} {post2 : Option Value → g_F → Prop} {b : Nat} 
    (hM : g_C l y bytes maxL none rm2 D cl tys Z (.ref b :: As) f post2 px2) (hy : g_y y bytes maxL none n) (hin : Cond.instanceMethod y ∈ g_T) (hini : y.name = "<init>") (hlk : Cond.methodLink own index y ∈ g_T) (hno : ∀ E, ¬ px2 E) (hn : As.length = n) (hst : st0 = As.reverse ++ .ref b :: rest) (hW : (rest.map fun v => v.category).sum ≤ 8) (d : decode cc pc = .ok (.invokespecial index, 3)) (hR : rm2.frames + 1 ≤ R.frames ∧ 8 + (maxL + 11) + rm2.locals ≤ R.locals) (hf : cells + rm2.cells ≤ R.cells ∧ slots + rm2.slots ≤ R.slots)
    
    (kk : ∀ (r : Option Value) (f2 : g_F), post2 r f2 → g_W p l e R s m args below meth c nL D cl A f2 (cells + rm2.cells) (slots + rm2.slots) Q (pc + 3) lv (r.toList ++ rest)) : g_W p l e R s m args below meth c nL D cl A f cells slots Q pc lv st0 := by
  intro H locs ls hP hD hS hl
  refine g_call X (a := (Value.ref b :: As).toArray) (k := rm2.cells) (n := rm2.slots) (rest := rest) (px2 := px2) (fun H locs ls hP hS hl => ?_) (g_K.no hno) kk H locs ls hP hD hS hl
  exact fun T hT XT => Or.inl (va_runI X.1 (hM.met hno H.size) ⟨(callB_of n X.1.2.2.2.2 (g_goodc hy.1) rfl rfl rfl (X.1.2.2.2.2 _ hy.2.1) (X.1.2.2.2.2 _ hlk) hy.2.2 hR), hini, X.1.2.2.2.2 _ hin⟩ ⟨g_blind hZ, g_pre X hZ hP hD hS⟩ rfl hn hl.1 hst (lv_room hW) d hf T hT XT)
end GE
