section R3
variable {p : Program} {l : Launch} {e : Env} {R : Room} {s : State} {m : MethodId} {args : Array Value} {below : List Frame} {meth : Method} {c : Code} {cells slots : Nat} {Q : State → Prop}
variable {cc : ByteArray} {pc nL : Nat} {D : va_G} {cl : List vw_C} {tys : List (ClassId × FieldType)} {A : Nat → Prop} {f : g_F} {lv lv' : List (Nat × Value)} {st : List Value} {own : String} {ret : Option FieldType} {Z : (Nat → Prop) → State → Heap → Prop} {eA eM : Nat} {cI cZ cO cJ : ClassId}
theorem g_lald (X : g_X p s m args meth c cc nL ret g_T own D cl (g_tys cI cZ cO cJ) A Z) {a n : Nat} {g : Nat → Int64} {i : Int32} {v : Int64} (he : f a = some (.inl (cJ, n, .inr (.inl g)))) (hi : vp_in i n) (hv : g i.toNatClampNeg = v) (d : decode cc pc = .ok (.laload, 1)) (kk : g_W p l e R s m args below meth c nL D cl A f cells slots Q (pc + 1) lv (.long v :: st)) : g_W p l e R s m args below meth c nL D cl A f cells slots Q pc lv (.int i :: .ref a :: st) := by
  subst hv
  intro H locs ls hP hD hS hl
  exact va_lald X.1.1 X.1.2.1 X.2.1 (hP.one he) 0 3 rfl rfl hi d (kk H locs ls hP hD hS hl)
theorem g_last (X : g_X p s m args meth c cc nL ret g_T own D cl (g_tys cI cZ cO cJ) A Z) {a b n : Nat} {z : Nat × List Value} {g g2 : Nat → Int64} {i : Int32} {x : Int64} (hb : f b = some (.inr z)) (he : f a = some (.inl (cJ, n, .inr (.inl g)))) (hi : vp_in i n) (hg : vp_updL g i.toNatClampNeg x = g2) (d : decode cc pc = .ok (.lastore, 1)) (kk : g_W p l e R s m args below meth c nL D cl A (g_u f a (.inl (cJ, n, .inr (.inl g2)))) cells slots Q (pc + 1) lv st) : g_W p l e R s m args below meth c nL D cl A f cells slots Q pc lv (.long x :: .int i :: .ref a :: st) := by
  subst hg
  intro H locs ls hP hD hS hl
  obtain ⟨ws, w0, w1, w2, w3, w4⟩ := g_list hP hD hb he (g_ne hb he (fun z => by cases z))
  exact va_last X.1.1 X.1.2.1 X.2.1 w2 w3 hS 1 3 w1 rfl hi d (fun H1 locs1 g1 g2 g3 => kk H1 locs1 ls (w4 _ H1 g1) (g_D.set hD (w3.2 1 _ w1)) g3 hl)
theorem g_i2l (X : g_X p s m args meth c cc nL ret g_T own D cl tys A Z) {x : Int32} (d : decode cc pc = .ok (.i2l, 1)) (kk : g_W p l e R s m args below meth c nL D cl A f cells slots Q (pc + 1) lv (.long x.toInt64 :: st)) : g_W p l e R s m args below meth c nL D cl A f cells slots Q pc lv (.int x :: st) := fun H locs ls hP hD hS hl => lv_i2l X.1.1 X.1.2.1 d rfl (kk H locs ls hP hD hS hl)
theorem g_lconst (X : g_X p s m args meth c cc nL ret g_T own D cl tys A Z) {n : Fin 2} {v : Int64} (d : decode cc pc = .ok (.lconst n, 1)) (hv : Int64.ofNat (n : Nat) = v) (kk : g_W p l e R s m args below meth c nL D cl A f cells slots Q (pc + 1) lv (.long v :: st)) : g_W p l e R s m args below meth c nL D cl A f cells slots Q pc lv st := fun H locs ls hP hD hS hl => lv_lconst X.1.1 X.1.2.1 d hv (kk H locs ls hP hD hS hl)
theorem g_lcmp (X : g_X p s m args meth c cc nL ret g_T own D cl tys A Z) {x y : Int64} (d : decode cc pc = .ok (.lcmp, 1)) (kk : g_W p l e R s m args below meth c nL D cl A f cells slots Q (pc + 1) lv (.int (lg_cmp x y) :: st)) : g_W p l e R s m args below meth c nL D cl A f cells slots Q pc lv (.long y :: .long x :: st) := fun H locs ls hP hD hS hl => W.lcmp X.1.1 X.1.2.1 d (kk H locs ls hP hD hS hl)
theorem g_table (X : g_X p s m args meth c cc nL ret g_T own D cl tys A Z) {dflt lo hi : Int} {offs : Array Int} {len tgt : Nat} {x : Int32} {off : Int} (d : decode cc pc = .ok (.tableswitch dflt lo hi offs, len)) (h1 : ¬ x.toInt < lo) (h2 : ¬ hi < x.toInt) (ho : offs[(x.toInt - lo).toNat]? = some off) (ht : (pc : Int) + off = (tgt : Int)) (kk : g_W p l e R s m args below meth c nL D cl A f cells slots Q tgt lv st) : g_W p l e R s m args below meth c nL D cl A f cells slots Q pc lv (.int x :: st) := fun H locs ls hP hD hS hl => lv_tableIn X.1.1 X.1.2.1 d h1 h2 ho ht (kk H locs ls hP hD hS hl)
theorem g_newl (X : g_X p s m args meth c cc nL ret g_T own D cl (g_tys cI cZ cO cJ) A Z) {n : Int32} {N : Nat} (harr : Cond.arrayClass .long ∈ g_T) (hn : ¬ n < 0) (hN : n.toNatClampNeg = N) (hb : N * componentBytes .long ≤ 536870912) (hcells : cells + 1 ≤ R.cells) (hslots : slots + N ≤ R.slots) (d : decode cc pc = .ok (.newarray .long, 2)) (kk : ∀ q : Nat, f q = none → g_W p l e R s m args below meth c nL D cl A (g_u f q (.inl (cJ, N, .inr (.inl (fun _ => 0))))) (cells + 1) (slots + N) Q (pc + 2) lv (.ref q :: st)) : g_W p l e R s m args below meth c nL D cl A f cells slots Q pc lv (.int n :: st) := by
  intro H locs ls hP hD hS hl
  refine va_newaK (atype := .long) X.1.1 X.1.2.1 (X.1.2.2.2.2 _ harr) rfl d rfl hn hN hb hcells hslots rfl fun H1 cB e1 z1 o1 hAr hNm => ?_
  have hcc : cB = cJ := by
    have h9 : s.vm.findClass ("[" ++ (FieldType.toString .long)) = some cJ := (X.2.1.2 3 _ rfl).2
    exact Option.some.inj (hNm.symm.trans h9)
  subst hcc
  exact kk H.size hP.non H1 locs ls (hP.new (show H1[H.size]? = some (vp_cell _ _) from e1) o1) (g_D.set hD (X.2.2.1 _ hS.1)) (hS.new z1 o1) hl
theorem g_sld (X : g_X p s m args meth c cc nL ret g_T own D cl tys A Z) {b L : Nat} {xs : Nat → Int32} {i v : Int32} (hX : va_X b L xs s s.heap) (hbA : ¬ A b) (hi : vp_in i L) (hv : xs i.toNatClampNeg = v) (d : decode cc pc = .ok (.iaload, 1)) (kk : g_W p l e R s m args below meth c nL D cl A f cells slots Q (pc + 1) lv (.int v :: st)) : g_W p l e R s m args below meth c nL D cl A f cells slots Q pc lv (.int i :: .ref b :: st) := by
  subst hv
  intro H locs ls hP hD hS hl
  have hbl : b < s.heap.size := by obtain ⟨scr, h1, -⟩ := hX; exact (Array.getElem?_eq_some_iff.mp h1).1
  exact va_sld X.1.1 X.1.2.1 hX hbl hbA hS hi d (kk H locs ls hP hD hS hl)
theorem g_slen (X : g_X p s m args meth c cc nL ret g_T own D cl tys A Z) {b L : Nat} {xs : Nat → Int32} (hX : va_X b L xs s s.heap) (hbA : ¬ A b) (d : decode cc pc = .ok (.arraylength, 1)) (kk : g_W p l e R s m args below meth c nL D cl A f cells slots Q (pc + 1) lv (.int (nI L) :: st)) : g_W p l e R s m args below meth c nL D cl A f cells slots Q pc lv (.ref b :: st) := by
  intro H locs ls hP hD hS hl
  have hbl : b < s.heap.size := by obtain ⟨scr, h1, -⟩ := hX; exact (Array.getElem?_eq_some_iff.mp h1).1
  exact va_slen X.1.1 X.1.2.1 hX hbl hbA hS d (kk H locs ls hP hD hS hl)
/-- a contract of a method with an exception table, that never throws -/
def g_CH (l : Launch) (y : MethodName) (bytes : ByteArray) (maxL : Nat) (ret : Option FieldType) (hh : List (Nat × Nat × Nat × Nat)) (rm : Room) (D : va_G) (cl : List vw_C) (tys : List (ClassId × FieldType)) (Z : (Nat → Prop) → State → Heap → Prop) (av : List Value) (f : g_F) (post : Option Value → g_F → Prop) : Prop :=
  ∀ sz : Nat, vx_Met l y (Cond.codeWith y bytes maxL ret hh :: g_T) rm (g_Pc D cl tys Z f sz av) (g_Qc D cl f sz post) (g_XC D cl f sz (fun _ => False)) rm.cells rm.slots (g_A f sz)
theorem g_ofWH {l : Launch} {y : MethodName} {rm : Room} {D : va_G} {cl : List vw_C} {tys : List (ClassId × FieldType)} {Z : (Nat → Prop) → State → Heap → Prop} {av : List Value} {f : g_F} {post : Option Value → g_F → Prop} {cc : ByteArray} {maxL : Nat} {ret : Option FieldType} {hh : List (Nat × Nat × Nat × Nat)} (lv : List (Nat × Value))
    (hy : plainName y.cls = true) (hlen : (lg_sl av).length ≤ maxL) (hlv : lv_args 0 av = lv)
    (body : ∀ (p : Program) (e : Env) (s : State) (m : MethodId) (args : Array Value) (below : List Frame) (meth : Method) (c : Code), g_X p s m args meth c cc maxL ret g_T y.cls D cl tys (g_A f s.heap.size) Z → c.exceptionTable.toList = tableOf hh →
      g_W p l e rm s m args below meth c maxL D cl (g_A f s.heap.size) f 0 0 (g_End below D cl f post (fun _ => False) args s rm) 0 lv []) : g_CH l y cc maxL ret hh rm D cl tys Z av f post := by
  intro sz
  refine vx_ofWH (cc := cc) (maxL := maxL) (ret := ret) (hh := hh) hy rfl ?_
  intro p e s m args below meth c s₁ B hml hv
  have hts := atoms_spec (ws := Cond.codeWith y cc maxL ret hh :: g_T) B.pre
  have ht := vx_table (x := y) B (hts _ List.mem_cons_self)
  obtain ⟨rfl, hsz, hP, hK, hZ⟩ := hv
  subst hsz
  have hx := B.exec
  have hb := B.bytes
  have hown : s.vm.findClass y.cls = some m.cls := findClass_of_methodNamed B.named
  have hl := lv_entry av (n := maxL) hlen
  rw [lg_entry_eq]
  rw [hlv] at hl
  exact body p e s m _ below meth c ⟨⟨hx, hb, hml, hown, fun w h => hts w (List.mem_cons_of_mem _ h)⟩, hK, fun q h => Or.inr h, B.returns, B.notSynchronized, hZ⟩ ht s.heap [] _ hP (fun q h => Or.inl h) va_S.rf hl
def g_yH (y : MethodName) (bytes : ByteArray) (maxL : Nat) (ret : Option FieldType) (hh : List (Nat × Nat × Nat × Nat)) (n : Nat) : Prop :=
  Cond.codeWith y bytes maxL ret hh ∈ g_T ∧ Cond.initialized y.cls ∈ g_T ∧ y.cls ≠ "java/lang/invoke/MethodHandle" ∧ y.cls ≠ "java/lang/invoke/VarHandle" ∧ (parseMethodDescriptor y.desc).map (fun d => d.parameters.length) = some n
theorem g_callSH (X : g_X p s m args meth c cc nL ret g_T own D cl tys A Z) (hZ : g_ZC Z) {y : MethodName} {bytes : ByteArray} {maxL n index : Nat} {ret2 : Option FieldType} {hh : List (Nat × Nat × Nat × Nat)} {rm2 : Room} {As rest st0 : List Value} {post2 : Option Value → g_F → Prop}
    (hM : g_CH l y bytes maxL ret2 hh rm2 D cl tys Z As f post2) (hy : g_yH y bytes maxL ret2 hh n) (hsc : Cond.static y ∈ g_T) (hlk : Cond.methodLink own index y ∈ g_T) (hn : As.length = n) (hst : st0 = As.reverse ++ rest) (hW : (rest.map fun v => v.category).sum ≤ 8) (d : decode cc pc = .ok (.invokestatic index, 3)) (hR : rm2.frames + 1 ≤ R.frames ∧ 8 + (maxL + 11) + rm2.locals ≤ R.locals) (hf : cells + rm2.cells ≤ R.cells ∧ slots + rm2.slots ≤ R.slots)
    (kk : ∀ (r : Option Value) (f2 : g_F), post2 r f2 → g_W p l e R s m args below meth c nL D cl A f2 (cells + rm2.cells) (slots + rm2.slots) Q (pc + 3) lv (r.toList ++ rest)) : g_W p l e R s m args below meth c nL D cl A f cells slots Q pc lv st0 := by
  intro H locs ls hP hD hS hl
  refine g_call X (a := As.toArray) (k := rm2.cells) (n := rm2.slots) (rest := rest) (px2 := fun _ => False) (fun H locs ls hP hS hl => ?_) (g_K.no (fun _ h => h)) kk H locs ls hP hD hS hl
  have hG : GoodIn g_T (va_wsS own index y (Cond.codeWith y bytes maxL ret2 hh :: g_T)) := by
    intro w hw
    unfold va_wsS at hw
    rcases List.mem_append.mp hw with h | h
    · have h3 : w = .methodLink own index y ∨ w = .static y ∨ w = .initialized y.cls := by simpa using h
      rcases h3 with e | e | e <;> subst e
      · exact g_good _ hlk
      · exact g_good _ hsc
      · exact g_good _ hy.2.1
    · exact g_goodc hy.1 w h
  exact vx_runSX (hh := hh) X.1 (hM H.size) (vx_cwSW n X.1.2.2.2.2 hG rfl rfl rfl hy.2.2 hR) ⟨g_blind hZ, g_pre X hZ hP hD hS⟩ rfl hn hl.1 hst (lv_room hW) d hf
/-- a throw that is caught here -/
theorem g_K.catchIA (X : g_X p s m args meth c cc nL ret g_T "CaseListsLaw" D cl tys A (z_Z eA eM)) {rest : List Value} {hp : Nat} {s0 e0 : Nat} {suf : List ExceptionTableEntry} (ht : c.exceptionTable.toList = ⟨s0, e0, hp, 13⟩ :: suf) (hc : Jvm.covers ⟨s0, e0, hp, 13⟩ pc = true) (kk : ∀ q9, g_W p l e R s m args below meth c nL D cl A f cells slots Q hp lv [.ref q9]) : g_K p l e R s m args below meth c nL D cl A f cells slots Q pc lv rest (fun E => E = "java/lang/IllegalArgumentException") := by
  intro E ce q H locs ls h1 hP hD hS hl hce hcv hcl
  subst h1
  obtain ⟨-, ⟨b1, -⟩, -⟩ := X.2.2.2.2.2
  exact vx_catch X.1.2.2.2.1 [] ⟨s0, e0, hp, 13⟩ suf ht (fun z hz => by cases hz) hc (by show (13 : Nat) ≠ 0; decide) (X.1.2.2.2.2 _ q_135) (va_Nw.use rfl b1) hce hcv hcl (kk q H locs ls hP hD hS hl)
theorem g_K.catchIS (X : g_X p s m args meth c cc nL ret g_T "CaseListsLaw" D cl tys A (z_Z eA eM)) {rest : List Value} {hp hp2 : Nat} {s0 e0 s1 e1 : Nat} (ht : c.exceptionTable.toList = [⟨s0, e0, hp, 13⟩, ⟨s1, e1, hp2, 15⟩]) (hc : Jvm.covers ⟨s1, e1, hp2, 15⟩ pc = true) (kk : ∀ q9, g_W p l e R s m args below meth c nL D cl A f cells slots Q hp2 lv [.ref q9]) : g_K p l e R s m args below meth c nL D cl A f cells slots Q pc lv rest (fun E => E = "java/lang/IllegalStateException") := by
  intro E ce q H locs ls h1 hP hD hS hl hce hcv hcl
  subst h1
  obtain ⟨-, ⟨-, b2⟩, -, -, -, -, -, -, -, -, -, g6⟩ := X.2.2.2.2.2
  refine vx_catch X.1.2.2.2.1 [⟨s0, e0, hp, 13⟩] ⟨s1, e1, hp2, 15⟩ [] ht (fun z hz => ?_) hc (by show (15 : Nat) ≠ 0; decide) (X.1.2.2.2.2 _ q_136) (va_Nw.use rfl b2) hce hcv hcl (kk q H locs ls hP hD hS hl)
  have e : z = ⟨s0, e0, hp, 13⟩ := by simpa using hz
  subst e
  exact Or.inr ⟨by show (13 : Nat) ≠ 0; decide, "java/lang/IllegalArgumentException", X.1.2.2.2.2 _ q_135, g6⟩
theorem g_K.split {rest : List Value} {px px1 px2 : String → Prop} (h : ∀ E, px E → px1 E ∨ px2 E) (h1 : g_K p l e R s m args below meth c nL D cl A f cells slots Q pc lv rest px1) (h2 : g_K p l e R s m args below meth c nL D cl A f cells slots Q pc lv rest px2) : g_K p l e R s m args below meth c nL D cl A f cells slots Q pc lv rest px := by
  intro E ce q H locs ls hx
  rcases h E hx with z | z
  · exact h1 E ce q H locs ls z
  · exact h2 E ce q H locs ls z
theorem g_K.imp {rest : List Value} {px : String → Prop} {E0 : String} (h : px E0 → g_K p l e R s m args below meth c nL D cl A f cells slots Q pc lv rest (fun E => E = E0)) : g_K p l e R s m args below meth c nL D cl A f cells slots Q pc lv rest (fun E => E = E0 ∧ px E) := by
  intro E ce q H locs ls hx
  obtain ⟨rfl, h2⟩ := hx
  exact h h2 E ce q H locs ls rfl
end R3
