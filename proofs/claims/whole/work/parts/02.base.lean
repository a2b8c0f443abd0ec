/-! Worlds as functions: what cell lies at an address, if the world knows it. -/
abbrev g_F : Type := Nat → Option va_E
/-- the heap holds the world -/
def g_P (D : va_G) (cl : List vw_C) (f : g_F) (H : Heap) : Prop := ∀ (a : Nat) (x : va_E), f a = some x → va_at D cl (a, x) H
/-- one cell more, or another content -/
def g_u (f : g_F) (a : Nat) (x : va_E) : g_F := fun q => if q = a then some x else f q
theorem g_u_s {f : g_F} {a : Nat} {x : va_E} : g_u f a x a = some x := if_pos rfl
theorem g_u_n {f : g_F} {a q : Nat} {x : va_E} (h : q ≠ a) : g_u f a x q = f q := if_neg h
theorem g_u_u {f : g_F} {a : Nat} {x y : va_E} : g_u (g_u f a x) a y = g_u f a y := by
  funext q
  by_cases h : q = a
  · subst h; rw [g_u_s, g_u_s]
  · rw [g_u_n h, g_u_n h, g_u_n h]
theorem g_u_c {f : g_F} {a b : Nat} {x y : va_E} (h : a ≠ b) : g_u (g_u f a x) b y = g_u (g_u f b y) a x := by
  funext q
  by_cases h1 : q = a
  · subst h1; rw [g_u_n h, g_u_s, g_u_s]
  · by_cases h2 : q = b
    · subst h2; rw [g_u_s, g_u_n h1, g_u_s]
    · rw [g_u_n h2, g_u_n h1, g_u_n h1, g_u_n h2]
theorem g_ne {f : g_F} {a b : Nat} {x y : va_E} (h1 : f a = some x) (h2 : f b = some y) (h : x ≠ y) : a ≠ b := by
  intro e
  subst e
  rw [h1] at h2
  exact h (Option.some.inj h2)
theorem g_P.one {D : va_G} {cl : List vw_C} {f : g_F} {H : Heap} {a : Nat} {x : va_E} (h : g_P D cl f H) (he : f a = some x) : va_P D cl [(a, x)] H := by
  intro k q hk
  have hz : k < 1 := (List.getElem?_eq_some_iff.mp hk).1
  rw [show k = 0 by omega] at hk
  cases hk
  exact h a x he
theorem g_P.lt {D : va_G} {cl : List vw_C} {f : g_F} {H : Heap} {a : Nat} (h : g_P D cl f H) (he : f a ≠ none) : a < H.size := by
  cases hf : f a with
  | none => exact absurd hf he
  | some x => exact (h a x hf).lt
theorem g_P.set {D : va_G} {cl : List vw_C} {f : g_F} {H H1 : Heap} {a : Nat} {x : va_E} (h : g_P D cl f H) (he : va_at D cl (a, x) H1) (oq : ∀ q : Nat, q ≠ a → H1[q]? = H[q]?) : g_P D cl (g_u f a x) H1 := by
  intro q y hq
  by_cases hqa : q = a
  · subst hqa
    rw [g_u_s] at hq
    cases hq
    exact he
  · rw [g_u_n hqa] at hq
    exact (h q y hq).kept (oq q hqa)
theorem g_P.new {D : va_G} {cl : List vw_C} {f : g_F} {H H1 : Heap} {x : va_E} (h : g_P D cl f H) (he : va_at D cl (H.size, x) H1) (oq : ∀ q : Nat, q < H.size → H1[q]? = H[q]?) : g_P D cl (g_u f H.size x) H1 := by
  intro q y hq
  by_cases hqa : q = H.size
  · subst hqa
    rw [g_u_s] at hq
    cases hq
    exact he
  · rw [g_u_n hqa] at hq
    exact (h q y hq).kept (oq q (h q y hq).lt)
theorem g_P.non {D : va_G} {cl : List vw_C} {f : g_F} {H : Heap} (h : g_P D cl f H) : f H.size = none := by
  cases hf : f H.size with
  | none => rfl
  | some x => exact absurd (h _ _ hf).lt (Nat.lt_irrefl _)
theorem g_D.set {f : g_F} {A : Nat → Prop} {a : Nat} {x : va_E} (h : ∀ q : Nat, f q ≠ none → A q) (ha : A a) : ∀ q : Nat, g_u f a x q ≠ none → A q := by
  intro q hq
  by_cases hqa : q = a
  · rw [hqa]; exact ha
  · rw [g_u_n hqa] at hq; exact h q hq
/-- which cells a method may write: the world's, and those that it makes -/
def g_A (f : g_F) (sz : Nat) : Nat → Prop := fun q => f q ≠ none ∨ sz ≤ q
theorem va_S.new {A : Nat → Prop} {H0 H H1 : Heap} {locs : List Loc} (h : va_S A H0 H locs) (z : H1.size = H.size + 1) (oq : ∀ q : Nat, q < H.size → H1[q]? = H[q]?) : va_S A H0 H1 locs :=
  ⟨Nat.le_trans h.1 (by omega), fun q h1 h2 => (oq q (Nat.lt_of_lt_of_le h1 h.1)).trans (h.2.1 q h1 h2), h.2.2⟩
/-- what stays the same in a method's body -/
def g_X (p : Program) (s : State) (m : MethodId) (args : Array Value) (meth : Method) (c : Code) (cc : ByteArray) (nL : Nat) (ret : Option FieldType) (Ts : List Cond) (own : String) (D : va_G) (cl : List vw_C) (tys : List (ClassId × FieldType)) (A : Nat → Prop) (Z : (Nat → Prop) → State → Heap → Prop) : Prop :=
  CallFix p m c cc nL s args Ts own ∧ va_K D cl tys s ∧ (∀ q : Nat, s.heap.size ≤ q → A q) ∧ meth.sig.returnType = ret ∧ meth.locks = false ∧ Z A s s.heap
/-- the machine at pc, with locals lv and operands st, in the world f, comes to Q -/
def g_W (p : Program) (l : Launch) (e : Env) (R : Room) (s : State) (m : MethodId) (args : Array Value) (below : List Frame) (meth : Method) (c : Code) (nL : Nat) (D : va_G) (cl : List vw_C) (A : Nat → Prop) (f : g_F) (cells slots : Nat) (Q : State → Prop) (pc : Nat) (lv : List (Nat × Value)) (st : List Value) : Prop :=
  ∀ (H : Heap) (locs : List Loc) (ls : Array Slot), g_P D cl f H → (∀ q : Nat, f q ≠ none → A q) → va_S A s.heap H locs → lv_has ls nL lv → W p l e R s m args below meth c H locs cells slots Q (F0 m pc ls st)
def g_T : List Cond := lw_tbl.filter goodWord
theorem g_in {w : Cond} (i : Nat) (h : lw_tbl[i]? = some w) (hg : goodWord w = true) : w ∈ g_T := List.mem_filter.mpr ⟨List.mem_of_getElem? h, hg⟩
theorem g_good : GoodIn g_T g_T := fun w h => ⟨h, good_of_word (List.mem_filter.mp h).2⟩
theorem g_goodc {w : Cond} (h : w ∈ g_T) : GoodIn g_T (w :: g_T) := fun v hv => (List.mem_cons.mp hv).elim (fun e => by rw [e]; exact g_good w h) (g_good v)
section GR
variable {p : Program} {l : Launch} {e : Env} {R : Room} {s : State} {m : MethodId} {args : Array Value} {below : List Frame} {meth : Method} {c : Code} {cells slots : Nat} {Q : State → Prop}
variable {cc : ByteArray} {pc nL : Nat} {D : va_G} {cl : List vw_C} {tys : List (ClassId × FieldType)} {A : Nat → Prop} {f : g_F} {lv lv' : List (Nat × Value)} {st : List Value} {Ts : List Cond} {own : String} {ret : Option FieldType} {Z : (Nat → Prop) → State → Heap → Prop}
theorem g_lv (ks : List Nat) (h : lv_pick lv ks = lv') (kk : g_W p l e R s m args below meth c nL D cl A f cells slots Q pc lv' st) : g_W p l e R s m args below meth c nL D cl A f cells slots Q pc lv st := fun H locs ls hP hD hS hl => kk H locs ls hP hD hS (lv_sub hl ks h)
theorem g_eqi {x y : Int32} (h : x = y) (kk : g_W p l e R s m args below meth c nL D cl A f cells slots Q pc lv (.int y :: st)) : g_W p l e R s m args below meth c nL D cl A f cells slots Q pc lv (.int x :: st) := by rw [h]; exact kk
theorem g_eqf {f2 : g_F} (h : f = f2) (kk : g_W p l e R s m args below meth c nL D cl A f2 cells slots Q pc lv st) : g_W p l e R s m args below meth c nL D cl A f cells slots Q pc lv st := by rw [h]; exact kk
theorem g_st {st2 : List Value} (h : st = st2) (kk : g_W p l e R s m args below meth c nL D cl A f cells slots Q pc lv st2) : g_W p l e R s m args below meth c nL D cl A f cells slots Q pc lv st := by rw [h]; exact kk
theorem g_wid {k n : Nat} (h1 : cells ≤ k) (h2 : slots ≤ n) (kk : g_W p l e R s m args below meth c nL D cl A f k n Q pc lv st) : g_W p l e R s m args below meth c nL D cl A f cells slots Q pc lv st := fun H locs ls hP hD hS hl => W.widen h1 h2 (kk H locs ls hP hD hS hl)
theorem g_iconst (X : g_X p s m args meth c cc nL ret Ts own D cl tys A Z) {n : Int} {v : Int32} (d : decode cc pc = .ok (.iconst n, 1)) (hv : Int32.ofInt n = v) (kk : g_W p l e R s m args below meth c nL D cl A f cells slots Q (pc + 1) lv (.int v :: st)) : g_W p l e R s m args below meth c nL D cl A f cells slots Q pc lv st := fun H locs ls hP hD hS hl => lv_iconst X.1.1 X.1.2.1 d hv (kk H locs ls hP hD hS hl)
theorem g_bipush (X : g_X p s m args meth c cc nL ret Ts own D cl tys A Z) {n : Int} {v : Int32} (d : decode cc pc = .ok (.bipush n, 2)) (hv : (Int8.ofInt n).toInt32 = v) (kk : g_W p l e R s m args below meth c nL D cl A f cells slots Q (pc + 2) lv (.int v :: st)) : g_W p l e R s m args below meth c nL D cl A f cells slots Q pc lv st := fun H locs ls hP hD hS hl => lv_bipush X.1.1 X.1.2.1 d hv (kk H locs ls hP hD hS hl)
theorem g_sipush (X : g_X p s m args meth c cc nL ret Ts own D cl tys A Z) {n : Int} {v : Int32} (d : decode cc pc = .ok (.sipush n, 3)) (hv : (Int16.ofInt n).toInt32 = v) (kk : g_W p l e R s m args below meth c nL D cl A f cells slots Q (pc + 3) lv (.int v :: st)) : g_W p l e R s m args below meth c nL D cl A f cells slots Q pc lv st := fun H locs ls hP hD hS hl => lv_sipush X.1.1 X.1.2.1 d hv (kk H locs ls hP hD hS hl)
theorem g_ldc (X : g_X p s m args meth c cc nL ret Ts own D cl tys A Z) {index : Nat} {v : Int32} (hc : Jvm.Cond.constant own index v ∈ Ts) (d : decode cc pc = .ok (.ldc index, 2)) (kk : g_W p l e R s m args below meth c nL D cl A f cells slots Q (pc + 2) lv (.int v :: st)) : g_W p l e R s m args below meth c nL D cl A f cells slots Q pc lv st := fun H locs ls hP hD hS hl => lv_ldc X.1.1 X.1.2.1 X.1.2.2.2.1 (X.1.2.2.2.2 _ hc) d (kk H locs ls hP hD hS hl)
theorem g_null (X : g_X p s m args meth c cc nL ret Ts own D cl tys A Z) (d : decode cc pc = .ok (.aconst_null, 1)) (kk : g_W p l e R s m args below meth c nL D cl A f cells slots Q (pc + 1) lv (.null :: st)) : g_W p l e R s m args below meth c nL D cl A f cells slots Q pc lv st := fun H locs ls hP hD hS hl => lv_null X.1.1 X.1.2.1 d (kk H locs ls hP hD hS hl)
theorem g_iload_n (X : g_X p s m args meth c cc nL ret Ts own D cl tys A Z) {k : Fin 4} {x : Int32} (d : decode cc pc = .ok (.iload_n k, 1)) (j : Nat) (h : lv[j]? = some ((k : Nat), (.int x))) (kk : g_W p l e R s m args below meth c nL D cl A f cells slots Q (pc + 1) lv ((.int x) :: st)) : g_W p l e R s m args below meth c nL D cl A f cells slots Q pc lv st := fun H locs ls hP hD hS hl => lv_iload_n X.1.1 X.1.2.1 d rfl (lv_at hl j h) (kk H locs ls hP hD hS hl)
theorem g_iload (X : g_X p s m args meth c cc nL ret Ts own D cl tys A Z) {i : Nat} {x : Int32} (d : decode cc pc = .ok (.iload i, 2)) (j : Nat) (h : lv[j]? = some (i, (.int x))) (kk : g_W p l e R s m args below meth c nL D cl A f cells slots Q (pc + 2) lv ((.int x) :: st)) : g_W p l e R s m args below meth c nL D cl A f cells slots Q pc lv st := fun H locs ls hP hD hS hl => lv_iload X.1.1 X.1.2.1 d (lv_at hl j h) (kk H locs ls hP hD hS hl)
theorem g_istore_n (X : g_X p s m args meth c cc nL ret Ts own D cl tys A Z) {k : Fin 4} {i : Nat} {x : Int32} (d : decode cc pc = .ok (.istore_n k, 1)) (hi : (k : Nat) = i) (hn : i < nL) (h : (i, (Value.int x)) :: lv.filter (fun q => !(q.1 == i) && !(q.1 + 1 == i && q.2.category == 2)) = lv') (kk : g_W p l e R s m args below meth c nL D cl A f cells slots Q (pc + 1) lv' st) : g_W p l e R s m args below meth c nL D cl A f cells slots Q pc lv ((.int x) :: st) := fun H locs ls hP hD hS hl => lv_istore_n X.1.1 X.1.2.1 d hi hl hn h (fun ls2 hl2 => kk H locs ls2 hP hD hS hl2)
theorem g_istore (X : g_X p s m args meth c cc nL ret Ts own D cl tys A Z) {i : Nat} {x : Int32} (d : decode cc pc = .ok (.istore i, 2)) (hn : i < nL) (h : (i, (Value.int x)) :: lv.filter (fun q => !(q.1 == i) && !(q.1 + 1 == i && q.2.category == 2)) = lv') (kk : g_W p l e R s m args below meth c nL D cl A f cells slots Q (pc + 2) lv' st) : g_W p l e R s m args below meth c nL D cl A f cells slots Q pc lv ((.int x) :: st) := fun H locs ls hP hD hS hl => lv_istore X.1.1 X.1.2.1 d hl hn h (fun ls2 hl2 => kk H locs ls2 hP hD hS hl2)
theorem g_aload_n (X : g_X p s m args meth c cc nL ret Ts own D cl tys A Z) {k : Fin 4} {x : Nat} (d : decode cc pc = .ok (.aload_n k, 1)) (j : Nat) (h : lv[j]? = some ((k : Nat), (.ref x))) (kk : g_W p l e R s m args below meth c nL D cl A f cells slots Q (pc + 1) lv ((.ref x) :: st)) : g_W p l e R s m args below meth c nL D cl A f cells slots Q pc lv st := fun H locs ls hP hD hS hl => lv_aload_n X.1.1 X.1.2.1 d rfl (lv_at hl j h) (kk H locs ls hP hD hS hl)
theorem g_aload (X : g_X p s m args meth c cc nL ret Ts own D cl tys A Z) {i : Nat} {x : Nat} (d : decode cc pc = .ok (.aload i, 2)) (j : Nat) (h : lv[j]? = some (i, (.ref x))) (kk : g_W p l e R s m args below meth c nL D cl A f cells slots Q (pc + 2) lv ((.ref x) :: st)) : g_W p l e R s m args below meth c nL D cl A f cells slots Q pc lv st := fun H locs ls hP hD hS hl => lv_aload X.1.1 X.1.2.1 d (lv_at hl j h) (kk H locs ls hP hD hS hl)
theorem g_astore_n (X : g_X p s m args meth c cc nL ret Ts own D cl tys A Z) {k : Fin 4} {i : Nat} {x : Nat} (d : decode cc pc = .ok (.astore_n k, 1)) (hi : (k : Nat) = i) (hn : i < nL) (h : (i, (Value.ref x)) :: lv.filter (fun q => !(q.1 == i) && !(q.1 + 1 == i && q.2.category == 2)) = lv') (kk : g_W p l e R s m args below meth c nL D cl A f cells slots Q (pc + 1) lv' st) : g_W p l e R s m args below meth c nL D cl A f cells slots Q pc lv ((.ref x) :: st) := fun H locs ls hP hD hS hl => lv_astore_n X.1.1 X.1.2.1 d hi hl hn h (fun ls2 hl2 => kk H locs ls2 hP hD hS hl2)
theorem g_astore (X : g_X p s m args meth c cc nL ret Ts own D cl tys A Z) {i : Nat} {x : Nat} (d : decode cc pc = .ok (.astore i, 2)) (hn : i < nL) (h : (i, (Value.ref x)) :: lv.filter (fun q => !(q.1 == i) && !(q.1 + 1 == i && q.2.category == 2)) = lv') (kk : g_W p l e R s m args below meth c nL D cl A f cells slots Q (pc + 2) lv' st) : g_W p l e R s m args below meth c nL D cl A f cells slots Q pc lv ((.ref x) :: st) := fun H locs ls hP hD hS hl => lv_astore X.1.1 X.1.2.1 d hl hn h (fun ls2 hl2 => kk H locs ls2 hP hD hS hl2)
theorem g_iinc (X : g_X p s m args meth c cc nL ret Ts own D cl tys A Z) {i : Nat} {n : Int} {x v : Int32} (d : decode cc pc = .ok (.iinc i n, 3)) (j : Nat) (hj : lv[j]? = some (i, .int x)) (hv : x + Int32.ofInt n = v) (hn : i < nL) (h : (i, Value.int v) :: lv.filter (fun q => !(q.1 == i) && !(q.1 + 1 == i && q.2.category == 2)) = lv') (kk : g_W p l e R s m args below meth c nL D cl A f cells slots Q (pc + 3) lv' st) : g_W p l e R s m args below meth c nL D cl A f cells slots Q pc lv st := fun H locs ls hP hD hS hl => lv_iinc X.1.1 X.1.2.1 d hl hj hv hn h (fun ls2 hl2 => kk H locs ls2 hP hD hS hl2)
theorem g_iadd (X : g_X p s m args meth c cc nL ret Ts own D cl tys A Z) {x y : Int32} (d : decode cc pc = .ok (.iadd, 1)) (kk : g_W p l e R s m args below meth c nL D cl A f cells slots Q (pc + 1) lv (.int (x + y) :: st)) : g_W p l e R s m args below meth c nL D cl A f cells slots Q pc lv (.int y :: .int x :: st) := fun H locs ls hP hD hS hl => lv_iadd X.1.1 X.1.2.1 d (kk H locs ls hP hD hS hl)
theorem g_isub (X : g_X p s m args meth c cc nL ret Ts own D cl tys A Z) {x y : Int32} (d : decode cc pc = .ok (.isub, 1)) (kk : g_W p l e R s m args below meth c nL D cl A f cells slots Q (pc + 1) lv (.int (x - y) :: st)) : g_W p l e R s m args below meth c nL D cl A f cells slots Q pc lv (.int y :: .int x :: st) := fun H locs ls hP hD hS hl => lv_isub X.1.1 X.1.2.1 d (kk H locs ls hP hD hS hl)
theorem g_imul (X : g_X p s m args meth c cc nL ret Ts own D cl tys A Z) {x y : Int32} (d : decode cc pc = .ok (.imul, 1)) (kk : g_W p l e R s m args below meth c nL D cl A f cells slots Q (pc + 1) lv (.int (x * y) :: st)) : g_W p l e R s m args below meth c nL D cl A f cells slots Q pc lv (.int y :: .int x :: st) := fun H locs ls hP hD hS hl => lv_imul X.1.1 X.1.2.1 d (kk H locs ls hP hD hS hl)
theorem g_iand (X : g_X p s m args meth c cc nL ret Ts own D cl tys A Z) {x y : Int32} (d : decode cc pc = .ok (.iand, 1)) (kk : g_W p l e R s m args below meth c nL D cl A f cells slots Q (pc + 1) lv (.int (x &&& y) :: st)) : g_W p l e R s m args below meth c nL D cl A f cells slots Q pc lv (.int y :: .int x :: st) := fun H locs ls hP hD hS hl => lv_iand X.1.1 X.1.2.1 d (kk H locs ls hP hD hS hl)
theorem g_ior (X : g_X p s m args meth c cc nL ret Ts own D cl tys A Z) {x y : Int32} (d : decode cc pc = .ok (.ior, 1)) (kk : g_W p l e R s m args below meth c nL D cl A f cells slots Q (pc + 1) lv (.int (x ||| y) :: st)) : g_W p l e R s m args below meth c nL D cl A f cells slots Q pc lv (.int y :: .int x :: st) := fun H locs ls hP hD hS hl => lv_ior X.1.1 X.1.2.1 d (kk H locs ls hP hD hS hl)
theorem g_ixor (X : g_X p s m args meth c cc nL ret Ts own D cl tys A Z) {x y : Int32} (d : decode cc pc = .ok (.ixor, 1)) (kk : g_W p l e R s m args below meth c nL D cl A f cells slots Q (pc + 1) lv (.int (x ^^^ y) :: st)) : g_W p l e R s m args below meth c nL D cl A f cells slots Q pc lv (.int y :: .int x :: st) := fun H locs ls hP hD hS hl => lv_ixor X.1.1 X.1.2.1 d (kk H locs ls hP hD hS hl)
theorem g_ishl (X : g_X p s m args meth c cc nL ret Ts own D cl tys A Z) {x y : Int32} (d : decode cc pc = .ok (.ishl, 1)) (kk : g_W p l e R s m args below meth c nL D cl A f cells slots Q (pc + 1) lv (.int (x <<< (y &&& 31)) :: st)) : g_W p l e R s m args below meth c nL D cl A f cells slots Q pc lv (.int y :: .int x :: st) := fun H locs ls hP hD hS hl => lv_ishl X.1.1 X.1.2.1 d (kk H locs ls hP hD hS hl)
theorem g_ishr (X : g_X p s m args meth c cc nL ret Ts own D cl tys A Z) {x y : Int32} (d : decode cc pc = .ok (.ishr, 1)) (kk : g_W p l e R s m args below meth c nL D cl A f cells slots Q (pc + 1) lv (.int (x >>> (y &&& 31)) :: st)) : g_W p l e R s m args below meth c nL D cl A f cells slots Q pc lv (.int y :: .int x :: st) := fun H locs ls hP hD hS hl => lv_ishr X.1.1 X.1.2.1 d (kk H locs ls hP hD hS hl)
theorem g_iushr (X : g_X p s m args meth c cc nL ret Ts own D cl tys A Z) {x y v : Int32} (d : decode cc pc = .ok (.iushr, 1)) (hv : (x.toUInt32 >>> (y.toUInt32 &&& Int32.toUInt32 31)).toInt32 = v) (kk : g_W p l e R s m args below meth c nL D cl A f cells slots Q (pc + 1) lv (.int v :: st)) : g_W p l e R s m args below meth c nL D cl A f cells slots Q pc lv (.int y :: .int x :: st) := fun H locs ls hP hD hS hl => lv_iushr X.1.1 X.1.2.1 d hv (kk H locs ls hP hD hS hl)
theorem g_idiv (X : g_X p s m args meth c cc nL ret Ts own D cl tys A Z) {x y : Int32} (d : decode cc pc = .ok (.idiv, 1)) (h0 : ¬ y = 0) (kk : g_W p l e R s m args below meth c nL D cl A f cells slots Q (pc + 1) lv (.int (x / y) :: st)) : g_W p l e R s m args below meth c nL D cl A f cells slots Q pc lv (.int y :: .int x :: st) := fun H locs ls hP hD hS hl => lv_idiv X.1.1 X.1.2.1 d h0 (kk H locs ls hP hD hS hl)
theorem g_irem (X : g_X p s m args meth c cc nL ret Ts own D cl tys A Z) {x y : Int32} (d : decode cc pc = .ok (.irem, 1)) (h0 : ¬ y = 0) (kk : g_W p l e R s m args below meth c nL D cl A f cells slots Q (pc + 1) lv (.int (x - x / y * y) :: st)) : g_W p l e R s m args below meth c nL D cl A f cells slots Q pc lv (.int y :: .int x :: st) := fun H locs ls hP hD hS hl => lv_irem X.1.1 X.1.2.1 d h0 (kk H locs ls hP hD hS hl)
theorem g_ineg (X : g_X p s m args meth c cc nL ret Ts own D cl tys A Z) {x : Int32} (d : decode cc pc = .ok (.ineg, 1)) (kk : g_W p l e R s m args below meth c nL D cl A f cells slots Q (pc + 1) lv (.int (-x) :: st)) : g_W p l e R s m args below meth c nL D cl A f cells slots Q pc lv (.int x :: st) := fun H locs ls hP hD hS hl => lv_ineg X.1.1 X.1.2.1 d (kk H locs ls hP hD hS hl)
theorem g_dup (X : g_X p s m args meth c cc nL ret Ts own D cl tys A Z) {v : Value} (d : decode cc pc = .ok (.dup, 1)) (hv : v.category = 1) (kk : g_W p l e R s m args below meth c nL D cl A f cells slots Q (pc + 1) lv (v :: v :: st)) : g_W p l e R s m args below meth c nL D cl A f cells slots Q pc lv (v :: st) := fun H locs ls hP hD hS hl => lv_dup X.1.1 X.1.2.1 d hv (kk H locs ls hP hD hS hl)
theorem g_pop (X : g_X p s m args meth c cc nL ret Ts own D cl tys A Z) {v : Value} (d : decode cc pc = .ok (.pop, 1)) (hv : v.category = 1) (kk : g_W p l e R s m args below meth c nL D cl A f cells slots Q (pc + 1) lv st) : g_W p l e R s m args below meth c nL D cl A f cells slots Q pc lv (v :: st) := fun H locs ls hP hD hS hl => lv_pop X.1.1 X.1.2.1 d hv (kk H locs ls hP hD hS hl)
theorem g_dup_x1 (X : g_X p s m args meth c cc nL ret Ts own D cl tys A Z) {v w : Value} (d : decode cc pc = .ok (.dup_x1, 1)) (hv : v.category = 1) (hw : w.category = 1) (kk : g_W p l e R s m args below meth c nL D cl A f cells slots Q (pc + 1) lv (v :: w :: v :: st)) : g_W p l e R s m args below meth c nL D cl A f cells slots Q pc lv (v :: w :: st) := fun H locs ls hP hD hS hl => lv_dup_x1 X.1.1 X.1.2.1 d hv hw (kk H locs ls hP hD hS hl)
theorem g_dup2 (X : g_X p s m args meth c cc nL ret Ts own D cl tys A Z) {v w : Value} (d : decode cc pc = .ok (.dup2, 1)) (hv : v.category = 1) (hw : w.category = 1) (kk : g_W p l e R s m args below meth c nL D cl A f cells slots Q (pc + 1) lv (v :: w :: v :: w :: st)) : g_W p l e R s m args below meth c nL D cl A f cells slots Q pc lv (v :: w :: st) := fun H locs ls hP hD hS hl => lv_dup2_11 X.1.1 X.1.2.1 d hv hw (kk H locs ls hP hD hS hl)
theorem g_if_eq (X : g_X p s m args meth c cc nL ret Ts own D cl tys A Z) {x : Int32} {off : Int} (tgt : Nat) (d : decode cc pc = .ok (.ifCond .eq off, 3)) (ht : (pc : Int) + off = (tgt : Int)) (kt : x = 0 → g_W p l e R s m args below meth c nL D cl A f cells slots Q tgt lv st) (kf : ¬ (x = 0) → g_W p l e R s m args below meth c nL D cl A f cells slots Q (pc + 3) lv st) : g_W p l e R s m args below meth c nL D cl A f cells slots Q pc lv (.int x :: st) := fun H locs ls hP hD hS hl => lv_if_eq X.1.1 X.1.2.1 d ht (fun h => kt h H locs ls hP hD hS hl) (fun h => kf h H locs ls hP hD hS hl)
theorem g_icmp_eq (X : g_X p s m args meth c cc nL ret Ts own D cl tys A Z) {x y : Int32} {off : Int} (tgt : Nat) (d : decode cc pc = .ok (.if_icmp .eq off, 3)) (ht : (pc : Int) + off = (tgt : Int)) (kt : x = y → g_W p l e R s m args below meth c nL D cl A f cells slots Q tgt lv st) (kf : ¬ (x = y) → g_W p l e R s m args below meth c nL D cl A f cells slots Q (pc + 3) lv st) : g_W p l e R s m args below meth c nL D cl A f cells slots Q pc lv (.int y :: .int x :: st) := fun H locs ls hP hD hS hl => lv_icmp_eq X.1.1 X.1.2.1 d ht (fun h => kt h H locs ls hP hD hS hl) (fun h => kf h H locs ls hP hD hS hl)
theorem g_if_ne (X : g_X p s m args meth c cc nL ret Ts own D cl tys A Z) {x : Int32} {off : Int} (tgt : Nat) (d : decode cc pc = .ok (.ifCond .ne off, 3)) (ht : (pc : Int) + off = (tgt : Int)) (kt : ¬ x = 0 → g_W p l e R s m args below meth c nL D cl A f cells slots Q tgt lv st) (kf : x = 0 → g_W p l e R s m args below meth c nL D cl A f cells slots Q (pc + 3) lv st) : g_W p l e R s m args below meth c nL D cl A f cells slots Q pc lv (.int x :: st) := fun H locs ls hP hD hS hl => lv_if_ne X.1.1 X.1.2.1 d ht (fun h => kt h H locs ls hP hD hS hl) (fun h => kf h H locs ls hP hD hS hl)
theorem g_icmp_ne (X : g_X p s m args meth c cc nL ret Ts own D cl tys A Z) {x y : Int32} {off : Int} (tgt : Nat) (d : decode cc pc = .ok (.if_icmp .ne off, 3)) (ht : (pc : Int) + off = (tgt : Int)) (kt : ¬ x = y → g_W p l e R s m args below meth c nL D cl A f cells slots Q tgt lv st) (kf : x = y → g_W p l e R s m args below meth c nL D cl A f cells slots Q (pc + 3) lv st) : g_W p l e R s m args below meth c nL D cl A f cells slots Q pc lv (.int y :: .int x :: st) := fun H locs ls hP hD hS hl => lv_icmp_ne X.1.1 X.1.2.1 d ht (fun h => kt h H locs ls hP hD hS hl) (fun h => kf h H locs ls hP hD hS hl)
theorem g_if_lt (X : g_X p s m args meth c cc nL ret Ts own D cl tys A Z) {x : Int32} {off : Int} (tgt : Nat) (d : decode cc pc = .ok (.ifCond .lt off, 3)) (ht : (pc : Int) + off = (tgt : Int)) (kt : x < 0 → g_W p l e R s m args below meth c nL D cl A f cells slots Q tgt lv st) (kf : ¬ (x < 0) → g_W p l e R s m args below meth c nL D cl A f cells slots Q (pc + 3) lv st) : g_W p l e R s m args below meth c nL D cl A f cells slots Q pc lv (.int x :: st) := fun H locs ls hP hD hS hl => lv_if_lt X.1.1 X.1.2.1 d ht (fun h => kt h H locs ls hP hD hS hl) (fun h => kf h H locs ls hP hD hS hl)
theorem g_icmp_lt (X : g_X p s m args meth c cc nL ret Ts own D cl tys A Z) {x y : Int32} {off : Int} (tgt : Nat) (d : decode cc pc = .ok (.if_icmp .lt off, 3)) (ht : (pc : Int) + off = (tgt : Int)) (kt : x < y → g_W p l e R s m args below meth c nL D cl A f cells slots Q tgt lv st) (kf : ¬ (x < y) → g_W p l e R s m args below meth c nL D cl A f cells slots Q (pc + 3) lv st) : g_W p l e R s m args below meth c nL D cl A f cells slots Q pc lv (.int y :: .int x :: st) := fun H locs ls hP hD hS hl => lv_icmp_lt X.1.1 X.1.2.1 d ht (fun h => kt h H locs ls hP hD hS hl) (fun h => kf h H locs ls hP hD hS hl)
theorem g_if_ge (X : g_X p s m args meth c cc nL ret Ts own D cl tys A Z) {x : Int32} {off : Int} (tgt : Nat) (d : decode cc pc = .ok (.ifCond .ge off, 3)) (ht : (pc : Int) + off = (tgt : Int)) (kt : 0 ≤ x → g_W p l e R s m args below meth c nL D cl A f cells slots Q tgt lv st) (kf : ¬ (0 ≤ x) → g_W p l e R s m args below meth c nL D cl A f cells slots Q (pc + 3) lv st) : g_W p l e R s m args below meth c nL D cl A f cells slots Q pc lv (.int x :: st) := fun H locs ls hP hD hS hl => lv_if_ge X.1.1 X.1.2.1 d ht (fun h => kt h H locs ls hP hD hS hl) (fun h => kf h H locs ls hP hD hS hl)
theorem g_icmp_ge (X : g_X p s m args meth c cc nL ret Ts own D cl tys A Z) {x y : Int32} {off : Int} (tgt : Nat) (d : decode cc pc = .ok (.if_icmp .ge off, 3)) (ht : (pc : Int) + off = (tgt : Int)) (kt : y ≤ x → g_W p l e R s m args below meth c nL D cl A f cells slots Q tgt lv st) (kf : ¬ (y ≤ x) → g_W p l e R s m args below meth c nL D cl A f cells slots Q (pc + 3) lv st) : g_W p l e R s m args below meth c nL D cl A f cells slots Q pc lv (.int y :: .int x :: st) := fun H locs ls hP hD hS hl => lv_icmp_ge X.1.1 X.1.2.1 d ht (fun h => kt h H locs ls hP hD hS hl) (fun h => kf h H locs ls hP hD hS hl)
theorem g_if_gt (X : g_X p s m args meth c cc nL ret Ts own D cl tys A Z) {x : Int32} {off : Int} (tgt : Nat) (d : decode cc pc = .ok (.ifCond .gt off, 3)) (ht : (pc : Int) + off = (tgt : Int)) (kt : 0 < x → g_W p l e R s m args below meth c nL D cl A f cells slots Q tgt lv st) (kf : ¬ (0 < x) → g_W p l e R s m args below meth c nL D cl A f cells slots Q (pc + 3) lv st) : g_W p l e R s m args below meth c nL D cl A f cells slots Q pc lv (.int x :: st) := fun H locs ls hP hD hS hl => lv_if_gt X.1.1 X.1.2.1 d ht (fun h => kt h H locs ls hP hD hS hl) (fun h => kf h H locs ls hP hD hS hl)
theorem g_icmp_gt (X : g_X p s m args meth c cc nL ret Ts own D cl tys A Z) {x y : Int32} {off : Int} (tgt : Nat) (d : decode cc pc = .ok (.if_icmp .gt off, 3)) (ht : (pc : Int) + off = (tgt : Int)) (kt : y < x → g_W p l e R s m args below meth c nL D cl A f cells slots Q tgt lv st) (kf : ¬ (y < x) → g_W p l e R s m args below meth c nL D cl A f cells slots Q (pc + 3) lv st) : g_W p l e R s m args below meth c nL D cl A f cells slots Q pc lv (.int y :: .int x :: st) := fun H locs ls hP hD hS hl => lv_icmp_gt X.1.1 X.1.2.1 d ht (fun h => kt h H locs ls hP hD hS hl) (fun h => kf h H locs ls hP hD hS hl)
theorem g_if_le (X : g_X p s m args meth c cc nL ret Ts own D cl tys A Z) {x : Int32} {off : Int} (tgt : Nat) (d : decode cc pc = .ok (.ifCond .le off, 3)) (ht : (pc : Int) + off = (tgt : Int)) (kt : x ≤ 0 → g_W p l e R s m args below meth c nL D cl A f cells slots Q tgt lv st) (kf : ¬ (x ≤ 0) → g_W p l e R s m args below meth c nL D cl A f cells slots Q (pc + 3) lv st) : g_W p l e R s m args below meth c nL D cl A f cells slots Q pc lv (.int x :: st) := fun H locs ls hP hD hS hl => lv_if_le X.1.1 X.1.2.1 d ht (fun h => kt h H locs ls hP hD hS hl) (fun h => kf h H locs ls hP hD hS hl)
theorem g_icmp_le (X : g_X p s m args meth c cc nL ret Ts own D cl tys A Z) {x y : Int32} {off : Int} (tgt : Nat) (d : decode cc pc = .ok (.if_icmp .le off, 3)) (ht : (pc : Int) + off = (tgt : Int)) (kt : x ≤ y → g_W p l e R s m args below meth c nL D cl A f cells slots Q tgt lv st) (kf : ¬ (x ≤ y) → g_W p l e R s m args below meth c nL D cl A f cells slots Q (pc + 3) lv st) : g_W p l e R s m args below meth c nL D cl A f cells slots Q pc lv (.int y :: .int x :: st) := fun H locs ls hP hD hS hl => lv_icmp_le X.1.1 X.1.2.1 d ht (fun h => kt h H locs ls hP hD hS hl) (fun h => kf h H locs ls hP hD hS hl)
theorem g_goto (X : g_X p s m args meth c cc nL ret Ts own D cl tys A Z) {off : Int} (tgt : Nat) (d : decode cc pc = .ok (.goto off, 3)) (ht : (pc : Int) + off = (tgt : Int)) (kk : g_W p l e R s m args below meth c nL D cl A f cells slots Q tgt lv st) : g_W p l e R s m args below meth c nL D cl A f cells slots Q pc lv st := fun H locs ls hP hD hS hl => lv_goto X.1.1 X.1.2.1 d ht (kk H locs ls hP hD hS hl)
theorem g_ifnull (X : g_X p s m args meth c cc nL ret Ts own D cl tys A Z) {x : Nat} {off : Int} (d : decode cc pc = .ok (.ifnull off, 3)) (kk : g_W p l e R s m args below meth c nL D cl A f cells slots Q (pc + 3) lv st) : g_W p l e R s m args below meth c nL D cl A f cells slots Q pc lv (.ref x :: st) := fun H locs ls hP hD hS hl => lv_ifnull X.1.1 X.1.2.1 d (kk H locs ls hP hD hS hl)
theorem g_ifnonnull (X : g_X p s m args meth c cc nL ret Ts own D cl tys A Z) {x : Nat} {off : Int} (tgt : Nat) (d : decode cc pc = .ok (.ifnonnull off, 3)) (ht : (pc : Int) + off = (tgt : Int)) (kk : g_W p l e R s m args below meth c nL D cl A f cells slots Q tgt lv st) : g_W p l e R s m args below meth c nL D cl A f cells slots Q pc lv (.ref x :: st) := fun H locs ls hP hD hS hl => lv_ifnonnull X.1.1 X.1.2.1 d ht (kk H locs ls hP hD hS hl)
theorem g_acmp_eq (X : g_X p s m args meth c cc nL ret Ts own D cl tys A Z) {x y : Nat} {off : Int} (tgt : Nat) (d : decode cc pc = .ok (.if_acmp .eq off, 3)) (ht : (pc : Int) + off = (tgt : Int)) (kt : x = y → g_W p l e R s m args below meth c nL D cl A f cells slots Q tgt lv st) (kf : ¬ x = y → g_W p l e R s m args below meth c nL D cl A f cells slots Q (pc + 3) lv st) : g_W p l e R s m args below meth c nL D cl A f cells slots Q pc lv (.ref y :: .ref x :: st) := fun H locs ls hP hD hS hl => lv_acmp_eq (rx := some x) (ry := some y) X.1.1 X.1.2.1 d ht (fun h => kt (Option.some.inj h) H locs ls hP hD hS hl) (fun h => kf (fun z => h (congrArg some z)) H locs ls hP hD hS hl)
theorem g_acmp_ne (X : g_X p s m args meth c cc nL ret Ts own D cl tys A Z) {x y : Nat} {off : Int} (tgt : Nat) (d : decode cc pc = .ok (.if_acmp .ne off, 3)) (ht : (pc : Int) + off = (tgt : Int)) (kt : ¬ x = y → g_W p l e R s m args below meth c nL D cl A f cells slots Q tgt lv st) (kf : x = y → g_W p l e R s m args below meth c nL D cl A f cells slots Q (pc + 3) lv st) : g_W p l e R s m args below meth c nL D cl A f cells slots Q pc lv (.ref y :: .ref x :: st) := fun H locs ls hP hD hS hl => lv_acmp_ne (rx := some x) (ry := some y) X.1.1 X.1.2.1 d ht (fun h => kt (fun z => h (congrArg some z)) H locs ls hP hD hS hl) (fun h => kf (Option.some.inj h) H locs ls hP hD hS hl)
theorem g_get (X : g_X p s m args meth c cc nL ret Ts own D cl tys A Z) {ref C : String} {T : u_T} {N ci index a : Nat} {fs : List Value} {v : Value} (hin : ∀ w ∈ u_ws C T N, w ∈ Ts) (hc : cl[ci]? = some (C, T, N)) (he : f a = some (.inr (ci, fs))) (k : Nat) (hk : k < N) (hlink : Cond.fieldLink own index ref (T k).2.1 (T k).2.2.1 ∈ Ts) (hsame : ∀ x, s.fieldFound? (T k).1 (T k).2.1 (T k).2.2.1 = some x → s.fieldFound? ref (T k).2.1 (T k).2.2.1 = some x) (hv : fs[k]? = some v) (d : decode cc pc = .ok (.getfield index, 3)) (kk : g_W p l e R s m args below meth c nL D cl A f cells slots Q (pc + 3) lv (v :: st)) : g_W p l e R s m args below meth c nL D cl A f cells slots Q pc lv (.ref a :: st) := fun H locs ls hP hD hS hl => va_get X.1.1 X.1.2.1 X.1.2.2.2.2 hin X.1.2.2.2.1 X.2.1 (hP.one he) 0 rfl hc k hk (X.1.2.2.2.2 _ hlink) hsame hv d (kk H locs ls hP hD hS hl)
theorem g_getN (X : g_X p s m args meth c cc nL ret Ts own D cl tys A Z) {ref C host : String} {T : u_T} {N ci index a : Nat} {fs : List Value} {v : Value} (hin : ∀ w ∈ u_ws C T N, w ∈ Ts) (hc : cl[ci]? = some (C, T, N)) (he : f a = some (.inr (ci, fs))) (k : Nat) (hk : k < N) (hlink : (Cond.fieldLinkNest own index ref (T k).2.1 (T k).2.2.1 host).before args s = true) (hsame : ∀ x, s.fieldFound? (T k).1 (T k).2.1 (T k).2.2.1 = some x → s.fieldFound? ref (T k).2.1 (T k).2.2.1 = some x) (hv : fs[k]? = some v) (d : decode cc pc = .ok (.getfield index, 3)) (kk : g_W p l e R s m args below meth c nL D cl A f cells slots Q (pc + 3) lv (v :: st)) : g_W p l e R s m args below meth c nL D cl A f cells slots Q pc lv (.ref a :: st) := fun H locs ls hP hD hS hl => va_getN X.1.1 X.1.2.1 X.1.2.2.2.2 hin X.1.2.2.2.1 X.2.1 (hP.one he) 0 rfl hc k hk hlink hsame hv d (kk H locs ls hP hD hS hl)
theorem g_put (X : g_X p s m args meth c cc nL ret Ts own D cl tys A Z) {ref C : String} {T : u_T} {N ci index a : Nat} {fs fs2 : List Value} {v : Value} (hin : ∀ w ∈ u_ws C T N, w ∈ Ts) (ty0 : Nat → FieldType) (hty : ∀ k, k < N → parseFieldDescriptor (T k).2.2.1 = some (ty0 k)) (hnm : ∀ a, a < N → ∀ b, b < N → a ≠ b → (T a).2.1 ≠ (T b).2.1) (hc : cl[ci]? = some (C, T, N)) (he : f a = some (.inr (ci, fs))) (k : Nat) (hk : k < N) (hlink : Cond.fieldLink own index ref (T k).2.1 (T k).2.2.1 ∈ Ts) (hsame : ∀ x, s.fieldFound? (T k).1 (T k).2.1 (T k).2.2.1 = some x → s.fieldFound? ref (T k).2.1 (T k).2.2.1 = some x) (hfin : (T k).2.2.2 = false) {ty : FieldType} (hd : parseFieldDescriptor (T k).2.2.1 = some ty) (hn : narrow ty v = v) (hfit : fits ty v = true) (hlen : k < fs.length) (hfs : fs.set k v = fs2) (d : decode cc pc = .ok (.putfield index, 3)) (kk : g_W p l e R s m args below meth c nL D cl A (g_u f a (.inr (ci, fs2))) cells slots Q (pc + 3) lv st) : g_W p l e R s m args below meth c nL D cl A f cells slots Q pc lv (v :: .ref a :: st) := by
  subst hfs
  intro H locs ls hP hD hS hl
  have hap := va_apart (own := own) X.1.2.2.2.2 hin ty0 hty hnm X.2.1 hc
  obtain ⟨r, h1, cell, q1, q2, q3, q4⟩ := hP a _ he
  have hr : r = (C, T, N) := Option.some.inj (h1.symm.trans hc)
  subst hr
  obtain ⟨hSl, hfc, kC, hkC, hkind⟩ := X.2.1.1 ci _ hc
  obtain ⟨cf, kf, fi, fd, hi, hsl⟩ := hSl k hk
  have hlay := X.1.2.2.2.2 _ (hin _ (u_in_lay hk))
  unfold u_lay at hlay
  rw [if_neg (by rw [hfin]; decide)] at hlay
  have hst := (u_facts hfc hkC (u_lays X.1.2.2.2.2 hin hk) hi).1
  have h6 := u_store hfc hkC hkind hlay hi hd hn hfit
  refine W.putK X.1.1 X.1.2.1 (f := fd) ⟨X.1.2.2.2.1, X.1.2.2.2.2 _ hlink, ⟨_, _, _, hsame _ hi⟩, hst⟩ (by rw [q2]; exact h6) q1 q3 (by rw [hsl]; exact k2_hasslot (q4 k hk)) rfl rfl d fun H2 e1 e2 e3 => ?_
  rw [hsl] at e1 ⊢
  have ha : A a := hD a (by rw [he]; exact fun h => by cases h)
  exact kk H2 _ ls (hP.set ⟨_, hc, t_OB.to (V := updV (vp_V fs) k v) ⟨_, e1, q2, q3, t_set q4 hap hk v⟩ (fun j _ => vp_updV_set hlen v j)⟩ e3) (g_D.set hD ha) (hS.put e2 e3 ha) hl
theorem g_putF (X : g_X p s m args meth c cc nL ret Ts own D cl tys A Z) {ref C : String} {T : u_T} {N ci index a : Nat} {fs fs2 : List Value} {v : Value} (hin : ∀ w ∈ u_ws C T N, w ∈ Ts) (ty0 : Nat → FieldType) (hty : ∀ k, k < N → parseFieldDescriptor (T k).2.2.1 = some (ty0 k)) (hnm : ∀ a, a < N → ∀ b, b < N → a ≠ b → (T a).2.1 ≠ (T b).2.1) (hc : cl[ci]? = some (C, T, N)) (he : f a = some (.inr (ci, fs))) (k : Nat) (hk : k < N) (hlink : Cond.fieldLink own index ref (T k).2.1 (T k).2.2.1 ∈ Ts) (hsame : ∀ x, s.fieldFound? (T k).1 (T k).2.1 (T k).2.2.1 = some x → s.fieldFound? ref (T k).2.1 (T k).2.2.1 = some x) (hfin : (T k).2.2.2 = true) (hin2 : meth.name = "<init>") (hdecl : (T k).1 = own) {ty : FieldType} (hd : parseFieldDescriptor (T k).2.2.1 = some ty) (hn : narrow ty v = v) (hfit : fits ty v = true) (hlen : k < fs.length) (hfs : fs.set k v = fs2) (d : decode cc pc = .ok (.putfield index, 3)) (kk : g_W p l e R s m args below meth c nL D cl A (g_u f a (.inr (ci, fs2))) cells slots Q (pc + 3) lv st) : g_W p l e R s m args below meth c nL D cl A f cells slots Q pc lv (v :: .ref a :: st) := by
  subst hfs
  intro H locs ls hP hD hS hl
  have hap := va_apart (own := own) X.1.2.2.2.2 hin ty0 hty hnm X.2.1 hc
  obtain ⟨r, h1, cell, q1, q2, q3, q4⟩ := hP a _ he
  have hr : r = (C, T, N) := Option.some.inj (h1.symm.trans hc)
  subst hr
  obtain ⟨hSl, hfc, kC, hkC, hkind⟩ := X.2.1.1 ci _ hc
  obtain ⟨cf, kf, fi, fd, hi, hsl⟩ := hSl k hk
  have hlay := X.1.2.2.2.2 _ (hin _ (u_in_lay hk))
  unfold u_lay at hlay
  rw [if_pos hfin] at hlay
  have hst := (u_facts hfc hkC (u_lays X.1.2.2.2.2 hin hk) hi).1
  have hcf : m.cls = cf := by
    obtain ⟨_, _, c2, _, _, _, -, -, hf2, -, -, -, hown2, -⟩ := Cond.laysFinal_spec hlay
    have e1 : c2 = cf := by have := hi.symm.trans hf2; simp at this; exact this.1.symm
    rw [hdecl] at hown2
    rw [← e1]; exact Option.some.inj (X.1.2.2.2.1.symm.trans hown2)
  have h6 := u_fits hfc hkC hkind (Or.inr hlay) hi hd hn hfit
  refine W.putFinK X.1.1 X.1.2.1 X.1.2.2.2.1 (X.1.2.2.2.2 _ hlink) (hsame _ hi) hst hcf hin2 (by rw [q2]; exact h6) q1 q3 (by rw [hsl]; exact k2_hasslot (q4 k hk)) rfl rfl d fun H2 e1 e2 e3 => ?_
  rw [hsl] at e1 ⊢
  have ha : A a := hD a (by rw [he]; exact fun h => by cases h)
  exact kk H2 _ ls (hP.set ⟨_, hc, t_OB.to (V := updV (vp_V fs) k v) ⟨_, e1, q2, q3, t_set q4 hap hk v⟩ (fun j _ => vp_updV_set hlen v j)⟩ e3) (g_D.set hD ha) (hS.put e2 e3 ha) hl
theorem g_iald (X : g_X p s m args meth c cc nL ret Ts own D cl tys A Z) {a n t0 : Nat} {cA : ClassId} {g : Nat → Int32} {i v : Int32} (he : f a = some (.inl (cA, n, .inl g))) (ht : tys[t0]? = some (cA, .int)) (hi : vp_in i n) (hv : g i.toNatClampNeg = v) (d : decode cc pc = .ok (.iaload, 1)) (kk : g_W p l e R s m args below meth c nL D cl A f cells slots Q (pc + 1) lv (.int v :: st)) : g_W p l e R s m args below meth c nL D cl A f cells slots Q pc lv (.int i :: .ref a :: st) := by
  subst hv
  exact fun H locs ls hP hD hS hl => va_iald X.1.1 X.1.2.1 X.2.1 (hP.one he) 0 t0 rfl ht hi d (kk H locs ls hP hD hS hl)
theorem g_zald (X : g_X p s m args meth c cc nL ret Ts own D cl tys A Z) {a n t0 : Nat} {cA : ClassId} {g : Nat → Int32} {i v : Int32} (he : f a = some (.inl (cA, n, .inl g))) (ht : tys[t0]? = some (cA, .boolean)) (hi : vp_in i n) (hv : g i.toNatClampNeg = v) (d : decode cc pc = .ok (.baload, 1)) (kk : g_W p l e R s m args below meth c nL D cl A f cells slots Q (pc + 1) lv (.int v :: st)) : g_W p l e R s m args below meth c nL D cl A f cells slots Q pc lv (.int i :: .ref a :: st) := by
  subst hv
  exact fun H locs ls hP hD hS hl => va_zald X.1.1 X.1.2.1 X.2.1 (hP.one he) 0 t0 rfl ht hi d (kk H locs ls hP hD hS hl)
theorem g_aldq (X : g_X p s m args meth c cc nL ret Ts own D cl tys A Z) {a n t0 : Nat} {cA : ClassId} {C : String} {g : Nat → Option Nat} {i : Int32} {v : Value} (he : f a = some (.inl (cA, n, .inr (.inr (.inr (.inr g)))))) (ht : tys[t0]? = some (cA, .object C)) (hi : vp_in i n) (hv : va_rf (g i.toNatClampNeg) = v) (d : decode cc pc = .ok (.aaload, 1)) (kk : g_W p l e R s m args below meth c nL D cl A f cells slots Q (pc + 1) lv (v :: st)) : g_W p l e R s m args below meth c nL D cl A f cells slots Q pc lv (.int i :: .ref a :: st) := by
  subst hv
  exact fun H locs ls hP hD hS hl => va_aldq X.1.1 X.1.2.1 X.2.1 (hP.one he) 0 t0 rfl ht hi d (kk H locs ls hP hD hS hl)
theorem g_alen (X : g_X p s m args meth c cc nL ret Ts own D cl tys A Z) {a t0 : Nat} {cA : ClassId} {x : vp_A} {ty : FieldType} {v : Int32} (he : f a = some (.inl (cA, x))) (ht : tys[t0]? = some (cA, ty)) (hv : Int32.ofNat x.1 = v) (d : decode cc pc = .ok (.arraylength, 1)) (kk : g_W p l e R s m args below meth c nL D cl A f cells slots Q (pc + 1) lv (.int v :: st)) : g_W p l e R s m args below meth c nL D cl A f cells slots Q pc lv (.ref a :: st) := fun H locs ls hP hD hS hl => va_alen X.1.1 X.1.2.1 X.2.1 (hP.one he) 0 t0 rfl ht hv d (kk H locs ls hP hD hS hl)
theorem g_iast (X : g_X p s m args meth c cc nL ret Ts own D cl tys A Z) {a n t0 : Nat} {cA : ClassId} {g g2 : Nat → Int32} {i x : Int32} (he : f a = some (.inl (cA, n, .inl g))) (ht : tys[t0]? = some (cA, .int)) (hi : vp_in i n) (hg : upd g i.toNatClampNeg x = g2) (d : decode cc pc = .ok (.iastore, 1)) (kk : g_W p l e R s m args below meth c nL D cl A (g_u f a (.inl (cA, n, .inl g2))) cells slots Q (pc + 1) lv st) : g_W p l e R s m args below meth c nL D cl A f cells slots Q pc lv (.int x :: .int i :: .ref a :: st) := by
  subst hg
  intro H locs ls hP hD hS hl
  have ha : A a := hD a (by rw [he]; exact fun h => by cases h)
  refine W.iast X.1.1 X.1.2.1 (hP a _ he) ((X.2.1.2 t0 _ ht).1 n (fun j => .int (g j))) (fun q => by cases q) (by show ¬ (i < 0 ∨ (arrV _ _ _).slots.size ≤ _); rw [arrV_size]; exact hi) rfl rfl d fun H1 e1 z oq => ?_
  refine kk H1 _ ls (hP.set ?_ oq) (g_D.set hD ha) (hS.put z oq ha) hl
  show H1[a]? = some (vp_cell _ _)
  rw [e1]
  show some ((vp_cell _ _).setSlot _ _) = _
  rw [vp_cell_i, vp_cell_i, arrV_store]
  congr 2
  funext q
  by_cases hq : q = i.toNatClampNeg
  · subst hq
    simp [updV, upd]
  · simp [updV, upd, hq]
theorem g_zast (X : g_X p s m args meth c cc nL ret Ts own D cl tys A Z) {a n t0 : Nat} {cA : ClassId} {g g2 : Nat → Int32} {i x : Int32} (he : f a = some (.inl (cA, n, .inl g))) (ht : tys[t0]? = some (cA, .boolean)) (hi : vp_in i n) (hg : upd g i.toNatClampNeg (vp_nar .boolean x) = g2) (d : decode cc pc = .ok (.bastore, 1)) (kk : g_W p l e R s m args below meth c nL D cl A (g_u f a (.inl (cA, n, .inl g2))) cells slots Q (pc + 1) lv st) : g_W p l e R s m args below meth c nL D cl A f cells slots Q pc lv (.int x :: .int i :: .ref a :: st) := by
  subst hg
  intro H locs ls hP hD hS hl
  have ha : A a := hD a (by rw [he]; exact fun h => by cases h)
  refine W.zast X.1.1 X.1.2.1 (hP a _ he) ((X.2.1.2 t0 _ ht).1 n (fun j => .int (g j))) (fun q => by cases q) (by show ¬ (i < 0 ∨ (arrV _ _ _).slots.size ≤ _); rw [arrV_size]; exact hi) rfl rfl d fun H1 e1 z oq => ?_
  refine kk H1 _ ls (hP.set ?_ oq) (g_D.set hD ha) (hS.put z oq ha) hl
  show H1[a]? = some (vp_cell _ _)
  rw [e1]
  show some ((vp_cell _ _).setSlot _ _) = _
  rw [vp_cell_i, vp_cell_i, arrV_store]
  congr 2
  funext q
  by_cases hq : q = i.toNatClampNeg
  · subst hq
    (simp [updV, upd, vp_nar]; try rfl)
  · simp [updV, upd, hq]
theorem g_new (X : g_X p s m args meth c cc nL ret Ts own D cl tys A Z) {C : String} {T : u_T} {N ci index : Nat} {fs : List Value} (hin : ∀ w ∈ u_ws C T N, w ∈ Ts) (ty : Nat → FieldType) (hty : ∀ k, k < N → parseFieldDescriptor (T k).2.2.1 = some (ty k)) (hcl : Cond.classLink own index C ∈ Ts) (hinst : Cond.instantiable C N ∈ Ts) (hini : Cond.initialized C ∈ Ts) (hc : cl[ci]? = some (C, T, N)) (hfs : ∀ j, j < N → defaultValue (ty j) = vp_V fs j) (hcells : cells + 1 ≤ R.cells) (hslots : slots + N ≤ R.slots) (d : decode cc pc = .ok (.new index, 3)) (kk : ∀ q : Nat, f q = none → g_W p l e R s m args below meth c nL D cl A (g_u f q (.inr (ci, fs))) (cells + 1) (slots + N) Q (pc + 3) lv (.ref q :: st)) : g_W p l e R s m args below meth c nL D cl A f cells slots Q pc lv st := by
  intro H locs ls hP hD hS hl
  have hKn := X.2.1.1 ci _ hc
  refine W.newcK X.1.1 X.1.2.1 X.1.2.2.2.1 (X.1.2.2.2.2 _ hcl) (X.1.2.2.2.2 _ hinst) (X.1.2.2.2.2 _ hini) rfl d hcells hslots hKn.2.1 rfl fun H1 kC hkC e1 z1 o1 => ?_
  exact kk H.size hP.non H1 locs ls (hP.new ⟨_, hc, (u_born ty X.1.2.2.2.2 hin hKn hkC e1 hty).to hfs⟩ o1) (g_D.set hD (X.2.2.1 _ hS.1)) (hS.new z1 o1) hl
theorem g_newi (X : g_X p s m args meth c cc nL ret Ts own D cl tys A Z) {t0 : Nat} {cA : ClassId} {n : Int32} {N : Nat} (harr : Cond.arrayClass .int ∈ Ts) (ht : tys[t0]? = some (cA, .int)) (hn : ¬ n < 0) (hN : n.toNatClampNeg = N) (hb : N * componentBytes .int ≤ 536870912) (hcells : cells + 1 ≤ R.cells) (hslots : slots + N ≤ R.slots) (d : decode cc pc = .ok (.newarray .int, 2)) (kk : ∀ q : Nat, f q = none → g_W p l e R s m args below meth c nL D cl A (g_u f q (.inl (cA, N, .inl (fun _ => 0)))) (cells + 1) (slots + N) Q (pc + 2) lv (.ref q :: st)) : g_W p l e R s m args below meth c nL D cl A f cells slots Q pc lv (.int n :: st) := by
  intro H locs ls hP hD hS hl
  refine va_newaK (atype := .int) X.1.1 X.1.2.1 (X.1.2.2.2.2 _ harr) rfl d rfl hn hN hb hcells hslots rfl fun H1 cB e1 z1 o1 hAr hNm => ?_
  have hcc : cB = cA := by
    have h9 : s.vm.findClass ("[" ++ (FieldType.toString .int)) = some cA := (X.2.1.2 t0 _ ht).2
    exact Option.some.inj (hNm.symm.trans h9)
  subst hcc
  exact kk H.size hP.non H1 locs ls (hP.new (show H1[H.size]? = some (vp_cell _ _) from e1) o1) (g_D.set hD (X.2.2.1 _ hS.1)) (hS.new z1 o1) hl
theorem g_newz (X : g_X p s m args meth c cc nL ret Ts own D cl tys A Z) {t0 : Nat} {cA : ClassId} {n : Int32} {N : Nat} (harr : Cond.arrayClass .boolean ∈ Ts) (ht : tys[t0]? = some (cA, .boolean)) (hn : ¬ n < 0) (hN : n.toNatClampNeg = N) (hb : N * componentBytes .boolean ≤ 536870912) (hcells : cells + 1 ≤ R.cells) (hslots : slots + N ≤ R.slots) (d : decode cc pc = .ok (.newarray .boolean, 2)) (kk : ∀ q : Nat, f q = none → g_W p l e R s m args below meth c nL D cl A (g_u f q (.inl (cA, N, .inl (fun _ => 0)))) (cells + 1) (slots + N) Q (pc + 2) lv (.ref q :: st)) : g_W p l e R s m args below meth c nL D cl A f cells slots Q pc lv (.int n :: st) := by
  intro H locs ls hP hD hS hl
  refine va_newaK (atype := .boolean) X.1.1 X.1.2.1 (X.1.2.2.2.2 _ harr) rfl d rfl hn hN hb hcells hslots rfl fun H1 cB e1 z1 o1 hAr hNm => ?_
  have hcc : cB = cA := by
    have h9 : s.vm.findClass ("[" ++ (FieldType.toString .boolean)) = some cA := (X.2.1.2 t0 _ ht).2
    exact Option.some.inj (hNm.symm.trans h9)
  subst hcc
  exact kk H.size hP.non H1 locs ls (hP.new (show H1[H.size]? = some (vp_cell _ _) from e1) o1) (g_D.set hD (X.2.2.1 _ hS.1)) (hS.new z1 o1) hl
end GR
