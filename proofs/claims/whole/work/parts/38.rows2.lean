theorem q_same : Cond.sameField "java/util/ArrayList" "java/util/AbstractList" "modCount" "I" ∈ g_T := g_in 85 (by decide +kernel) (by decide +kernel)
theorem q_natC : Cond.native ⟨"java/lang/System", "arraycopy", "(Ljava/lang/Object;ILjava/lang/Object;II)V"⟩ ∈ g_T := g_in 369 (by decide +kernel) (by decide +kernel)
theorem q_natG : Cond.native ⟨"java/lang/Object", "getClass", "()Ljava/lang/Class;"⟩ ∈ g_T := g_in 359 (by decide +kernel) (by decide +kernel)
section R2
variable {p : Program} {l : Launch} {e : Env} {R : Room} {s : State} {m : MethodId} {args : Array Value} {below : List Frame} {meth : Method} {c : Code} {cells slots : Nat} {Q : State → Prop}
variable {cc : ByteArray} {pc nL : Nat} {D : va_G} {cl : List vw_C} {tys : List (ClassId × FieldType)} {A : Nat → Prop} {f : g_F} {lv lv' : List (Nat × Value)} {st : List Value} {own : String} {ret : Option FieldType} {Z : (Nat → Prop) → State → Heap → Prop} {eA eM : Nat} {cI cZ cO cJ : ClassId}
theorem g_nf {f : g_F} {a q : Nat} {x : va_E} (h : f a = some x) (hq : f q = none) : a ≠ q := fun z => by rw [z, hq] at h; cases h
theorem g_objI (X : g_X p s m args meth c cc nL ret g_T own D cl tys A Z) {idx b : Nat} (hlk : Cond.methodLink own idx y_OJ_init ∈ g_T) (hfr : 1 ≤ R.frames) (hlo : (st.map fun v => v.category).sum + 12 ≤ R.locals) (d : decode cc pc = .ok (.invokespecial idx, 3)) (kk : g_W p l e R s m args below meth c nL D cl A f cells slots Q (pc + 3) lv st) : g_W p l e R s m args below meth c nL D cl A f cells slots Q pc lv (.ref b :: st) := by
  intro H locs ls hP hD hS hl
  exact W.objInit X.1.1 X.1.2.1 X.1.2.2.2.1 (X.1.2.2.2.2 _ hlk) (X.1.2.2.2.2 _ q_27) (X.1.2.2.2.2 _ q_28) rfl (by rw [X.1.2.2.1]; exact hl.1) rfl d hfr (by show 2 * 0 + _ + 12 ≤ _; omega) (kk H locs ls hP hD hS hl)
theorem g_knowE (X : g_X p s m args meth c cc nL ret g_T own D cl tys A (z_Z eA eM)) (kk : f eA = none → g_W p l e R s m args below meth c nL D cl A f cells slots Q pc lv st) : g_W p l e R s m args below meth c nL D cl A f cells slots Q pc lv st := by
  intro H locs ls hP hD hS hl
  refine kk ?_ H locs ls hP hD hS hl
  obtain ⟨-, -, -, -, -, -, -, g2, -⟩ := X.2.2.2.2.2
  cases hf : f eA with
  | none => rfl
  | some x => exact absurd (hD eA (by rw [hf]; exact fun h => by cases h)) g2.out
theorem g_getsE (X : g_X p s m args meth c cc nL ret g_T own D cl tys A (z_Z eA eM)) (hown : own = "java/util/ArrayList") (d : decode cc pc = .ok (.getstatic 39, 3)) (kk : g_W p l e R s m args below meth c nL D cl A f cells slots Q (pc + 3) lv (.ref eA :: st)) : g_W p l e R s m args below meth c nL D cl A f cells slots Q pc lv st := by
  subst hown
  intro H locs ls hP hD hS hl
  obtain ⟨-, -, -, -, -, -, g1, -⟩ := X.2.2.2.2.2
  exact va_gets X.1.1 X.1.2.1 g1 hS X.1.2.2.2.1 (X.1.2.2.2.2 _ q_47) (fun x h => h) d (kk H locs ls hP hD hS hl)
theorem g_tlenE (X : g_X p s m args meth c cc nL ret g_T own D cl tys A (z_Z eA eM)) (d : decode cc pc = .ok (.arraylength, 1)) (kk : g_W p l e R s m args below meth c nL D cl A f cells slots Q (pc + 1) lv (.int 0 :: st)) : g_W p l e R s m args below meth c nL D cl A f cells slots Q pc lv (.ref eA :: st) := by
  intro H locs ls hP hD hS hl
  obtain ⟨-, -, -, -, -, -, -, g2, -⟩ := X.2.2.2.2.2
  exact va_tlen X.1.1 X.1.2.1 g2 hS rfl d (kk H locs ls hP hD hS hl)
theorem g_anewO (X : g_X p s m args meth c cc nL ret g_T own D g_cl (g_tys cI cZ cO cJ) A (z_Z eA eM)) {n : Int32} {N index : Nat} (hlk : Cond.classLink own index "java/lang/Object" ∈ g_T) (hn : ¬ n < 0) (hN : n.toNatClampNeg = N) (hb : N * 4 ≤ 536870912) (hcells : cells + 1 ≤ R.cells) (hslots : slots + N ≤ R.slots) (d : decode cc pc = .ok (.anewarray index, 3)) (kk : ∀ q : Nat, f q = none → g_W p l e R s m args below meth c nL D g_cl A (g_u f q (.inl (cO, N, .inr (.inr (.inr (.inr (fun _ => none))))))) (cells + 1) (slots + N) Q (pc + 3) lv (.ref q :: st)) : g_W p l e R s m args below meth c nL D g_cl A f cells slots Q pc lv (.int n :: st) := by
  subst hN
  intro H locs ls hP hD hS hl
  obtain ⟨-, -, -, -, -, -, -, -, g3, -⟩ := X.2.2.2.2.2
  refine W.anew X.1.1 X.1.2.1 X.1.2.2.2.1 (X.1.2.2.2.2 _ hlk) (va_AO.use g3) rfl d rfl hn hb hcells hslots fun cA kA comp f1 f2 f3 f4 => ?_
  have hcc : cA = cO := by
    have h9 := va_nmO (X.2.1.2 2 (cO, .object "java/lang/Object") rfl).2 rfl
    exact Option.some.inj (f1.symm.trans h9)
  subst hcc
  generalize hH1 : H.push ({ cls := cA, slots := Array.replicate n.toNatClampNeg .null, vm := .none } : Cell) = H1
  have z1 : H1.size = H.size + 1 := by rw [← hH1, Array.size_push]
  have e1 : H1[H.size]? = some (vp_cell cA (n.toNatClampNeg, .inr (.inr (.inr (.inr (fun _ => none)))))) := by rw [← hH1, Array.getElem?_push_size, vp_cell_q]; exact congrArg some (arrV_new ..)
  have o1 : ∀ q : Nat, q < H.size → H1[q]? = H[q]? := fun q hq => by rw [← hH1, Array.getElem?_push, if_neg (Nat.ne_of_lt hq)]
  exact kk H.size hP.non H1 locs ls (hP.new e1 o1) (g_D.set hD (X.2.2.1 _ hS.1)) (hS.new z1 o1) hl
/-- a world's cells in a list, two of them first -/
theorem g_list0 {f : g_F} (a b : Nat) : ∀ n : Nat, ∃ L : va_W, (∀ (k : Nat) (p : Nat × va_E), L[k]? = some p → p.1 < n ∧ p.1 ≠ a ∧ p.1 ≠ b ∧ f p.1 = some p.2) ∧ (∀ (i j : Nat) (p q : Nat × va_E), L[i]? = some p → L[j]? = some q → p.1 = q.1 → i = j) ∧ (∀ (q : Nat) (z : va_E), q < n → q ≠ a → q ≠ b → f q = some z → ∃ k : Nat, L[k]? = some (q, z))
  | 0 => ⟨[], fun k p h => (by cases h), fun i j p q h => (by cases h), fun q z h => absurd h (by omega)⟩
  | n + 1 => by
    obtain ⟨L, h1, h2, h3⟩ := g_list0 a b n
    by_cases hc : n ≠ a ∧ n ≠ b ∧ f n ≠ none
    · obtain ⟨c1, c2, c3⟩ := hc
      cases hf : f n with
      | none => exact absurd hf c3
      | some x =>
        refine ⟨(n, x) :: L, ?_, ?_, ?_⟩
        · intro k p hk
          cases k with
          | zero => cases hk; exact ⟨by show n < n + 1; omega, c1, c2, hf⟩
          | succ k => have := h1 k p hk; exact ⟨by omega, this.2⟩
        · intro i j p q hi hj hpq
          cases i with
          | zero =>
            cases j with
            | zero => rfl
            | succ j => cases hi; have := (h1 j q hj).1; simp only at hpq; omega
          | succ i =>
            cases j with
            | zero => cases hj; have := (h1 i p hi).1; simp only at hpq; omega
            | succ j => rw [h2 i j p q hi hj hpq]
        · intro q z hq qa qb hz
          by_cases hqn : q = n
          · subst hqn; rw [hf] at hz; cases hz; exact ⟨0, rfl⟩
          · obtain ⟨k, hk⟩ := h3 q z (by omega) qa qb hz
            exact ⟨k + 1, hk⟩
    · refine ⟨L, fun k p hk => ?_, h2, fun q z hq qa qb hz => ?_⟩
      · have := h1 k p hk; exact ⟨by omega, this.2⟩
      · have hqn : q ≠ n := fun e => hc ⟨by rw [← e]; exact qa, by rw [← e]; exact qb, by rw [← e, hz]; exact fun h => by cases h⟩
        exact h3 q z (by omega) qa qb hz
theorem g_list {D : va_G} {cl : List vw_C} {f : g_F} {H : Heap} {A : Nat → Prop} (hP : g_P D cl f H) (hD : ∀ q, f q ≠ none → A q) {a b : Nat} {x y : va_E} (ha : f a = some x) (hb : f b = some y) (hab : a ≠ b) : ∃ ws : va_W, ws[0]? = some (a, x) ∧ ws[1]? = some (b, y) ∧ va_P D cl ws H ∧ va_D A ws ∧ ∀ (y2 : va_E) (H1 : Heap), va_P D cl (ws.set 1 (b, y2)) H1 → g_P D cl (g_u f b y2) H1 := by
  obtain ⟨L, h1, h2, h3⟩ := g_list0 (f := f) a b H.size
  have hin : ∀ (k : Nat) (p : Nat × va_E), ((a, x) :: (b, y) :: L : va_W)[k]? = some p → f p.1 = some p.2 := by
    intro k p hk
    match k, hk with
    | 0, hk => cases hk; exact ha
    | 1, hk => cases hk; exact hb
    | k + 2, hk => exact (h1 k p hk).2.2.2
  refine ⟨(a, x) :: (b, y) :: L, rfl, rfl, fun k p hk => hP p.1 p.2 (hin k p hk), ⟨?_, fun k p hk => hD p.1 (by rw [hin k p hk]; exact fun h => by cases h)⟩, ?_⟩
  · intro i j p q hi hj hpq
    match i, j, hi, hj with
    | 0, 0, _, _ => rfl
    | 1, 1, _, _ => rfl
    | 0, 1, hi, hj => cases hi; cases hj; exact absurd hpq hab
    | 1, 0, hi, hj => cases hi; cases hj; exact absurd hpq.symm hab
    | 0, j + 2, hi, hj => cases hi; exact absurd hpq.symm (h1 j q hj).2.1
    | 1, j + 2, hi, hj => cases hi; exact absurd hpq.symm (h1 j q hj).2.2.1
    | i + 2, 0, hi, hj => cases hj; exact absurd hpq (h1 i p hi).2.1
    | i + 2, 1, hi, hj => cases hj; exact absurd hpq (h1 i p hi).2.2.1
    | i + 2, j + 2, hi, hj => rw [h2 i j p q hi hj hpq]
  · intro y2 H1 h q z hz
    by_cases hqb : q = b
    · subst hqb
      rw [g_u_s] at hz
      cases hz
      exact h 1 (q, y2) rfl
    · rw [g_u_n hqb] at hz
      by_cases hqa : q = a
      · subst hqa
        rw [ha] at hz
        cases hz
        exact h 0 (q, x) rfl
      · obtain ⟨k, hk⟩ := h3 q z (hP q z hz).lt hqa hqb hz
        exact h (k + 2) (q, z) hk
theorem g_aastO (X : g_X p s m args meth c cc nL ret g_T own D g_cl (g_tys cI cZ cO cJ) A (z_Z eA eM)) {a v n : Nat} {vs : List Value} {g : Nat → Option Nat} {i : Int32} (he : f a = some (.inl (cO, n, .inr (.inr (.inr (.inr g)))))) (hv : f v = some (.inr (4, vs))) (hi : vp_in i n) (d : decode cc pc = .ok (.aastore, 1)) (kk : g_W p l e R s m args below meth c nL D g_cl A (g_u f a (.inl (cO, n, .inr (.inr (.inr (.inr (va_up g i.toNatClampNeg (some v)))))))) cells slots Q (pc + 1) lv st) : g_W p l e R s m args below meth c nL D g_cl A f cells slots Q pc lv (.ref v :: .int i :: .ref a :: st) := by
  intro H locs ls hP hD hS hl
  obtain ⟨-, -, -, ⟨-, d2⟩, -⟩ := X.2.2.2.2.2
  obtain ⟨ws, w0, w1, w2, w3, w4⟩ := g_list hP hD hv he (tu_ne hv he)
  exact va_astqO X.1.1 X.1.2.1 X.2.1 w2 w3 hS 1 2 0 4 (E := "java/lang/Object") w1 rfl d2 w0 rfl hi d (fun H1 locs1 g1 g2 g3 => kk H1 locs1 ls (w4 _ H1 g1) (g_D.set hD (w3.2 1 _ w1)) g3 hl)
theorem g_copyO (X : g_X p s m args meth c cc nL ret g_T own D g_cl (g_tys cI cZ cO cJ) A (z_Z eA eM)) {a0 a n0 n1 N : Nat} {g0 g1 : Nat → Option Nat} {n : Int32} (hown : own = "java/util/Arrays") (h0 : f a0 = some (.inl (cO, n0, .inr (.inr (.inr (.inr g0)))))) (h1 : f a = some (.inl (cO, n1, .inr (.inr (.inr (.inr g1)))))) (hne : a0 ≠ a) (hn : ¬ n < 0) (hN : n.toNatClampNeg = N) (h4 : N ≤ n0) (h5 : N ≤ n1) (hel : ∀ i, i < N → ∀ y, g0 i = some y → ∃ vs, f y = some (.inr (4, vs))) (hfr : 1 ≤ R.frames) (hlo : (st.map fun v => v.category).sum + (nativeFrameWords "java/lang/System" "arraycopy" 5 + 11) ≤ R.locals) (d : decode cc pc = .ok (.invokestatic 150, 3))
    (kk : g_W p l e R s m args below meth c nL D g_cl A (g_u f a (.inl (cO, n1, .inr (.inr (.inr (.inr (va_cpy g0 g1 0 0 N))))))) cells slots Q (pc + 3) lv st) : g_W p l e R s m args below meth c nL D g_cl A f cells slots Q pc lv (.int n :: .int 0 :: .ref a :: .int 0 :: .ref a0 :: st) := by
  subst hown
  subst hN
  intro H locs ls hP hD hS hl
  obtain ⟨-, -, -, ⟨-, d2⟩, -⟩ := X.2.2.2.2.2
  obtain ⟨ws, w0, w1, w2, w3, w4⟩ := g_list hP hD h0 h1 hne
  refine va_copyq (C := R_CS) X.1.1 X.1.2.1 (by rw [X.1.2.2.1]; exact hl.1.symm) X.1.2.2.2.1 (X.1.2.2.2.2 _ q_335) (X.1.2.2.2.2 _ q_natC) (X.1.2.2.2.2 _ q_336) (X.1.2.2.2.2 _ q_19) X.2.1 w2 w3 hS 0 1 2 2 (E0 := "java/lang/Object") (E1 := "java/lang/Object") w0 w1 rfl rfl (by decide) (by decide) hn (by show 0 + _ ≤ _; omega) (by show 0 + _ ≤ _; omega) (fun i hi y hy => ?_) (fun comp c0 e1 e2 => ?_) hfr hlo d (fun H1 locs1 z1 z2 z3 => kk H1 locs1 ls (w4 _ H1 z1) (g_D.set hD (w3.2 1 _ w1)) z3 hl)
  · obtain ⟨vs, hvs⟩ := hel i hi y (by rw [← hy]; exact congrArg g0 (by show i = 0 + i; omega))
    obtain ⟨r, hr, cellV, z1, z2, z3, -⟩ := hP y _ hvs
    have hcls := (X.2.1.1 4 (R_CS, F_CS, 6) rfl).2
    exact ⟨cellV, z1, by rw [z3]; rfl, by rw [z2]; exact hcls.1⟩
  · obtain ⟨c9, t9, k1, k2, k3⟩ := Cond.castable_spec (va_Nw.use (A := args) rfl d2)
    cases e2.symm.trans k1
    cases e1.symm.trans k2
    exact k3
theorem g_ldcM (X : g_X p s m args meth c cc nL ret g_T own D cl tys A (z_Z eA eM)) (hown : own = "java/util/Arrays") (d : decode cc pc = .ok (.ldc 110, 2)) (kk : g_W p l e R s m args below meth c nL D cl A f cells slots Q (pc + 2) lv (.ref eM :: st)) : g_W p l e R s m args below meth c nL D cl A f cells slots Q pc lv st := by
  subst hown
  intro H locs ls hP hD hS hl
  obtain ⟨-, -, -, -, -, -, -, -, -, g4, g5, -⟩ := X.2.2.2.2.2
  exact va_ldcM X.1.1 X.1.2.1 X.1.2.2.2.1 (X.1.2.2.2.2 _ q_331) g4 d (kk H locs ls hP hD hS hl)
theorem g_getC (X : g_X p s m args meth c cc nL ret g_T own D g_cl (g_tys cI cZ cO cJ) A (z_Z eA eM)) {a n : Nat} {g : Nat → Option Nat} (hown : own = "java/util/Arrays") (he : f a = some (.inl (cO, n, .inr (.inr (.inr (.inr g)))))) (hfr : 1 ≤ R.frames) (hlo : (st.map fun v => v.category).sum + 14 ≤ R.locals) (d : decode cc pc = .ok (.invokevirtual 86, 3)) (kk : g_W p l e R s m args below meth c nL D g_cl A f cells slots Q (pc + 3) lv (.ref eM :: st)) : g_W p l e R s m args below meth c nL D g_cl A f cells slots Q pc lv (.ref a :: st) := by
  subst hown
  intro H locs ls hP hD hS hl
  obtain ⟨-, -, -, -, -, -, -, -, -, g4, g5, -⟩ := X.2.2.2.2.2
  refine va_getC X.1.1 X.1.2.1 (by rw [X.1.2.2.1]; exact hl.1.symm) X.1.2.2.2.1 (X.1.2.2.2.2 _ q_316) (va_Dc.use g5) (X.1.2.2.2.2 _ q_796) (X.1.2.2.2.2 _ q_317) (X.1.2.2.2.2 _ q_natG) g4 ⟨_, hP a _ he, rfl, ?_⟩ hfr hlo d (kk H locs ls hP hD hS hl)
  exact va_nmO (X.2.1.2 2 (cO, .object "java/lang/Object") rfl).2 rfl
theorem g_ldcw (X : g_X p s m args meth c cc nL ret g_T own D cl tys A Z) {index : Nat} {v : Int32} (hc : Jvm.Cond.constant own index v ∈ g_T) (d : decode cc pc = .ok (.ldc_w index, 3)) (kk : g_W p l e R s m args below meth c nL D cl A f cells slots Q (pc + 3) lv (.int v :: st)) : g_W p l e R s m args below meth c nL D cl A f cells slots Q pc lv st := fun H locs ls hP hD hS hl => lv_ldcw X.1.1 X.1.2.1 X.1.2.2.2.1 (X.1.2.2.2.2 _ hc) d (kk H locs ls hP hD hS hl)
end R2
