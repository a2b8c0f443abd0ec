/-! THE CLAIM OUT OF ONE WALK OF THE LAW'S BODY. Your part is whole_start (and what it stands on); all else here is the same for every law, but numbers. -/
def R_law : String := "CaseListsLaw"
def lw_P (b : Addr) (xs : List Int32) (args : Array Value) (s : State) : Prop := args = #[.ref b] ∧ s.IntsAt b xs ∧ xs.length ≤ 2561 ∧ (Jvm.Cond.and given_1 narrow_1).before args s = true
def lw_Q (_ : Array Value) (s : State) (o : Outcome) (t : State) : Prop := o = .returned (some (.int 1)) ∧ Framed s o t [] 601024 7293000
def lw_Z (below : List Frame) (a : Array Value) (s : State) : State → Prop := fun t => ∃ o, t.status = .running ∧ Ended t below o ∧ lw_Q a s o t
/-- the law's own end, with 1 on the stack, nothing written that was there before, its room as the claim has it -/
theorem lw_ret {p : Program} {l : Launch} {e : Env} {s : State} {m : MethodId} {below : List Frame} {meth : Method} {c : Code} {b : Nat} (hx : p.tables.exec = Jvm.exec) (hb : c.code = code) (hr : meth.sig.returnType = ret) (hlocks : meth.locks = false) {pc : Nat} {H : Heap} {ls : Array Slot} (hdg : decode code pc = .ok (.ireturn, 1)) : W p l e room_1 s m #[Value.ref b] below meth c H [] 601024 7293000 (lw_Z below #[Value.ref b] s) (F0 m pc ls [.int 1]) := by
  intro T hT X
  obtain ⟨fs, hret, hrun, hended, hW, hframe⟩ := X.leave (v := some (.int 1)) (hlocks := hlocks) (fun h => by rw [hr] at h; cases h)
  have hmeth' : T.vm.method? m = some meth := X.method'
  refine ⟨T.setFrames fs, ?_, .returned (some (.int 1)), hrun, hended, rfl, ⟨_, rfl⟩, hW, hframe⟩
  jvm_step X.here [X.here.top, hx, hb, hdg, hmeth', hr, ret, narrow_b1]
  (try refine ⟨rfl, ?_⟩); (try refine ⟨rfl, ?_⟩)
  first | (intro acts; rw [hret _ acts rfl rfl rfl]) | rw [hret _ _ rfl rfl rfl]
  exact Steps.refl _
/-- what holds at the law's entry: the machine, the code, the tables' words (any of lw_tbl by 'hts w (by decide +kernel)'), the script of L ints xs at the cell b, what the Statement gives of the start (any of its parts by flat_of_before) -/
def lw_At (p : Program) (s : State) (m : MethodId) (meth : Method) (c : Code) (b L : Nat) (xs : Nat → Int32) : Prop :=
  p.tables.exec = Jvm.exec ∧ c.code = code ∧ meth.sig.returnType = ret ∧ c.maxLocals = 7 ∧ s.vm.findClass R_law = some m.cls ∧ (∀ w ∈ lw_tbl, w.before #[Value.ref b] s = true) ∧ va_X b L xs s s.heap ∧ b < s.heap.size ∧ meth.locks = false ∧ (Jvm.Cond.and given_1 narrow_1).before #[Value.ref b] s = true

set_option maxHeartbeats 4000000 in
set_option maxRecDepth 100000 in
theorem z_start {args : Array Value} {s : State} {A : Nat → Prop} (hts : ∀ w ∈ lw_tbl, w.before args s = true) (hgv : (Jvm.Cond.and given_1 narrow_1).before args s = true) (hAA : ∀ a : Nat, a < s.heap.size → ¬ A a) : ∃ eA eM, z_Z eA eM A s s.heap := by
  have hs := flat_of_before _ hgv
  have hle : (Cond.eq (.length (.static "java/util/ArrayList" "DEFAULTCAPACITY_EMPTY_ELEMENTDATA" "[Ljava/lang/Object;")) (.int 0)).before args s = true := hs _ (by decide +kernel)
  have har : (Cond.arrayOf (.static "java/util/ArrayList" "DEFAULTCAPACITY_EMPTY_ELEMENTDATA" "[Ljava/lang/Object;") (.object "java/lang/Object")).before args s = true := hs _ (by decide +kernel)
  obtain ⟨eA, he1, he2⟩ := va_Tof (f := fun _ => .null) (A := A) (N := 0) (by decide) har (va_eqt hle) (fun j hj => absurd hj (Nat.not_lt_zero _)) hAA
  have hmi : (Cond.isRef (.mirror "[Ljava/lang/Object;")).before args s = true := hs _ (by decide +kernel)
  obtain ⟨eM, hM⟩ := va_Mi.of hmi
  have hnc : (Cond.not (.castable "java/lang/IllegalStateException" "java/lang/IllegalArgumentException")).before args s = true := hs _ (by decide +kernel)
  have hx173 : (Cond.exactly (.string "CaseLists" 173) "java/lang/String").before args s = true := hs _ (by decide +kernel)
  obtain ⟨sa173, -, -, -, hv173, -⟩ := Cond.exactly_spec hx173
  have hx175 : (Cond.exactly (.string "CaseLists" 175) "java/lang/String").before args s = true := hs _ (by decide +kernel)
  obtain ⟨sa175, -, -, -, hv175, -⟩ := Cond.exactly_spec hx175
  have hx179 : (Cond.exactly (.string "CaseLists" 179) "java/lang/String").before args s = true := hs _ (by decide +kernel)
  obtain ⟨sa179, -, -, -, hv179, -⟩ := Cond.exactly_spec hx179
  have hx168 : (Cond.exactly (.string "CaseLists" 168) "java/lang/String").before args s = true := hs _ (by decide +kernel)
  obtain ⟨sa168, -, -, -, hv168, -⟩ := Cond.exactly_spec hx168
  have hUNASSIGNED_STACK : (Cond.isRef (.static "java/lang/Throwable" "UNASSIGNED_STACK" "[Ljava/lang/StackTraceElement;")).before args s = true := hs _ (by decide +kernel)
  have hSUPPRESSED_SENTINEL : (Cond.isRef (.static "java/lang/Throwable" "SUPPRESSED_SENTINEL" "Ljava/util/List;")).before args s = true := hs _ (by decide +kernel)
  refine ⟨eA, eM, ⟨va_Nw.of rfl (hts _ (List.mem_of_getElem? (i := 183) (by decide +kernel))), va_Nw.of rfl (hts _ (List.mem_of_getElem? (i := 185) (by decide +kernel))), va_Nw.of rfl (hts _ (List.mem_of_getElem? (i := 187) (by decide +kernel)))⟩, ⟨va_Nw.of rfl (hts _ (List.mem_of_getElem? (i := 181) (by decide +kernel))), va_Nw.of rfl (hts _ (List.mem_of_getElem? (i := 282) (by decide +kernel)))⟩, ⟨va_Nw.of rfl (hts _ (List.mem_of_getElem? (i := 398) (by decide +kernel))), va_Nw.of rfl (hts _ (List.mem_of_getElem? (i := 484) (by decide +kernel)))⟩, ⟨va_Nw.of rfl (hts _ (List.mem_of_getElem? (i := 826) (by decide +kernel))), va_Nw.of rfl (hts _ (List.mem_of_getElem? (i := 834) (by decide +kernel)))⟩, ⟨vx_Zqof (hts _ (List.mem_of_getElem? (i := 206) (by decide +kernel))) (hts _ (List.mem_of_getElem? (i := 41) (by decide +kernel))) hUNASSIGNED_STACK hAA, vx_Zqof (hts _ (List.mem_of_getElem? (i := 208) (by decide +kernel))) (hts _ (List.mem_of_getElem? (i := 41) (by decide +kernel))) hSUPPRESSED_SENTINEL hAA⟩, ⟨⟨sa173, vk_R.of (hts _ (List.mem_of_getElem? (i := 219) (by decide +kernel))) hv173⟩, ⟨sa175, vk_R.of (hts _ (List.mem_of_getElem? (i := 249) (by decide +kernel))) hv175⟩, ⟨sa179, vk_R.of (hts _ (List.mem_of_getElem? (i := 289) (by decide +kernel))) hv179⟩, ⟨sa168, vk_R.of (hts _ (List.mem_of_getElem? (i := 585) (by decide +kernel))) hv168⟩⟩, va_Zref (hts _ (List.mem_of_getElem? (i := 80) (by decide +kernel))) (hts _ (List.mem_of_getElem? (i := 37) (by decide +kernel))) he1 hAA, he2, va_AO.of (hts _ (List.mem_of_getElem? (i := 364) (by decide +kernel))), hM, va_Dc.of (hts _ (List.mem_of_getElem? (i := 829) (by decide +kernel))), va_Nc.of hnc⟩
set_option maxHeartbeats 4000000 in
set_option maxRecDepth 100000 in
theorem whole_start {p : Program} {e : Env} {s : State} {m : MethodId} {below : List Frame} {meth : Method} {c : Code} (l : Launch) (hl : l.stackTraces = false) {b L : Nat} {xs : Nat → Int32} (hL : L ≤ 2561) (C0 : lw_At p s m meth c b L xs) : W p l e room_1 s m #[Value.ref b] below meth c s.heap [] 0 0 (lw_Z below #[Value.ref b] s) (entryFrame m ([Value.ref b] : List Value).toArray 7) := by
  obtain ⟨hx, hb, hr, hml, hown, hts, hX, hbl, hlocks, hgv⟩ := id C0
  have hg : ∀ w ∈ g_T, w.before #[Value.ref b] s = true := fun w hw => hts w (List.mem_filter.mp hw).1
  have hAA : ∀ a : Nat, a < s.heap.size → ¬ (fun q : Nat => s.heap.size ≤ q) a := fun a h => Nat.not_le.mpr h
  obtain ⟨c0, i0, k0⟩ := u_known (C := R_AL) (T := F_AL) (N := 3) (n := 3) hg i_AL (hg _ q_36)
  obtain ⟨c1, i1, k1⟩ := u_known (C := R_TL) (T := F_TL) (N := 3) (n := 3) hg i_TL (hg _ q_62)
  obtain ⟨c2, i2, k2⟩ := u_known (C := R_TU) (T := F_TU) (N := 6) (n := 6) hg i_TU (hg _ q_79)
  obtain ⟨c3, i3, k3⟩ := u_known (C := R_CL) (T := F_CL) (N := 7) (n := 7) hg i_CL (hg _ q_22)
  obtain ⟨c4, i4, k4⟩ := u_known (C := R_CS) (T := F_CS) (N := 6) (n := 6) hg i_CS (hg _ q_264)
  obtain ⟨c5, i5, k5⟩ := u_known (C := R_MO) (T := F_MO) (N := 20) (n := 20) hg i_MO (hg _ q_591)
  obtain ⟨dC, dI, hKc⟩ : ∃ (dC : Nat → ClassId) (dI : Nat → Nat → Nat), ∀ (k : Nat) (q : vw_C), g_cl[k]? = some q → u_Kn s q.1 q.2.1 q.2.2 (dC k) (dI k) := by
    refine ⟨fun k => [c0, c1, c2, c3, c4, c5].getD k c0, fun k => [i0, i1, i2, i3, i4, i5].getD k i0, ?_⟩
    intro k q hq
    match k, hq with
    | 0, hq => cases hq; exact k0
    | 1, hq => cases hq; exact k1
    | 2, hq => cases hq; exact k2
    | 3, hq => cases hq; exact k3
    | 4, hq => cases hq; exact k4
    | 5, hq => cases hq; exact k5
    | k + 6, hq => simp [g_cl] at hq
  obtain ⟨cI, kI, pI, aI1, aI2, aI3⟩ := Cond.arrayClass_spec (hg _ q_77)
  obtain ⟨cZ, kZ, pZ, aZ1, aZ2, aZ3⟩ := Cond.arrayClass_spec (hg _ q_288)
  obtain ⟨cJ, kJ, pJ, aJ1, aJ2, aJ3⟩ := Cond.arrayClass_spec (hg _ q_792)
  have hAO : (Cond.arrayOver (.object "java/lang/Object")).before #[Value.ref b] s = true := (hts _ (List.mem_of_getElem? (i := 364) (by decide +kernel)))
  obtain ⟨pO, cO, kO, aO1, -, aO2, aO3, aO4⟩ := Cond.arrayOver_spec hAO
  have hK : va_K (dC, dI) g_cl (g_tys cI cZ cO cJ) s := by
    refine ⟨hKc, ?_⟩
    intro k q hq
    match k, hq with
    | 0, hq => cases hq; exact ⟨fun n z => ⟨fun k h => (by cases h), kI, aI2, pI, aI3⟩, aI1⟩
    | 1, hq => cases hq; exact ⟨fun n z => ⟨fun k h => (by cases h), kZ, aZ2, pZ, aZ3⟩, aZ1⟩
    | 2, hq => cases hq; exact ⟨fun n z => ⟨fun k h => (by cases h), kO, aO2, pO, aO3⟩, kO, pO, aO2, aO3, aO1, aO4⟩
    | 3, hq => cases hq; exact ⟨fun n z => ⟨fun k h => (by cases h), kJ, aJ2, pJ, aJ3⟩, aJ1⟩
    | k + 4, hq => simp [g_tys] at hq
  obtain ⟨eA, eM, hZ⟩ : ∃ eA eM, z_Z eA eM (fun q : Nat => s.heap.size ≤ q) s s.heap := z_start hts hgv hAA
  have X : g_X p s m #[Value.ref b] meth c code 7 (some .boolean) g_T "CaseListsLaw" (dC, dI) g_cl (g_tys cI cZ cO cJ) (fun q : Nat => s.heap.size ≤ q) (z_Z eA eM) := ⟨⟨hx, hb, hml, hown, hg⟩, hK, fun q h => h, hr, hlocks, hZ⟩
  have kend : ∀ f : g_F, g_W p l e { frames := 12, cells := 601024, slots := 7293000, locals := 440 } s m #[Value.ref b] below meth c 7 (dC, dI) g_cl (fun q : Nat => s.heap.size ≤ q) f 601024 7293000 (lw_Z below #[Value.ref b] s) 1230 [] [] := by
    intro f H locs ls hP hD hS hlv
    refine lv_iconst (v := 1) hx hb d_LW_law_1230 (by decide) ?_
    refine va_forget (fun q hq => hS.2.2 q hq) ?_
    exact lw_ret hx hb hr hlocks d_LW_law_1231
  have hlv := lv_entry ([.ref b]) (n := 7) (Nat.le_of_ble_eq_true rfl)
  rw [lg_entry_eq]
  generalize (lg_sl ([.ref b]) ++ List.replicate (7 - (lg_sl ([.ref b])).length) Slot.unset).toArray = ls at hlv ⊢
  exact law_main X hX (Nat.not_le.mpr hbl) hl hL kend s.heap [] ls (fun a x h => by cases h) (fun q h => absurd rfl h) va_S.rf hlv
set_option maxHeartbeats 4000000 in
theorem lw_walk (l : Launch) (hl : l.stackTraces = false) (b : Addr) (xs : List Int32) : MetFree l x (headSpec (Jvm.Cond.code x code maxLocals ret :: tables_1) room_1) (lw_P b xs) (fun _ _ _ _ _ => True) lw_Q := by
  refine MetFree.of_bodyS (code := code) (maxLocals := maxLocals) (ret := ret) (by decide) ?_ ?_
  · intro args s m h hn
    obtain ⟨meth, c, h1, h2, h3, h4, h5, h6, -, -⟩ := Cond.code_spec hn (atoms_spec (ws := Jvm.Cond.code x code maxLocals ret :: tables_1) h _ List.mem_cons_self)
    exact ⟨meth, c, h1, h2, h3, h4, h5, h6⟩
  · intro p e s m args below meth c s₁ B hml0 hP _
    obtain ⟨rfl, hx, hbd, hgv⟩ := hP
    obtain ⟨scr, harrAt, hlist, hof, hsmall⟩ := hx
    obtain ⟨hcb, hkn, -, -⟩ := State.arrayAt?_spec harrAt
    have hown : s.vm.findClass R_law = some m.cls := findClass_of_methodNamed B.named
    have hts0 : ∀ c ∈ (Jvm.Cond.code x code maxLocals ret :: tables_1), c.before #[Value.ref b] s = true := atoms_spec (ws := Jvm.Cond.code x code maxLocals ret :: tables_1) B.pre
    have hts : ∀ w ∈ lw_tbl, w.before #[Value.ref b] s = true := k2_hts_sels lw_privs (fun w hw => hts0 w (List.mem_cons_of_mem _ hw)) lw_privs_ok
    have hml : c.maxLocals = 7 := B.maxLocals_eq (hts0 _ List.mem_cons_self)
    have X₀ : Stand p l e room_1 s m #[Value.ref b] below meth c s₁ [] 0 0 := Stand.of_body B
    have hh0 : s₁.heap = s.heap := by rw [B.state]; rfl
    have hsz : scr.slots.size = xs.length := by rw [← Array.length_toList, hlist, List.length_map]
    have hval : ∀ j : Nat, j < xs.length → scr.slots[j]? = some (.int (xs.getD j 0)) := fun j hj => by
      rw [← Array.getElem?_toList, hlist]
      simp [hj]
    have hbl : b < s.heap.size := (Array.getElem?_eq_some_iff.mp hcb).1
    have hX : va_X b xs.length (fun j => xs.getD j 0) s s.heap := ⟨scr, hcb, hof, hkn, hsz, hval⟩
    have K : W p l e room_1 s m #[Value.ref b] below meth c s₁.heap [] 0 0 (lw_Z below #[Value.ref b] s) (entryFrame m ([Value.ref b] : List Value).toArray 7) := by
      rw [hh0]
      exact whole_start l hl hbd ⟨B.exec, B.bytes, B.returns, hml, hown, hts, hX, hbl, B.notSynchronized, hgv⟩
    obtain ⟨t, a1, o, b1, b2, b3⟩ := K s₁ rfl X₀
    exact ⟨t, o, a1, b1, b2, b3⟩
theorem lw_pre_spec {args : Array Value} {s : State} (h : (Jvm.Cond.and given_1 narrow_1).before args s = true) (hr : rest_1_c.before args s = true) : ∃ (b : Addr) (xs : List Int32), lw_P b xs args s := by
  have hs := flat_of_before _ h
  have hq := flat_of_before _ hr
  have hc : (Cond.count 1).before args s = true := hs _ (by decide +kernel)
  have harr : (Cond.arrayOf (.arg 0) .int).before args s = true := hs _ (by decide +kernel)
  have hle : (Cond.le (.length (.arg 0)) (.int 2561)).before args s = true := hs _ (by decide +kernel)
  have hlen : (Cond.isInt (.length (.arg 0))).before args s = true := hq _ (by decide +kernel)
  have hall : (Cond.all (.arg 0) (.isInt (.elem (.arg 0) (.index 0)))).before args s = true := hq _ (by decide +kernel)
  obtain ⟨b, xs, hb, hx⟩ := State.ints_of_pre rfl harr hlen hall
  have hsm : xs.length < 2 ^ 31 := hx.choose_spec.2.2.2
  have hev : (Term.length (.arg 0)).eval args s none [] s = some (.int xs.length.toInt32) := hx.length_eval hb
  have hv := Cond.le_ints hev (show (Term.int 2561).eval args s none [] s = some (.int 2561) from rfl)
  have hd : xs.length.toInt32 ≤ 2561 := by
    simpa [Cond.before, Cond.holds, hv] using hle
  have hN : xs.length ≤ 2561 := (Int32.ofNat_le_ofNat hsm (by decide)).mp (show Int32.ofNat xs.length ≤ Int32.ofNat 2561 from hd)
  exact ⟨b, xs, Cond.one_arg hc (show args[0]? = some (.ref b) from hb), hx, hN, h⟩
theorem lw_comes (l : Launch) (hl : l.stackTraces = false) : Comes l x (Jvm.Cond.code x code maxLocals ret :: tables_1) room_1 (fun tb e args s => Calls_1 tb e args s ∧ rest_1 tb e args s ∧ Pre_1 tb e args s)
    (fun _ _ args s o t => lw_Q args s o t) := by
  intro p e ha hc hk s m args below hf hfit hheap happ hpre
  obtain ⟨b, xs, hP⟩ := lw_pre_spec hpre.2.2 hpre.2.1
  obtain ⟨k, o, h1, h2, h3, hQ⟩ := lw_walk l hl b xs p e ha hc hk s m args below hf ((Spec.applies_iff_loose hf).mp happ).1 hP trivial
  exact ⟨k, o, h1, h2, h3, hQ⟩
theorem lw_frame {s t : State} {o : Outcome} {args : Array Value} (h : Framed s o t [] 601024 7293000) :
    Framed s o t (fieldLocs frame_1_writes args s ++ arrayLocs frame_1_arrays args s ++ staticLocs frame_1_statics s) 601024 7293000 := h
theorem lw_limb (L : Cond) (hL : ∀ (args : Array Value) (s t : State), L.after args s (.returned (some (.int 1))) t = true) :
    ArmFor flags0 classFile x code maxLocals ret World_1 tables_1 room_1 Calls_1 rest_1 Pre_1
      (fun tb e a s o t => postC L tb e a s o t ∧ Framed s o t (fieldLocs frame_1_writes a s ++ arrayLocs frame_1_arrays a s ++ staticLocs frame_1_statics s) 601024 7293000) := by
  intro l hfl _ _ p e ha hc hk s m args below hf hfit hheap happ hpre
  have hl : l.stackTraces = false := by unfold Launch.stackTraces; rw [hfl]; decide
  obtain ⟨k, o, h1, h2, h3, rfl, hF⟩ := lw_comes l hl p e ha hc hk s m args below hf hfit hheap happ hpre
  exact ⟨k, _, h1, h2, h3, hL args s _, lw_frame hF⟩
theorem i_vc : Claimed_1_1 ∧ Claimed_1_2 := ⟨lw_limb limb_1_1 (fun args s t => by simp [limb_1_1, Cond.after, Cond.holds, Cond.value]), lw_limb limb_1_2 (fun args s t => Cond.after_iff.mpr (by
  first | (rw [show limb_1_2 = Cond.eq .result (.int 1) from rfl, Cond.eq_ints (x := 1) (y := 1) rfl rfl]; simp; done) | (simp [limb_1_2, Cond.value, Term.eval]; done)))⟩

