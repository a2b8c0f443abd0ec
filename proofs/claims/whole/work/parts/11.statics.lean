/-! What is known of the statics, of words that no list carries, of the texts. eA: the empty array of ArrayList. -/
def z_Z (eA eM : Nat) (A : Nat → Prop) (U : State) (H : Heap) : Prop :=
  (va_Nw (.declares ⟨"java/lang/RuntimeException", "<init>", "(Ljava/lang/String;)V"⟩) U ∧ va_Nw (.declares ⟨"java/lang/Exception", "<init>", "(Ljava/lang/String;)V"⟩) U ∧ va_Nw (.declares ⟨"java/lang/Throwable", "<init>", "(Ljava/lang/String;)V"⟩) U) ∧
  (va_Nw (.castable "java/lang/IllegalArgumentException" "java/lang/IllegalArgumentException") U ∧ va_Nw (.castable "java/lang/IllegalStateException" "java/lang/IllegalStateException") U) ∧
  (va_Nw (.methodLinkNest "CaseLists$Tours" 31 y_CL_holds "CaseLists") U ∧ va_Nw (.methodLinkNest "CaseLists$TouchLog" 22 y_CL_holds "CaseLists") U) ∧
  (va_Nw (.castable "CaseLists$Case" "CaseLists$Case") U ∧ va_Nw (.castable "CaseLists$Case" "java/lang/Object") U) ∧
  (vx_Zq Bundle.tN "UNASSIGNED_STACK" Bundle.steD A U H ∧ vx_Zq Bundle.tN "SUPPRESSED_SENTINEL" Bundle.listD A U H) ∧
  ((∃ sa, vk_R "CaseLists" 173 "a number is out of its bounds" sa U) ∧ (∃ sa, vk_R "CaseLists" 175 "both are one" sa U) ∧ (∃ sa, vk_R "CaseLists" 179 "there is no room for one more" sa U) ∧ (∃ sa, vk_R "CaseLists" 168 "k is below 0" sa U)) ∧
  (va_Z "java/util/ArrayList" "DEFAULTCAPACITY_EMPTY_ELEMENTDATA" "[Ljava/lang/Object;" (.ref eA) A U H ∧ va_T (.object "java/lang/Object") eA 0 (fun _ => .null) A U H ∧ va_AO "java/lang/Object" U ∧ va_Mi "[Ljava/lang/Object;" eM U ∧ va_Dc U ∧ va_Nc "java/lang/IllegalStateException" "java/lang/IllegalArgumentException" U)
theorem z_ok (eA eM : Nat) : g_ZC (z_Z eA eM) := by
  refine ⟨fun A u U H hW h => ?_, fun A U H H1 h hq => ?_, fun A B U H h hAB => ?_⟩
  · obtain ⟨⟨a1, a2, a3⟩, ⟨b1, b2⟩, ⟨c1, c2⟩, ⟨d1, d2⟩, ⟨e1, e2⟩, ⟨⟨s0, f0⟩, ⟨s1, f1⟩, ⟨s2, f2⟩, ⟨s3, f3⟩⟩, g1, g2, g3, g4, g5, g6⟩ := h
    exact ⟨⟨va_Nw.warmD hW a1, va_Nw.warmD hW a2, va_Nw.warmD hW a3⟩, ⟨va_Nw.warmC hW b1, va_Nw.warmC hW b2⟩, ⟨va_Nw.warmM hW c1, va_Nw.warmM hW c2⟩, ⟨va_Nw.warmC hW d1, va_Nw.warmC hW d2⟩, ⟨vx_Zq.moved hW.alike e1, vx_Zq.moved hW.alike e2⟩, ⟨⟨s0, vk_R.warm hW f0⟩, ⟨s1, vk_R.warm hW f1⟩, ⟨s2, vk_R.warm hW f2⟩, ⟨s3, vk_R.warm hW f3⟩⟩, va_Z.moved hW.alike g1, va_T.moved hW.alike g2, va_AO.moved hW.alike g3, va_Mi.moved hW.alike g4, va_Dc.moved hW.alike g5, va_Nc.moved hW.alike g6⟩
  · obtain ⟨a, b, c, d, ⟨e1, e2⟩, f, g1, g2, g3⟩ := h
    exact ⟨a, b, c, d, ⟨e1.kept hq, e2.kept hq⟩, f, g1.kept hq, g2.kept hq, g3⟩
  · obtain ⟨a, b, c, d, ⟨e1, e2⟩, f, g1, g2, g3⟩ := h
    exact ⟨a, b, c, d, ⟨e1.narrow hAB, e2.narrow hAB⟩, f, g1.narrow hAB, g2.narrow hAB, g3⟩
section GT
variable {p : Program} {l : Launch} {e : Env} {R rm : Room} {s : State} {m : MethodId} {args : Array Value} {below : List Frame} {meth : Method} {c : Code} {cells slots : Nat}
variable {cc : ByteArray} {pc nL : Nat} {D : va_G} {cl : List vw_C} {tys : List (ClassId × FieldType)} {f0 : g_F} {lv : List (Nat × Value)} {st : List Value} {own : String} {ret : Option FieldType} {Z : (Nat → Prop) → State → Heap → Prop} {post : Option Value → g_F → Prop} {px : String → Prop}
/-- 'throw new E("text")' in a world that is still the first one -/
theorem g_throwS (X : g_X p s m args meth c cc nL ret g_T own D cl tys (g_A f0 s.heap.size) Z) (hl : l.stackTraces = false) {cls text : String} {names : List String} {ik is ic : Nat} (hcls : Bundle.fit cls = true) (hnames : ∀ n ∈ names, Bundle.fit n = true)
    (hk : Cond.classLink own ik cls ∈ g_T) (hini : Cond.initialized cls ∈ g_T) (hstr : ∃ sa, vk_R own is text sa s) (hat : ∀ w ∈ vx_atS own ic cls names, w.before args s = true)
    (hgood : ∀ w ∈ Cond.classLink own ik cls :: Cond.initialized cls :: vx_atS own ic cls names, vx_ot w = true)
    (hU : vx_Zq Bundle.tN "UNASSIGNED_STACK" Bundle.steD (g_A f0 s.heap.size) s s.heap) (hN : vx_Zq Bundle.tN "SUPPRESSED_SENTINEL" Bundle.listD (g_A f0 s.heap.size) s s.heap) (ht : ∀ x ∈ c.exceptionTable.toList, False)
    (d0 : decode cc pc = .ok (.new ik, 3)) (d3 : decode cc (pc + 3) = .ok (.dup, 1)) (d4 : decode cc (pc + 4) = .ok (.ldc is, 2)) (d6 : decode cc (pc + 6) = .ok (.invokespecial ic, 3)) (d9 : decode cc (pc + 9) = .ok (.athrow, 1))
    (hRf : names.length + 3 < R.frames) (hRl : (st.map fun v => v.category).sum + (13 * (names.length + 1) + 43) ≤ R.locals) (hRc : cells + 1 ≤ R.cells) (hRs : slots + 6 ≤ R.slots) (hpx : px cls) (hc : cells + 1 ≤ rm.cells) (hs : slots + 6 ≤ rm.slots) :
    g_W p l e R s m args below meth c nL D cl (g_A f0 s.heap.size) f0 cells slots (g_End below D cl f0 post px args s rm) pc lv st := by
  intro H locs ls hP hD hS hlv
  obtain ⟨sa, hstr⟩ := hstr
  refine vx_throwS (sa := sa) (text := text) X.1.1 X.1.2.1 hl X.1.2.2.2.1 hcls hnames (X.1.2.2.2.2 _ hk) (X.1.2.2.2.2 _ hini) hstr hat hgood hU hN hS (by rw [X.1.2.2.1]; exact hlv.1) d0 d3 d4 d6 d9 (fun x hx => absurd (ht x hx) id) hRf hRl hRc hRs X.2.2.2.2.1 (fun t hal hz hq => ?_) hS.2.2 hc hs
  exact ⟨hpx, fun a x hx => (hP a x hx).kept (hq a (hP a x hx).lt), Nat.le_trans hS.1 hz, fun q h1 h2 => (hq q (Nat.lt_of_lt_of_le h1 hS.1)).trans (hS.2.1 q h1 h2)⟩
end GT
/-- the words of a throw, out of the table and out of what is known -/
theorem z_hatIA {eA eM : Nat} {A : Nat → Prop} {s : State} {args : Array Value} {H : Heap} (hts : ∀ w ∈ g_T, w.before args s = true) (hZ : z_Z eA eM A s H) : ∀ w ∈ vx_atS "CaseLists" 170 "java/lang/IllegalArgumentException" ["java/lang/RuntimeException", "java/lang/Exception"], w.before args s = true := by
  refine vx_hat (B := [.declares ⟨"java/lang/RuntimeException", "<init>", "(Ljava/lang/String;)V"⟩, .declares ⟨"java/lang/Exception", "<init>", "(Ljava/lang/String;)V"⟩, .declares ⟨"java/lang/Throwable", "<init>", "(Ljava/lang/String;)V"⟩, .castable "java/lang/IllegalArgumentException" "java/lang/IllegalArgumentException"]) (fun w hw => hts w (List.mem_filter.mpr ((by decide +kernel : ∀ w ∈ (vx_atS "CaseLists" 170 "java/lang/IllegalArgumentException" ["java/lang/RuntimeException", "java/lang/Exception"]).filter goodWord, w ∈ lw_tbl ∧ goodWord w = true) w hw))) (by decide +kernel) ?_
  obtain ⟨⟨a1, a2, a3⟩, ⟨b1, b2⟩, -⟩ := hZ
  exact vx_c (va_Nw.use rfl a1) (vx_c (va_Nw.use rfl a2) (vx_c (va_Nw.use rfl a3) (vx_c (va_Nw.use rfl b1) vx_n)))
theorem z_hatIS {eA eM : Nat} {A : Nat → Prop} {s : State} {args : Array Value} {H : Heap} (hts : ∀ w ∈ g_T, w.before args s = true) (hZ : z_Z eA eM A s H) : ∀ w ∈ vx_atS "CaseLists" 181 "java/lang/IllegalStateException" ["java/lang/RuntimeException", "java/lang/Exception"], w.before args s = true := by
  refine vx_hat (B := [.declares ⟨"java/lang/RuntimeException", "<init>", "(Ljava/lang/String;)V"⟩, .declares ⟨"java/lang/Exception", "<init>", "(Ljava/lang/String;)V"⟩, .declares ⟨"java/lang/Throwable", "<init>", "(Ljava/lang/String;)V"⟩, .castable "java/lang/IllegalStateException" "java/lang/IllegalStateException"]) (fun w hw => hts w (List.mem_filter.mpr ((by decide +kernel : ∀ w ∈ (vx_atS "CaseLists" 181 "java/lang/IllegalStateException" ["java/lang/RuntimeException", "java/lang/Exception"]).filter goodWord, w ∈ lw_tbl ∧ goodWord w = true) w hw))) (by decide +kernel) ?_
  obtain ⟨⟨a1, a2, a3⟩, ⟨b1, b2⟩, -⟩ := hZ
  exact vx_c (va_Nw.use rfl a1) (vx_c (va_Nw.use rfl a2) (vx_c (va_Nw.use rfl a3) (vx_c (va_Nw.use rfl b2) vx_n)))
