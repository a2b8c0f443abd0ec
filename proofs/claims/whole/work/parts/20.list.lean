theorem g_cast {p : Program} {l : Launch} {e : Env} {R : Room} {s : State} {m : MethodId} {args : Array Value} {below : List Frame} {meth : Method} {c : Code} {cells slots : Nat} {Q : State → Prop} {cc : ByteArray} {pc nL : Nat} {D : va_G} {cl : List vw_C} {tys : List (ClassId × FieldType)} {A : Nat → Prop} {f : g_F} {lv : List (Nat × Value)} {st : List Value} {own : String} {ret : Option FieldType} {Z : (Nat → Prop) → State → Heap → Prop} (X : g_X p s m args meth c cc nL ret g_T own D cl tys A Z) {a ci index : Nat} {fs : List Value} {cq : vw_C} {nm : String} (hlk : Cond.classLink own index nm ∈ g_T) (hcl : cl[ci]? = some cq) (hc : va_Nw (.castable cq.1 nm) s) (he : f a = some (.inr (ci, fs))) (d : decode cc pc = .ok (.checkcast index, 3)) (kk : g_W p l e R s m args below meth c nL D cl A f cells slots Q (pc + 3) lv (.ref a :: st)) : g_W p l e R s m args below meth c nL D cl A f cells slots Q pc lv (.ref a :: st) := by
  intro H locs ls hP hD hS hl
  exact va_castY X.1.1 X.1.2.1 X.1.2.2.2.1 (X.1.2.2.2.2 _ hlk) hc (va_recv X.2.1 (hP.one he) (ci := ci) (q0 := 0) hcl rfl) d (kk H locs ls hP hD hS hl)
theorem g_mmaxI {p : Program} {l : Launch} {e : Env} {R : Room} {s : State} {m : MethodId} {args : Array Value} {below : List Frame} {meth : Method} {c : Code} {cells slots : Nat} {Q : State → Prop} {cc : ByteArray} {pc nL : Nat} {D : va_G} {cl : List vw_C} {tys : List (ClassId × FieldType)} {A : Nat → Prop} {f : g_F} {lv : List (Nat × Value)} {st : List Value} {own : String} {ret : Option FieldType} {Z : (Nat → Prop) → State → Heap → Prop} (X : g_X p s m args meth c cc nL ret g_T own D cl tys A Z) {x y : Int32} {index : Nat} (hlk : Cond.methodLink own index y_MA_max ∈ g_T) (hRf : 1 ≤ R.frames) (hRl : (st.map fun v => v.category).sum + 13 ≤ R.locals) (hc : cells ≤ R.cells) (hs : slots ≤ R.slots) (d : decode cc pc = .ok (.invokestatic index, 3)) (kk : g_W p l e R s m args below meth c nL D cl A f cells slots Q (pc + 3) lv (.int (if x < y then y else x) :: st)) : g_W p l e R s m args below meth c nL D cl A f cells slots Q pc lv (.int y :: .int x :: st) := by
  intro H locs ls hP hD hS hl
  exact va_mmax X.1.1 X.1.2.1 (X.1.2.2.1.trans hl.1.symm) X.1.2.2.2.1 (X.1.2.2.2.2 _ hlk) (X.1.2.2.2.2 _ q_33) (X.1.2.2.2.2 _ q_2) (X.1.2.2.2.2 _ q_34) hRf hRl hc hs d (kk H locs ls hP hD hS hl)
theorem g_mminI {p : Program} {l : Launch} {e : Env} {R : Room} {s : State} {m : MethodId} {args : Array Value} {below : List Frame} {meth : Method} {c : Code} {cells slots : Nat} {Q : State → Prop} {cc : ByteArray} {pc nL : Nat} {D : va_G} {cl : List vw_C} {tys : List (ClassId × FieldType)} {A : Nat → Prop} {f : g_F} {lv : List (Nat × Value)} {st : List Value} {own : String} {ret : Option FieldType} {Z : (Nat → Prop) → State → Heap → Prop} (X : g_X p s m args meth c cc nL ret g_T own D cl tys A Z) {x y : Int32} {index : Nat} (hlk : Cond.methodLink own index y_MA_min ∈ g_T) (hRf : 1 ≤ R.frames) (hRl : (st.map fun v => v.category).sum + 13 ≤ R.locals) (hc : cells ≤ R.cells) (hs : slots ≤ R.slots) (d : decode cc pc = .ok (.invokestatic index, 3)) (kk : g_W p l e R s m args below meth c nL D cl A f cells slots Q (pc + 3) lv (.int (if y < x then y else x) :: st)) : g_W p l e R s m args below meth c nL D cl A f cells slots Q pc lv (.int y :: .int x :: st) := by
  intro H locs ls hP hD hS hl
  exact va_mmin X.1.1 X.1.2.1 (X.1.2.2.1.trans hl.1.symm) X.1.2.2.2.1 (X.1.2.2.2.2 _ hlk) (X.1.2.2.2.2 _ q_30) (X.1.2.2.2.2 _ q_2) (X.1.2.2.2.2 _ q_31) hRf hRl hc hs d (kk H locs ls hP hD hS hl)
/-- a list's cells: the array, its places, the objects in it -/
def al_R (cO : ClassId) (f : g_F) (q eD : Nat) (ca : Nat → Nat) (n cap : Nat) (mc : Int32) : Prop :=
  f q = some (.inr (0, [.ref eD, .int (nI n), .int mc])) ∧ n ≤ cap ∧ cap ≤ 40 ∧ (0 < n → ∃ g : Nat → Option Nat, f eD = some (.inl (cO, cap, .inr (.inr (.inr (.inr g))))) ∧ ∀ k, k < n → g k = some (ca k))
set_option maxHeartbeats 4000000 in
set_option maxRecDepth 100000 in
theorem c_AL_size {l : Launch} {D : va_G} {cI cZ cO cJ : ClassId} {eA eM : Nat} {f : g_F} {q eD : Nat} {ca : Nat → Nat} {n cap : Nat} {mc : Int32} (hR : al_R cO f q eD ca n cap mc) : g_C l y_AL_size b_AL_size 1 (some .int) { frames := 0, cells := 0, slots := 0, locals := 0 } D g_cl (g_tys cI cZ cO cJ) (z_Z eA eM) [.ref q] f (fun r f2 => r = some (.int (nI n)) ∧ f2 = f) (fun _ => False) := by
  refine g_ofW [(0, .ref q)] (by decide +kernel) (Nat.le_of_ble_eq_true rfl) rfl ?_
  intro p e s m args below meth c X ht hin
  obtain ⟨hQ, hn, hcap, hE⟩ := id hR
  refine g_aload_n X d_AL_size_0 0 rfl ?_
  refine g_get (ci := 0) (C := R_AL) (T := F_AL) (N := 3) (v := .int (nI n)) X i_AL rfl hQ 1 (by decide) q_50 (fun _ h9 => h9) rfl d_AL_size_1 ?_
  exact g_iret X rfl (⟨rfl, rfl⟩) (Nat.le_of_ble_eq_true rfl) (Nat.le_of_ble_eq_true rfl) d_AL_size_4
set_option maxHeartbeats 4000000 in
set_option maxRecDepth 100000 in
theorem c_PR_checkIndex {l : Launch} {D : va_G} {cI cZ cO cJ : ClassId} {eA eM : Nat} {f : g_F} {i n : Nat} (hi : i < n) (hn : n < 2 ^ 31) : g_C l y_PR_checkIndex b_PR_checkIndex 3 (some .int) { frames := 0, cells := 0, slots := 0, locals := 0 } D g_cl (g_tys cI cZ cO cJ) (z_Z eA eM) [.int (nI i), .int (nI n), .null] f (fun r f2 => r = some (.int (nI i)) ∧ f2 = f) (fun _ => False) := by
  refine g_ofW [(0, .int (nI i)), (1, .int (nI n)), (2, .null)] (by decide +kernel) (Nat.le_of_ble_eq_true rfl) rfl ?_
  intro p e s m args below meth c X ht hin
  refine g_iload_n X d_PR_checkIndex_0 0 rfl ?_
  refine g_if_lt X 9 d_PR_checkIndex_1 (by decide) (fun c1 => ?_) (fun c1 => ?_)
  · skip
    exact absurd c1 (nI_pos (by omega))
  · skip
    refine g_iload_n X d_PR_checkIndex_4 0 rfl ?_
    refine g_iload_n X d_PR_checkIndex_5 1 rfl ?_
    refine g_icmp_lt X 16 d_PR_checkIndex_6 (by decide) (fun c6 => ?_) (fun c6 => ?_)
    · skip
      refine g_iload_n X d_PR_checkIndex_16 0 rfl ?_
      exact g_iret X rfl (⟨rfl, rfl⟩) (Nat.le_of_ble_eq_true rfl) (Nat.le_of_ble_eq_true rfl) d_PR_checkIndex_17
    · skip
      exact absurd (nI_lt hi hn) c6
set_option maxHeartbeats 4000000 in
set_option maxRecDepth 100000 in
theorem c_OB_checkIndex {l : Launch} {D : va_G} {cI cZ cO cJ : ClassId} {eA eM : Nat} {f : g_F} {i n : Nat} (hi : i < n) (hn : n < 2 ^ 31) : g_C l y_OB_checkIndex b_OB_checkIndex 2 (some .int) { frames := 1, cells := 0, slots := 0, locals := 22 } D g_cl (g_tys cI cZ cO cJ) (z_Z eA eM) [.int (nI i), .int (nI n)] f (fun r f2 => r = some (.int (nI i)) ∧ f2 = f) (fun _ => False) := by
  refine g_ofW [(0, .int (nI i)), (1, .int (nI n))] (by decide +kernel) (Nat.le_of_ble_eq_true rfl) rfl ?_
  intro p e s m args below meth c X ht hin
  refine g_iload_n X d_OB_checkIndex_0 0 rfl ?_
  refine g_iload_n X d_OB_checkIndex_1 1 rfl ?_
  refine g_null X d_OB_checkIndex_2 ?_
  refine g_callS (As := [.int (nI i), .int (nI n), .null]) (rest := []) X (z_ok eA eM) (c_PR_checkIndex (f := f) hi hn) v_PR_checkIndex q_234 q_233 rfl rfl (Nat.le_of_ble_eq_true rfl) d_OB_checkIndex_3 ⟨(Nat.le_of_ble_eq_true rfl), (Nat.le_of_ble_eq_true rfl)⟩ ⟨(Nat.le_of_ble_eq_true rfl), (Nat.le_of_ble_eq_true rfl)⟩ (g_K.no (fun _ h => h)) (fun r_ f2_ hp => ?_)
  obtain ⟨rfl, hf_⟩ := hp
  subst f2_
  refine g_st (st2 := [.int (nI i)]) rfl ?_
  exact g_iret X rfl (⟨rfl, rfl⟩) (Nat.le_of_ble_eq_true rfl) (Nat.le_of_ble_eq_true rfl) d_OB_checkIndex_6
set_option maxHeartbeats 4000000 in
set_option maxRecDepth 100000 in
theorem c_AL_elementData {l : Launch} {D : va_G} {cI cZ cO cJ : ClassId} {eA eM : Nat} {f : g_F} {q eD : Nat} {ca : Nat → Nat} {n cap : Nat} {mc : Int32} (hR : al_R cO f q eD ca n cap mc) {i : Nat} (hi : i < n) : g_C l y_AL_elementData b_AL_elementData 2 (some (.object "java/lang/Object")) { frames := 0, cells := 0, slots := 0, locals := 0 } D g_cl (g_tys cI cZ cO cJ) (z_Z eA eM) [.ref q, .int (nI i)] f (fun r f2 => r = some (.ref (ca i)) ∧ f2 = f) (fun _ => False) := by
  refine g_ofW [(0, .ref q), (1, .int (nI i))] (by decide +kernel) (Nat.le_of_ble_eq_true rfl) rfl ?_
  intro p e s m args below meth c X ht hin
  obtain ⟨hQ, hn, hcap, hE⟩ := id hR
  obtain ⟨g, hE0, hg⟩ := hE (by omega)
  refine g_aload_n X d_AL_elementData_0 0 rfl ?_
  refine g_get (ci := 0) (C := R_AL) (T := F_AL) (N := 3) (v := .ref eD) X i_AL rfl hQ 0 (by decide) q_49 (fun _ h9 => h9) rfl d_AL_elementData_1 ?_
  refine g_iload_n X d_AL_elementData_4 1 rfl ?_
  refine g_aldq (t0 := 2) (v := .ref (ca i)) X hE0 rfl (nI_ix (by omega : i < cap) (by omega)) (by rw [nI_clamp (by omega), hg i hi]; rfl) d_AL_elementData_5 ?_
  exact g_aret X rfl (Or.inl ⟨_, rfl⟩) (Or.inr ⟨_, rfl⟩) (⟨rfl, rfl⟩) (Nat.le_of_ble_eq_true rfl) (Nat.le_of_ble_eq_true rfl) d_AL_elementData_6
set_option maxHeartbeats 4000000 in
set_option maxRecDepth 100000 in
theorem c_AL_get {l : Launch} {D : va_G} {cI cZ cO cJ : ClassId} {eA eM : Nat} {f : g_F} {q eD : Nat} {ca : Nat → Nat} {n cap : Nat} {mc : Int32} (hR : al_R cO f q eD ca n cap mc) {i : Nat} (hi : i < n) : g_C l y_AL_get b_AL_get 2 (some (.object "java/lang/Object")) { frames := 2, cells := 0, slots := 0, locals := 43 } D g_cl (g_tys cI cZ cO cJ) (z_Z eA eM) [.ref q, .int (nI i)] f (fun r f2 => r = some (.ref (ca i)) ∧ f2 = f) (fun _ => False) := by
  refine g_ofW [(0, .ref q), (1, .int (nI i))] (by decide +kernel) (Nat.le_of_ble_eq_true rfl) rfl ?_
  intro p e s m args below meth c X ht hin
  obtain ⟨hQ, hn, hcap, hE⟩ := id hR
  refine g_iload_n X d_AL_get_0 1 rfl ?_
  refine g_aload_n X d_AL_get_1 0 rfl ?_
  refine g_get (ci := 0) (C := R_AL) (T := F_AL) (N := 3) (v := .int (nI n)) X i_AL rfl hQ 1 (by decide) q_50 (fun _ h9 => h9) rfl d_AL_get_2 ?_
  refine g_callS (As := [.int (nI i), .int (nI n)]) (rest := []) X (z_ok eA eM) (c_OB_checkIndex (f := f) hi (by omega)) v_OB_checkIndex q_231 q_230 rfl rfl (Nat.le_of_ble_eq_true rfl) d_AL_get_5 ⟨(Nat.le_of_ble_eq_true rfl), (Nat.le_of_ble_eq_true rfl)⟩ ⟨(Nat.le_of_ble_eq_true rfl), (Nat.le_of_ble_eq_true rfl)⟩ (g_K.no (fun _ h => h)) (fun r_ f2_ hp => ?_)
  obtain ⟨rfl, hf_⟩ := hp
  subst f2_
  refine g_st (st2 := [.int (nI i)]) rfl ?_
  refine g_pop X d_AL_get_8 rfl ?_
  refine g_aload_n X d_AL_get_9 0 rfl ?_
  refine g_iload_n X d_AL_get_10 1 rfl ?_
  refine g_callV (ci := 0) (As := [.int (nI i)]) (rest := []) X (z_ok eA eM) rfl rfl hQ (c_AL_elementData hR hi) v_AL_elementData q_237 q_238 q_236 rfl rfl (Nat.le_of_ble_eq_true rfl) d_AL_get_11 ⟨(Nat.le_of_ble_eq_true rfl), (Nat.le_of_ble_eq_true rfl)⟩ ⟨(Nat.le_of_ble_eq_true rfl), (Nat.le_of_ble_eq_true rfl)⟩ (g_K.no (fun _ h => h)) (fun r_ f2_ hp => ?_)
  obtain ⟨rfl, hf_⟩ := hp
  subst f2_
  refine g_st (st2 := [.ref (ca i)]) rfl ?_
  exact g_aret X rfl (Or.inl ⟨_, rfl⟩) (Or.inr ⟨_, rfl⟩) (⟨rfl, rfl⟩) (Nat.le_of_ble_eq_true rfl) (Nat.le_of_ble_eq_true rfl) d_AL_get_14
