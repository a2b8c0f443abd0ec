theorem g_mmin {p : Program} {l : Launch} {e : Env} {R : Room} {s : State} {m : MethodId} {args : Array Value} {below : List Frame} {meth : Method} {c : Code} {cells slots : Nat} {Q : State → Prop} {cc : ByteArray} {pc nL : Nat} {D : va_G} {cl : List vw_C} {tys : List (ClassId × FieldType)} {A : Nat → Prop} {f : g_F} {lv : List (Nat × Value)} {st : List Value} {own : String} {ret : Option FieldType} {Z : (Nat → Prop) → State → Heap → Prop} {a b index : Nat}
    (X : g_X p s m args meth c cc nL ret g_T own D cl tys A Z) (hlk : Cond.methodLink own index y_MA_min ∈ g_T) (ha : a < 2 ^ 31) (hb : b < 2 ^ 31) (hRf : 1 ≤ R.frames) (hRl : (st.map fun v => v.category).sum + 13 ≤ R.locals) (hc : cells ≤ R.cells) (hs : slots ≤ R.slots) (d : decode cc pc = .ok (.invokestatic index, 3))
    (kk : g_W p l e R s m args below meth c nL D cl A f cells slots Q (pc + 3) lv (.int (nI (min a b)) :: st)) : g_W p l e R s m args below meth c nL D cl A f cells slots Q pc lv (.int (nI b) :: .int (nI a) :: st) := by
  intro H locs ls hP hD hS hl
  have h9 := kk H locs ls hP hD hS hl
  have e9 : (if nI b < nI a then nI b else nI a) = nI (min a b) := by
    by_cases h : b < a
    · rw [if_pos ((nI_ltI hb ha).mpr h), Nat.min_eq_right (Nat.le_of_lt h)]
    · rw [if_neg (fun z => h ((nI_ltI hb ha).mp z)), Nat.min_eq_left (Nat.le_of_not_lt h)]
  rw [← e9] at h9
  exact va_mmin X.1.1 X.1.2.1 (X.1.2.2.1.trans hl.1.symm) X.1.2.2.2.1 (X.1.2.2.2.2 _ hlk) (X.1.2.2.2.2 _ q_30) (X.1.2.2.2.2 _ q_2) (X.1.2.2.2.2 _ q_31) hRf hRl hc hs d h9
theorem g_mmax {p : Program} {l : Launch} {e : Env} {R : Room} {s : State} {m : MethodId} {args : Array Value} {below : List Frame} {meth : Method} {c : Code} {cells slots : Nat} {Q : State → Prop} {cc : ByteArray} {pc nL : Nat} {D : va_G} {cl : List vw_C} {tys : List (ClassId × FieldType)} {A : Nat → Prop} {f : g_F} {lv : List (Nat × Value)} {st : List Value} {own : String} {ret : Option FieldType} {Z : (Nat → Prop) → State → Heap → Prop} {a b index : Nat}
    (X : g_X p s m args meth c cc nL ret g_T own D cl tys A Z) (hlk : Cond.methodLink own index y_MA_max ∈ g_T) (ha : a < 2 ^ 31) (hb : b < 2 ^ 31) (hRf : 1 ≤ R.frames) (hRl : (st.map fun v => v.category).sum + 13 ≤ R.locals) (hc : cells ≤ R.cells) (hs : slots ≤ R.slots) (d : decode cc pc = .ok (.invokestatic index, 3))
    (kk : g_W p l e R s m args below meth c nL D cl A f cells slots Q (pc + 3) lv (.int (nI (max a b)) :: st)) : g_W p l e R s m args below meth c nL D cl A f cells slots Q pc lv (.int (nI b) :: .int (nI a) :: st) := by
  intro H locs ls hP hD hS hl
  have h9 := kk H locs ls hP hD hS hl
  have e9 : (if nI a < nI b then nI b else nI a) = nI (max a b) := by
    by_cases h : a < b
    · rw [if_pos ((nI_ltI ha hb).mpr h), Nat.max_eq_right (Nat.le_of_lt h)]
    · rw [if_neg (fun z => h ((nI_ltI ha hb).mp z)), Nat.max_eq_left (Nat.le_of_not_lt h)]
  rw [← e9] at h9
  exact va_mmax X.1.1 X.1.2.1 (X.1.2.2.1.trans hl.1.symm) X.1.2.2.2.1 (X.1.2.2.2.2 _ hlk) (X.1.2.2.2.2 _ q_33) (X.1.2.2.2.2 _ q_2) (X.1.2.2.2.2 _ q_34) hRf hRl hc hs d h9
theorem nI_sub {a b : Nat} (h : b ≤ a) : nI a - nI b = nI (a - b) := pk_sub h
theorem nI_m1 {a : Nat} (h : 1 ≤ a) : nI a - 1 = nI (a - 1) := nI_sub (b := 1) h
theorem cov_iff {a b : Nat} (ha : a < 2 ^ 31) (hb : b < 2 ^ 31) : (nI a &&& (nI b ^^^ (-1))) = 0 ↔ a &&& b = a := by
  have e1 : (-1 : Int32) = nI (2 ^ 32 - 1) := by decide
  rw [e1, nI_xor, nI_and, nI_z (Nat.lt_of_le_of_lt Nat.and_le_left ha)]
  constructor
  · intro h
    apply Nat.eq_of_testBit_eq
    intro i
    have h2 := congrArg (fun z => Nat.testBit z i) h
    simp only [Nat.testBit_and, Nat.testBit_xor, Nat.testBit_two_pow_sub_one, Nat.zero_testBit] at h2
    rw [Nat.testBit_and]
    by_cases hi : i < 32
    · simp [hi] at h2
      cases ha2 : a.testBit i
      · rfl
      · rw [ha2] at h2
        simp at h2
        simp [h2]
    · have : a.testBit i = false := Nat.testBit_lt_two_pow (Nat.lt_of_lt_of_le ha (Nat.pow_le_pow_right (by decide) (by omega)))
      rw [this]; rfl
  · intro h
    apply Nat.eq_of_testBit_eq
    intro i
    have h2 := congrArg (fun z => Nat.testBit z i) h
    simp only [Nat.testBit_and] at h2
    simp only [Nat.testBit_and, Nat.testBit_xor, Nat.testBit_two_pow_sub_one, Nat.zero_testBit]
    by_cases hi : i < 32
    · cases ha2 : a.testBit i
      · rfl
      · rw [ha2] at h2
        simp at h2
        simp [h2, hi]
    · have : a.testBit i = false := Nat.testBit_lt_two_pow (Nat.lt_of_lt_of_le ha (Nat.pow_le_pow_right (by decide) (by omega)))
      rw [this]; rfl
/-- a set of acts shows all that is needed -/
def cov (S : Nat → Nat) (n need acts : Nat) : Bool := decide (need &&& orS S acts n = need)
set_option maxHeartbeats 4000000 in
set_option maxRecDepth 100000 in
theorem c_TU_covers {l : Launch} {D : va_G} {cI cZ cO cJ : ClassId} {eA eM : Nat} {f : g_F} {t : Nat} {a : Nat → Nat} {P Du S Wy Re : Nat → Nat} {n : Nat} (hR : tu_R cI f t a P Du S Wy Re n) (hB : tu_B P Du S Wy n) {acts need : Nat} (ha : acts < 2 ^ 31) (hne : need < 2 ^ 31) : g_C l y_TU_covers b_TU_covers 3 (some .boolean) { frames := 2, cells := 0, slots := 0, locals := 44 } D g_cl (g_tys cI cZ cO cJ) (z_Z eA eM) [.ref t, .int (nI acts), .int (nI need)] f (fun r f2 => r = some (.int (bI (cov S n need acts))) ∧ f2 = f) (fun _ => False) := by
  refine g_ofW [(0, .ref t), (1, .int (nI acts)), (2, .int (nI need))] (by decide +kernel) (Nat.le_of_ble_eq_true rfl) rfl ?_
  intro p e s m args below meth c X ht hin
  obtain ⟨hT, h0, h1, h2, h3, h4⟩ := id hR
  obtain ⟨hn8, hP, hDu, hS, hWy⟩ := id hB
  have hb : orS S acts n < 2 ^ 31 := Nat.lt_trans (orS_lt hS acts n) (by decide)
  refine g_iload_n X d_TU_covers_0 2 rfl ?_
  refine g_aload_n X d_TU_covers_1 0 rfl ?_
  refine g_iload_n X d_TU_covers_2 1 rfl ?_
  refine g_callV (ci := 2) (As := [.int (nI acts)]) (rest := [.int (nI need)]) X (z_ok eA eM) rfl rfl hT (c_TU_shownBy hR hB (acts := acts) ha) v_TU_shownBy q_463 q_s9 q_461 rfl rfl (Nat.le_of_ble_eq_true rfl) d_TU_covers_3 ⟨(Nat.le_of_ble_eq_true rfl), (Nat.le_of_ble_eq_true rfl)⟩ ⟨(Nat.le_of_ble_eq_true rfl), (Nat.le_of_ble_eq_true rfl)⟩ (g_K.no (fun _ h => h)) (fun r_ f2_ hp => ?_)
  obtain ⟨rfl, hf_⟩ := hp
  subst f2_
  refine g_st (st2 := [.int (nI (orS S acts n)), .int (nI need)]) rfl ?_
  refine g_iconst (v := (-1)) X d_TU_covers_6 (by decide) ?_
  refine g_ixor X d_TU_covers_7 ?_
  refine g_iand X d_TU_covers_8 ?_
  refine g_if_ne X 16 d_TU_covers_9 (by decide) (fun c9 => ?_) (fun c9 => ?_)
  · skip
    refine g_iconst (v := 0) X d_TU_covers_16 (by decide) ?_
    exact g_zret X rfl (by decide) (⟨by rw [show cov S n need acts = false from decide_eq_false (fun z => c9 ((cov_iff hne hb).mpr z))]; rfl, rfl⟩) (Nat.le_of_ble_eq_true rfl) (Nat.le_of_ble_eq_true rfl) d_TU_covers_17
  · skip
    refine g_iconst (v := 1) X d_TU_covers_12 (by decide) ?_
    refine g_goto X 17 d_TU_covers_13 (by decide) ?_
    exact g_zret X rfl (by decide) (⟨by rw [show cov S n need acts = true from decide_eq_true ((cov_iff hne hb).mp c9)]; rfl, rfl⟩) (Nat.le_of_ble_eq_true rfl) (Nat.le_of_ble_eq_true rfl) d_TU_covers_17
theorem full_lt {n : Nat} (h : n ≤ 8) : 2 ^ n - 1 < 256 := by
  have := Nat.pow_le_pow_right (n := 2) (by decide) h
  omega
theorem full_e {n : Nat} (h : n ≤ 8) : (1 : Int32) <<< (nI n &&& 31) - 1 = nI (2 ^ n - 1) := by
  rw [nI_bit (by omega)]
  exact nI_m1 (Nat.two_pow_pos n)
set_option maxHeartbeats 4000000 in
set_option maxRecDepth 100000 in
theorem c_TU_shownByAny {l : Launch} {D : va_G} {cI cZ cO cJ : ClassId} {eA eM : Nat} {f : g_F} {t : Nat} {a : Nat → Nat} {P Du S Wy Re : Nat → Nat} {n : Nat} (hR : tu_R cI f t a P Du S Wy Re n) (hB : tu_B P Du S Wy n) : g_C l y_TU_shownByAny b_TU_shownByAny 1 (some .int) { frames := 2, cells := 0, slots := 0, locals := 44 } D g_cl (g_tys cI cZ cO cJ) (z_Z eA eM) [.ref t] f (fun r f2 => r = some (.int (nI (orS S (2 ^ n - 1) n))) ∧ f2 = f) (fun _ => False) := by
  refine g_ofW [(0, .ref t)] (by decide +kernel) (Nat.le_of_ble_eq_true rfl) rfl ?_
  intro p e s m args below meth c X ht hin
  obtain ⟨hT, h0, h1, h2, h3, h4⟩ := id hR
  obtain ⟨hn8, hP, hDu, hS, hWy⟩ := id hB
  refine g_aload_n X d_TU_shownByAny_0 0 rfl ?_
  refine g_iconst (v := 1) X d_TU_shownByAny_1 (by decide) ?_
  refine g_aload_n X d_TU_shownByAny_2 0 rfl ?_
  refine g_get (ci := 2) (C := R_TU) (T := F_TU) (N := 6) (v := .int (nI n)) X i_TU rfl hT 5 (by decide) q_89 (fun _ h9 => h9) rfl d_TU_shownByAny_3 ?_
  refine g_ishl X d_TU_shownByAny_6 ?_
  refine g_iconst (v := 1) X d_TU_shownByAny_7 (by decide) ?_
  refine g_isub X d_TU_shownByAny_8 ?_
  refine g_eqi (y := nI (2 ^ n - 1)) (full_e hn8) ?_
  refine g_callV (ci := 2) (As := [.int (nI (2 ^ n - 1))]) (rest := []) X (z_ok eA eM) rfl rfl hT (c_TU_shownBy hR hB (acts := 2 ^ n - 1) (Nat.lt_trans (full_lt hn8) (by decide))) v_TU_shownBy q_463 q_s9 q_461 rfl rfl (Nat.le_of_ble_eq_true rfl) d_TU_shownByAny_9 ⟨(Nat.le_of_ble_eq_true rfl), (Nat.le_of_ble_eq_true rfl)⟩ ⟨(Nat.le_of_ble_eq_true rfl), (Nat.le_of_ble_eq_true rfl)⟩ (g_K.no (fun _ h => h)) (fun r_ f2_ hp => ?_)
  obtain ⟨rfl, hf_⟩ := hp
  subst f2_
  refine g_st (st2 := [.int (nI (orS S (2 ^ n - 1) n))]) rfl ?_
  exact g_iret X rfl (⟨rfl, rfl⟩) (Nat.le_of_ble_eq_true rfl) (Nat.le_of_ble_eq_true rfl) d_TU_shownByAny_12
/-- the weight of beginning with an act; of going on with one -/
abbrev wF (Du Re : Nat → Nat) (i : Nat) : Nat := Du i * 16 + 1 + Re (2 ^ i * 8 + i)
abbrev wN (P Du Wy Re : Nat → Nat) (done last i : Nat) : Nat := (tu_wy P Wy last i + Du i) * 16 + 1 + Re ((done ||| 2 ^ i) * 8 + i)
theorem pw8 {i : Nat} (h : i < 8) : 2 ^ i < 256 := Nat.lt_of_lt_of_le (Nat.pow_lt_pow_right (by decide) h) (by decide)
theorem or8 {a i : Nat} (ha : a < 256) (h : i < 8) : a ||| 2 ^ i < 256 := or_lt (k := 8) ha (pw8 h)
set_option maxHeartbeats 4000000 in
set_option maxRecDepth 100000 in
theorem c_TU_weightOfFirst {l : Launch} {D : va_G} {cI cZ cO cJ : ClassId} {eA eM : Nat} {f : g_F} {t : Nat} {a : Nat → Nat} {P Du S Wy Re : Nat → Nat} {n : Nat} (hR : tu_R cI f t a P Du S Wy Re n) (hB : tu_B P Du S Wy n) (hRe : ∀ i, Re i ≤ 2 ^ 28) {i : Nat} (hi : i < 8) : g_C l y_TU_weightOfFirst b_TU_weightOfFirst 2 (some .int) { frames := 1, cells := 0, slots := 0, locals := 20 } D g_cl (g_tys cI cZ cO cJ) (z_Z eA eM) [.ref t, .int (nI i)] f (fun r f2 => r = some (.int (nI (wF Du Re i))) ∧ f2 = f) (fun _ => False) := by
  refine g_ofW [(0, .ref t), (1, .int (nI i))] (by decide +kernel) (Nat.le_of_ble_eq_true rfl) rfl ?_
  intro p e s m args below meth c X ht hin
  obtain ⟨hT, h0, h1, h2, h3, h4⟩ := id hR
  obtain ⟨hn8, hP, hDu, hS, hWy⟩ := id hB
  have hb : 2 ^ i * 8 + i < 2048 := by have := pw8 hi; omega
  refine g_aload_n X d_TU_weightOfFirst_0 0 rfl ?_
  refine g_get (ci := 2) (C := R_TU) (T := F_TU) (N := 6) (v := .ref (a 1)) X i_TU rfl hT 1 (by decide) q_85 (fun _ h9 => h9) rfl d_TU_weightOfFirst_1 ?_
  refine g_iload_n X d_TU_weightOfFirst_4 1 rfl ?_
  refine g_iald (t0 := 0) (v := nI (Du i)) X h1 rfl (nI_ix (hi) (by decide)) (nI_cl (g := fun q9 => nI (Du q9)) (Nat.lt_trans (hi) (by decide))) d_TU_weightOfFirst_5 ?_
  refine g_callS (As := [.int (nI (Du i))]) (rest := []) X (z_ok eA eM) (c_TU_weight (f := f) (x := Du i) (Nat.le_trans (hDu i) (by decide))) v_TU_weight q_491 q_490 rfl rfl (Nat.le_of_ble_eq_true rfl) d_TU_weightOfFirst_6 ⟨(Nat.le_of_ble_eq_true rfl), (Nat.le_of_ble_eq_true rfl)⟩ ⟨(Nat.le_of_ble_eq_true rfl), (Nat.le_of_ble_eq_true rfl)⟩ (g_K.no (fun _ h => h)) (fun r_ f2_ hp => ?_)
  obtain ⟨rfl, hf_⟩ := hp
  subst f2_
  refine g_st (st2 := [.int (nI ((Du i) * 16 + 1))]) rfl ?_
  refine g_aload_n X d_TU_weightOfFirst_9 0 rfl ?_
  refine g_get (ci := 2) (C := R_TU) (T := F_TU) (N := 6) (v := .ref (a 4)) X i_TU rfl hT 4 (by decide) q_88 (fun _ h9 => h9) rfl d_TU_weightOfFirst_10 ?_
  refine g_iconst (v := 1) X d_TU_weightOfFirst_13 (by decide) ?_
  refine g_iload_n X d_TU_weightOfFirst_14 1 rfl ?_
  refine g_ishl X d_TU_weightOfFirst_15 ?_
  refine g_eqi (y := nI (2 ^ i)) (nI_bit (by omega)) ?_
  refine g_bipush (v := 8) X d_TU_weightOfFirst_16 (by decide) ?_
  refine g_imul X d_TU_weightOfFirst_18 ?_
  refine g_eqi (y := nI (2 ^ i * 8)) (nI_mul _ 8) ?_
  refine g_iload_n X d_TU_weightOfFirst_19 1 rfl ?_
  refine g_iadd X d_TU_weightOfFirst_20 ?_
  refine g_eqi (y := nI (2 ^ i * 8 + i)) (nI_add _ _) ?_
  refine g_iald (t0 := 0) (v := nI (Re (2 ^ i * 8 + i))) X h4 rfl (nI_ix (hb) (by decide)) (nI_cl (g := fun q9 => nI (Re q9)) (Nat.lt_trans (hb) (by decide))) d_TU_weightOfFirst_21 ?_
  refine g_iadd X d_TU_weightOfFirst_22 ?_
  refine g_eqi (y := nI (wF Du Re i)) (nI_add _ _) ?_
  exact g_iret X rfl (⟨rfl, rfl⟩) (Nat.le_of_ble_eq_true rfl) (Nat.le_of_ble_eq_true rfl) d_TU_weightOfFirst_23
set_option maxHeartbeats 4000000 in
set_option maxRecDepth 100000 in
theorem c_TU_weightOfNext {l : Launch} {D : va_G} {cI cZ cO cJ : ClassId} {eA eM : Nat} {f : g_F} {t : Nat} {a : Nat → Nat} {P Du S Wy Re : Nat → Nat} {n : Nat} (hR : tu_R cI f t a P Du S Wy Re n) (hB : tu_B P Du S Wy n) (hRe : ∀ i, Re i ≤ 2 ^ 28) {done last i : Nat} (hd : done < 256) (hla : last < 8) (hi : i < 8) : g_C l y_TU_weightOfNext b_TU_weightOfNext 5 (some .int) { frames := 1, cells := 0, slots := 0, locals := 22 } D g_cl (g_tys cI cZ cO cJ) (z_Z eA eM) [.ref t, .int (nI done), .int (nI last), .int (nI i)] f (fun r f2 => r = some (.int (nI (wN P Du Wy Re done last i))) ∧ f2 = f) (fun _ => False) := by
  refine g_ofW [(0, .ref t), (1, .int (nI done)), (2, .int (nI last)), (3, .int (nI i))] (by decide +kernel) (Nat.le_of_ble_eq_true rfl) rfl ?_
  intro p e s m args below meth c X ht hin
  obtain ⟨hT, h0, h1, h2, h3, h4⟩ := id hR
  obtain ⟨hn8, hP, hDu, hS, hWy⟩ := id hB
  have hb : (done ||| 2 ^ i) * 8 + i < 2048 := by have := or8 hd hi; omega
  refine g_aload_n X d_TU_weightOfNext_0 0 rfl ?_
  refine g_iload_n X d_TU_weightOfNext_1 2 rfl ?_
  refine g_iload_n X d_TU_weightOfNext_2 3 rfl ?_
  refine g_callV (ci := 2) (As := [.int (nI last), .int (nI i)]) (rest := []) X (z_ok eA eM) rfl rfl hT (c_TU_wayBetween hR hB hla hi) v_TU_wayBetween q_488 q_s14 q_486 rfl rfl (Nat.le_of_ble_eq_true rfl) d_TU_weightOfNext_3 ⟨(Nat.le_of_ble_eq_true rfl), (Nat.le_of_ble_eq_true rfl)⟩ ⟨(Nat.le_of_ble_eq_true rfl), (Nat.le_of_ble_eq_true rfl)⟩ (g_K.no (fun _ h => h)) (fun r_ f2_ hp => ?_)
  obtain ⟨rfl, hf_⟩ := hp
  subst f2_
  refine g_st (st2 := [.int (nI (tu_wy P Wy last i))]) rfl ?_
  refine g_aload_n X d_TU_weightOfNext_6 0 rfl ?_
  refine g_get (ci := 2) (C := R_TU) (T := F_TU) (N := 6) (v := .ref (a 1)) X i_TU rfl hT 1 (by decide) q_85 (fun _ h9 => h9) rfl d_TU_weightOfNext_7 ?_
  refine g_iload_n X d_TU_weightOfNext_10 3 rfl ?_
  refine g_iald (t0 := 0) (v := nI (Du i)) X h1 rfl (nI_ix (hi) (by decide)) (nI_cl (g := fun q9 => nI (Du q9)) (Nat.lt_trans (hi) (by decide))) d_TU_weightOfNext_11 ?_
  refine g_iadd X d_TU_weightOfNext_12 ?_
  refine g_eqi (y := nI (tu_wy P Wy last i + Du i)) (nI_add _ _) ?_
  refine g_callS (As := [.int (nI (tu_wy P Wy last i + Du i))]) (rest := []) X (z_ok eA eM) (c_TU_weight (f := f) (x := tu_wy P Wy last i + Du i) (by have := hDu i; have h9 : tu_wy P Wy last i ≤ 10000 := hWy _; omega)) v_TU_weight q_491 q_490 rfl rfl (Nat.le_of_ble_eq_true rfl) d_TU_weightOfNext_13 ⟨(Nat.le_of_ble_eq_true rfl), (Nat.le_of_ble_eq_true rfl)⟩ ⟨(Nat.le_of_ble_eq_true rfl), (Nat.le_of_ble_eq_true rfl)⟩ (g_K.no (fun _ h => h)) (fun r_ f2_ hp => ?_)
  obtain ⟨rfl, hf_⟩ := hp
  subst f2_
  refine g_st (st2 := [.int (nI ((tu_wy P Wy last i + Du i) * 16 + 1))]) rfl ?_
  refine g_istore (lv' := [(4, .int (nI ((tu_wy P Wy last i + Du i) * 16 + 1))), (0, .ref t), (1, .int (nI done)), (2, .int (nI last)), (3, .int (nI i))]) X d_TU_weightOfNext_16 (by decide) rfl ?_
  refine g_iload X d_TU_weightOfNext_18 0 rfl ?_
  refine g_aload_n X d_TU_weightOfNext_20 1 rfl ?_
  refine g_get (ci := 2) (C := R_TU) (T := F_TU) (N := 6) (v := .ref (a 4)) X i_TU rfl hT 4 (by decide) q_88 (fun _ h9 => h9) rfl d_TU_weightOfNext_21 ?_
  refine g_iload_n X d_TU_weightOfNext_24 2 rfl ?_
  refine g_iconst (v := 1) X d_TU_weightOfNext_25 (by decide) ?_
  refine g_iload_n X d_TU_weightOfNext_26 4 rfl ?_
  refine g_ishl X d_TU_weightOfNext_27 ?_
  refine g_eqi (y := nI (2 ^ i)) (nI_bit (by omega)) ?_
  refine g_ior X d_TU_weightOfNext_28 ?_
  refine g_eqi (y := nI (done ||| 2 ^ i)) (nI_or _ _) ?_
  refine g_bipush (v := 8) X d_TU_weightOfNext_29 (by decide) ?_
  refine g_imul X d_TU_weightOfNext_31 ?_
  refine g_eqi (y := nI ((done ||| 2 ^ i) * 8)) (nI_mul _ 8) ?_
  refine g_iload_n X d_TU_weightOfNext_32 4 rfl ?_
  refine g_iadd X d_TU_weightOfNext_33 ?_
  refine g_eqi (y := nI ((done ||| 2 ^ i) * 8 + i)) (nI_add _ _) ?_
  refine g_iald (t0 := 0) (v := nI (Re ((done ||| 2 ^ i) * 8 + i))) X h4 rfl (nI_ix (hb) (by decide)) (nI_cl (g := fun q9 => nI (Re q9)) (Nat.lt_trans (hb) (by decide))) d_TU_weightOfNext_34 ?_
  refine g_iadd X d_TU_weightOfNext_35 ?_
  refine g_eqi (y := nI (wN P Du Wy Re done last i)) (nI_add _ _) ?_
  exact g_iret X rfl (⟨rfl, rfl⟩) (Nat.le_of_ble_eq_true rfl) (Nat.le_of_ble_eq_true rfl) d_TU_weightOfNext_36
/-- the least weight of going on, among the acts below a number -/
def lrest (P Du Wy Re : Nat → Nat) (done last : Nat) : Nat → Nat
  | 0 => 2 ^ 28
  | i + 1 => if done.testBit i then lrest P Du Wy Re done last i else min (lrest P Du Wy Re done last i) (wN P Du Wy Re done last i)
theorem lrest_le (P Du Wy Re : Nat → Nat) (done last : Nat) : ∀ i, lrest P Du Wy Re done last i ≤ 2 ^ 28
  | 0 => Nat.le_refl _
  | i + 1 => by
    unfold lrest
    split
    · exact lrest_le P Du Wy Re done last i
    · exact Nat.le_trans (Nat.min_le_left _ _) (lrest_le P Du Wy Re done last i)
theorem wN_lt {P Du S Wy Re : Nat → Nat} {n : Nat} (hB : tu_B P Du S Wy n) (hRe : ∀ i, Re i ≤ 2 ^ 28) (done last i : Nat) : wN P Du Wy Re done last i < 2 ^ 31 := by
  have h1 := hB.2.2.1 i
  have h2 := hB.2.2.2.2 (P last * 10 + P i)
  have h3 := hRe ((done ||| 2 ^ i) * 8 + i)
  show (Wy (P last * 10 + P i) + Du i) * 16 + 1 + Re ((done ||| 2 ^ i) * 8 + i) < 2 ^ 31
  omega
theorem wF_lt {P Du S Wy Re : Nat → Nat} {n : Nat} (hB : tu_B P Du S Wy n) (hRe : ∀ i, Re i ≤ 2 ^ 28) (i : Nat) : wF Du Re i < 2 ^ 31 := by
  have h1 := hB.2.2.1 i
  have h3 := hRe (2 ^ i * 8 + i)
  show Du i * 16 + 1 + Re (2 ^ i * 8 + i) < 2 ^ 31
  omega
set_option maxHeartbeats 4000000 in
set_option maxRecDepth 100000 in
theorem L_TU_leastRest {p : Program} {l : Launch} {e : Env} {s : State} {m : MethodId} {args : Array Value} {below : List Frame} {meth : Method} {c : Code} {Q : State → Prop} {A : Nat → Prop} {D : va_G} {cI cZ cO cJ : ClassId} {eA eM : Nat} {f : g_F} {t : Nat} {a : Nat → Nat} {P Du S Wy Re : Nat → Nat} {n : Nat} (hR : tu_R cI f t a P Du S Wy Re n) (hB : tu_B P Du S Wy n) (hRe : ∀ i, Re i ≤ 2 ^ 28) {done last : Nat} (hd : done < 256) (hla : last < 8) (X : g_X p s m args meth c b_TU_leastRest 5 (some .int) g_T y_TU_leastRest.cls D g_cl (g_tys cI cZ cO cJ) A (z_Z eA eM)) (kk : g_W p l e { frames := 2, cells := 0, slots := 0, locals := 46 } s m args below meth c 5 D g_cl A f 0 0 Q 43 [(4, .int (nI n)), (3, .int (nI (lrest P Du Wy Re done last n))), (0, .ref t), (1, .int (nI done)), (2, .int (nI last))] []) : ∀ (d : Nat) (i : Nat), (i + d = n) → g_W p l e { frames := 2, cells := 0, slots := 0, locals := 46 } s m args below meth c 5 D g_cl A f 0 0 Q 6 [(4, .int (nI i)), (3, .int (nI (lrest P Du Wy Re done last i))), (0, .ref t), (1, .int (nI done)), (2, .int (nI last))] [] := by
  obtain ⟨hT, h0, h1, h2, h3, h4⟩ := id hR
  obtain ⟨hn8, hP, hDu, hS, hWy⟩ := id hB
  intro d
  induction d using Nat.strongRecOn with
  | _ d ih =>
    intro i hi
    refine g_iload X d_TU_leastRest_6 0 rfl ?_
    refine g_aload_n X d_TU_leastRest_8 2 rfl ?_
    refine g_get (ci := 2) (C := R_TU) (T := F_TU) (N := 6) (v := .int (nI n)) X i_TU rfl hT 5 (by decide) q_89 (fun _ h9 => h9) rfl d_TU_leastRest_9 ?_
    refine g_icmp_ge X 43 d_TU_leastRest_12 (by decide) (fun c12 => ?_) (fun c12 => ?_)
    · skip
      have e : i = n := by have := (nI_leI (by omega) (by omega)).mp c12; omega
      subst e
      exact kk
    · skip
      have hlt : i < n := Nat.lt_of_not_le (fun z => c12 ((nI_leI (by omega) (by omega)).mpr z))
      refine g_iload_n X d_TU_leastRest_15 3 rfl ?_
      refine g_iload X d_TU_leastRest_16 0 rfl ?_
      refine g_callSN (As := [.int (nI done), .int (nI i)]) (rest := []) X (z_ok eA eM) (c_CL_holds (f := f) (a := done) (k := i) (by omega) (by omega)) v_CL_holds q_367 (X.2.2.2.2.2.2.2.1.1) (fun _ h => h) rfl rfl (Nat.le_of_ble_eq_true rfl) d_TU_leastRest_18 ⟨(Nat.le_of_ble_eq_true rfl), (Nat.le_of_ble_eq_true rfl)⟩ ⟨(Nat.le_of_ble_eq_true rfl), (Nat.le_of_ble_eq_true rfl)⟩ (fun r_ f2_ hp => ?_)
      obtain ⟨rfl, hf_⟩ := hp
      subst f2_
      refine g_st (st2 := [.int (bI (Nat.testBit done i))]) rfl ?_
      refine g_if_ne X 37 d_TU_leastRest_21 (by decide) (fun c21 => ?_) (fun c21 => ?_)
      · skip
        have e : lrest P Du Wy Re done last (i + 1) = lrest P Du Wy Re done last i := if_pos (bt_nf (fun z => c21 (bI_z.mpr z)))
        refine g_iinc (lv' := [(4, .int (nI (i + 1))), (3, .int (nI (lrest P Du Wy Re done last i))), (0, .ref t), (1, .int (nI done)), (2, .int (nI last))]) X d_TU_leastRest_37 0 rfl (nI_1 i) (by decide) rfl ?_
        refine g_goto X 6 d_TU_leastRest_40 (by decide) ?_
        rw [← e]
        exact g_lv [0, 1, 2, 3, 4] rfl (ih (d - 1) (by omega) (i + 1) (by omega))
      · skip
        have e : lrest P Du Wy Re done last (i + 1) = min (lrest P Du Wy Re done last i) (wN P Du Wy Re done last i) := if_neg (by rw [bI_z.mp c21]; decide)
        refine g_iload_n X d_TU_leastRest_24 1 rfl ?_
        refine g_aload_n X d_TU_leastRest_25 2 rfl ?_
        refine g_iload_n X d_TU_leastRest_26 3 rfl ?_
        refine g_iload_n X d_TU_leastRest_27 4 rfl ?_
        refine g_iload X d_TU_leastRest_28 0 rfl ?_
        refine g_callV (ci := 2) (As := [.int (nI done), .int (nI last), .int (nI i)]) (rest := [.int (nI (lrest P Du Wy Re done last i))]) X (z_ok eA eM) rfl rfl hT (c_TU_weightOfNext hR hB hRe hd hla (i := i) (by omega)) v_TU_weightOfNext q_484 q_s13 q_482 rfl rfl (Nat.le_of_ble_eq_true rfl) d_TU_leastRest_30 ⟨(Nat.le_of_ble_eq_true rfl), (Nat.le_of_ble_eq_true rfl)⟩ ⟨(Nat.le_of_ble_eq_true rfl), (Nat.le_of_ble_eq_true rfl)⟩ (g_K.no (fun _ h => h)) (fun r_ f2_ hp => ?_)
        obtain ⟨rfl, hf_⟩ := hp
        subst f2_
        refine g_st (st2 := [.int (nI (wN P Du Wy Re done last i)), .int (nI (lrest P Du Wy Re done last i))]) rfl ?_
        refine g_mmin (a := lrest P Du Wy Re done last i) (b := wN P Du Wy Re done last i) X q_493 (Nat.lt_of_le_of_lt (lrest_le _ _ _ _ _ _ i) (by decide)) (wN_lt hB hRe done last i) (Nat.le_of_ble_eq_true rfl) (Nat.le_of_ble_eq_true rfl) (Nat.le_of_ble_eq_true rfl) (Nat.le_of_ble_eq_true rfl) d_TU_leastRest_33 ?_
        refine g_istore_n (lv' := [(3, .int (nI (min (lrest P Du Wy Re done last i) (wN P Du Wy Re done last i)))), (4, .int (nI i)), (0, .ref t), (1, .int (nI done)), (2, .int (nI last))]) X d_TU_leastRest_36 rfl (by decide) rfl ?_
        refine g_iinc (lv' := [(4, .int (nI (i + 1))), (3, .int (nI (min (lrest P Du Wy Re done last i) (wN P Du Wy Re done last i)))), (0, .ref t), (1, .int (nI done)), (2, .int (nI last))]) X d_TU_leastRest_37 1 rfl (nI_1 i) (by decide) rfl ?_
        refine g_goto X 6 d_TU_leastRest_40 (by decide) ?_
        rw [← e]
        exact g_lv [0, 1, 2, 3, 4] rfl (ih (d - 1) (by omega) (i + 1) (by omega))
set_option maxHeartbeats 4000000 in
set_option maxRecDepth 100000 in
theorem c_TU_leastRest {l : Launch} {D : va_G} {cI cZ cO cJ : ClassId} {eA eM : Nat} {f : g_F} {t : Nat} {a : Nat → Nat} {P Du S Wy Re : Nat → Nat} {n : Nat} (hR : tu_R cI f t a P Du S Wy Re n) (hB : tu_B P Du S Wy n) (hRe : ∀ i, Re i ≤ 2 ^ 28) {done last : Nat} (hd : done < 256) (hla : last < 8) : g_C l y_TU_leastRest b_TU_leastRest 5 (some .int) { frames := 2, cells := 0, slots := 0, locals := 46 } D g_cl (g_tys cI cZ cO cJ) (z_Z eA eM) [.ref t, .int (nI done), .int (nI last)] f (fun r f2 => r = some (.int (nI (lrest P Du Wy Re done last n))) ∧ f2 = f) (fun _ => False) := by
  refine g_ofW [(0, .ref t), (1, .int (nI done)), (2, .int (nI last))] (by decide +kernel) (Nat.le_of_ble_eq_true rfl) rfl ?_
  intro p e s m args below meth c X ht hin
  refine g_ldc (v := 268435456) X q_481 d_TU_leastRest_0 ?_
  refine g_istore_n (lv' := [(3, .int 268435456), (0, .ref t), (1, .int (nI done)), (2, .int (nI last))]) X d_TU_leastRest_2 rfl (by decide) rfl ?_
  refine g_iconst (v := 0) X d_TU_leastRest_3 (by decide) ?_
  refine g_istore (lv' := [(4, .int 0), (3, .int 268435456), (0, .ref t), (1, .int (nI done)), (2, .int (nI last))]) X d_TU_leastRest_4 (by decide) rfl ?_
  refine L_TU_leastRest hR hB hRe hd hla X ?_ n 0 (by omega)
  exact g_iload_n X d_TU_leastRest_43 1 rfl (g_iret X rfl ⟨rfl, rfl⟩ (Nat.le_of_ble_eq_true rfl) (Nat.le_of_ble_eq_true rfl) d_TU_leastRest_44)
/-- the least act of the least value below 2 ^ 28, and that value -/
def am (g : Nat → Nat) : Nat → Int32 × Nat
  | 0 => (-1, 2 ^ 28)
  | i + 1 => if g i < (am g i).2 then (nI i, g i) else am g i
theorem am_le (g : Nat → Nat) : ∀ i, (am g i).2 ≤ 2 ^ 28
  | 0 => Nat.le_refl _
  | i + 1 => by
    unfold am
    split
    · rename_i h
      exact Nat.le_of_lt (Nat.lt_of_lt_of_le h (am_le g i))
    · exact am_le g i
/-- what bestNext weighs -/
abbrev bN (P Du Wy Re : Nat → Nat) (done last i : Nat) : Nat := if done.testBit i then 2 ^ 28 else wN P Du Wy Re done last i
set_option maxHeartbeats 4000000 in
set_option maxRecDepth 100000 in
theorem L_TU_bestFirst {p : Program} {l : Launch} {e : Env} {s : State} {m : MethodId} {args : Array Value} {below : List Frame} {meth : Method} {c : Code} {Q : State → Prop} {A : Nat → Prop} {D : va_G} {cI cZ cO cJ : ClassId} {eA eM : Nat} {f : g_F} {t : Nat} {a : Nat → Nat} {P Du S Wy Re : Nat → Nat} {n : Nat} (hR : tu_R cI f t a P Du S Wy Re n) (hB : tu_B P Du S Wy n) (hRe : ∀ i, Re i ≤ 2 ^ 28) (X : g_X p s m args meth c b_TU_bestFirst 5 (some .int) g_T y_TU_bestFirst.cls D g_cl (g_tys cI cZ cO cJ) A (z_Z eA eM)) (kk : ∀ x4 : List (Nat × Value), g_W p l e { frames := 2, cells := 0, slots := 0, locals := 41 } s m args below meth c 5 D g_cl A f 0 0 Q 39 [(3, .int (nI n)), (2, .int (nI (am (wF Du Re) n).2)), (1, .int ((am (wF Du Re) n).1)), (0, .ref t)] []) : ∀ (d : Nat) (i : Nat), (i + d = n) → g_W p l e { frames := 2, cells := 0, slots := 0, locals := 41 } s m args below meth c 5 D g_cl A f 0 0 Q 7 [(3, .int (nI i)), (2, .int (nI (am (wF Du Re) i).2)), (1, .int ((am (wF Du Re) i).1)), (0, .ref t)] [] := by
  obtain ⟨hT, h0, h1, h2, h3, h4⟩ := id hR
  obtain ⟨hn8, hP, hDu, hS, hWy⟩ := id hB
  intro d
  induction d using Nat.strongRecOn with
  | _ d ih =>
    intro i hi
    refine g_iload_n X d_TU_bestFirst_7 0 rfl ?_
    refine g_aload_n X d_TU_bestFirst_8 3 rfl ?_
    refine g_get (ci := 2) (C := R_TU) (T := F_TU) (N := 6) (v := .int (nI n)) X i_TU rfl hT 5 (by decide) q_89 (fun _ h9 => h9) rfl d_TU_bestFirst_9 ?_
    refine g_icmp_ge X 39 d_TU_bestFirst_12 (by decide) (fun c12 => ?_) (fun c12 => ?_)
    · skip
      have e : i = n := by have := (nI_leI (by omega) (by omega)).mp c12; omega
      subst e
      exact kk []
    · skip
      have hlt : i < n := Nat.lt_of_not_le (fun z => c12 ((nI_leI (by omega) (by omega)).mpr z))
      refine g_aload_n X d_TU_bestFirst_15 3 rfl ?_
      refine g_iload_n X d_TU_bestFirst_16 0 rfl ?_
      refine g_callV (ci := 2) (As := [.int (nI i)]) (rest := []) X (z_ok eA eM) rfl rfl hT (c_TU_weightOfFirst hR hB hRe (i := i) (by omega)) v_TU_weightOfFirst q_500 q_s16 q_498 rfl rfl (Nat.le_of_ble_eq_true rfl) d_TU_bestFirst_17 ⟨(Nat.le_of_ble_eq_true rfl), (Nat.le_of_ble_eq_true rfl)⟩ ⟨(Nat.le_of_ble_eq_true rfl), (Nat.le_of_ble_eq_true rfl)⟩ (g_K.no (fun _ h => h)) (fun r_ f2_ hp => ?_)
      obtain ⟨rfl, hf_⟩ := hp
      subst f2_
      refine g_st (st2 := [.int (nI (wF Du Re i))]) rfl ?_
      refine g_istore (lv' := [(4, .int (nI (wF Du Re i))), (3, .int (nI i)), (2, .int (nI (am (wF Du Re) i).2)), (1, .int ((am (wF Du Re) i).1)), (0, .ref t)]) X d_TU_bestFirst_20 (by decide) rfl ?_
      refine g_iload X d_TU_bestFirst_22 0 rfl ?_
      refine g_iload_n X d_TU_bestFirst_24 2 rfl ?_
      refine g_icmp_ge X 33 d_TU_bestFirst_25 (by decide) (fun c25 => ?_) (fun c25 => ?_)
      · skip
        have e : am (wF Du Re) (i + 1) = am (wF Du Re) i := if_neg (Nat.not_lt.mpr ((nI_leI (by have := am_le (wF Du Re) i; omega) (wF_lt hB hRe i)).mp c25))
        refine g_iinc (lv' := [(3, .int (nI (i + 1))), (4, .int (nI (wF Du Re i))), (2, .int (nI (am (wF Du Re) i).2)), (1, .int ((am (wF Du Re) i).1)), (0, .ref t)]) X d_TU_bestFirst_33 1 rfl (nI_1 i) (by decide) rfl ?_
        refine g_goto X 7 d_TU_bestFirst_36 (by decide) ?_
        refine g_lv (lv' := [(3, .int (nI (i + 1))), (2, .int (nI (am (wF Du Re) (i + 1)).2)), (1, .int (am (wF Du Re) (i + 1)).1), (0, .ref t)]) [0, 2, 3, 4] (by rw [e]; rfl) (ih (d - 1) (by omega) (i + 1) (by omega))
      · skip
        have e : am (wF Du Re) (i + 1) = (nI i, wF Du Re i) := if_pos (Nat.lt_of_not_le (fun z => c25 ((nI_leI (by have := am_le (wF Du Re) i; omega) (wF_lt hB hRe i)).mpr z)))
        refine g_iload X d_TU_bestFirst_28 0 rfl ?_
        refine g_istore_n (lv' := [(2, .int (nI (wF Du Re i))), (4, .int (nI (wF Du Re i))), (3, .int (nI i)), (1, .int ((am (wF Du Re) i).1)), (0, .ref t)]) X d_TU_bestFirst_30 rfl (by decide) rfl ?_
        refine g_iload_n X d_TU_bestFirst_31 2 rfl ?_
        refine g_istore_n (lv' := [(1, .int (nI i)), (2, .int (nI (wF Du Re i))), (4, .int (nI (wF Du Re i))), (3, .int (nI i)), (0, .ref t)]) X d_TU_bestFirst_32 rfl (by decide) rfl ?_
        refine g_iinc (lv' := [(3, .int (nI (i + 1))), (1, .int (nI i)), (2, .int (nI (wF Du Re i))), (4, .int (nI (wF Du Re i))), (0, .ref t)]) X d_TU_bestFirst_33 3 rfl (nI_1 i) (by decide) rfl ?_
        refine g_goto X 7 d_TU_bestFirst_36 (by decide) ?_
        refine g_lv (lv' := [(3, .int (nI (i + 1))), (2, .int (nI (am (wF Du Re) (i + 1)).2)), (1, .int (am (wF Du Re) (i + 1)).1), (0, .ref t)]) [0, 2, 1, 4] (by rw [e]; rfl) (ih (d - 1) (by omega) (i + 1) (by omega))
set_option maxHeartbeats 4000000 in
set_option maxRecDepth 100000 in
theorem c_TU_bestFirst {l : Launch} {D : va_G} {cI cZ cO cJ : ClassId} {eA eM : Nat} {f : g_F} {t : Nat} {a : Nat → Nat} {P Du S Wy Re : Nat → Nat} {n : Nat} (hR : tu_R cI f t a P Du S Wy Re n) (hB : tu_B P Du S Wy n) (hRe : ∀ i, Re i ≤ 2 ^ 28) : g_C l y_TU_bestFirst b_TU_bestFirst 5 (some .int) { frames := 2, cells := 0, slots := 0, locals := 41 } D g_cl (g_tys cI cZ cO cJ) (z_Z eA eM) [.ref t] f (fun r f2 => r = some (.int (am (wF Du Re) n).1) ∧ f2 = f) (fun _ => False) := by
  refine g_ofW [(0, .ref t)] (by decide +kernel) (Nat.le_of_ble_eq_true rfl) rfl ?_
  intro p e s m args below meth c X ht hin
  refine g_iconst (v := (-1)) X d_TU_bestFirst_0 (by decide) ?_
  refine g_istore_n (lv' := [(1, .int (-1)), (0, .ref t)]) X d_TU_bestFirst_1 rfl (by decide) rfl ?_
  refine g_ldc (v := 268435456) X q_481 d_TU_bestFirst_2 ?_
  refine g_istore_n (lv' := [(2, .int 268435456), (1, .int (-1)), (0, .ref t)]) X d_TU_bestFirst_4 rfl (by decide) rfl ?_
  refine g_iconst (v := 0) X d_TU_bestFirst_5 (by decide) ?_
  refine g_istore_n (lv' := [(3, .int 0), (2, .int 268435456), (1, .int (-1)), (0, .ref t)]) X d_TU_bestFirst_6 rfl (by decide) rfl ?_
  refine g_lv [0, 1, 2, 3] rfl (L_TU_bestFirst hR hB hRe X ?_ n 0 (by omega))
  exact fun _ => g_iload_n X d_TU_bestFirst_39 2 rfl (g_iret X rfl ⟨rfl, rfl⟩ (Nat.le_of_ble_eq_true rfl) (Nat.le_of_ble_eq_true rfl) d_TU_bestFirst_40)
set_option maxHeartbeats 4000000 in
set_option maxRecDepth 100000 in
theorem L_TU_bestNext {p : Program} {l : Launch} {e : Env} {s : State} {m : MethodId} {args : Array Value} {below : List Frame} {meth : Method} {c : Code} {Q : State → Prop} {A : Nat → Prop} {D : va_G} {cI cZ cO cJ : ClassId} {eA eM : Nat} {f : g_F} {t : Nat} {a : Nat → Nat} {P Du S Wy Re : Nat → Nat} {n : Nat} (hR : tu_R cI f t a P Du S Wy Re n) (hB : tu_B P Du S Wy n) (hRe : ∀ i, Re i ≤ 2 ^ 28) {done last : Nat} (hd : done < 256) (hla : last < 8) (X : g_X p s m args meth c b_TU_bestNext 7 (some .int) g_T y_TU_bestNext.cls D g_cl (g_tys cI cZ cO cJ) A (z_Z eA eM)) (kk : g_W p l e { frames := 2, cells := 0, slots := 0, locals := 46 } s m args below meth c 7 D g_cl A f 0 0 Q 62 [(5, .int (nI n)), (4, .int (nI (am (bN P Du Wy Re done last) n).2)), (3, .int ((am (bN P Du Wy Re done last) n).1)), (0, .ref t), (1, .int (nI done)), (2, .int (nI last))] []) : ∀ (d : Nat) (i : Nat), (i + d = n) → g_W p l e { frames := 2, cells := 0, slots := 0, locals := 46 } s m args below meth c 7 D g_cl A f 0 0 Q 9 [(5, .int (nI i)), (4, .int (nI (am (bN P Du Wy Re done last) i).2)), (3, .int ((am (bN P Du Wy Re done last) i).1)), (0, .ref t), (1, .int (nI done)), (2, .int (nI last))] [] := by
  obtain ⟨hT, h0, h1, h2, h3, h4⟩ := id hR
  obtain ⟨hn8, hP, hDu, hS, hWy⟩ := id hB
  intro d
  induction d using Nat.strongRecOn with
  | _ d ih =>
    intro i hi
    refine g_iload X d_TU_bestNext_9 0 rfl ?_
    refine g_aload_n X d_TU_bestNext_11 3 rfl ?_
    refine g_get (ci := 2) (C := R_TU) (T := F_TU) (N := 6) (v := .int (nI n)) X i_TU rfl hT 5 (by decide) q_89 (fun _ h9 => h9) rfl d_TU_bestNext_12 ?_
    refine g_icmp_ge X 62 d_TU_bestNext_15 (by decide) (fun c15 => ?_) (fun c15 => ?_)
    · skip
      have e : i = n := by have := (nI_leI (by omega) (by omega)).mp c15; omega
      subst e
      exact kk
    · skip
      have hlt : i < n := Nat.lt_of_not_le (fun z => c15 ((nI_leI (by omega) (by omega)).mpr z))
      have hbl : bN P Du Wy Re done last i < 2 ^ 31 := by
        show (if done.testBit i then 2 ^ 28 else wN P Du Wy Re done last i) < 2 ^ 31
        split
        · decide
        · exact wN_lt hB hRe done last i
      have hal : (am (bN P Du Wy Re done last) i).2 < 2 ^ 31 := by have := am_le (bN P Du Wy Re done last) i; omega
      refine g_iload_n X d_TU_bestNext_18 4 rfl ?_
      refine g_iload X d_TU_bestNext_19 0 rfl ?_
      refine g_callSN (As := [.int (nI done), .int (nI i)]) (rest := []) X (z_ok eA eM) (c_CL_holds (f := f) (a := done) (k := i) (by omega) (by omega)) v_CL_holds q_367 (X.2.2.2.2.2.2.2.1.1) (fun _ h => h) rfl rfl (Nat.le_of_ble_eq_true rfl) d_TU_bestNext_21 ⟨(Nat.le_of_ble_eq_true rfl), (Nat.le_of_ble_eq_true rfl)⟩ ⟨(Nat.le_of_ble_eq_true rfl), (Nat.le_of_ble_eq_true rfl)⟩ (fun r_ f2_ hp => ?_)
      obtain ⟨rfl, hf_⟩ := hp
      subst f2_
      refine g_st (st2 := [.int (bI (Nat.testBit done i))]) rfl ?_
      refine g_if_eq X 32 d_TU_bestNext_24 (by decide) (fun c24 => ?_) (fun c24 => ?_)
      · skip
        refine g_aload_n X d_TU_bestNext_32 3 rfl ?_
        refine g_iload_n X d_TU_bestNext_33 4 rfl ?_
        refine g_iload_n X d_TU_bestNext_34 5 rfl ?_
        refine g_iload X d_TU_bestNext_35 0 rfl ?_
        refine g_callV (ci := 2) (As := [.int (nI done), .int (nI last), .int (nI i)]) (rest := []) X (z_ok eA eM) rfl rfl hT (c_TU_weightOfNext hR hB hRe hd hla (i := i) (by omega)) v_TU_weightOfNext q_484 q_s13 q_482 rfl rfl (Nat.le_of_ble_eq_true rfl) d_TU_bestNext_37 ⟨(Nat.le_of_ble_eq_true rfl), (Nat.le_of_ble_eq_true rfl)⟩ ⟨(Nat.le_of_ble_eq_true rfl), (Nat.le_of_ble_eq_true rfl)⟩ (g_K.no (fun _ h => h)) (fun r_ f2_ hp => ?_)
        obtain ⟨rfl, hf_⟩ := hp
        subst f2_
        refine g_st (st2 := [.int (nI (wN P Du Wy Re done last i))]) rfl ?_
        refine g_eqi (y := nI (bN P Du Wy Re done last i)) (by rw [show bN P Du Wy Re done last i = wN P Du Wy Re done last i from if_neg (by rw [bI_z.mp c24]; decide)]) ?_
        refine g_istore (lv' := [(6, .int (nI (bN P Du Wy Re done last i))), (5, .int (nI i)), (4, .int (nI (am (bN P Du Wy Re done last) i).2)), (3, .int ((am (bN P Du Wy Re done last) i).1)), (0, .ref t), (1, .int (nI done)), (2, .int (nI last))]) X d_TU_bestNext_40 (by decide) rfl ?_
        refine g_iload X d_TU_bestNext_42 0 rfl ?_
        refine g_iload X d_TU_bestNext_44 2 rfl ?_
        refine g_icmp_ge X 56 d_TU_bestNext_46 (by decide) (fun c46 => ?_) (fun c46 => ?_)
        · skip
          have e : am (bN P Du Wy Re done last) (i + 1) = am (bN P Du Wy Re done last) i := if_neg (Nat.not_lt.mpr ((nI_leI hal hbl).mp c46))
          refine g_iinc (lv' := [(5, .int (nI (i + 1))), (6, .int (nI (bN P Du Wy Re done last i))), (4, .int (nI (am (bN P Du Wy Re done last) i).2)), (3, .int ((am (bN P Du Wy Re done last) i).1)), (0, .ref t), (1, .int (nI done)), (2, .int (nI last))]) X d_TU_bestNext_56 1 rfl (nI_1 i) (by decide) rfl ?_
          refine g_goto X 9 d_TU_bestNext_59 (by decide) ?_
          refine g_lv (lv' := [(5, .int (nI (i + 1))), (4, .int (nI (am (bN P Du Wy Re done last) (i + 1)).2)), (3, .int (am (bN P Du Wy Re done last) (i + 1)).1), (0, .ref t), (1, .int (nI done)), (2, .int (nI last))]) [0, 2, 3, 4, 5, 6] (by rw [e]; rfl) (ih (d - 1) (by omega) (i + 1) (by omega))
        · skip
          have e : am (bN P Du Wy Re done last) (i + 1) = (nI i, bN P Du Wy Re done last i) := if_pos (Nat.lt_of_not_le (fun z => c46 ((nI_leI hal hbl).mpr z)))
          refine g_iload X d_TU_bestNext_49 0 rfl ?_
          refine g_istore (lv' := [(4, .int (nI (bN P Du Wy Re done last i))), (6, .int (nI (bN P Du Wy Re done last i))), (5, .int (nI i)), (3, .int ((am (bN P Du Wy Re done last) i).1)), (0, .ref t), (1, .int (nI done)), (2, .int (nI last))]) X d_TU_bestNext_51 (by decide) rfl ?_
          refine g_iload X d_TU_bestNext_53 2 rfl ?_
          refine g_istore_n (lv' := [(3, .int (nI i)), (4, .int (nI (bN P Du Wy Re done last i))), (6, .int (nI (bN P Du Wy Re done last i))), (5, .int (nI i)), (0, .ref t), (1, .int (nI done)), (2, .int (nI last))]) X d_TU_bestNext_55 rfl (by decide) rfl ?_
          refine g_iinc (lv' := [(5, .int (nI (i + 1))), (3, .int (nI i)), (4, .int (nI (bN P Du Wy Re done last i))), (6, .int (nI (bN P Du Wy Re done last i))), (0, .ref t), (1, .int (nI done)), (2, .int (nI last))]) X d_TU_bestNext_56 3 rfl (nI_1 i) (by decide) rfl ?_
          refine g_goto X 9 d_TU_bestNext_59 (by decide) ?_
          refine g_lv (lv' := [(5, .int (nI (i + 1))), (4, .int (nI (am (bN P Du Wy Re done last) (i + 1)).2)), (3, .int (am (bN P Du Wy Re done last) (i + 1)).1), (0, .ref t), (1, .int (nI done)), (2, .int (nI last))]) [0, 2, 1, 4, 5, 6] (by rw [e]; rfl) (ih (d - 1) (by omega) (i + 1) (by omega))
      · skip
        refine g_ldc (v := 268435456) X q_481 d_TU_bestNext_27 ?_
        refine g_goto X 40 d_TU_bestNext_29 (by decide) ?_
        refine g_eqi (y := nI (bN P Du Wy Re done last i)) (by rw [show bN P Du Wy Re done last i = 2 ^ 28 from if_pos (bt_nf (fun z => c24 (bI_z.mpr z)))]; rfl) ?_
        refine g_istore (lv' := [(6, .int (nI (bN P Du Wy Re done last i))), (5, .int (nI i)), (4, .int (nI (am (bN P Du Wy Re done last) i).2)), (3, .int ((am (bN P Du Wy Re done last) i).1)), (0, .ref t), (1, .int (nI done)), (2, .int (nI last))]) X d_TU_bestNext_40 (by decide) rfl ?_
        refine g_iload X d_TU_bestNext_42 0 rfl ?_
        refine g_iload X d_TU_bestNext_44 2 rfl ?_
        refine g_icmp_ge X 56 d_TU_bestNext_46 (by decide) (fun c46 => ?_) (fun c46 => ?_)
        · skip
          have e : am (bN P Du Wy Re done last) (i + 1) = am (bN P Du Wy Re done last) i := if_neg (Nat.not_lt.mpr ((nI_leI hal hbl).mp c46))
          refine g_iinc (lv' := [(5, .int (nI (i + 1))), (6, .int (nI (bN P Du Wy Re done last i))), (4, .int (nI (am (bN P Du Wy Re done last) i).2)), (3, .int ((am (bN P Du Wy Re done last) i).1)), (0, .ref t), (1, .int (nI done)), (2, .int (nI last))]) X d_TU_bestNext_56 1 rfl (nI_1 i) (by decide) rfl ?_
          refine g_goto X 9 d_TU_bestNext_59 (by decide) ?_
          refine g_lv (lv' := [(5, .int (nI (i + 1))), (4, .int (nI (am (bN P Du Wy Re done last) (i + 1)).2)), (3, .int (am (bN P Du Wy Re done last) (i + 1)).1), (0, .ref t), (1, .int (nI done)), (2, .int (nI last))]) [0, 2, 3, 4, 5, 6] (by rw [e]; rfl) (ih (d - 1) (by omega) (i + 1) (by omega))
        · skip
          have e : am (bN P Du Wy Re done last) (i + 1) = (nI i, bN P Du Wy Re done last i) := if_pos (Nat.lt_of_not_le (fun z => c46 ((nI_leI hal hbl).mpr z)))
          refine g_iload X d_TU_bestNext_49 0 rfl ?_
          refine g_istore (lv' := [(4, .int (nI (bN P Du Wy Re done last i))), (6, .int (nI (bN P Du Wy Re done last i))), (5, .int (nI i)), (3, .int ((am (bN P Du Wy Re done last) i).1)), (0, .ref t), (1, .int (nI done)), (2, .int (nI last))]) X d_TU_bestNext_51 (by decide) rfl ?_
          refine g_iload X d_TU_bestNext_53 2 rfl ?_
          refine g_istore_n (lv' := [(3, .int (nI i)), (4, .int (nI (bN P Du Wy Re done last i))), (6, .int (nI (bN P Du Wy Re done last i))), (5, .int (nI i)), (0, .ref t), (1, .int (nI done)), (2, .int (nI last))]) X d_TU_bestNext_55 rfl (by decide) rfl ?_
          refine g_iinc (lv' := [(5, .int (nI (i + 1))), (3, .int (nI i)), (4, .int (nI (bN P Du Wy Re done last i))), (6, .int (nI (bN P Du Wy Re done last i))), (0, .ref t), (1, .int (nI done)), (2, .int (nI last))]) X d_TU_bestNext_56 3 rfl (nI_1 i) (by decide) rfl ?_
          refine g_goto X 9 d_TU_bestNext_59 (by decide) ?_
          refine g_lv (lv' := [(5, .int (nI (i + 1))), (4, .int (nI (am (bN P Du Wy Re done last) (i + 1)).2)), (3, .int (am (bN P Du Wy Re done last) (i + 1)).1), (0, .ref t), (1, .int (nI done)), (2, .int (nI last))]) [0, 2, 1, 4, 5, 6] (by rw [e]; rfl) (ih (d - 1) (by omega) (i + 1) (by omega))
set_option maxHeartbeats 4000000 in
set_option maxRecDepth 100000 in
theorem c_TU_bestNext {l : Launch} {D : va_G} {cI cZ cO cJ : ClassId} {eA eM : Nat} {f : g_F} {t : Nat} {a : Nat → Nat} {P Du S Wy Re : Nat → Nat} {n : Nat} (hR : tu_R cI f t a P Du S Wy Re n) (hB : tu_B P Du S Wy n) (hRe : ∀ i, Re i ≤ 2 ^ 28) {done last : Nat} (hd : done < 256) (hla : last < 8) : g_C l y_TU_bestNext b_TU_bestNext 7 (some .int) { frames := 2, cells := 0, slots := 0, locals := 46 } D g_cl (g_tys cI cZ cO cJ) (z_Z eA eM) [.ref t, .int (nI done), .int (nI last)] f (fun r f2 => r = some (.int (am (bN P Du Wy Re done last) n).1) ∧ f2 = f) (fun _ => False) := by
  refine g_ofW [(0, .ref t), (1, .int (nI done)), (2, .int (nI last))] (by decide +kernel) (Nat.le_of_ble_eq_true rfl) rfl ?_
  intro p e s m args below meth c X ht hin
  refine g_iconst (v := (-1)) X d_TU_bestNext_0 (by decide) ?_
  refine g_istore_n (lv' := [(3, .int (-1)), (0, .ref t), (1, .int (nI done)), (2, .int (nI last))]) X d_TU_bestNext_1 rfl (by decide) rfl ?_
  refine g_ldc (v := 268435456) X q_481 d_TU_bestNext_2 ?_
  refine g_istore (lv' := [(4, .int 268435456), (3, .int (-1)), (0, .ref t), (1, .int (nI done)), (2, .int (nI last))]) X d_TU_bestNext_4 (by decide) rfl ?_
  refine g_iconst (v := 0) X d_TU_bestNext_6 (by decide) ?_
  refine g_istore (lv' := [(5, .int 0), (4, .int 268435456), (3, .int (-1)), (0, .ref t), (1, .int (nI done)), (2, .int (nI last))]) X d_TU_bestNext_7 (by decide) rfl ?_
  refine g_lv [0, 1, 2, 3, 4, 5] rfl (L_TU_bestNext hR hB hRe hd hla X ?_ n 0 (by omega))
  exact g_iload_n X d_TU_bestNext_62 2 rfl (g_iret X rfl ⟨rfl, rfl⟩ (Nat.le_of_ble_eq_true rfl) (Nat.le_of_ble_eq_true rfl) d_TU_bestNext_63)
/-- the seconds of the first acts of an order -/
def secs (P Du Wy O : Nat → Nat) : Nat → Nat
  | 0 => 0
  | 1 => Du (O 0)
  | i + 2 => secs P Du Wy O (i + 1) + Du (O (i + 1)) + tu_wy P Wy (O i) (O (i + 1))
theorem secs_le {P Du Wy O : Nat → Nat} (h1 : ∀ i, Du i ≤ 10000) (h2 : ∀ i, Wy i ≤ 10000) : ∀ i, secs P Du Wy O i ≤ i * 20000
  | 0 => Nat.le_refl _
  | 1 => by have := h1 (O 0); show Du (O 0) ≤ 1 * 20000; omega
  | i + 2 => by
    have a := h1 (O (i + 1))
    have b := h2 (P (O i) * 10 + P (O (i + 1)))
    have c := secs_le (P := P) (O := O) h1 h2 (i + 1)
    show secs P Du Wy O (i + 1) + Du (O (i + 1)) + Wy (P (O i) * 10 + P (O (i + 1))) ≤ (i + 2) * 20000
    omega
set_option maxHeartbeats 4000000 in
set_option maxRecDepth 100000 in
theorem L_TU_secondsOf {p : Program} {l : Launch} {e : Env} {s : State} {m : MethodId} {args : Array Value} {below : List Frame} {meth : Method} {c : Code} {Q : State → Prop} {A : Nat → Prop} {D : va_G} {cI cZ cO cJ : ClassId} {eA eM : Nat} {f : g_F} {t : Nat} {a : Nat → Nat} {P Du S Wy Re : Nat → Nat} {n : Nat} (hR : tu_R cI f t a P Du S Wy Re n) (hB : tu_B P Du S Wy n) {rp len : Nat} {O : Nat → Nat} (hO : f rp = some (.inl (cI, 8, .inl (fun i => nI (O i))))) (hlen : len ≤ 8) (hO8 : ∀ i, i < len → O i < 8) (X : g_X p s m args meth c b_TU_secondsOf 5 (some .int) g_T y_TU_secondsOf.cls D g_cl (g_tys cI cZ cO cJ) A (z_Z eA eM)) (kk : g_W p l e { frames := 1, cells := 0, slots := 0, locals := 22 } s m args below meth c 5 D g_cl A f 0 0 Q 58 [(4, .int (nI len)), (3, .int (nI (secs P Du Wy O len))), (0, .ref t), (1, .ref rp), (2, .int (nI len))] []) : ∀ (d : Nat) (i : Nat), (i + d = len) → g_W p l e { frames := 1, cells := 0, slots := 0, locals := 22 } s m args below meth c 5 D g_cl A f 0 0 Q 5 [(4, .int (nI i)), (3, .int (nI (secs P Du Wy O i))), (0, .ref t), (1, .ref rp), (2, .int (nI len))] [] := by
  obtain ⟨hT, h0, h1, h2, h3, h4⟩ := id hR
  obtain ⟨hn8, hP, hDu, hS, hWy⟩ := id hB
  intro d
  induction d using Nat.strongRecOn with
  | _ d ih =>
    intro i hi
    refine g_iload X d_TU_secondsOf_5 0 rfl ?_
    refine g_iload_n X d_TU_secondsOf_7 4 rfl ?_
    refine g_icmp_ge X 58 d_TU_secondsOf_8 (by decide) (fun c8 => ?_) (fun c8 => ?_)
    · skip
      have e : i = len := by have := (nI_leI (by omega) (by omega)).mp c8; omega
      subst e
      exact kk
    · skip
      have hlt : i < len := Nat.lt_of_not_le (fun z => c8 ((nI_leI (by omega) (by omega)).mpr z))
      refine g_iload X d_TU_secondsOf_11 0 rfl ?_
      refine g_aload_n X d_TU_secondsOf_13 3 rfl ?_
      refine g_alen (t0 := 0) (v := nI 8) X hO rfl rfl d_TU_secondsOf_14 ?_
      refine g_icmp_ge X 58 d_TU_secondsOf_15 (by decide) (fun c15 => ?_) (fun c15 => ?_)
      · skip
        exact absurd ((nI_leI (by decide) (by omega)).mp c15) (by omega)
      · skip
        refine g_iload_n X d_TU_secondsOf_18 1 rfl ?_
        refine g_aload_n X d_TU_secondsOf_19 2 rfl ?_
        refine g_get (ci := 2) (C := R_TU) (T := F_TU) (N := 6) (v := .ref (a 1)) X i_TU rfl hT 1 (by decide) q_85 (fun _ h9 => h9) rfl d_TU_secondsOf_20 ?_
        refine g_aload_n X d_TU_secondsOf_23 3 rfl ?_
        refine g_iload X d_TU_secondsOf_24 0 rfl ?_
        refine g_iald (t0 := 0) (v := nI (O i)) X hO rfl (nI_ix ((by omega : i < 8)) (by decide)) (nI_cl (g := fun q9 => nI (O q9)) (Nat.lt_trans ((by omega : i < 8)) (by decide))) d_TU_secondsOf_26 ?_
        refine g_iald (t0 := 0) (v := nI (Du (O i))) X h1 rfl (nI_ix (hO8 i hlt) (by decide)) (nI_cl (g := fun q9 => nI (Du q9)) (Nat.lt_trans (hO8 i hlt) (by decide))) d_TU_secondsOf_27 ?_
        refine g_iadd X d_TU_secondsOf_28 ?_
        refine g_eqi (y := nI (secs P Du Wy O i + Du (O i))) (nI_add _ _) ?_
        refine g_istore_n (lv' := [(3, .int (nI (secs P Du Wy O i + Du (O i)))), (4, .int (nI i)), (0, .ref t), (1, .ref rp), (2, .int (nI len))]) X d_TU_secondsOf_29 rfl (by decide) rfl ?_
        refine g_iload X d_TU_secondsOf_30 1 rfl ?_
        refine g_if_le X 52 d_TU_secondsOf_32 (by decide) (fun c32 => ?_) (fun c32 => ?_)
        · skip
          have hz : i = 0 := by
            have := (nI_leI (a := i) (b := 0) (by omega) (by decide)).mp c32
            omega
          have e : secs P Du Wy O (i + 1) = secs P Du Wy O i + Du (O i) := by subst hz; show Du (O 0) = 0 + Du (O 0); omega
          refine g_iinc (lv' := [(4, .int (nI (i + 1))), (3, .int (nI (secs P Du Wy O i + Du (O i)))), (0, .ref t), (1, .ref rp), (2, .int (nI len))]) X d_TU_secondsOf_52 1 rfl (nI_1 i) (by decide) rfl ?_
          refine g_goto X 5 d_TU_secondsOf_55 (by decide) ?_
          rw [← e]
          exact g_lv [0, 1, 2, 3, 4] rfl (ih (d - 1) (by omega) (i + 1) (by omega))
        · skip
          have hz : 0 < i := Nat.lt_of_not_le (fun z => c32 ((nI_leI (a := i) (b := 0) (by omega) (by decide)).mpr z))
          have e : secs P Du Wy O (i + 1) = secs P Du Wy O i + Du (O i) + tu_wy P Wy (O (i - 1)) (O i) := by
            obtain ⟨k, rfl⟩ : ∃ k, i = k + 1 := ⟨i - 1, by omega⟩
            rfl
          refine g_iload_n X d_TU_secondsOf_35 0 rfl ?_
          refine g_aload_n X d_TU_secondsOf_36 2 rfl ?_
          refine g_aload_n X d_TU_secondsOf_37 3 rfl ?_
          refine g_iload X d_TU_secondsOf_38 1 rfl ?_
          refine g_iconst (v := 1) X d_TU_secondsOf_40 (by decide) ?_
          refine g_isub X d_TU_secondsOf_41 ?_
          refine g_eqi (y := nI (i - 1)) (nI_m1 (by omega)) ?_
          refine g_iald (t0 := 0) (v := nI (O (i - 1))) X hO rfl (nI_ix ((by omega : i - 1 < 8)) (by decide)) (nI_cl (g := fun q9 => nI (O q9)) (Nat.lt_trans ((by omega : i - 1 < 8)) (by decide))) d_TU_secondsOf_42 ?_
          refine g_aload_n X d_TU_secondsOf_43 3 rfl ?_
          refine g_iload X d_TU_secondsOf_44 1 rfl ?_
          refine g_iald (t0 := 0) (v := nI (O i)) X hO rfl (nI_ix ((by omega : i < 8)) (by decide)) (nI_cl (g := fun q9 => nI (O q9)) (Nat.lt_trans ((by omega : i < 8)) (by decide))) d_TU_secondsOf_46 ?_
          refine g_callV (ci := 2) (As := [.int (nI (O (i - 1))), .int (nI (O i))]) (rest := [.int (nI (secs P Du Wy O i + Du (O i)))]) X (z_ok eA eM) rfl rfl hT (c_TU_wayBetween hR hB (hO8 (i - 1) (by omega)) (hO8 i hlt)) v_TU_wayBetween q_488 q_s14 q_486 rfl rfl (Nat.le_of_ble_eq_true rfl) d_TU_secondsOf_47 ⟨(Nat.le_of_ble_eq_true rfl), (Nat.le_of_ble_eq_true rfl)⟩ ⟨(Nat.le_of_ble_eq_true rfl), (Nat.le_of_ble_eq_true rfl)⟩ (g_K.no (fun _ h => h)) (fun r_ f2_ hp => ?_)
          obtain ⟨rfl, hf_⟩ := hp
          subst f2_
          refine g_st (st2 := [.int (nI (tu_wy P Wy (O (i - 1)) (O i))), .int (nI (secs P Du Wy O i + Du (O i)))]) rfl ?_
          refine g_iadd X d_TU_secondsOf_50 ?_
          refine g_eqi (y := nI (secs P Du Wy O i + Du (O i) + tu_wy P Wy (O (i - 1)) (O i))) (nI_add _ _) ?_
          refine g_istore_n (lv' := [(3, .int (nI (secs P Du Wy O i + Du (O i) + tu_wy P Wy (O (i - 1)) (O i)))), (4, .int (nI i)), (0, .ref t), (1, .ref rp), (2, .int (nI len))]) X d_TU_secondsOf_51 rfl (by decide) rfl ?_
          refine g_iinc (lv' := [(4, .int (nI (i + 1))), (3, .int (nI (secs P Du Wy O i + Du (O i) + tu_wy P Wy (O (i - 1)) (O i)))), (0, .ref t), (1, .ref rp), (2, .int (nI len))]) X d_TU_secondsOf_52 1 rfl (nI_1 i) (by decide) rfl ?_
          refine g_goto X 5 d_TU_secondsOf_55 (by decide) ?_
          rw [← e]
          exact g_lv [0, 1, 2, 3, 4] rfl (ih (d - 1) (by omega) (i + 1) (by omega))
set_option maxHeartbeats 4000000 in
set_option maxRecDepth 100000 in
theorem c_TU_secondsOf {l : Launch} {D : va_G} {cI cZ cO cJ : ClassId} {eA eM : Nat} {f : g_F} {t : Nat} {a : Nat → Nat} {P Du S Wy Re : Nat → Nat} {n : Nat} (hR : tu_R cI f t a P Du S Wy Re n) (hB : tu_B P Du S Wy n) {rp len : Nat} {O : Nat → Nat} (hO : f rp = some (.inl (cI, 8, .inl (fun i => nI (O i))))) (hlen : len ≤ 8) (hO8 : ∀ i, i < len → O i < 8) : g_C l y_TU_secondsOf b_TU_secondsOf 5 (some .int) { frames := 1, cells := 0, slots := 0, locals := 22 } D g_cl (g_tys cI cZ cO cJ) (z_Z eA eM) [.ref t, .ref rp, .int (nI len)] f (fun r f2 => r = some (.int (nI (secs P Du Wy O len))) ∧ f2 = f) (fun _ => False) := by
  refine g_ofW [(0, .ref t), (1, .ref rp), (2, .int (nI len))] (by decide +kernel) (Nat.le_of_ble_eq_true rfl) rfl ?_
  intro p e s m args below meth c X ht hin
  refine g_iconst (v := 0) X d_TU_secondsOf_0 (by decide) ?_
  refine g_istore_n (lv' := [(3, .int 0), (0, .ref t), (1, .ref rp), (2, .int (nI len))]) X d_TU_secondsOf_1 rfl (by decide) rfl ?_
  refine g_iconst (v := 0) X d_TU_secondsOf_2 (by decide) ?_
  refine g_istore (lv' := [(4, .int 0), (3, .int 0), (0, .ref t), (1, .ref rp), (2, .int (nI len))]) X d_TU_secondsOf_3 (by decide) rfl ?_
  refine L_TU_secondsOf hR hB hO hlen hO8 X ?_ len 0 (by omega)
  exact g_iload_n X d_TU_secondsOf_58 1 rfl (g_iret X rfl ⟨rfl, rfl⟩ (Nat.le_of_ble_eq_true rfl) (Nat.le_of_ble_eq_true rfl) d_TU_secondsOf_59)
