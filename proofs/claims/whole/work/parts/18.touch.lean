/-- a day or none: 0 is none, d + 1 the day d -/
def fI (x : Nat) : Int32 := nI x - 1
theorem fI_0 : fI 0 = -1 := by decide
theorem fI_s (d : Nat) : fI (d + 1) = nI d := nI_pred d
theorem fI_toInt {x : Nat} (h : x < 2 ^ 30) : (fI x).toInt = (x : Int) - 1 := pk_sub_toInt (b := 1) h (by decide)
theorem fI_le {d x : Nat} (hd : d < 2 ^ 30) (hx : x < 2 ^ 30) : nI d ≤ fI x ↔ d + 1 ≤ x := by
  rw [Int32.le_iff_toInt_le, fI_toInt hx, nI_toInt (by omega)]; omega
theorem fI_leN {d x : Nat} (hd : d < 2 ^ 30) (hx : x < 2 ^ 30) : fI x ≤ nI d ↔ x ≤ d + 1 := by
  rw [Int32.le_iff_toInt_le, fI_toInt hx, nI_toInt (by omega)]; omega
theorem fI_ltN {d x : Nat} (hd : d < 2 ^ 30) (hx : x < 2 ^ 30) : nI d < fI x ↔ d + 1 < x := by
  rw [Int32.lt_iff_toInt_lt, fI_toInt hx, nI_toInt (by omega)]; omega
theorem fI_n {x : Nat} (hx : x < 2 ^ 30) : fI x = -1 ↔ x = 0 := by
  constructor
  · intro h
    have := fI_toInt hx
    rw [h, show (-1 : Int32).toInt = -1 by decide] at this
    omega
  · intro h; subst h; exact fI_0
/-- the touch log's cells -/
def tl_R (cI : ClassId) (f : g_F) (g : Nat) (b : Nat → Nat) (td ts : Nat → Nat) (n : Nat) : Prop :=
  f g = some (.inr (1, [.ref (b 0), .ref (b 1), .int (nI n)])) ∧ f (b 0) = some (.inl (cI, 512, .inl (fun q9 => nI (td q9)))) ∧ f (b 1) = some (.inl (cI, 512, .inl (fun q9 => nI (ts q9))))
def tl_B (td ts : Nat → Nat) (n : Nat) : Prop := n ≤ 512 ∧ (∀ i, td i ≤ 100000) ∧ ∀ i, ts i < 2 ^ 24
/-- the latest day up to dd on which the case k was touched (plus 1, 0 is none) -/
def ltst (td ts : Nat → Nat) (k dd : Nat) : Nat → Nat
  | 0 => 0
  | i + 1 => if td i ≤ dd ∧ ltst td ts k dd i < td i + 1 ∧ (ts i).testBit k = true then td i + 1 else ltst td ts k dd i
theorem ltst_le {td ts : Nat → Nat} (h : ∀ i, td i ≤ 100000) (k dd : Nat) : ∀ i, ltst td ts k dd i ≤ 100001
  | 0 => Nat.zero_le _
  | i + 1 => by
    unfold ltst
    split
    · have := h i; omega
    · exact ltst_le h k dd i
/-- the first day behind dd on which the case k was touched -/
def nbh (td ts : Nat → Nat) (k dd : Nat) : Nat → Nat
  | 0 => 0
  | i + 1 => if dd < td i ∧ (nbh td ts k dd i = 0 ∨ td i + 1 < nbh td ts k dd i) ∧ (ts i).testBit k = true then td i + 1 else nbh td ts k dd i
theorem nbh_le {td ts : Nat → Nat} (h : ∀ i, td i ≤ 100000) (k dd : Nat) : ∀ i, nbh td ts k dd i ≤ 100001
  | 0 => Nat.zero_le _
  | i + 1 => by
    unfold nbh
    split
    · have := h i; omega
    · exact nbh_le h k dd i
set_option maxHeartbeats 4000000 in
set_option maxRecDepth 100000 in
theorem L_TL_latest {p : Program} {l : Launch} {e : Env} {s : State} {m : MethodId} {args : Array Value} {below : List Frame} {meth : Method} {c : Code} {Q : State → Prop} {A : Nat → Prop} {D : va_G} {cI cZ cO cJ : ClassId} {eA eM : Nat} {f : g_F} {g : Nat} {b : Nat → Nat} {td ts : Nat → Nat} {n : Nat} (hR : tl_R cI f g b td ts n) (hB : tl_B td ts n) {k dd : Nat} (hk : k < 24) (hD : dd < 2 ^ 30) (X : g_X p s m args meth c b_TL_latest 5 (some .int) g_T y_TL_latest.cls D g_cl (g_tys cI cZ cO cJ) A (z_Z eA eM)) (kk : g_W p l e { frames := 1, cells := 0, slots := 0, locals := 21 } s m args below meth c 5 D g_cl A f 0 0 Q 64 [(4, .int (nI n)), (3, .int (fI (ltst td ts k dd n))), (0, .ref g), (1, .int (nI k)), (2, .int (nI dd))] []) : ∀ (d : Nat) (i : Nat), (i + d = n) → g_W p l e { frames := 1, cells := 0, slots := 0, locals := 21 } s m args below meth c 5 D g_cl A f 0 0 Q 5 [(4, .int (nI i)), (3, .int (fI (ltst td ts k dd i))), (0, .ref g), (1, .int (nI k)), (2, .int (nI dd))] [] := by
  obtain ⟨hG, h0, h1⟩ := id hR
  obtain ⟨hn, htd, hts⟩ := id hB
  intro d
  induction d using Nat.strongRecOn with
  | _ d ih =>
    intro i hi
    refine g_iload X d_TL_latest_5 0 rfl ?_
    refine g_aload_n X d_TL_latest_7 2 rfl ?_
    refine g_get (ci := 1) (C := R_TL) (T := F_TL) (N := 3) (v := .int (nI n)) X i_TL rfl hG 2 (by decide) q_69 (fun _ h9 => h9) rfl d_TL_latest_8 ?_
    refine g_icmp_ge X 64 d_TL_latest_11 (by decide) (fun c11 => ?_) (fun c11 => ?_)
    · skip
      have e : i = n := by have := (nI_leI (by omega) (by omega)).mp c11; omega
      subst e
      exact kk
    · skip
      have hlt : i < n := Nat.lt_of_not_le (fun z => c11 ((nI_leI (by omega) (by omega)).mpr z))
      have hla := ltst_le htd (ts := ts) k dd i
      have hti := htd i
      refine g_aload_n X d_TL_latest_14 2 rfl ?_
      refine g_get (ci := 1) (C := R_TL) (T := F_TL) (N := 3) (v := .ref (b 0)) X i_TL rfl hG 0 (by decide) q_67 (fun _ h9 => h9) rfl d_TL_latest_15 ?_
      refine g_iload X d_TL_latest_18 0 rfl ?_
      refine g_iald (t0 := 0) (v := nI (td i)) X h0 rfl (nI_ix ((by omega : i < 512)) (by decide)) (nI_cl (g := fun q9 => nI (td q9)) (Nat.lt_trans ((by omega : i < 512)) (by decide))) d_TL_latest_20 ?_
      refine g_iload_n X d_TL_latest_21 4 rfl ?_
      refine g_icmp_gt X 58 d_TL_latest_22 (by decide) (fun c22 => ?_) (fun c22 => ?_)
      · skip
        have e : ltst td ts k dd (i + 1) = ltst td ts k dd i := if_neg (fun z => absurd z.1 (Nat.not_le.mpr ((nI_ltI (by omega) (by omega)).mp c22)))
        refine g_iinc (lv' := [(4, .int (nI (i + 1))), (3, .int (fI (ltst td ts k dd i))), (0, .ref g), (1, .int (nI k)), (2, .int (nI dd))]) X d_TL_latest_58 0 rfl (nI_1 i) (by decide) rfl ?_
        refine g_goto X 5 d_TL_latest_61 (by decide) ?_
        refine g_lv (lv' := [(4, .int (nI (i + 1))), (3, .int (fI (ltst td ts k dd (i + 1)))), (0, .ref g), (1, .int (nI k)), (2, .int (nI dd))]) [0, 1, 2, 3, 4] (by rw [e]; rfl) (ih (d - 1) (by omega) (i + 1) (by omega))
      · skip
        have h22 : td i ≤ dd := Nat.le_of_not_lt (fun z => c22 ((nI_ltI (by omega) (by omega)).mpr z))
        refine g_aload_n X d_TL_latest_25 2 rfl ?_
        refine g_get (ci := 1) (C := R_TL) (T := F_TL) (N := 3) (v := .ref (b 0)) X i_TL rfl hG 0 (by decide) q_67 (fun _ h9 => h9) rfl d_TL_latest_26 ?_
        refine g_iload X d_TL_latest_29 0 rfl ?_
        refine g_iald (t0 := 0) (v := nI (td i)) X h0 rfl (nI_ix ((by omega : i < 512)) (by decide)) (nI_cl (g := fun q9 => nI (td q9)) (Nat.lt_trans ((by omega : i < 512)) (by decide))) d_TL_latest_31 ?_
        refine g_iload_n X d_TL_latest_32 1 rfl ?_
        refine g_icmp_le X 58 d_TL_latest_33 (by decide) (fun c33 => ?_) (fun c33 => ?_)
        · skip
          have e : ltst td ts k dd (i + 1) = ltst td ts k dd i := if_neg (fun z => absurd z.2.1 (Nat.not_lt.mpr ((fI_le (by omega) (by omega)).mp c33)))
          refine g_iinc (lv' := [(4, .int (nI (i + 1))), (3, .int (fI (ltst td ts k dd i))), (0, .ref g), (1, .int (nI k)), (2, .int (nI dd))]) X d_TL_latest_58 0 rfl (nI_1 i) (by decide) rfl ?_
          refine g_goto X 5 d_TL_latest_61 (by decide) ?_
          refine g_lv (lv' := [(4, .int (nI (i + 1))), (3, .int (fI (ltst td ts k dd (i + 1)))), (0, .ref g), (1, .int (nI k)), (2, .int (nI dd))]) [0, 1, 2, 3, 4] (by rw [e]; rfl) (ih (d - 1) (by omega) (i + 1) (by omega))
        · skip
          have h33 : ltst td ts k dd i < td i + 1 := Nat.lt_of_not_le (fun z => c33 ((fI_le (by omega) (by omega)).mpr z))
          refine g_aload_n X d_TL_latest_36 2 rfl ?_
          refine g_get (ci := 1) (C := R_TL) (T := F_TL) (N := 3) (v := .ref (b 1)) X i_TL rfl hG 1 (by decide) q_68 (fun _ h9 => h9) rfl d_TL_latest_37 ?_
          refine g_iload X d_TL_latest_40 0 rfl ?_
          refine g_iald (t0 := 0) (v := nI (ts i)) X h1 rfl (nI_ix ((by omega : i < 512)) (by decide)) (nI_cl (g := fun q9 => nI (ts q9)) (Nat.lt_trans ((by omega : i < 512)) (by decide))) d_TL_latest_42 ?_
          refine g_iload_n X d_TL_latest_43 3 rfl ?_
          refine g_callSN (As := [.int (nI (ts i)), .int (nI k)]) (rest := []) X (z_ok eA eM) (c_CL_holds (f := f) (a := ts i) (k := k) (Nat.lt_trans (hts i) (by decide)) (by omega)) v_CL_holds q_367 (X.2.2.2.2.2.2.2.1.2) (fun _ h => h) rfl rfl (Nat.le_of_ble_eq_true rfl) d_TL_latest_44 ⟨(Nat.le_of_ble_eq_true rfl), (Nat.le_of_ble_eq_true rfl)⟩ ⟨(Nat.le_of_ble_eq_true rfl), (Nat.le_of_ble_eq_true rfl)⟩ (fun r_ f2_ hp => ?_)
          obtain ⟨rfl, hf_⟩ := hp
          subst f2_
          refine g_st (st2 := [.int (bI (Nat.testBit (ts i) k))]) rfl ?_
          refine g_if_eq X 58 d_TL_latest_47 (by decide) (fun c47 => ?_) (fun c47 => ?_)
          · skip
            have e : ltst td ts k dd (i + 1) = ltst td ts k dd i := if_neg (fun z => absurd z.2.2 (by rw [bI_z.mp c47]; decide))
            refine g_iinc (lv' := [(4, .int (nI (i + 1))), (3, .int (fI (ltst td ts k dd i))), (0, .ref g), (1, .int (nI k)), (2, .int (nI dd))]) X d_TL_latest_58 0 rfl (nI_1 i) (by decide) rfl ?_
            refine g_goto X 5 d_TL_latest_61 (by decide) ?_
            refine g_lv (lv' := [(4, .int (nI (i + 1))), (3, .int (fI (ltst td ts k dd (i + 1)))), (0, .ref g), (1, .int (nI k)), (2, .int (nI dd))]) [0, 1, 2, 3, 4] (by rw [e]; rfl) (ih (d - 1) (by omega) (i + 1) (by omega))
          · skip
            have e : ltst td ts k dd (i + 1) = td i + 1 := if_pos ⟨h22, h33, bt_nf (fun z => c47 (bI_z.mpr z))⟩
            refine g_aload_n X d_TL_latest_50 2 rfl ?_
            refine g_get (ci := 1) (C := R_TL) (T := F_TL) (N := 3) (v := .ref (b 0)) X i_TL rfl hG 0 (by decide) q_67 (fun _ h9 => h9) rfl d_TL_latest_51 ?_
            refine g_iload X d_TL_latest_54 0 rfl ?_
            refine g_iald (t0 := 0) (v := nI (td i)) X h0 rfl (nI_ix ((by omega : i < 512)) (by decide)) (nI_cl (g := fun q9 => nI (td q9)) (Nat.lt_trans ((by omega : i < 512)) (by decide))) d_TL_latest_56 ?_
            refine g_istore_n (lv' := [(3, .int (nI (td i))), (4, .int (nI i)), (0, .ref g), (1, .int (nI k)), (2, .int (nI dd))]) X d_TL_latest_57 rfl (by decide) rfl ?_
            refine g_iinc (lv' := [(4, .int (nI (i + 1))), (3, .int (nI (td i))), (0, .ref g), (1, .int (nI k)), (2, .int (nI dd))]) X d_TL_latest_58 1 rfl (nI_1 i) (by decide) rfl ?_
            refine g_goto X 5 d_TL_latest_61 (by decide) ?_
            refine g_lv (lv' := [(4, .int (nI (i + 1))), (3, .int (fI (ltst td ts k dd (i + 1)))), (0, .ref g), (1, .int (nI k)), (2, .int (nI dd))]) [0, 1, 2, 3, 4] (by rw [e, fI_s]; rfl) (ih (d - 1) (by omega) (i + 1) (by omega))
set_option maxHeartbeats 4000000 in
set_option maxRecDepth 100000 in
theorem c_TL_latest {l : Launch} {D : va_G} {cI cZ cO cJ : ClassId} {eA eM : Nat} {f : g_F} {g : Nat} {b : Nat → Nat} {td ts : Nat → Nat} {n : Nat} (hR : tl_R cI f g b td ts n) (hB : tl_B td ts n) {k dd : Nat} (hk : k < 24) (hD : dd < 2 ^ 30) : g_C l y_TL_latest b_TL_latest 5 (some .int) { frames := 1, cells := 0, slots := 0, locals := 21 } D g_cl (g_tys cI cZ cO cJ) (z_Z eA eM) [.ref g, .int (nI k), .int (nI dd)] f (fun r f2 => r = some (.int (fI (ltst td ts k dd n))) ∧ f2 = f) (fun _ => False) := by
  refine g_ofW [(0, .ref g), (1, .int (nI k)), (2, .int (nI dd))] (by decide +kernel) (Nat.le_of_ble_eq_true rfl) rfl ?_
  intro p e s m args below meth c X ht hin
  refine g_iconst (v := (-1)) X d_TL_latest_0 (by decide) ?_
  refine g_istore_n (lv' := [(3, .int (-1)), (0, .ref g), (1, .int (nI k)), (2, .int (nI dd))]) X d_TL_latest_1 rfl (by decide) rfl ?_
  refine g_iconst (v := 0) X d_TL_latest_2 (by decide) ?_
  refine g_istore (lv' := [(4, .int 0), (3, .int (-1)), (0, .ref g), (1, .int (nI k)), (2, .int (nI dd))]) X d_TL_latest_3 (by decide) rfl ?_
  refine L_TL_latest hR hB hk hD X ?_ n 0 (by omega)
  exact g_iload_n X d_TL_latest_64 1 rfl (g_iret X rfl ⟨rfl, rfl⟩ (Nat.le_of_ble_eq_true rfl) (Nat.le_of_ble_eq_true rfl) d_TL_latest_65)
set_option maxHeartbeats 4000000 in
set_option maxRecDepth 100000 in
theorem L_TL_nextBehind {p : Program} {l : Launch} {e : Env} {s : State} {m : MethodId} {args : Array Value} {below : List Frame} {meth : Method} {c : Code} {Q : State → Prop} {A : Nat → Prop} {D : va_G} {cI cZ cO cJ : ClassId} {eA eM : Nat} {f : g_F} {g : Nat} {b : Nat → Nat} {td ts : Nat → Nat} {n : Nat} (hR : tl_R cI f g b td ts n) (hB : tl_B td ts n) {k dd : Nat} (hk : k < 24) (hD : dd < 2 ^ 30) (X : g_X p s m args meth c b_TL_nextBehind 6 (some .int) g_T y_TL_nextBehind.cls D g_cl (g_tys cI cZ cO cJ) A (z_Z eA eM)) (kk : g_W p l e { frames := 1, cells := 0, slots := 0, locals := 21 } s m args below meth c 6 D g_cl A f 0 0 Q 81 [(4, .int (nI n)), (3, .int (fI (nbh td ts k dd n))), (0, .ref g), (1, .int (nI k)), (2, .int (nI dd))] []) : ∀ (d : Nat) (i : Nat), (i + d = n) → g_W p l e { frames := 1, cells := 0, slots := 0, locals := 21 } s m args below meth c 6 D g_cl A f 0 0 Q 5 [(4, .int (nI i)), (3, .int (fI (nbh td ts k dd i))), (0, .ref g), (1, .int (nI k)), (2, .int (nI dd))] [] := by
  obtain ⟨hG, h0, h1⟩ := id hR
  obtain ⟨hn, htd, hts⟩ := id hB
  intro d
  induction d using Nat.strongRecOn with
  | _ d ih =>
    intro i hi
    refine g_iload X d_TL_nextBehind_5 0 rfl ?_
    refine g_aload_n X d_TL_nextBehind_7 2 rfl ?_
    refine g_get (ci := 1) (C := R_TL) (T := F_TL) (N := 3) (v := .int (nI n)) X i_TL rfl hG 2 (by decide) q_69 (fun _ h9 => h9) rfl d_TL_nextBehind_8 ?_
    refine g_icmp_ge X 81 d_TL_nextBehind_11 (by decide) (fun c11 => ?_) (fun c11 => ?_)
    · skip
      have e : i = n := by have := (nI_leI (by omega) (by omega)).mp c11; omega
      subst e
      exact kk
    · skip
      have hlt : i < n := Nat.lt_of_not_le (fun z => c11 ((nI_leI (by omega) (by omega)).mpr z))
      have hla := nbh_le htd (ts := ts) k dd i
      have hti := htd i
      refine g_iload_n X d_TL_nextBehind_14 1 rfl ?_
      refine g_iconst (v := (-1)) X d_TL_nextBehind_15 (by decide) ?_
      refine g_icmp_eq X 30 d_TL_nextBehind_16 (by decide) (fun c16 => ?_) (fun c16 => ?_)
      · skip
        skip
        refine g_iconst (v := 1) X d_TL_nextBehind_30 (by decide) ?_
        refine g_goto X 35 d_TL_nextBehind_31 (by decide) ?_
        refine g_eqi (y := bI (decide (nbh td ts k dd i = 0 ∨ td i + 1 < nbh td ts k dd i))) (by rw [decide_eq_true (Or.inl ((fI_n (by omega)).mp c16))]; rfl) ?_
        refine g_istore (lv' := [(5, .int (bI (decide (nbh td ts k dd i = 0 ∨ td i + 1 < nbh td ts k dd i)))), (4, .int (nI i)), (3, .int (fI (nbh td ts k dd i))), (0, .ref g), (1, .int (nI k)), (2, .int (nI dd))]) X d_TL_nextBehind_35 (by decide) rfl ?_
        refine g_aload_n X d_TL_nextBehind_37 3 rfl ?_
        refine g_get (ci := 1) (C := R_TL) (T := F_TL) (N := 3) (v := .ref (b 0)) X i_TL rfl hG 0 (by decide) q_67 (fun _ h9 => h9) rfl d_TL_nextBehind_38 ?_
        refine g_iload X d_TL_nextBehind_41 1 rfl ?_
        refine g_iald (t0 := 0) (v := nI (td i)) X h0 rfl (nI_ix ((by omega : i < 512)) (by decide)) (nI_cl (g := fun q9 => nI (td q9)) (Nat.lt_trans ((by omega : i < 512)) (by decide))) d_TL_nextBehind_43 ?_
        refine g_iload_n X d_TL_nextBehind_44 5 rfl ?_
        refine g_icmp_le X 75 d_TL_nextBehind_45 (by decide) (fun c45 => ?_) (fun c45 => ?_)
        · skip
          have e : nbh td ts k dd (i + 1) = nbh td ts k dd i := if_neg (fun z => absurd z.1 (Nat.not_lt.mpr ((nI_leI (by omega) (by omega)).mp c45)))
          refine g_iinc (lv' := [(4, .int (nI (i + 1))), (5, .int (bI (decide (nbh td ts k dd i = 0 ∨ td i + 1 < nbh td ts k dd i)))), (3, .int (fI (nbh td ts k dd i))), (0, .ref g), (1, .int (nI k)), (2, .int (nI dd))]) X d_TL_nextBehind_75 1 rfl (nI_1 i) (by decide) rfl ?_
          refine g_goto X 5 d_TL_nextBehind_78 (by decide) ?_
          refine g_lv (lv' := [(4, .int (nI (i + 1))), (3, .int (fI (nbh td ts k dd (i + 1)))), (0, .ref g), (1, .int (nI k)), (2, .int (nI dd))]) [0, 2, 3, 4, 5] (by rw [e]; rfl) (ih (d - 1) (by omega) (i + 1) (by omega))
        · skip
          have h45 : dd < td i := Nat.lt_of_not_le (fun z => c45 ((nI_leI (by omega) (by omega)).mpr z))
          refine g_iload X d_TL_nextBehind_48 0 rfl ?_
          refine g_if_eq X 75 d_TL_nextBehind_50 (by decide) (fun c50 => ?_) (fun c50 => ?_)
          · skip
            have e : nbh td ts k dd (i + 1) = nbh td ts k dd i := if_neg (fun z => absurd z.2.1 (of_decide_eq_false (bI_z.mp c50)))
            refine g_iinc (lv' := [(4, .int (nI (i + 1))), (5, .int (bI (decide (nbh td ts k dd i = 0 ∨ td i + 1 < nbh td ts k dd i)))), (3, .int (fI (nbh td ts k dd i))), (0, .ref g), (1, .int (nI k)), (2, .int (nI dd))]) X d_TL_nextBehind_75 1 rfl (nI_1 i) (by decide) rfl ?_
            refine g_goto X 5 d_TL_nextBehind_78 (by decide) ?_
            refine g_lv (lv' := [(4, .int (nI (i + 1))), (3, .int (fI (nbh td ts k dd (i + 1)))), (0, .ref g), (1, .int (nI k)), (2, .int (nI dd))]) [0, 2, 3, 4, 5] (by rw [e]; rfl) (ih (d - 1) (by omega) (i + 1) (by omega))
          · skip
            have h50 : nbh td ts k dd i = 0 ∨ td i + 1 < nbh td ts k dd i := of_decide_eq_true (bt_nf (fun z => c50 (bI_z.mpr z)))
            refine g_aload_n X d_TL_nextBehind_53 3 rfl ?_
            refine g_get (ci := 1) (C := R_TL) (T := F_TL) (N := 3) (v := .ref (b 1)) X i_TL rfl hG 1 (by decide) q_68 (fun _ h9 => h9) rfl d_TL_nextBehind_54 ?_
            refine g_iload X d_TL_nextBehind_57 1 rfl ?_
            refine g_iald (t0 := 0) (v := nI (ts i)) X h1 rfl (nI_ix ((by omega : i < 512)) (by decide)) (nI_cl (g := fun q9 => nI (ts q9)) (Nat.lt_trans ((by omega : i < 512)) (by decide))) d_TL_nextBehind_59 ?_
            refine g_iload_n X d_TL_nextBehind_60 4 rfl ?_
            refine g_callSN (As := [.int (nI (ts i)), .int (nI k)]) (rest := []) X (z_ok eA eM) (c_CL_holds (f := f) (a := ts i) (k := k) (Nat.lt_trans (hts i) (by decide)) (by omega)) v_CL_holds q_367 (X.2.2.2.2.2.2.2.1.2) (fun _ h => h) rfl rfl (Nat.le_of_ble_eq_true rfl) d_TL_nextBehind_61 ⟨(Nat.le_of_ble_eq_true rfl), (Nat.le_of_ble_eq_true rfl)⟩ ⟨(Nat.le_of_ble_eq_true rfl), (Nat.le_of_ble_eq_true rfl)⟩ (fun r_ f2_ hp => ?_)
            obtain ⟨rfl, hf_⟩ := hp
            subst f2_
            refine g_st (st2 := [.int (bI (Nat.testBit (ts i) k))]) rfl ?_
            refine g_if_eq X 75 d_TL_nextBehind_64 (by decide) (fun c64 => ?_) (fun c64 => ?_)
            · skip
              have e : nbh td ts k dd (i + 1) = nbh td ts k dd i := if_neg (fun z => absurd z.2.2 (by rw [bI_z.mp c64]; decide))
              refine g_iinc (lv' := [(4, .int (nI (i + 1))), (5, .int (bI (decide (nbh td ts k dd i = 0 ∨ td i + 1 < nbh td ts k dd i)))), (3, .int (fI (nbh td ts k dd i))), (0, .ref g), (1, .int (nI k)), (2, .int (nI dd))]) X d_TL_nextBehind_75 1 rfl (nI_1 i) (by decide) rfl ?_
              refine g_goto X 5 d_TL_nextBehind_78 (by decide) ?_
              refine g_lv (lv' := [(4, .int (nI (i + 1))), (3, .int (fI (nbh td ts k dd (i + 1)))), (0, .ref g), (1, .int (nI k)), (2, .int (nI dd))]) [0, 2, 3, 4, 5] (by rw [e]; rfl) (ih (d - 1) (by omega) (i + 1) (by omega))
            · skip
              have e : nbh td ts k dd (i + 1) = td i + 1 := if_pos ⟨h45, h50, bt_nf (fun z => c64 (bI_z.mpr z))⟩
              refine g_aload_n X d_TL_nextBehind_67 3 rfl ?_
              refine g_get (ci := 1) (C := R_TL) (T := F_TL) (N := 3) (v := .ref (b 0)) X i_TL rfl hG 0 (by decide) q_67 (fun _ h9 => h9) rfl d_TL_nextBehind_68 ?_
              refine g_iload X d_TL_nextBehind_71 1 rfl ?_
              refine g_iald (t0 := 0) (v := nI (td i)) X h0 rfl (nI_ix ((by omega : i < 512)) (by decide)) (nI_cl (g := fun q9 => nI (td q9)) (Nat.lt_trans ((by omega : i < 512)) (by decide))) d_TL_nextBehind_73 ?_
              refine g_istore_n (lv' := [(3, .int (nI (td i))), (5, .int (bI (decide (nbh td ts k dd i = 0 ∨ td i + 1 < nbh td ts k dd i)))), (4, .int (nI i)), (0, .ref g), (1, .int (nI k)), (2, .int (nI dd))]) X d_TL_nextBehind_74 rfl (by decide) rfl ?_
              refine g_iinc (lv' := [(4, .int (nI (i + 1))), (3, .int (nI (td i))), (5, .int (bI (decide (nbh td ts k dd i = 0 ∨ td i + 1 < nbh td ts k dd i)))), (0, .ref g), (1, .int (nI k)), (2, .int (nI dd))]) X d_TL_nextBehind_75 2 rfl (nI_1 i) (by decide) rfl ?_
              refine g_goto X 5 d_TL_nextBehind_78 (by decide) ?_
              refine g_lv (lv' := [(4, .int (nI (i + 1))), (3, .int (fI (nbh td ts k dd (i + 1)))), (0, .ref g), (1, .int (nI k)), (2, .int (nI dd))]) [0, 1, 3, 4, 5] (by rw [e, fI_s]; rfl) (ih (d - 1) (by omega) (i + 1) (by omega))
      · skip
        refine g_aload_n X d_TL_nextBehind_19 2 rfl ?_
        refine g_get (ci := 1) (C := R_TL) (T := F_TL) (N := 3) (v := .ref (b 0)) X i_TL rfl hG 0 (by decide) q_67 (fun _ h9 => h9) rfl d_TL_nextBehind_20 ?_
        refine g_iload X d_TL_nextBehind_23 0 rfl ?_
        refine g_iald (t0 := 0) (v := nI (td i)) X h0 rfl (nI_ix ((by omega : i < 512)) (by decide)) (nI_cl (g := fun q9 => nI (td q9)) (Nat.lt_trans ((by omega : i < 512)) (by decide))) d_TL_nextBehind_25 ?_
        refine g_iload_n X d_TL_nextBehind_26 1 rfl ?_
        refine g_icmp_ge X 34 d_TL_nextBehind_27 (by decide) (fun c27 => ?_) (fun c27 => ?_)
        · skip
          refine g_iconst (v := 0) X d_TL_nextBehind_34 (by decide) ?_
          refine g_eqi (y := bI (decide (nbh td ts k dd i = 0 ∨ td i + 1 < nbh td ts k dd i))) (by rw [decide_eq_false (fun z => z.elim (fun z => c16 ((fI_n (by omega)).mpr z)) (fun z => absurd ((fI_leN (by omega) (by omega)).mp c27) (by omega)))]; rfl) ?_
          refine g_istore (lv' := [(5, .int (bI (decide (nbh td ts k dd i = 0 ∨ td i + 1 < nbh td ts k dd i)))), (4, .int (nI i)), (3, .int (fI (nbh td ts k dd i))), (0, .ref g), (1, .int (nI k)), (2, .int (nI dd))]) X d_TL_nextBehind_35 (by decide) rfl ?_
          refine g_aload_n X d_TL_nextBehind_37 3 rfl ?_
          refine g_get (ci := 1) (C := R_TL) (T := F_TL) (N := 3) (v := .ref (b 0)) X i_TL rfl hG 0 (by decide) q_67 (fun _ h9 => h9) rfl d_TL_nextBehind_38 ?_
          refine g_iload X d_TL_nextBehind_41 1 rfl ?_
          refine g_iald (t0 := 0) (v := nI (td i)) X h0 rfl (nI_ix ((by omega : i < 512)) (by decide)) (nI_cl (g := fun q9 => nI (td q9)) (Nat.lt_trans ((by omega : i < 512)) (by decide))) d_TL_nextBehind_43 ?_
          refine g_iload_n X d_TL_nextBehind_44 5 rfl ?_
          refine g_icmp_le X 75 d_TL_nextBehind_45 (by decide) (fun c45 => ?_) (fun c45 => ?_)
          · skip
            have e : nbh td ts k dd (i + 1) = nbh td ts k dd i := if_neg (fun z => absurd z.1 (Nat.not_lt.mpr ((nI_leI (by omega) (by omega)).mp c45)))
            refine g_iinc (lv' := [(4, .int (nI (i + 1))), (5, .int (bI (decide (nbh td ts k dd i = 0 ∨ td i + 1 < nbh td ts k dd i)))), (3, .int (fI (nbh td ts k dd i))), (0, .ref g), (1, .int (nI k)), (2, .int (nI dd))]) X d_TL_nextBehind_75 1 rfl (nI_1 i) (by decide) rfl ?_
            refine g_goto X 5 d_TL_nextBehind_78 (by decide) ?_
            refine g_lv (lv' := [(4, .int (nI (i + 1))), (3, .int (fI (nbh td ts k dd (i + 1)))), (0, .ref g), (1, .int (nI k)), (2, .int (nI dd))]) [0, 2, 3, 4, 5] (by rw [e]; rfl) (ih (d - 1) (by omega) (i + 1) (by omega))
          · skip
            have h45 : dd < td i := Nat.lt_of_not_le (fun z => c45 ((nI_leI (by omega) (by omega)).mpr z))
            refine g_iload X d_TL_nextBehind_48 0 rfl ?_
            refine g_if_eq X 75 d_TL_nextBehind_50 (by decide) (fun c50 => ?_) (fun c50 => ?_)
            · skip
              have e : nbh td ts k dd (i + 1) = nbh td ts k dd i := if_neg (fun z => absurd z.2.1 (of_decide_eq_false (bI_z.mp c50)))
              refine g_iinc (lv' := [(4, .int (nI (i + 1))), (5, .int (bI (decide (nbh td ts k dd i = 0 ∨ td i + 1 < nbh td ts k dd i)))), (3, .int (fI (nbh td ts k dd i))), (0, .ref g), (1, .int (nI k)), (2, .int (nI dd))]) X d_TL_nextBehind_75 1 rfl (nI_1 i) (by decide) rfl ?_
              refine g_goto X 5 d_TL_nextBehind_78 (by decide) ?_
              refine g_lv (lv' := [(4, .int (nI (i + 1))), (3, .int (fI (nbh td ts k dd (i + 1)))), (0, .ref g), (1, .int (nI k)), (2, .int (nI dd))]) [0, 2, 3, 4, 5] (by rw [e]; rfl) (ih (d - 1) (by omega) (i + 1) (by omega))
            · skip
              have h50 : nbh td ts k dd i = 0 ∨ td i + 1 < nbh td ts k dd i := of_decide_eq_true (bt_nf (fun z => c50 (bI_z.mpr z)))
              refine g_aload_n X d_TL_nextBehind_53 3 rfl ?_
              refine g_get (ci := 1) (C := R_TL) (T := F_TL) (N := 3) (v := .ref (b 1)) X i_TL rfl hG 1 (by decide) q_68 (fun _ h9 => h9) rfl d_TL_nextBehind_54 ?_
              refine g_iload X d_TL_nextBehind_57 1 rfl ?_
              refine g_iald (t0 := 0) (v := nI (ts i)) X h1 rfl (nI_ix ((by omega : i < 512)) (by decide)) (nI_cl (g := fun q9 => nI (ts q9)) (Nat.lt_trans ((by omega : i < 512)) (by decide))) d_TL_nextBehind_59 ?_
              refine g_iload_n X d_TL_nextBehind_60 4 rfl ?_
              refine g_callSN (As := [.int (nI (ts i)), .int (nI k)]) (rest := []) X (z_ok eA eM) (c_CL_holds (f := f) (a := ts i) (k := k) (Nat.lt_trans (hts i) (by decide)) (by omega)) v_CL_holds q_367 (X.2.2.2.2.2.2.2.1.2) (fun _ h => h) rfl rfl (Nat.le_of_ble_eq_true rfl) d_TL_nextBehind_61 ⟨(Nat.le_of_ble_eq_true rfl), (Nat.le_of_ble_eq_true rfl)⟩ ⟨(Nat.le_of_ble_eq_true rfl), (Nat.le_of_ble_eq_true rfl)⟩ (fun r_ f2_ hp => ?_)
              obtain ⟨rfl, hf_⟩ := hp
              subst f2_
              refine g_st (st2 := [.int (bI (Nat.testBit (ts i) k))]) rfl ?_
              refine g_if_eq X 75 d_TL_nextBehind_64 (by decide) (fun c64 => ?_) (fun c64 => ?_)
              · skip
                have e : nbh td ts k dd (i + 1) = nbh td ts k dd i := if_neg (fun z => absurd z.2.2 (by rw [bI_z.mp c64]; decide))
                refine g_iinc (lv' := [(4, .int (nI (i + 1))), (5, .int (bI (decide (nbh td ts k dd i = 0 ∨ td i + 1 < nbh td ts k dd i)))), (3, .int (fI (nbh td ts k dd i))), (0, .ref g), (1, .int (nI k)), (2, .int (nI dd))]) X d_TL_nextBehind_75 1 rfl (nI_1 i) (by decide) rfl ?_
                refine g_goto X 5 d_TL_nextBehind_78 (by decide) ?_
                refine g_lv (lv' := [(4, .int (nI (i + 1))), (3, .int (fI (nbh td ts k dd (i + 1)))), (0, .ref g), (1, .int (nI k)), (2, .int (nI dd))]) [0, 2, 3, 4, 5] (by rw [e]; rfl) (ih (d - 1) (by omega) (i + 1) (by omega))
              · skip
                have e : nbh td ts k dd (i + 1) = td i + 1 := if_pos ⟨h45, h50, bt_nf (fun z => c64 (bI_z.mpr z))⟩
                refine g_aload_n X d_TL_nextBehind_67 3 rfl ?_
                refine g_get (ci := 1) (C := R_TL) (T := F_TL) (N := 3) (v := .ref (b 0)) X i_TL rfl hG 0 (by decide) q_67 (fun _ h9 => h9) rfl d_TL_nextBehind_68 ?_
                refine g_iload X d_TL_nextBehind_71 1 rfl ?_
                refine g_iald (t0 := 0) (v := nI (td i)) X h0 rfl (nI_ix ((by omega : i < 512)) (by decide)) (nI_cl (g := fun q9 => nI (td q9)) (Nat.lt_trans ((by omega : i < 512)) (by decide))) d_TL_nextBehind_73 ?_
                refine g_istore_n (lv' := [(3, .int (nI (td i))), (5, .int (bI (decide (nbh td ts k dd i = 0 ∨ td i + 1 < nbh td ts k dd i)))), (4, .int (nI i)), (0, .ref g), (1, .int (nI k)), (2, .int (nI dd))]) X d_TL_nextBehind_74 rfl (by decide) rfl ?_
                refine g_iinc (lv' := [(4, .int (nI (i + 1))), (3, .int (nI (td i))), (5, .int (bI (decide (nbh td ts k dd i = 0 ∨ td i + 1 < nbh td ts k dd i)))), (0, .ref g), (1, .int (nI k)), (2, .int (nI dd))]) X d_TL_nextBehind_75 2 rfl (nI_1 i) (by decide) rfl ?_
                refine g_goto X 5 d_TL_nextBehind_78 (by decide) ?_
                refine g_lv (lv' := [(4, .int (nI (i + 1))), (3, .int (fI (nbh td ts k dd (i + 1)))), (0, .ref g), (1, .int (nI k)), (2, .int (nI dd))]) [0, 1, 3, 4, 5] (by rw [e, fI_s]; rfl) (ih (d - 1) (by omega) (i + 1) (by omega))
        · skip
          skip
          refine g_iconst (v := 1) X d_TL_nextBehind_30 (by decide) ?_
          refine g_goto X 35 d_TL_nextBehind_31 (by decide) ?_
          refine g_eqi (y := bI (decide (nbh td ts k dd i = 0 ∨ td i + 1 < nbh td ts k dd i))) (by rw [decide_eq_true (Or.inr (Nat.lt_of_not_le (fun z => c27 ((fI_leN (by omega) (by omega)).mpr z))))]; rfl) ?_
          refine g_istore (lv' := [(5, .int (bI (decide (nbh td ts k dd i = 0 ∨ td i + 1 < nbh td ts k dd i)))), (4, .int (nI i)), (3, .int (fI (nbh td ts k dd i))), (0, .ref g), (1, .int (nI k)), (2, .int (nI dd))]) X d_TL_nextBehind_35 (by decide) rfl ?_
          refine g_aload_n X d_TL_nextBehind_37 3 rfl ?_
          refine g_get (ci := 1) (C := R_TL) (T := F_TL) (N := 3) (v := .ref (b 0)) X i_TL rfl hG 0 (by decide) q_67 (fun _ h9 => h9) rfl d_TL_nextBehind_38 ?_
          refine g_iload X d_TL_nextBehind_41 1 rfl ?_
          refine g_iald (t0 := 0) (v := nI (td i)) X h0 rfl (nI_ix ((by omega : i < 512)) (by decide)) (nI_cl (g := fun q9 => nI (td q9)) (Nat.lt_trans ((by omega : i < 512)) (by decide))) d_TL_nextBehind_43 ?_
          refine g_iload_n X d_TL_nextBehind_44 5 rfl ?_
          refine g_icmp_le X 75 d_TL_nextBehind_45 (by decide) (fun c45 => ?_) (fun c45 => ?_)
          · skip
            have e : nbh td ts k dd (i + 1) = nbh td ts k dd i := if_neg (fun z => absurd z.1 (Nat.not_lt.mpr ((nI_leI (by omega) (by omega)).mp c45)))
            refine g_iinc (lv' := [(4, .int (nI (i + 1))), (5, .int (bI (decide (nbh td ts k dd i = 0 ∨ td i + 1 < nbh td ts k dd i)))), (3, .int (fI (nbh td ts k dd i))), (0, .ref g), (1, .int (nI k)), (2, .int (nI dd))]) X d_TL_nextBehind_75 1 rfl (nI_1 i) (by decide) rfl ?_
            refine g_goto X 5 d_TL_nextBehind_78 (by decide) ?_
            refine g_lv (lv' := [(4, .int (nI (i + 1))), (3, .int (fI (nbh td ts k dd (i + 1)))), (0, .ref g), (1, .int (nI k)), (2, .int (nI dd))]) [0, 2, 3, 4, 5] (by rw [e]; rfl) (ih (d - 1) (by omega) (i + 1) (by omega))
          · skip
            have h45 : dd < td i := Nat.lt_of_not_le (fun z => c45 ((nI_leI (by omega) (by omega)).mpr z))
            refine g_iload X d_TL_nextBehind_48 0 rfl ?_
            refine g_if_eq X 75 d_TL_nextBehind_50 (by decide) (fun c50 => ?_) (fun c50 => ?_)
            · skip
              have e : nbh td ts k dd (i + 1) = nbh td ts k dd i := if_neg (fun z => absurd z.2.1 (of_decide_eq_false (bI_z.mp c50)))
              refine g_iinc (lv' := [(4, .int (nI (i + 1))), (5, .int (bI (decide (nbh td ts k dd i = 0 ∨ td i + 1 < nbh td ts k dd i)))), (3, .int (fI (nbh td ts k dd i))), (0, .ref g), (1, .int (nI k)), (2, .int (nI dd))]) X d_TL_nextBehind_75 1 rfl (nI_1 i) (by decide) rfl ?_
              refine g_goto X 5 d_TL_nextBehind_78 (by decide) ?_
              refine g_lv (lv' := [(4, .int (nI (i + 1))), (3, .int (fI (nbh td ts k dd (i + 1)))), (0, .ref g), (1, .int (nI k)), (2, .int (nI dd))]) [0, 2, 3, 4, 5] (by rw [e]; rfl) (ih (d - 1) (by omega) (i + 1) (by omega))
            · skip
              have h50 : nbh td ts k dd i = 0 ∨ td i + 1 < nbh td ts k dd i := of_decide_eq_true (bt_nf (fun z => c50 (bI_z.mpr z)))
              refine g_aload_n X d_TL_nextBehind_53 3 rfl ?_
              refine g_get (ci := 1) (C := R_TL) (T := F_TL) (N := 3) (v := .ref (b 1)) X i_TL rfl hG 1 (by decide) q_68 (fun _ h9 => h9) rfl d_TL_nextBehind_54 ?_
              refine g_iload X d_TL_nextBehind_57 1 rfl ?_
              refine g_iald (t0 := 0) (v := nI (ts i)) X h1 rfl (nI_ix ((by omega : i < 512)) (by decide)) (nI_cl (g := fun q9 => nI (ts q9)) (Nat.lt_trans ((by omega : i < 512)) (by decide))) d_TL_nextBehind_59 ?_
              refine g_iload_n X d_TL_nextBehind_60 4 rfl ?_
              refine g_callSN (As := [.int (nI (ts i)), .int (nI k)]) (rest := []) X (z_ok eA eM) (c_CL_holds (f := f) (a := ts i) (k := k) (Nat.lt_trans (hts i) (by decide)) (by omega)) v_CL_holds q_367 (X.2.2.2.2.2.2.2.1.2) (fun _ h => h) rfl rfl (Nat.le_of_ble_eq_true rfl) d_TL_nextBehind_61 ⟨(Nat.le_of_ble_eq_true rfl), (Nat.le_of_ble_eq_true rfl)⟩ ⟨(Nat.le_of_ble_eq_true rfl), (Nat.le_of_ble_eq_true rfl)⟩ (fun r_ f2_ hp => ?_)
              obtain ⟨rfl, hf_⟩ := hp
              subst f2_
              refine g_st (st2 := [.int (bI (Nat.testBit (ts i) k))]) rfl ?_
              refine g_if_eq X 75 d_TL_nextBehind_64 (by decide) (fun c64 => ?_) (fun c64 => ?_)
              · skip
                have e : nbh td ts k dd (i + 1) = nbh td ts k dd i := if_neg (fun z => absurd z.2.2 (by rw [bI_z.mp c64]; decide))
                refine g_iinc (lv' := [(4, .int (nI (i + 1))), (5, .int (bI (decide (nbh td ts k dd i = 0 ∨ td i + 1 < nbh td ts k dd i)))), (3, .int (fI (nbh td ts k dd i))), (0, .ref g), (1, .int (nI k)), (2, .int (nI dd))]) X d_TL_nextBehind_75 1 rfl (nI_1 i) (by decide) rfl ?_
                refine g_goto X 5 d_TL_nextBehind_78 (by decide) ?_
                refine g_lv (lv' := [(4, .int (nI (i + 1))), (3, .int (fI (nbh td ts k dd (i + 1)))), (0, .ref g), (1, .int (nI k)), (2, .int (nI dd))]) [0, 2, 3, 4, 5] (by rw [e]; rfl) (ih (d - 1) (by omega) (i + 1) (by omega))
              · skip
                have e : nbh td ts k dd (i + 1) = td i + 1 := if_pos ⟨h45, h50, bt_nf (fun z => c64 (bI_z.mpr z))⟩
                refine g_aload_n X d_TL_nextBehind_67 3 rfl ?_
                refine g_get (ci := 1) (C := R_TL) (T := F_TL) (N := 3) (v := .ref (b 0)) X i_TL rfl hG 0 (by decide) q_67 (fun _ h9 => h9) rfl d_TL_nextBehind_68 ?_
                refine g_iload X d_TL_nextBehind_71 1 rfl ?_
                refine g_iald (t0 := 0) (v := nI (td i)) X h0 rfl (nI_ix ((by omega : i < 512)) (by decide)) (nI_cl (g := fun q9 => nI (td q9)) (Nat.lt_trans ((by omega : i < 512)) (by decide))) d_TL_nextBehind_73 ?_
                refine g_istore_n (lv' := [(3, .int (nI (td i))), (5, .int (bI (decide (nbh td ts k dd i = 0 ∨ td i + 1 < nbh td ts k dd i)))), (4, .int (nI i)), (0, .ref g), (1, .int (nI k)), (2, .int (nI dd))]) X d_TL_nextBehind_74 rfl (by decide) rfl ?_
                refine g_iinc (lv' := [(4, .int (nI (i + 1))), (3, .int (nI (td i))), (5, .int (bI (decide (nbh td ts k dd i = 0 ∨ td i + 1 < nbh td ts k dd i)))), (0, .ref g), (1, .int (nI k)), (2, .int (nI dd))]) X d_TL_nextBehind_75 2 rfl (nI_1 i) (by decide) rfl ?_
                refine g_goto X 5 d_TL_nextBehind_78 (by decide) ?_
                refine g_lv (lv' := [(4, .int (nI (i + 1))), (3, .int (fI (nbh td ts k dd (i + 1)))), (0, .ref g), (1, .int (nI k)), (2, .int (nI dd))]) [0, 1, 3, 4, 5] (by rw [e, fI_s]; rfl) (ih (d - 1) (by omega) (i + 1) (by omega))
set_option maxHeartbeats 4000000 in
set_option maxRecDepth 100000 in
theorem c_TL_nextBehind {l : Launch} {D : va_G} {cI cZ cO cJ : ClassId} {eA eM : Nat} {f : g_F} {g : Nat} {b : Nat → Nat} {td ts : Nat → Nat} {n : Nat} (hR : tl_R cI f g b td ts n) (hB : tl_B td ts n) {k dd : Nat} (hk : k < 24) (hD : dd < 2 ^ 30) : g_C l y_TL_nextBehind b_TL_nextBehind 6 (some .int) { frames := 1, cells := 0, slots := 0, locals := 21 } D g_cl (g_tys cI cZ cO cJ) (z_Z eA eM) [.ref g, .int (nI k), .int (nI dd)] f (fun r f2 => r = some (.int (fI (nbh td ts k dd n))) ∧ f2 = f) (fun _ => False) := by
  refine g_ofW [(0, .ref g), (1, .int (nI k)), (2, .int (nI dd))] (by decide +kernel) (Nat.le_of_ble_eq_true rfl) rfl ?_
  intro p e s m args below meth c X ht hin
  refine g_iconst (v := (-1)) X d_TL_nextBehind_0 (by decide) ?_
  refine g_istore_n (lv' := [(3, .int (-1)), (0, .ref g), (1, .int (nI k)), (2, .int (nI dd))]) X d_TL_nextBehind_1 rfl (by decide) rfl ?_
  refine g_iconst (v := 0) X d_TL_nextBehind_2 (by decide) ?_
  refine g_istore (lv' := [(4, .int 0), (3, .int (-1)), (0, .ref g), (1, .int (nI k)), (2, .int (nI dd))]) X d_TL_nextBehind_3 (by decide) rfl ?_
  refine L_TL_nextBehind hR hB hk hD X ?_ n 0 (by omega)
  exact g_iload_n X d_TL_nextBehind_81 1 rfl (g_iret X rfl ⟨rfl, rfl⟩ (Nat.le_of_ble_eq_true rfl) (Nat.le_of_ble_eq_true rfl) d_TL_nextBehind_82)
set_option maxHeartbeats 4000000 in
set_option maxRecDepth 100000 in
theorem L_TL_note {p : Program} {l : Launch} {e : Env} {s : State} {m : MethodId} {args : Array Value} {below : List Frame} {meth : Method} {c : Code} {Q : State → Prop} {A : Nat → Prop} {D : va_G} {cI cZ cO cJ : ClassId} {eA eM : Nat} {f : g_F} {g : Nat} {b : Nat → Nat} {td ts : Nat → Nat} {n : Nat} (hR : tl_R cI f g b td ts n) (hB : tl_B td ts n) {dd s0 : Nat} (hI : b 0 ≠ b 1) (hD : dd < 2 ^ 30) (hs0 : s0 < 2 ^ 24) (hn5 : n < 512) (X : g_X p s m args meth c b_TL_note 4 none g_T y_TL_note.cls D g_cl (g_tys cI cZ cO cJ) A (z_Z eA eM)) (k37 : (∀ j, j < n → td j ≠ dd) → g_W p l e { frames := 0, cells := 0, slots := 0, locals := 0 } s m args below meth c 4 D g_cl A f 0 0 Q 37 [(3, .int (nI n)), (0, .ref g), (1, .int (nI dd)), (2, .int (nI s0))] []) (k20 : ∀ i, i < n → td i = dd → (∀ j, j < i → td j ≠ dd) → g_W p l e { frames := 0, cells := 0, slots := 0, locals := 0 } s m args below meth c 4 D g_cl A f 0 0 Q 20 [(3, .int (nI i)), (0, .ref g), (1, .int (nI dd)), (2, .int (nI s0))] []) : ∀ (d : Nat) (i : Nat), (i + d = n) → (∀ j, j < i → td j ≠ dd) → g_W p l e { frames := 0, cells := 0, slots := 0, locals := 0 } s m args below meth c 4 D g_cl A f 0 0 Q 2 [(3, .int (nI i)), (0, .ref g), (1, .int (nI dd)), (2, .int (nI s0))] [] := by
  obtain ⟨hG, h0, h1⟩ := id hR
  obtain ⟨hn, htd, hts⟩ := id hB
  intro d
  induction d using Nat.strongRecOn with
  | _ d ih =>
    intro i hi hj
    refine g_iload_n X d_TL_note_2 0 rfl ?_
    refine g_aload_n X d_TL_note_3 1 rfl ?_
    refine g_get (ci := 1) (C := R_TL) (T := F_TL) (N := 3) (v := .int (nI n)) X i_TL rfl hG 2 (by decide) q_69 (fun _ h9 => h9) rfl d_TL_note_4 ?_
    refine g_icmp_ge X 37 d_TL_note_7 (by decide) (fun c7 => ?_) (fun c7 => ?_)
    · skip
      have e : i = n := by have := (nI_leI (by omega) (by omega)).mp c7; omega
      subst e
      exact k37 hj
    · skip
      have hlt : i < n := Nat.lt_of_not_le (fun z => c7 ((nI_leI (by omega) (by omega)).mpr z))
      refine g_aload_n X d_TL_note_10 1 rfl ?_
      refine g_get (ci := 1) (C := R_TL) (T := F_TL) (N := 3) (v := .ref (b 0)) X i_TL rfl hG 0 (by decide) q_67 (fun _ h9 => h9) rfl d_TL_note_11 ?_
      refine g_iload_n X d_TL_note_14 0 rfl ?_
      refine g_iald (t0 := 0) (v := nI (td i)) X h0 rfl (nI_ix ((by omega : i < 512)) (by decide)) (nI_cl (g := fun q9 => nI (td q9)) (Nat.lt_trans ((by omega : i < 512)) (by decide))) d_TL_note_15 ?_
      refine g_iload_n X d_TL_note_16 2 rfl ?_
      refine g_icmp_ne X 31 d_TL_note_17 (by decide) (fun c17 => ?_) (fun c17 => ?_)
      · skip
        have hne : td i ≠ dd := fun z => c17 (by rw [z])
        refine g_iinc (lv' := [(3, .int (nI (i + 1))), (0, .ref g), (1, .int (nI dd)), (2, .int (nI s0))]) X d_TL_note_31 0 rfl (nI_1 i) (by decide) rfl ?_
        refine g_goto X 2 d_TL_note_34 (by decide) ?_
        exact ih (d - 1) (by omega) (i + 1) (by omega) (fun j h9 => by
          by_cases e : j = i
          · rw [e]; exact hne
          · exact hj j (by omega))
      · skip
        have heq : td i = dd := (nI_eq (by have := htd i; omega) (by omega)).mp c17
        exact k20 i hlt heq hj
set_option maxHeartbeats 4000000 in
set_option maxRecDepth 100000 in
theorem c_TL_note {l : Launch} {D : va_G} {cI cZ cO cJ : ClassId} {eA eM : Nat} {f : g_F} {g : Nat} {b : Nat → Nat} {td ts : Nat → Nat} {n : Nat} (hR : tl_R cI f g b td ts n) (hB : tl_B td ts n) {dd s0 : Nat} (hI : b 0 ≠ b 1) (hD : dd < 2 ^ 30) (hs0 : s0 < 2 ^ 24) (hn5 : n < 512) : g_C l y_TL_note b_TL_note 4 none { frames := 0, cells := 0, slots := 0, locals := 0 } D g_cl (g_tys cI cZ cO cJ) (z_Z eA eM) [.ref g, .int (nI dd), .int (nI s0)] f (fun r f2 => r = none ∧ ((∃ i, i < n ∧ td i = dd ∧ (∀ j, j < i → td j ≠ dd) ∧ f2 = g_u f (b 1) (.inl (cI, 512, .inl (fun q9 => nI ((va_up ts i (ts i ||| s0)) q9))))) ∨ ((∀ j, j < n → td j ≠ dd) ∧ s0 = 0 ∧ f2 = f) ∨ ((∀ j, j < n → td j ≠ dd) ∧ s0 ≠ 0 ∧ f2 = g_u (g_u (g_u f (b 0) (.inl (cI, 512, .inl (fun q9 => nI ((va_up td n dd) q9))))) (b 1) (.inl (cI, 512, .inl (fun q9 => nI ((va_up ts n s0) q9))))) g (.inr (1, [.ref (b 0), .ref (b 1), .int (nI (n + 1))]))))) (fun _ => False) := by
  refine g_ofW [(0, .ref g), (1, .int (nI dd)), (2, .int (nI s0))] (by decide +kernel) (Nat.le_of_ble_eq_true rfl) rfl ?_
  intro p e s m args below meth c X ht hin
  obtain ⟨hG, h0, h1⟩ := id hR
  obtain ⟨hn, htd, hts⟩ := id hB
  refine g_iconst (v := 0) X d_TL_note_0 (by decide) ?_
  refine g_istore_n (lv' := [(3, .int 0), (0, .ref g), (1, .int (nI dd)), (2, .int (nI s0))]) X d_TL_note_1 rfl (by decide) rfl ?_
  refine L_TL_note hR hB hI hD hs0 hn5 X ?_ ?_ n 0 (by omega) (fun j h => absurd h (by omega))
  · intro hj
    refine g_iload_n X d_TL_note_37 3 rfl ?_
    refine g_if_eq X 81 d_TL_note_38 (by decide) (fun c38 => ?_) (fun c38 => ?_)
    · skip
      exact g_vret X rfl (⟨rfl, Or.inr (Or.inl ⟨hj, (nI_z (by omega)).mp c38, rfl⟩)⟩) (Nat.le_of_ble_eq_true rfl) (Nat.le_of_ble_eq_true rfl) d_TL_note_81
    · skip
      refine g_aload_n X d_TL_note_41 1 rfl ?_
      refine g_get (ci := 1) (C := R_TL) (T := F_TL) (N := 3) (v := .int (nI n)) X i_TL rfl hG 2 (by decide) q_69 (fun _ h9 => h9) rfl d_TL_note_42 ?_
      refine g_sipush (v := 512) X d_TL_note_45 (by decide) ?_
      refine g_icmp_ge X 81 d_TL_note_48 (by decide) (fun c48 => ?_) (fun c48 => ?_)
      · skip
        exact absurd ((nI_leI (a := 512) (by decide) (by omega)).mp c48) (by omega)
      · skip
        refine g_aload_n X d_TL_note_51 1 rfl ?_
        refine g_get (ci := 1) (C := R_TL) (T := F_TL) (N := 3) (v := .ref (b 0)) X i_TL rfl hG 0 (by decide) q_67 (fun _ h9 => h9) rfl d_TL_note_52 ?_
        refine g_aload_n X d_TL_note_55 1 rfl ?_
        refine g_get (ci := 1) (C := R_TL) (T := F_TL) (N := 3) (v := .int (nI n)) X i_TL rfl hG 2 (by decide) q_69 (fun _ h9 => h9) rfl d_TL_note_56 ?_
        refine g_iload_n X d_TL_note_59 2 rfl ?_
        refine g_iast (t0 := 0) (g2 := fun q9 => nI (va_up td n dd q9)) X h0 rfl (nI_ix (hn5) (by decide)) (upd_nI (g := td) (Nat.lt_trans (hn5) (by decide))) d_TL_note_60 ?_
        generalize ef_1 : g_u f (b 0) (.inl (cI, 512, .inl (fun q9 => nI (va_up td n dd q9)))) = f_1
        have h_2 : f_1 g = some (.inr (1, [.ref (b 0), .ref (b 1), .int (nI n)])) := by rw [← ef_1]; exact (g_u_n (tu_ne hG h0)).trans hG
        have h_3 : f_1 (b 0) = some (.inl (cI, 512, .inl (fun q9 => nI (va_up td n dd q9)))) := by rw [← ef_1]; exact g_u_s
        have h_4 : f_1 (b 1) = some (.inl (cI, 512, .inl (fun q9 => nI (ts q9)))) := by rw [← ef_1]; exact (g_u_n (Ne.symm hI)).trans h1
        refine g_aload_n X d_TL_note_61 1 rfl ?_
        refine g_get (ci := 1) (C := R_TL) (T := F_TL) (N := 3) (v := .ref (b 1)) X i_TL rfl h_2 1 (by decide) q_68 (fun _ h9 => h9) rfl d_TL_note_62 ?_
        refine g_aload_n X d_TL_note_65 1 rfl ?_
        refine g_get (ci := 1) (C := R_TL) (T := F_TL) (N := 3) (v := .int (nI n)) X i_TL rfl h_2 2 (by decide) q_69 (fun _ h9 => h9) rfl d_TL_note_66 ?_
        refine g_iload_n X d_TL_note_69 3 rfl ?_
        refine g_iast (t0 := 0) (g2 := fun q9 => nI (va_up ts n s0 q9)) X h_4 rfl (nI_ix (hn5) (by decide)) (upd_nI (g := ts) (Nat.lt_trans (hn5) (by decide))) d_TL_note_70 ?_
        generalize ef_5 : g_u f_1 (b 1) (.inl (cI, 512, .inl (fun q9 => nI (va_up ts n s0 q9)))) = f_5
        have h_6 : f_5 g = some (.inr (1, [.ref (b 0), .ref (b 1), .int (nI n)])) := by rw [← ef_5]; exact (g_u_n (tu_ne h_2 h_4)).trans h_2
        have h_7 : f_5 (b 0) = some (.inl (cI, 512, .inl (fun q9 => nI (va_up td n dd q9)))) := by rw [← ef_5]; exact (g_u_n (hI)).trans h_3
        have h_8 : f_5 (b 1) = some (.inl (cI, 512, .inl (fun q9 => nI (va_up ts n s0 q9)))) := by rw [← ef_5]; exact g_u_s
        refine g_aload_n X d_TL_note_71 1 rfl ?_
        refine g_dup X d_TL_note_72 rfl ?_
        refine g_get (ci := 1) (C := R_TL) (T := F_TL) (N := 3) (v := .int (nI n)) X i_TL rfl h_6 2 (by decide) q_69 (fun _ h9 => h9) rfl d_TL_note_73 ?_
        refine g_iconst (v := 1) X d_TL_note_76 (by decide) ?_
        refine g_iadd X d_TL_note_77 ?_
        refine g_eqi (y := nI (n + 1)) (nI_1 n) ?_
        refine g_put (ci := 1) (C := R_TL) (T := F_TL) (N := 3) (ty := .int) (fs2 := [.ref (b 0), .ref (b 1), .int (nI (n + 1))]) X i_TL t_TL t_TL_ok n_TL rfl h_6 2 (by decide) q_69 (fun _ h9 => h9) rfl (by decide +kernel) rfl rfl (Nat.le_of_ble_eq_true rfl) rfl d_TL_note_78 ?_
        generalize ef_9 : g_u f_5 g (.inr (1, [.ref (b 0), .ref (b 1), .int (nI (n + 1))])) = f_9
        have h_10 : f_9 g = some (.inr (1, [.ref (b 0), .ref (b 1), .int (nI (n + 1))])) := by rw [← ef_9]; exact g_u_s
        have h_11 : f_9 (b 0) = some (.inl (cI, 512, .inl (fun q9 => nI (va_up td n dd q9)))) := by rw [← ef_9]; exact (g_u_n (Ne.symm (tu_ne h_6 h_7))).trans h_7
        have h_12 : f_9 (b 1) = some (.inl (cI, 512, .inl (fun q9 => nI (va_up ts n s0 q9)))) := by rw [← ef_9]; exact (g_u_n (Ne.symm (tu_ne h_6 h_8))).trans h_8
        exact g_vret X rfl (⟨rfl, Or.inr (Or.inr ⟨hj, fun z => c38 ((nI_z (by omega)).mpr z), by rw [← ef_9, ← ef_5, ← ef_1]⟩)⟩) (Nat.le_of_ble_eq_true rfl) (Nat.le_of_ble_eq_true rfl) d_TL_note_81
  · intro i hi hD2 hj
    refine g_aload_n X d_TL_note_20 1 rfl ?_
    refine g_get (ci := 1) (C := R_TL) (T := F_TL) (N := 3) (v := .ref (b 1)) X i_TL rfl hG 1 (by decide) q_68 (fun _ h9 => h9) rfl d_TL_note_21 ?_
    refine g_iload_n X d_TL_note_24 0 rfl ?_
    refine g_dup2 X d_TL_note_25 rfl rfl ?_
    refine g_iald (t0 := 0) (v := nI (ts i)) X h1 rfl (nI_ix ((by omega : i < 512)) (by decide)) (nI_cl (g := fun q9 => nI (ts q9)) (Nat.lt_trans ((by omega : i < 512)) (by decide))) d_TL_note_26 ?_
    refine g_iload_n X d_TL_note_27 3 rfl ?_
    refine g_ior X d_TL_note_28 ?_
    refine g_eqi (y := nI (ts i ||| s0)) (nI_or _ _) ?_
    refine g_iast (t0 := 0) (g2 := fun q9 => nI (va_up ts i (ts i ||| s0) q9)) X h1 rfl (nI_ix ((by omega : i < 512)) (by decide)) (upd_nI (g := ts) (Nat.lt_trans ((by omega : i < 512)) (by decide))) d_TL_note_29 ?_
    generalize ef_1 : g_u f (b 1) (.inl (cI, 512, .inl (fun q9 => nI (va_up ts i (ts i ||| s0) q9)))) = f_1
    have h_2 : f_1 g = some (.inr (1, [.ref (b 0), .ref (b 1), .int (nI n)])) := by rw [← ef_1]; exact (g_u_n (tu_ne hG h1)).trans hG
    have h_3 : f_1 (b 0) = some (.inl (cI, 512, .inl (fun q9 => nI (td q9)))) := by rw [← ef_1]; exact (g_u_n (hI)).trans h0
    have h_4 : f_1 (b 1) = some (.inl (cI, 512, .inl (fun q9 => nI (va_up ts i (ts i ||| s0) q9)))) := by rw [← ef_1]; exact g_u_s
    exact g_vret X rfl (⟨rfl, Or.inl ⟨i, hi, hD2, hj, by rw [← ef_1]⟩⟩) (Nat.le_of_ble_eq_true rfl) (Nat.le_of_ble_eq_true rfl) d_TL_note_30
