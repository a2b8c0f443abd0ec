set_option maxHeartbeats 4000000 in
set_option maxRecDepth 100000 in
theorem c_CL_holds {l : Launch} {D : va_G} {cI cZ cO cJ : ClassId} {eA eM : Nat} {f : g_F} {a k : Nat} (ha : a < 2 ^ 31) (hk : k < 31) : g_C l y_CL_holds b_CL_holds 2 (some .boolean) { frames := 0, cells := 0, slots := 0, locals := 0 } D g_cl (g_tys cI cZ cO cJ) (z_Z eA eM) [.int (nI a), .int (nI k)] f (fun r f2 => r = some (.int (bI (a.testBit k))) ∧ f2 = f) (fun _ => False) := by
  refine g_ofW [(0, .int (nI a)), (1, .int (nI k))] (by decide +kernel) (Nat.le_of_ble_eq_true rfl) rfl ?_
  intro p e s m args below meth c X ht hin
  refine g_iload_n X d_CL_holds_0 0 rfl ?_
  refine g_iconst (v := 1) X d_CL_holds_1 (by decide) ?_
  refine g_iload_n X d_CL_holds_2 1 rfl ?_
  refine g_ishl X d_CL_holds_3 ?_
  refine g_iand X d_CL_holds_4 ?_
  refine g_if_eq X 12 d_CL_holds_5 (by decide) (fun c5 => ?_) (fun c5 => ?_)
  · skip
    refine g_iconst (v := 0) X d_CL_holds_12 (by decide) ?_
    exact g_zret X rfl (by decide) (⟨by rw [(hold_bit ha hk).mp c5]; rfl, rfl⟩) (Nat.le_of_ble_eq_true rfl) (Nat.le_of_ble_eq_true rfl) d_CL_holds_13
  · skip
    refine g_iconst (v := 1) X d_CL_holds_8 (by decide) ?_
    refine g_goto X 13 d_CL_holds_9 (by decide) ?_
    exact g_zret X rfl (by decide) (⟨by rw [bt_nf (fun z => c5 ((hold_bit ha hk).mpr z))]; rfl, rfl⟩) (Nat.le_of_ble_eq_true rfl) (Nat.le_of_ble_eq_true rfl) d_CL_holds_13
/-- the tours' cells: places, seconds, what is shown, ways, rests, how many acts -/
def tu_R (cI : ClassId) (f : g_F) (t : Nat) (a : Nat → Nat) (P Du S Wy Re : Nat → Nat) (n : Nat) : Prop :=
  f t = some (.inr (2, [.ref (a 0), .ref (a 1), .ref (a 2), .ref (a 3), .ref (a 4), .int (nI n)])) ∧ f (a 0) = some (.inl (cI, 8, .inl (fun i => nI (P i)))) ∧ f (a 1) = some (.inl (cI, 8, .inl (fun i => nI (Du i)))) ∧ f (a 2) = some (.inl (cI, 8, .inl (fun i => nI (S i)))) ∧ f (a 3) = some (.inl (cI, 100, .inl (fun i => nI (Wy i)))) ∧ f (a 4) = some (.inl (cI, 2048, .inl (fun i => nI (Re i))))
/-- what the numbers keep to -/
def tu_B (P Du S Wy : Nat → Nat) (n : Nat) : Prop := n ≤ 8 ∧ (∀ i, P i < 10) ∧ (∀ i, Du i ≤ 10000) ∧ (∀ i, S i < 2 ^ 24) ∧ ∀ i, Wy i ≤ 10000
theorem tu_ne {f : g_F} {x b : Nat} {ci : Nat} {fs : List Value} {y : ClassId × vp_A} (h : f x = some (.inr (ci, fs))) (h2 : f b = some (.inl y)) : x ≠ b := g_ne h h2 (fun z => by cases z)
/-- the cases that a set of acts shows -/
def orS (S : Nat → Nat) (acts : Nat) : Nat → Nat
  | 0 => 0
  | i + 1 => if acts.testBit i then orS S acts i ||| S i else orS S acts i
theorem orS_lt {S : Nat → Nat} (hS : ∀ i, S i < 2 ^ 24) (acts : Nat) : ∀ n, orS S acts n < 2 ^ 24
  | 0 => (by decide : 0 < 2 ^ 24)
  | n + 1 => by
    unfold orS
    split
    · exact or_lt (orS_lt hS acts n) (hS n)
    · exact orS_lt hS acts n
abbrev tu_wy (P Wy : Nat → Nat) (i j : Nat) : Nat := Wy (P i * 10 + P j)
set_option maxHeartbeats 4000000 in
set_option maxRecDepth 100000 in
theorem c_TU_actCount {l : Launch} {D : va_G} {cI cZ cO cJ : ClassId} {eA eM : Nat} {f : g_F} {t : Nat} {a : Nat → Nat} {P Du S Wy Re : Nat → Nat} {n : Nat} (hR : tu_R cI f t a P Du S Wy Re n) (hB : tu_B P Du S Wy n) : g_C l y_TU_actCount b_TU_actCount 1 (some .int) { frames := 0, cells := 0, slots := 0, locals := 0 } D g_cl (g_tys cI cZ cO cJ) (z_Z eA eM) [.ref t] f (fun r f2 => r = some (.int (nI n)) ∧ f2 = f) (fun _ => False) := by
  refine g_ofW [(0, .ref t)] (by decide +kernel) (Nat.le_of_ble_eq_true rfl) rfl ?_
  intro p e s m args below meth c X ht hin
  obtain ⟨hT, h0, h1, h2, h3, h4⟩ := id hR
  obtain ⟨hn8, hP, hDu, hS, hWy⟩ := id hB
  refine g_aload_n X d_TU_actCount_0 0 rfl ?_
  refine g_get (ci := 2) (C := R_TU) (T := F_TU) (N := 6) (v := .int (nI n)) X i_TU rfl hT 5 (by decide) q_89 (fun _ h9 => h9) rfl d_TU_actCount_1 ?_
  exact g_iret X rfl (⟨rfl, rfl⟩) (Nat.le_of_ble_eq_true rfl) (Nat.le_of_ble_eq_true rfl) d_TU_actCount_4
set_option maxHeartbeats 4000000 in
set_option maxRecDepth 100000 in
theorem c_TU_weight {l : Launch} {D : va_G} {cI cZ cO cJ : ClassId} {eA eM : Nat} {f : g_F} {x : Nat} (hx : x ≤ 20000) : g_C l y_TU_weight b_TU_weight 1 (some .int) { frames := 0, cells := 0, slots := 0, locals := 0 } D g_cl (g_tys cI cZ cO cJ) (z_Z eA eM) [.int (nI x)] f (fun r f2 => r = some (.int (nI (x * 16 + 1))) ∧ f2 = f) (fun _ => False) := by
  refine g_ofW [(0, .int (nI x))] (by decide +kernel) (Nat.le_of_ble_eq_true rfl) rfl ?_
  intro p e s m args below meth c X ht hin
  refine g_iload_n X d_TU_weight_0 0 rfl ?_
  refine g_iconst (v := 4) X d_TU_weight_1 (by decide) ?_
  refine g_ishl X d_TU_weight_2 ?_
  refine g_eqi (y := nI (x * 16)) (nI_shl (a := x) (k := 4) (by decide) (by omega)) ?_
  refine g_iconst (v := 1) X d_TU_weight_3 (by decide) ?_
  refine g_iadd X d_TU_weight_4 ?_
  refine g_eqi (y := nI (x * 16 + 1)) (nI_1 _) ?_
  exact g_iret X rfl (⟨rfl, rfl⟩) (Nat.le_of_ble_eq_true rfl) (Nat.le_of_ble_eq_true rfl) d_TU_weight_5
set_option maxHeartbeats 4000000 in
set_option maxRecDepth 100000 in
theorem c_TU_wayBetween {l : Launch} {D : va_G} {cI cZ cO cJ : ClassId} {eA eM : Nat} {f : g_F} {t : Nat} {a : Nat → Nat} {P Du S Wy Re : Nat → Nat} {n : Nat} (hR : tu_R cI f t a P Du S Wy Re n) (hB : tu_B P Du S Wy n) {i j : Nat} (hi : i < 8) (hj : j < 8) : g_C l y_TU_wayBetween b_TU_wayBetween 3 (some .int) { frames := 0, cells := 0, slots := 0, locals := 0 } D g_cl (g_tys cI cZ cO cJ) (z_Z eA eM) [.ref t, .int (nI i), .int (nI j)] f (fun r f2 => r = some (.int (nI (tu_wy P Wy i j))) ∧ f2 = f) (fun _ => False) := by
  refine g_ofW [(0, .ref t), (1, .int (nI i)), (2, .int (nI j))] (by decide +kernel) (Nat.le_of_ble_eq_true rfl) rfl ?_
  intro p e s m args below meth c X ht hin
  obtain ⟨hT, h0, h1, h2, h3, h4⟩ := id hR
  obtain ⟨hn8, hP, hDu, hS, hWy⟩ := id hB
  have hb : P i * 10 + P j < 100 := by have := hP i; have := hP j; omega
  refine g_aload_n X d_TU_wayBetween_0 0 rfl ?_
  refine g_get (ci := 2) (C := R_TU) (T := F_TU) (N := 6) (v := .ref (a 3)) X i_TU rfl hT 3 (by decide) q_87 (fun _ h9 => h9) rfl d_TU_wayBetween_1 ?_
  refine g_aload_n X d_TU_wayBetween_4 0 rfl ?_
  refine g_get (ci := 2) (C := R_TU) (T := F_TU) (N := 6) (v := .ref (a 0)) X i_TU rfl hT 0 (by decide) q_84 (fun _ h9 => h9) rfl d_TU_wayBetween_5 ?_
  refine g_iload_n X d_TU_wayBetween_8 1 rfl ?_
  refine g_iald (t0 := 0) (v := nI (P i)) X h0 rfl (nI_ix (hi) (by decide)) (nI_cl (g := fun q9 => nI (P q9)) (Nat.lt_trans (hi) (by decide))) d_TU_wayBetween_9 ?_
  refine g_bipush (v := 10) X d_TU_wayBetween_10 (by decide) ?_
  refine g_imul X d_TU_wayBetween_12 ?_
  refine g_eqi (y := nI (P i * 10)) (nI_mul (P i) 10) ?_
  refine g_aload_n X d_TU_wayBetween_13 0 rfl ?_
  refine g_get (ci := 2) (C := R_TU) (T := F_TU) (N := 6) (v := .ref (a 0)) X i_TU rfl hT 0 (by decide) q_84 (fun _ h9 => h9) rfl d_TU_wayBetween_14 ?_
  refine g_iload_n X d_TU_wayBetween_17 2 rfl ?_
  refine g_iald (t0 := 0) (v := nI (P j)) X h0 rfl (nI_ix (hj) (by decide)) (nI_cl (g := fun q9 => nI (P q9)) (Nat.lt_trans (hj) (by decide))) d_TU_wayBetween_18 ?_
  refine g_iadd X d_TU_wayBetween_19 ?_
  refine g_eqi (y := nI (P i * 10 + P j)) (nI_add _ _) ?_
  refine g_iald (t0 := 0) (v := nI (Wy (P i * 10 + P j))) X h3 rfl (nI_ix (hb) (by decide)) (nI_cl (g := fun q9 => nI (Wy q9)) (Nat.lt_trans (hb) (by decide))) d_TU_wayBetween_20 ?_
  exact g_iret X rfl (⟨rfl, rfl⟩) (Nat.le_of_ble_eq_true rfl) (Nat.le_of_ble_eq_true rfl) d_TU_wayBetween_21
set_option maxHeartbeats 4000000 in
set_option maxRecDepth 100000 in
theorem L_TU_shownBy {p : Program} {l : Launch} {e : Env} {s : State} {m : MethodId} {args : Array Value} {below : List Frame} {meth : Method} {c : Code} {Q : State → Prop} {A : Nat → Prop} {D : va_G} {cI cZ cO cJ : ClassId} {eA eM : Nat} {f : g_F} {t : Nat} {a : Nat → Nat} {P Du S Wy Re : Nat → Nat} {n : Nat} (hR : tu_R cI f t a P Du S Wy Re n) (hB : tu_B P Du S Wy n) {acts : Nat} (ha : acts < 2 ^ 31) (X : g_X p s m args meth c b_TU_shownBy 4 (some .int) g_T y_TU_shownBy.cls D g_cl (g_tys cI cZ cO cJ) A (z_Z eA eM)) (kk : g_W p l e { frames := 1, cells := 0, slots := 0, locals := 21 } s m args below meth c 4 D g_cl A f 0 0 Q 35 [(3, .int (nI n)), (2, .int (nI (orS S acts n))), (0, .ref t), (1, .int (nI acts))] []) : ∀ (d : Nat) (i : Nat), (i + d = n) → g_W p l e { frames := 1, cells := 0, slots := 0, locals := 21 } s m args below meth c 4 D g_cl A f 0 0 Q 4 [(3, .int (nI i)), (2, .int (nI (orS S acts i))), (0, .ref t), (1, .int (nI acts))] [] := by
  obtain ⟨hT, h0, h1, h2, h3, h4⟩ := id hR
  obtain ⟨hn8, hP, hDu, hS, hWy⟩ := id hB
  intro d
  induction d using Nat.strongRecOn with
  | _ d ih =>
    intro i hi
    refine g_iload_n X d_TU_shownBy_4 0 rfl ?_
    refine g_aload_n X d_TU_shownBy_5 2 rfl ?_
    refine g_get (ci := 2) (C := R_TU) (T := F_TU) (N := 6) (v := .int (nI n)) X i_TU rfl hT 5 (by decide) q_89 (fun _ h9 => h9) rfl d_TU_shownBy_6 ?_
    refine g_icmp_ge X 35 d_TU_shownBy_9 (by decide) (fun c9 => ?_) (fun c9 => ?_)
    · skip
      have e : i = n := by have := (nI_leI (by omega) (by omega)).mp c9; omega
      subst e
      exact kk
    · skip
      have hlt : i < n := Nat.lt_of_not_le (fun z => c9 ((nI_leI (by omega) (by omega)).mpr z))
      refine g_iload_n X d_TU_shownBy_12 3 rfl ?_
      refine g_iload_n X d_TU_shownBy_13 0 rfl ?_
      refine g_callSN (As := [.int (nI acts), .int (nI i)]) (rest := []) X (z_ok eA eM) (c_CL_holds (f := f) (a := acts) (k := i) (ha) (by omega)) v_CL_holds q_367 (X.2.2.2.2.2.2.2.1.1) (fun _ h => h) rfl rfl (Nat.le_of_ble_eq_true rfl) d_TU_shownBy_14 ⟨(Nat.le_of_ble_eq_true rfl), (Nat.le_of_ble_eq_true rfl)⟩ ⟨(Nat.le_of_ble_eq_true rfl), (Nat.le_of_ble_eq_true rfl)⟩ (fun r_ f2_ hp => ?_)
      obtain ⟨rfl, hf_⟩ := hp
      subst f2_
      refine g_st (st2 := [.int (bI (Nat.testBit acts i))]) rfl ?_
      refine g_if_eq X 29 d_TU_shownBy_17 (by decide) (fun c17 => ?_) (fun c17 => ?_)
      · skip
        have e : orS S acts (i + 1) = orS S acts i := if_neg (by rw [bI_z.mp c17]; decide)
        refine g_iinc (lv' := [(3, .int (nI (i + 1))), (2, .int (nI (orS S acts i))), (0, .ref t), (1, .int (nI acts))]) X d_TU_shownBy_29 0 rfl (nI_1 i) (by decide) rfl ?_
        refine g_goto X 4 d_TU_shownBy_32 (by decide) ?_
        rw [← e]
        exact g_lv [0, 1, 2, 3] rfl (ih (d - 1) (by omega) (i + 1) (by omega))
      · skip
        have e : orS S acts (i + 1) = orS S acts i ||| S i := if_pos (bt_nf (fun z => c17 (bI_z.mpr z)))
        refine g_iload_n X d_TU_shownBy_20 1 rfl ?_
        refine g_aload_n X d_TU_shownBy_21 2 rfl ?_
        refine g_get (ci := 2) (C := R_TU) (T := F_TU) (N := 6) (v := .ref (a 2)) X i_TU rfl hT 2 (by decide) q_86 (fun _ h9 => h9) rfl d_TU_shownBy_22 ?_
        refine g_iload_n X d_TU_shownBy_25 0 rfl ?_
        refine g_iald (t0 := 0) (v := nI (S i)) X h2 rfl (nI_ix ((by omega : i < 8)) (by decide)) (nI_cl (g := fun q9 => nI (S q9)) (Nat.lt_trans ((by omega : i < 8)) (by decide))) d_TU_shownBy_26 ?_
        refine g_ior X d_TU_shownBy_27 ?_
        refine g_eqi (y := nI (orS S acts (i + 1))) (by rw [e]; exact nI_or _ _) ?_
        refine g_istore_n (lv' := [(2, .int (nI (orS S acts (i + 1)))), (3, .int (nI i)), (0, .ref t), (1, .int (nI acts))]) X d_TU_shownBy_28 rfl (by decide) rfl ?_
        refine g_iinc (lv' := [(3, .int (nI (i + 1))), (2, .int (nI (orS S acts (i + 1)))), (0, .ref t), (1, .int (nI acts))]) X d_TU_shownBy_29 1 rfl (nI_1 i) (by decide) rfl ?_
        refine g_goto X 4 d_TU_shownBy_32 (by decide) ?_
        exact g_lv [0, 1, 2, 3] rfl (ih (d - 1) (by omega) (i + 1) (by omega))
set_option maxHeartbeats 4000000 in
set_option maxRecDepth 100000 in
theorem c_TU_shownBy {l : Launch} {D : va_G} {cI cZ cO cJ : ClassId} {eA eM : Nat} {f : g_F} {t : Nat} {a : Nat → Nat} {P Du S Wy Re : Nat → Nat} {n : Nat} (hR : tu_R cI f t a P Du S Wy Re n) (hB : tu_B P Du S Wy n) {acts : Nat} (ha : acts < 2 ^ 31) : g_C l y_TU_shownBy b_TU_shownBy 4 (some .int) { frames := 1, cells := 0, slots := 0, locals := 21 } D g_cl (g_tys cI cZ cO cJ) (z_Z eA eM) [.ref t, .int (nI acts)] f (fun r f2 => r = some (.int (nI (orS S acts n))) ∧ f2 = f) (fun _ => False) := by
  refine g_ofW [(0, .ref t), (1, .int (nI acts))] (by decide +kernel) (Nat.le_of_ble_eq_true rfl) rfl ?_
  intro p e s m args below meth c X ht hin
  refine g_iconst (v := 0) X d_TU_shownBy_0 (by decide) ?_
  refine g_istore_n (lv' := [(2, .int 0), (0, .ref t), (1, .int (nI acts))]) X d_TU_shownBy_1 rfl (by decide) rfl ?_
  refine g_iconst (v := 0) X d_TU_shownBy_2 (by decide) ?_
  refine g_istore_n (lv' := [(3, .int 0), (2, .int 0), (0, .ref t), (1, .int (nI acts))]) X d_TU_shownBy_3 rfl (by decide) rfl ?_
  refine L_TU_shownBy hR hB ha X ?_ n 0 (by omega)
  exact g_iload_n X d_TU_shownBy_35 1 rfl (g_iret X rfl ⟨rfl, rfl⟩ (Nat.le_of_ble_eq_true rfl) (Nat.le_of_ble_eq_true rfl) d_TU_shownBy_36)
