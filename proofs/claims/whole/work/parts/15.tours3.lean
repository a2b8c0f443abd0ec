set_option maxHeartbeats 4000000 in
set_option maxRecDepth 100000 in
theorem c_TU_addAct {l : Launch} {D : va_G} {cI cZ cO cJ : ClassId} {eA eM : Nat} {f : g_F} {t : Nat} {a : Nat → Nat} {P Du S Wy Re : Nat → Nat} {n : Nat} (hR : tu_R cI f t a P Du S Wy Re n) (hB : tu_B P Du S Wy n) (hI : ∀ i j, i < 5 → j < 5 → a i = a j → i = j) (hn : n < 8) {x y : Nat} : g_C l y_TU_addAct b_TU_addAct 3 (some .int) { frames := 0, cells := 0, slots := 0, locals := 0 } D g_cl (g_tys cI cZ cO cJ) (z_Z eA eM) [.ref t, .int (nI x), .int (nI y)] f (fun r f2 => r = some (.int (nI n)) ∧ f2 = g_u (g_u (g_u f (a 0) (.inl (cI, 8, .inl (fun q9 => nI ((va_up P n x) q9))))) (a 1) (.inl (cI, 8, .inl (fun q9 => nI ((va_up Du n y) q9))))) t (.inr (2, [.ref (a 0), .ref (a 1), .ref (a 2), .ref (a 3), .ref (a 4), .int (nI (n + 1))]))) (fun _ => False) := by
  refine g_ofW [(0, .ref t), (1, .int (nI x)), (2, .int (nI y))] (by decide +kernel) (Nat.le_of_ble_eq_true rfl) rfl ?_
  intro p e s m args below meth c X ht hin
  obtain ⟨hT, h0, h1, h2, h3, h4⟩ := id hR
  obtain ⟨hn8, hP, hDu, hS, hWy⟩ := id hB
  refine g_aload_n X d_TU_addAct_0 0 rfl ?_
  refine g_get (ci := 2) (C := R_TU) (T := F_TU) (N := 6) (v := .int (nI n)) X i_TU rfl hT 5 (by decide) q_89 (fun _ h9 => h9) rfl d_TU_addAct_1 ?_
  refine g_bipush (v := 8) X d_TU_addAct_4 (by decide) ?_
  refine g_icmp_lt X 11 d_TU_addAct_6 (by decide) (fun c6 => ?_) (fun c6 => ?_)
  · skip
    refine g_aload_n X d_TU_addAct_11 0 rfl ?_
    refine g_get (ci := 2) (C := R_TU) (T := F_TU) (N := 6) (v := .ref (a 0)) X i_TU rfl hT 0 (by decide) q_84 (fun _ h9 => h9) rfl d_TU_addAct_12 ?_
    refine g_aload_n X d_TU_addAct_15 0 rfl ?_
    refine g_get (ci := 2) (C := R_TU) (T := F_TU) (N := 6) (v := .int (nI n)) X i_TU rfl hT 5 (by decide) q_89 (fun _ h9 => h9) rfl d_TU_addAct_16 ?_
    refine g_iload_n X d_TU_addAct_19 1 rfl ?_
    refine g_iast (t0 := 0) (g2 := fun q9 => nI (va_up P n x q9)) X h0 rfl (nI_ix (hn) (by decide)) (upd_nI (g := P) (Nat.lt_trans (hn) (by decide))) d_TU_addAct_20 ?_
    generalize ef_1 : g_u f (a 0) (.inl (cI, 8, .inl (fun q9 => nI (va_up P n x q9)))) = f_1
    have h_2 : f_1 t = some (.inr (2, [.ref (a 0), .ref (a 1), .ref (a 2), .ref (a 3), .ref (a 4), .int (nI n)])) := by rw [← ef_1]; exact (g_u_n (tu_ne hT h0)).trans hT
    have h_3 : f_1 (a 0) = some (.inl (cI, 8, .inl (fun q9 => nI (va_up P n x q9)))) := by rw [← ef_1]; exact g_u_s
    have h_4 : f_1 (a 1) = some (.inl (cI, 8, .inl (fun i => nI (Du i)))) := by rw [← ef_1]; exact (g_u_n (fun z => absurd (hI 1 0 (by decide) (by decide) z) (by decide))).trans h1
    have h_5 : f_1 (a 2) = some (.inl (cI, 8, .inl (fun i => nI (S i)))) := by rw [← ef_1]; exact (g_u_n (fun z => absurd (hI 2 0 (by decide) (by decide) z) (by decide))).trans h2
    have h_6 : f_1 (a 3) = some (.inl (cI, 100, .inl (fun i => nI (Wy i)))) := by rw [← ef_1]; exact (g_u_n (fun z => absurd (hI 3 0 (by decide) (by decide) z) (by decide))).trans h3
    have h_7 : f_1 (a 4) = some (.inl (cI, 2048, .inl (fun i => nI (Re i)))) := by rw [← ef_1]; exact (g_u_n (fun z => absurd (hI 4 0 (by decide) (by decide) z) (by decide))).trans h4
    refine g_aload_n X d_TU_addAct_21 0 rfl ?_
    refine g_get (ci := 2) (C := R_TU) (T := F_TU) (N := 6) (v := .ref (a 1)) X i_TU rfl h_2 1 (by decide) q_85 (fun _ h9 => h9) rfl d_TU_addAct_22 ?_
    refine g_aload_n X d_TU_addAct_25 0 rfl ?_
    refine g_get (ci := 2) (C := R_TU) (T := F_TU) (N := 6) (v := .int (nI n)) X i_TU rfl h_2 5 (by decide) q_89 (fun _ h9 => h9) rfl d_TU_addAct_26 ?_
    refine g_iload_n X d_TU_addAct_29 2 rfl ?_
    refine g_iast (t0 := 0) (g2 := fun q9 => nI (va_up Du n y q9)) X h_4 rfl (nI_ix (hn) (by decide)) (upd_nI (g := Du) (Nat.lt_trans (hn) (by decide))) d_TU_addAct_30 ?_
    generalize ef_8 : g_u f_1 (a 1) (.inl (cI, 8, .inl (fun q9 => nI (va_up Du n y q9)))) = f_8
    have h_9 : f_8 t = some (.inr (2, [.ref (a 0), .ref (a 1), .ref (a 2), .ref (a 3), .ref (a 4), .int (nI n)])) := by rw [← ef_8]; exact (g_u_n (tu_ne h_2 h_4)).trans h_2
    have h_10 : f_8 (a 0) = some (.inl (cI, 8, .inl (fun q9 => nI (va_up P n x q9)))) := by rw [← ef_8]; exact (g_u_n (fun z => absurd (hI 0 1 (by decide) (by decide) z) (by decide))).trans h_3
    have h_11 : f_8 (a 1) = some (.inl (cI, 8, .inl (fun q9 => nI (va_up Du n y q9)))) := by rw [← ef_8]; exact g_u_s
    have h_12 : f_8 (a 2) = some (.inl (cI, 8, .inl (fun i => nI (S i)))) := by rw [← ef_8]; exact (g_u_n (fun z => absurd (hI 2 1 (by decide) (by decide) z) (by decide))).trans h_5
    have h_13 : f_8 (a 3) = some (.inl (cI, 100, .inl (fun i => nI (Wy i)))) := by rw [← ef_8]; exact (g_u_n (fun z => absurd (hI 3 1 (by decide) (by decide) z) (by decide))).trans h_6
    have h_14 : f_8 (a 4) = some (.inl (cI, 2048, .inl (fun i => nI (Re i)))) := by rw [← ef_8]; exact (g_u_n (fun z => absurd (hI 4 1 (by decide) (by decide) z) (by decide))).trans h_7
    refine g_aload_n X d_TU_addAct_31 0 rfl ?_
    refine g_dup X d_TU_addAct_32 rfl ?_
    refine g_get (ci := 2) (C := R_TU) (T := F_TU) (N := 6) (v := .int (nI n)) X i_TU rfl h_9 5 (by decide) q_89 (fun _ h9 => h9) rfl d_TU_addAct_33 ?_
    refine g_iconst (v := 1) X d_TU_addAct_36 (by decide) ?_
    refine g_iadd X d_TU_addAct_37 ?_
    refine g_eqi (y := nI (n + 1)) (nI_1 n) ?_
    refine g_put (ci := 2) (C := R_TU) (T := F_TU) (N := 6) (ty := .int) (fs2 := [.ref (a 0), .ref (a 1), .ref (a 2), .ref (a 3), .ref (a 4), .int (nI (n + 1))]) X i_TU t_TU t_TU_ok n_TU rfl h_9 5 (by decide) q_89 (fun _ h9 => h9) rfl (by decide +kernel) rfl rfl (Nat.le_of_ble_eq_true rfl) rfl d_TU_addAct_38 ?_
    generalize ef_15 : g_u f_8 t (.inr (2, [.ref (a 0), .ref (a 1), .ref (a 2), .ref (a 3), .ref (a 4), .int (nI (n + 1))])) = f_15
    have h_16 : f_15 t = some (.inr (2, [.ref (a 0), .ref (a 1), .ref (a 2), .ref (a 3), .ref (a 4), .int (nI (n + 1))])) := by rw [← ef_15]; exact g_u_s
    have h_17 : f_15 (a 0) = some (.inl (cI, 8, .inl (fun q9 => nI (va_up P n x q9)))) := by rw [← ef_15]; exact (g_u_n (Ne.symm (tu_ne h_9 h_10))).trans h_10
    have h_18 : f_15 (a 1) = some (.inl (cI, 8, .inl (fun q9 => nI (va_up Du n y q9)))) := by rw [← ef_15]; exact (g_u_n (Ne.symm (tu_ne h_9 h_11))).trans h_11
    have h_19 : f_15 (a 2) = some (.inl (cI, 8, .inl (fun i => nI (S i)))) := by rw [← ef_15]; exact (g_u_n (Ne.symm (tu_ne h_9 h_12))).trans h_12
    have h_20 : f_15 (a 3) = some (.inl (cI, 100, .inl (fun i => nI (Wy i)))) := by rw [← ef_15]; exact (g_u_n (Ne.symm (tu_ne h_9 h_13))).trans h_13
    have h_21 : f_15 (a 4) = some (.inl (cI, 2048, .inl (fun i => nI (Re i)))) := by rw [← ef_15]; exact (g_u_n (Ne.symm (tu_ne h_9 h_14))).trans h_14
    refine g_aload_n X d_TU_addAct_41 0 rfl ?_
    refine g_get (ci := 2) (C := R_TU) (T := F_TU) (N := 6) (v := .int (nI (n + 1))) X i_TU rfl h_16 5 (by decide) q_89 (fun _ h9 => h9) rfl d_TU_addAct_42 ?_
    refine g_iconst (v := 1) X d_TU_addAct_45 (by decide) ?_
    refine g_isub X d_TU_addAct_46 ?_
    refine g_eqi (y := nI n) ((nI_m1 (a := n + 1) (by omega)).trans (by rw [Nat.add_sub_cancel])) ?_
    exact g_iret X rfl (⟨rfl, by rw [← ef_15, ← ef_8, ← ef_1]⟩) (Nat.le_of_ble_eq_true rfl) (Nat.le_of_ble_eq_true rfl) d_TU_addAct_47
  · skip
    exact absurd ((nI_ltI (b := 8) (by omega) (by decide)).mpr hn) c6
/-- a case out of a set -/
def clr (a k : Nat) : Nat := a ^^^ (a &&& 2 ^ k)
theorem clr_lt {a k m : Nat} (h : a < 2 ^ m) : clr a k < 2 ^ m := Nat.xor_lt_two_pow h (Nat.lt_of_le_of_lt Nat.and_le_left h)
theorem clr_e {a k : Nat} (ha : a < 2 ^ 31) (hk : k < 31) : nI a &&& (((1 : Int32) <<< (nI k &&& 31)) ^^^ (-1)) = nI (clr a k) := by
  have e1 : (-1 : Int32) = nI (2 ^ 32 - 1) := by decide
  rw [nI_bit hk, e1, nI_xor, nI_and]
  congr 1
  apply Nat.eq_of_testBit_eq
  intro i
  unfold clr
  simp only [Nat.testBit_and, Nat.testBit_xor, Nat.testBit_two_pow_sub_one, Nat.testBit_two_pow]
  by_cases hi : i < 32
  · cases a.testBit i <;> by_cases hk2 : k = i <;> simp [hi, hk2]
  · have : a.testBit i = false := Nat.testBit_lt_two_pow (Nat.lt_of_lt_of_le ha (Nat.pow_le_pow_right (by decide) (by omega)))
    rw [this]; rfl
abbrev shw (S : Nat → Nat) (i k : Nat) (b : Bool) : Nat := if b then S i ||| 2 ^ k else clr (S i) k
set_option maxHeartbeats 4000000 in
set_option maxRecDepth 100000 in
theorem c_TU_setShown {l : Launch} {D : va_G} {cI cZ cO cJ : ClassId} {eA eM : Nat} {f : g_F} {t : Nat} {a : Nat → Nat} {P Du S Wy Re : Nat → Nat} {n : Nat} (hR : tu_R cI f t a P Du S Wy Re n) (hB : tu_B P Du S Wy n) (hI : ∀ i j, i < 5 → j < 5 → a i = a j → i = j) {i k : Nat} {b : Bool} (hi : i < 8) (hk : k < 24) : g_C l y_TU_setShown b_TU_setShown 5 (some .boolean) { frames := 1, cells := 0, slots := 0, locals := 21 } D g_cl (g_tys cI cZ cO cJ) (z_Z eA eM) [.ref t, .int (nI i), .int (nI k), .int (bI b)] f (fun r f2 => r = some (.int (bI ((S i).testBit k))) ∧ f2 = g_u f (a 2) (.inl (cI, 8, .inl (fun q9 => nI ((va_up S i (shw S i k b)) q9))))) (fun _ => False) := by
  refine g_ofW [(0, .ref t), (1, .int (nI i)), (2, .int (nI k)), (3, .int (bI b))] (by decide +kernel) (Nat.le_of_ble_eq_true rfl) rfl ?_
  intro p e s m args below meth c X ht hin
  obtain ⟨hT, h0, h1, h2, h3, h4⟩ := id hR
  obtain ⟨hn8, hP, hDu, hS, hWy⟩ := id hB
  have hS1 : S i < 2 ^ 31 := Nat.lt_trans (hS i) (by decide)
  refine g_aload_n X d_TU_setShown_0 0 rfl ?_
  refine g_get (ci := 2) (C := R_TU) (T := F_TU) (N := 6) (v := .ref (a 2)) X i_TU rfl hT 2 (by decide) q_86 (fun _ h9 => h9) rfl d_TU_setShown_1 ?_
  refine g_iload_n X d_TU_setShown_4 1 rfl ?_
  refine g_iald (t0 := 0) (v := nI (S i)) X h2 rfl (nI_ix (hi) (by decide)) (nI_cl (g := fun q9 => nI (S q9)) (Nat.lt_trans (hi) (by decide))) d_TU_setShown_5 ?_
  refine g_iload_n X d_TU_setShown_6 2 rfl ?_
  refine g_callSN (As := [.int (nI (S i)), .int (nI k)]) (rest := []) X (z_ok eA eM) (c_CL_holds (f := f) (a := S i) (k := k) (hS1) (by omega)) v_CL_holds q_367 (X.2.2.2.2.2.2.2.1.1) (fun _ h => h) rfl rfl (Nat.le_of_ble_eq_true rfl) d_TU_setShown_7 ⟨(Nat.le_of_ble_eq_true rfl), (Nat.le_of_ble_eq_true rfl)⟩ ⟨(Nat.le_of_ble_eq_true rfl), (Nat.le_of_ble_eq_true rfl)⟩ (fun r_ f2_ hp => ?_)
  obtain ⟨rfl, hf_⟩ := hp
  subst f2_
  refine g_st (st2 := [.int (bI (Nat.testBit (S i) k))]) rfl ?_
  refine g_istore (lv' := [(4, .int (bI (Nat.testBit (S i) k))), (0, .ref t), (1, .int (nI i)), (2, .int (nI k)), (3, .int (bI b))]) X d_TU_setShown_10 (by decide) rfl ?_
  refine g_iload_n X d_TU_setShown_12 4 rfl ?_
  refine g_if_eq X 31 d_TU_setShown_13 (by decide) (fun c13 => ?_) (fun c13 => ?_)
  · skip
    refine g_aload_n X d_TU_setShown_31 1 rfl ?_
    refine g_get (ci := 2) (C := R_TU) (T := F_TU) (N := 6) (v := .ref (a 2)) X i_TU rfl hT 2 (by decide) q_86 (fun _ h9 => h9) rfl d_TU_setShown_32 ?_
    refine g_iload_n X d_TU_setShown_35 2 rfl ?_
    refine g_dup2 X d_TU_setShown_36 rfl rfl ?_
    refine g_iald (t0 := 0) (v := nI (S i)) X h2 rfl (nI_ix (hi) (by decide)) (nI_cl (g := fun q9 => nI (S q9)) (Nat.lt_trans (hi) (by decide))) d_TU_setShown_37 ?_
    refine g_iconst (v := 1) X d_TU_setShown_38 (by decide) ?_
    refine g_iload_n X d_TU_setShown_39 3 rfl ?_
    refine g_ishl X d_TU_setShown_40 ?_
    refine g_iconst (v := (-1)) X d_TU_setShown_41 (by decide) ?_
    refine g_ixor X d_TU_setShown_42 ?_
    refine g_iand X d_TU_setShown_43 ?_
    refine g_eqi (y := nI (shw S i k b)) (by rw [show shw S i k b = clr (S i) k from if_neg (by rw [bI_z.mp c13]; decide)]; exact clr_e hS1 (by omega)) ?_
    refine g_iast (t0 := 0) (g2 := fun q9 => nI (va_up S i (shw S i k b) q9)) X h2 rfl (nI_ix (hi) (by decide)) (upd_nI (g := S) (Nat.lt_trans (hi) (by decide))) d_TU_setShown_44 ?_
    generalize ef_1 : g_u f (a 2) (.inl (cI, 8, .inl (fun q9 => nI (va_up S i (shw S i k b) q9)))) = f_1
    have h_2 : f_1 t = some (.inr (2, [.ref (a 0), .ref (a 1), .ref (a 2), .ref (a 3), .ref (a 4), .int (nI n)])) := by rw [← ef_1]; exact (g_u_n (tu_ne hT h2)).trans hT
    have h_3 : f_1 (a 0) = some (.inl (cI, 8, .inl (fun i => nI (P i)))) := by rw [← ef_1]; exact (g_u_n (fun z => absurd (hI 0 2 (by decide) (by decide) z) (by decide))).trans h0
    have h_4 : f_1 (a 1) = some (.inl (cI, 8, .inl (fun i => nI (Du i)))) := by rw [← ef_1]; exact (g_u_n (fun z => absurd (hI 1 2 (by decide) (by decide) z) (by decide))).trans h1
    have h_5 : f_1 (a 2) = some (.inl (cI, 8, .inl (fun q9 => nI (va_up S i (shw S i k b) q9)))) := by rw [← ef_1]; exact g_u_s
    have h_6 : f_1 (a 3) = some (.inl (cI, 100, .inl (fun i => nI (Wy i)))) := by rw [← ef_1]; exact (g_u_n (fun z => absurd (hI 3 2 (by decide) (by decide) z) (by decide))).trans h3
    have h_7 : f_1 (a 4) = some (.inl (cI, 2048, .inl (fun i => nI (Re i)))) := by rw [← ef_1]; exact (g_u_n (fun z => absurd (hI 4 2 (by decide) (by decide) z) (by decide))).trans h4
    refine g_iload X d_TU_setShown_45 0 rfl ?_
    exact g_zret X rfl (bI_nar _) (⟨rfl, by rw [← ef_1]⟩) (Nat.le_of_ble_eq_true rfl) (Nat.le_of_ble_eq_true rfl) d_TU_setShown_47
  · skip
    refine g_aload_n X d_TU_setShown_16 1 rfl ?_
    refine g_get (ci := 2) (C := R_TU) (T := F_TU) (N := 6) (v := .ref (a 2)) X i_TU rfl hT 2 (by decide) q_86 (fun _ h9 => h9) rfl d_TU_setShown_17 ?_
    refine g_iload_n X d_TU_setShown_20 2 rfl ?_
    refine g_dup2 X d_TU_setShown_21 rfl rfl ?_
    refine g_iald (t0 := 0) (v := nI (S i)) X h2 rfl (nI_ix (hi) (by decide)) (nI_cl (g := fun q9 => nI (S q9)) (Nat.lt_trans (hi) (by decide))) d_TU_setShown_22 ?_
    refine g_iconst (v := 1) X d_TU_setShown_23 (by decide) ?_
    refine g_iload_n X d_TU_setShown_24 3 rfl ?_
    refine g_ishl X d_TU_setShown_25 ?_
    refine g_eqi (y := nI (2 ^ k)) (nI_bit (by omega)) ?_
    refine g_ior X d_TU_setShown_26 ?_
    refine g_eqi (y := nI (shw S i k b)) (by rw [show shw S i k b = S i ||| 2 ^ k from if_pos (bt_nf (fun z => c13 (bI_z.mpr z)))]; exact nI_or _ _) ?_
    refine g_iast (t0 := 0) (g2 := fun q9 => nI (va_up S i (shw S i k b) q9)) X h2 rfl (nI_ix (hi) (by decide)) (upd_nI (g := S) (Nat.lt_trans (hi) (by decide))) d_TU_setShown_27 ?_
    generalize ef_8 : g_u f (a 2) (.inl (cI, 8, .inl (fun q9 => nI (va_up S i (shw S i k b) q9)))) = f_8
    have h_9 : f_8 t = some (.inr (2, [.ref (a 0), .ref (a 1), .ref (a 2), .ref (a 3), .ref (a 4), .int (nI n)])) := by rw [← ef_8]; exact (g_u_n (tu_ne hT h2)).trans hT
    have h_10 : f_8 (a 0) = some (.inl (cI, 8, .inl (fun i => nI (P i)))) := by rw [← ef_8]; exact (g_u_n (fun z => absurd (hI 0 2 (by decide) (by decide) z) (by decide))).trans h0
    have h_11 : f_8 (a 1) = some (.inl (cI, 8, .inl (fun i => nI (Du i)))) := by rw [← ef_8]; exact (g_u_n (fun z => absurd (hI 1 2 (by decide) (by decide) z) (by decide))).trans h1
    have h_12 : f_8 (a 2) = some (.inl (cI, 8, .inl (fun q9 => nI (va_up S i (shw S i k b) q9)))) := by rw [← ef_8]; exact g_u_s
    have h_13 : f_8 (a 3) = some (.inl (cI, 100, .inl (fun i => nI (Wy i)))) := by rw [← ef_8]; exact (g_u_n (fun z => absurd (hI 3 2 (by decide) (by decide) z) (by decide))).trans h3
    have h_14 : f_8 (a 4) = some (.inl (cI, 2048, .inl (fun i => nI (Re i)))) := by rw [← ef_8]; exact (g_u_n (fun z => absurd (hI 4 2 (by decide) (by decide) z) (by decide))).trans h4
    refine g_goto X 45 d_TU_setShown_28 (by decide) ?_
    refine g_iload X d_TU_setShown_45 0 rfl ?_
    exact g_zret X rfl (bI_nar _) (⟨rfl, by rw [← ef_8]⟩) (Nat.le_of_ble_eq_true rfl) (Nat.le_of_ble_eq_true rfl) d_TU_setShown_47
set_option maxHeartbeats 4000000 in
set_option maxRecDepth 100000 in
theorem c_TU_setWay {l : Launch} {D : va_G} {cI cZ cO cJ : ClassId} {eA eM : Nat} {f : g_F} {t : Nat} {a : Nat → Nat} {P Du S Wy Re : Nat → Nat} {n : Nat} (hR : tu_R cI f t a P Du S Wy Re n) (hB : tu_B P Du S Wy n) (hI : ∀ i j, i < 5 → j < 5 → a i = a j → i = j) {x y z : Nat} (hx : x < 10) (hy : y < 10) : g_C l y_TU_setWay b_TU_setWay 5 (some .int) { frames := 0, cells := 0, slots := 0, locals := 0 } D g_cl (g_tys cI cZ cO cJ) (z_Z eA eM) [.ref t, .int (nI x), .int (nI y), .int (nI z)] f (fun r f2 => r = some (.int (nI (Wy (x * 10 + y)))) ∧ f2 = g_u f (a 3) (.inl (cI, 100, .inl (fun q9 => nI ((va_up (va_up Wy (x * 10 + y) z) (y * 10 + x) z) q9))))) (fun _ => False) := by
  refine g_ofW [(0, .ref t), (1, .int (nI x)), (2, .int (nI y)), (3, .int (nI z))] (by decide +kernel) (Nat.le_of_ble_eq_true rfl) rfl ?_
  intro p e s m args below meth c X ht hin
  obtain ⟨hT, h0, h1, h2, h3, h4⟩ := id hR
  obtain ⟨hn8, hP, hDu, hS, hWy⟩ := id hB
  refine g_aload_n X d_TU_setWay_0 0 rfl ?_
  refine g_get (ci := 2) (C := R_TU) (T := F_TU) (N := 6) (v := .ref (a 3)) X i_TU rfl hT 3 (by decide) q_87 (fun _ h9 => h9) rfl d_TU_setWay_1 ?_
  refine g_iload_n X d_TU_setWay_4 1 rfl ?_
  refine g_bipush (v := 10) X d_TU_setWay_5 (by decide) ?_
  refine g_imul X d_TU_setWay_7 ?_
  refine g_eqi (y := nI (x * 10)) (nI_mul x 10) ?_
  refine g_iload_n X d_TU_setWay_8 2 rfl ?_
  refine g_iadd X d_TU_setWay_9 ?_
  refine g_eqi (y := nI (x * 10 + y)) (nI_add _ _) ?_
  refine g_iald (t0 := 0) (v := nI (Wy (x * 10 + y))) X h3 rfl (nI_ix ((by omega : x * 10 + y < 100)) (by decide)) (nI_cl (g := fun q9 => nI (Wy q9)) (Nat.lt_trans ((by omega : x * 10 + y < 100)) (by decide))) d_TU_setWay_10 ?_
  refine g_istore (lv' := [(4, .int (nI (Wy (x * 10 + y)))), (0, .ref t), (1, .int (nI x)), (2, .int (nI y)), (3, .int (nI z))]) X d_TU_setWay_11 (by decide) rfl ?_
  refine g_aload_n X d_TU_setWay_13 1 rfl ?_
  refine g_get (ci := 2) (C := R_TU) (T := F_TU) (N := 6) (v := .ref (a 3)) X i_TU rfl hT 3 (by decide) q_87 (fun _ h9 => h9) rfl d_TU_setWay_14 ?_
  refine g_iload_n X d_TU_setWay_17 2 rfl ?_
  refine g_bipush (v := 10) X d_TU_setWay_18 (by decide) ?_
  refine g_imul X d_TU_setWay_20 ?_
  refine g_eqi (y := nI (x * 10)) (nI_mul x 10) ?_
  refine g_iload_n X d_TU_setWay_21 3 rfl ?_
  refine g_iadd X d_TU_setWay_22 ?_
  refine g_eqi (y := nI (x * 10 + y)) (nI_add _ _) ?_
  refine g_iload_n X d_TU_setWay_23 4 rfl ?_
  refine g_iast (t0 := 0) (g2 := fun q9 => nI (va_up Wy (x * 10 + y) z q9)) X h3 rfl (nI_ix ((by omega : x * 10 + y < 100)) (by decide)) (upd_nI (g := Wy) (Nat.lt_trans ((by omega : x * 10 + y < 100)) (by decide))) d_TU_setWay_24 ?_
  generalize ef_1 : g_u f (a 3) (.inl (cI, 100, .inl (fun q9 => nI (va_up Wy (x * 10 + y) z q9)))) = f_1
  have h_2 : f_1 t = some (.inr (2, [.ref (a 0), .ref (a 1), .ref (a 2), .ref (a 3), .ref (a 4), .int (nI n)])) := by rw [← ef_1]; exact (g_u_n (tu_ne hT h3)).trans hT
  have h_3 : f_1 (a 0) = some (.inl (cI, 8, .inl (fun i => nI (P i)))) := by rw [← ef_1]; exact (g_u_n (fun z => absurd (hI 0 3 (by decide) (by decide) z) (by decide))).trans h0
  have h_4 : f_1 (a 1) = some (.inl (cI, 8, .inl (fun i => nI (Du i)))) := by rw [← ef_1]; exact (g_u_n (fun z => absurd (hI 1 3 (by decide) (by decide) z) (by decide))).trans h1
  have h_5 : f_1 (a 2) = some (.inl (cI, 8, .inl (fun i => nI (S i)))) := by rw [← ef_1]; exact (g_u_n (fun z => absurd (hI 2 3 (by decide) (by decide) z) (by decide))).trans h2
  have h_6 : f_1 (a 3) = some (.inl (cI, 100, .inl (fun q9 => nI (va_up Wy (x * 10 + y) z q9)))) := by rw [← ef_1]; exact g_u_s
  have h_7 : f_1 (a 4) = some (.inl (cI, 2048, .inl (fun i => nI (Re i)))) := by rw [← ef_1]; exact (g_u_n (fun z => absurd (hI 4 3 (by decide) (by decide) z) (by decide))).trans h4
  refine g_aload_n X d_TU_setWay_25 1 rfl ?_
  refine g_get (ci := 2) (C := R_TU) (T := F_TU) (N := 6) (v := .ref (a 3)) X i_TU rfl h_2 3 (by decide) q_87 (fun _ h9 => h9) rfl d_TU_setWay_26 ?_
  refine g_iload_n X d_TU_setWay_29 3 rfl ?_
  refine g_bipush (v := 10) X d_TU_setWay_30 (by decide) ?_
  refine g_imul X d_TU_setWay_32 ?_
  refine g_eqi (y := nI (y * 10)) (nI_mul y 10) ?_
  refine g_iload_n X d_TU_setWay_33 2 rfl ?_
  refine g_iadd X d_TU_setWay_34 ?_
  refine g_eqi (y := nI (y * 10 + x)) (nI_add _ _) ?_
  refine g_iload_n X d_TU_setWay_35 4 rfl ?_
  refine g_iast (t0 := 0) (g2 := fun q9 => nI (va_up (va_up Wy (x * 10 + y) z) (y * 10 + x) z q9)) X h_6 rfl (nI_ix ((by omega : y * 10 + x < 100)) (by decide)) (upd_nI (g := (va_up Wy (x * 10 + y) z)) (Nat.lt_trans ((by omega : y * 10 + x < 100)) (by decide))) d_TU_setWay_36 ?_
  generalize ef_8 : g_u f_1 (a 3) (.inl (cI, 100, .inl (fun q9 => nI (va_up (va_up Wy (x * 10 + y) z) (y * 10 + x) z q9)))) = f_8
  have h_9 : f_8 t = some (.inr (2, [.ref (a 0), .ref (a 1), .ref (a 2), .ref (a 3), .ref (a 4), .int (nI n)])) := by rw [← ef_8]; exact (g_u_n (tu_ne h_2 h_6)).trans h_2
  have h_10 : f_8 (a 0) = some (.inl (cI, 8, .inl (fun i => nI (P i)))) := by rw [← ef_8]; exact (g_u_n (fun z => absurd (hI 0 3 (by decide) (by decide) z) (by decide))).trans h_3
  have h_11 : f_8 (a 1) = some (.inl (cI, 8, .inl (fun i => nI (Du i)))) := by rw [← ef_8]; exact (g_u_n (fun z => absurd (hI 1 3 (by decide) (by decide) z) (by decide))).trans h_4
  have h_12 : f_8 (a 2) = some (.inl (cI, 8, .inl (fun i => nI (S i)))) := by rw [← ef_8]; exact (g_u_n (fun z => absurd (hI 2 3 (by decide) (by decide) z) (by decide))).trans h_5
  have h_13 : f_8 (a 3) = some (.inl (cI, 100, .inl (fun q9 => nI (va_up (va_up Wy (x * 10 + y) z) (y * 10 + x) z q9)))) := by rw [← ef_8]; exact g_u_s
  have h_14 : f_8 (a 4) = some (.inl (cI, 2048, .inl (fun i => nI (Re i)))) := by rw [← ef_8]; exact (g_u_n (fun z => absurd (hI 4 3 (by decide) (by decide) z) (by decide))).trans h_7
  refine g_iload X d_TU_setWay_37 0 rfl ?_
  exact g_iret X rfl (⟨rfl, by rw [← ef_8, ← ef_1, g_u_u]⟩) (Nat.le_of_ble_eq_true rfl) (Nat.le_of_ble_eq_true rfl) d_TU_setWay_39
/-- the world with other rests -/
def tu_w (cI : ClassId) (f : g_F) (a : Nat → Nat) (Re : Nat → Nat) : g_F := g_u f (a 4) (.inl (cI, 2048, .inl (fun i => nI (Re i))))
theorem tu_w_w {cI : ClassId} {f : g_F} {a : Nat → Nat} {Re Re2 : Nat → Nat} : g_u (tu_w cI f a Re) (a 4) (.inl (cI, 2048, .inl (fun i => nI (Re2 i)))) = tu_w cI f a Re2 := g_u_u
theorem g_u_id {f : g_F} {q : Nat} {x : va_E} (h : f q = some x) : g_u f q x = f := by
  funext r
  by_cases hr : r = q
  · subst hr; rw [g_u_s, h]
  · rw [g_u_n hr]
theorem tu_w_id {cI : ClassId} {f : g_F} {t : Nat} {a : Nat → Nat} {P Du S Wy Re : Nat → Nat} {n : Nat} (hR : tu_R cI f t a P Du S Wy Re n) : tu_w cI f a Re = f := g_u_id hR.2.2.2.2.2
theorem tu_w_R {cI : ClassId} {f : g_F} {t : Nat} {a : Nat → Nat} {P Du S Wy Re : Nat → Nat} {n : Nat} (hR : tu_R cI f t a P Du S Wy Re n) (hI : ∀ i j, i < 5 → j < 5 → a i = a j → i = j) (Re2 : Nat → Nat) : tu_R cI (tu_w cI f a Re2) t a P Du S Wy Re2 n := by
  obtain ⟨hT, h0, h1, h2, h3, h4⟩ := hR
  have k : ∀ i, i < 4 → a i ≠ a 4 := fun i hi z => absurd (hI i 4 (by omega) (by decide) z) (by omega)
  exact ⟨(g_u_n (tu_ne hT h4)).trans hT, (g_u_n (k 0 (by decide))).trans h0, (g_u_n (k 1 (by decide))).trans h1, (g_u_n (k 2 (by decide))).trans h2, (g_u_n (k 3 (by decide))).trans h3, g_u_s⟩
/-- the rest of a set of acts and the last of them is what it must be -/
def bell (P Du S Wy : Nat → Nat) (n need : Nat) (Re : Nat → Nat) (done last : Nat) : Prop := Re (done * 8 + last) = if cov S n need done then 0 else lrest P Du Wy Re done last n
/-- .. for all sets above one -/
def bellA (P Du S Wy : Nat → Nat) (n need : Nat) (Re : Nat → Nat) (dn : Nat) : Prop := (∀ k, Re k ≤ 2 ^ 28) ∧ ∀ d, dn < d → d < 2 ^ n → ∀ j, j < n → d.testBit j = true → bell P Du S Wy n need Re d j
theorem lrest_congr {P Du Wy Re Re2 : Nat → Nat} {done last : Nat} : ∀ n, (∀ x, x < n → done.testBit x = false → Re2 ((done ||| 2 ^ x) * 8 + x) = Re ((done ||| 2 ^ x) * 8 + x)) → lrest P Du Wy Re2 done last n = lrest P Du Wy Re done last n
  | 0, _ => rfl
  | n + 1, h => by
    have ih := lrest_congr (P := P) (Du := Du) (Wy := Wy) (last := last) n (fun x hx => h x (by omega))
    unfold lrest
    rw [ih]
    cases hb : done.testBit n
    · simp only [wN]
      rw [h n (by omega) hb]
    · rfl
theorem or_gt {d x : Nat} (h : d.testBit x = false) : d < d ||| 2 ^ x := by
  have h1 : d ≤ d ||| 2 ^ x := Nat.left_le_or
  rcases Nat.lt_or_ge d (d ||| 2 ^ x) with h2 | h2
  · exact h2
  · have h3 : d = d ||| 2 ^ x := by omega
    have h4 := congrArg (fun z => Nat.testBit z x) h3
    simp [Nat.testBit_or, Nat.testBit_two_pow, h] at h4
theorem bell_up {P Du S Wy : Nat → Nat} {n need : Nat} {Re : Nat → Nat} {dn i v d j : Nat} (hn : n ≤ 8) (hi : i < 8) (hd : dn ≤ d) (hj : j < n) (hne : ¬ (d = dn ∧ j = i)) (h : bell P Du S Wy n need Re d j) : bell P Du S Wy n need (va_up Re (dn * 8 + i) v) d j := by
  unfold bell at h ⊢
  rw [show va_up Re (dn * 8 + i) v (d * 8 + j) = Re (d * 8 + j) from if_neg (by omega), h]
  split
  · rfl
  · symm
    apply lrest_congr
    intro x hx hb
    have := or_gt hb
    exact if_neg (by omega)
theorem bell_new {P Du S Wy : Nat → Nat} {n need : Nat} {Re : Nat → Nat} {dn i : Nat} (hn : n ≤ 8) (hi : i < 8) : bell P Du S Wy n need (va_up Re (dn * 8 + i) (if cov S n need dn then 0 else lrest P Du Wy Re dn i n)) dn i := by
  unfold bell
  rw [show va_up Re (dn * 8 + i) (if cov S n need dn then 0 else lrest P Du Wy Re dn i n) (dn * 8 + i) = _ from if_pos rfl]
  split
  · rfl
  · symm
    apply lrest_congr
    intro x hx hb
    have := or_gt hb
    exact if_neg (by omega)
theorem le_up {Re : Nat → Nat} {k v : Nat} (h : ∀ k, Re k ≤ 2 ^ 28) (hv : v ≤ 2 ^ 28) : ∀ j, va_up Re k v j ≤ 2 ^ 28 := by
  intro j
  by_cases hj : j = k
  · subst hj; rw [show va_up Re j v j = v from if_pos rfl]; exact hv
  · rw [show va_up Re k v j = Re j from if_neg hj]; exact h j
set_option maxHeartbeats 4000000 in
set_option maxRecDepth 100000 in
theorem L_TU_weighRestsI {p : Program} {l : Launch} {e : Env} {s : State} {m : MethodId} {args : Array Value} {below : List Frame} {meth : Method} {c : Code} {Q : State → Prop} {A : Nat → Prop} {D : va_G} {cI cZ cO cJ : ClassId} {eA eM : Nat} {f : g_F} {t : Nat} {a : Nat → Nat} {P Du S Wy Re : Nat → Nat} {n : Nat} (hR : tu_R cI f t a P Du S Wy Re n) (hB : tu_B P Du S Wy n) (hI : ∀ i j, i < 5 → j < 5 → a i = a j → i = j) {need : Nat} (hne : need < 2 ^ 31) {dn : Nat} (hdn : dn < 2 ^ n) (X : g_X p s m args meth c b_TU_weighRests 5 none g_T y_TU_weighRests.cls D g_cl (g_tys cI cZ cO cJ) A (z_Z eA eM)) (kk : ∀ Re : Nat → Nat, bellA P Du S Wy n need Re dn → (∀ j, j < n → dn.testBit j = true → bell P Du S Wy n need Re dn j) → g_W p l e { frames := 3, cells := 0, slots := 0, locals := 70 } s m args below meth c 5 D g_cl A (tu_w cI f a Re) 0 0 Q 74 [(4, .int (nI n)), (3, .int (bI (cov S n need dn))), (2, .int (nI dn)), (0, .ref t), (1, .int (nI need))] []) : ∀ (d : Nat) (i : Nat) (Re : Nat → Nat), (i + d = n) → (bellA P Du S Wy n need Re dn) → (∀ j, j < i → dn.testBit j = true → bell P Du S Wy n need Re dn j) → g_W p l e { frames := 3, cells := 0, slots := 0, locals := 70 } s m args below meth c 5 D g_cl A (tu_w cI f a Re) 0 0 Q 23 [(4, .int (nI i)), (3, .int (bI (cov S n need dn))), (2, .int (nI dn)), (0, .ref t), (1, .int (nI need))] [] := by
  obtain ⟨hT, h0, h1, h2, h3, h4⟩ := id hR
  obtain ⟨hn8, hP, hDu, hS, hWy⟩ := id hB
  have h256 : 2 ^ n ≤ 256 := Nat.pow_le_pow_right (n := 2) (by decide) hn8
  have hR0 := hR
  clear hT h0 h1 h2 h3 h4
  intro d
  induction d using Nat.strongRecOn with
  | _ d ih =>
    intro i Re hi hA hJ
    have hR2 := tu_w_R hR0 hI Re
    obtain ⟨hT, h0, h1, h2, h3, h4⟩ := id hR2
    refine g_iload X d_TU_weighRests_23 0 rfl ?_
    refine g_aload_n X d_TU_weighRests_25 3 rfl ?_
    refine g_get (ci := 2) (C := R_TU) (T := F_TU) (N := 6) (v := .int (nI n)) X i_TU rfl hT 5 (by decide) q_89 (fun _ h9 => h9) rfl d_TU_weighRests_26 ?_
    refine g_icmp_ge X 74 d_TU_weighRests_29 (by decide) (fun c29 => ?_) (fun c29 => ?_)
    · skip
      have e : i = n := by have := (nI_leI (by omega) (by omega)).mp c29; omega
      subst e
      exact kk Re hA hJ
    · skip
      have hlt : i < n := Nat.lt_of_not_le (fun z => c29 ((nI_leI (by omega) (by omega)).mpr z))
      refine g_iload_n X d_TU_weighRests_32 2 rfl ?_
      refine g_iload X d_TU_weighRests_33 0 rfl ?_
      refine g_callSN (As := [.int (nI dn), .int (nI i)]) (rest := []) X (z_ok eA eM) (c_CL_holds (f := (tu_w cI f a Re)) (a := dn) (k := i) (by omega) (by omega)) v_CL_holds q_367 (X.2.2.2.2.2.2.2.1.1) (fun _ h => h) rfl rfl (Nat.le_of_ble_eq_true rfl) d_TU_weighRests_35 ⟨(Nat.le_of_ble_eq_true rfl), (Nat.le_of_ble_eq_true rfl)⟩ ⟨(Nat.le_of_ble_eq_true rfl), (Nat.le_of_ble_eq_true rfl)⟩ (fun r_ f2_ hp => ?_)
      obtain ⟨rfl, hf_⟩ := hp
      subst f2_
      refine g_st (st2 := [.int (bI (Nat.testBit dn i))]) rfl ?_
      refine g_if_eq X 68 d_TU_weighRests_38 (by decide) (fun c38 => ?_) (fun c38 => ?_)
      · skip
        have hnb : dn.testBit i = false := bI_z.mp c38
        refine g_iinc (lv' := [(4, .int (nI (i + 1))), (3, .int (bI (cov S n need dn))), (2, .int (nI dn)), (0, .ref t), (1, .int (nI need))]) X d_TU_weighRests_68 0 rfl (nI_1 i) (by decide) rfl ?_
        refine g_goto X 23 d_TU_weighRests_71 (by decide) ?_
        exact g_lv [0, 1, 2, 3, 4] rfl (ih (d - 1) (by omega) (i + 1) Re (by omega) hA (fun j hj hb => (Nat.lt_or_ge j i).elim (fun h => hJ j h hb) (fun h => absurd hb (by rw [show j = i by omega, hnb]; decide))))
      · skip
        have hnb : dn.testBit i = true := bt_nf (fun z => c38 (bI_z.mpr z))
        refine g_aload_n X d_TU_weighRests_41 3 rfl ?_
        refine g_get (ci := 2) (C := R_TU) (T := F_TU) (N := 6) (v := .ref (a 4)) X i_TU rfl hT 4 (by decide) q_88 (fun _ h9 => h9) rfl d_TU_weighRests_42 ?_
        refine g_iload_n X d_TU_weighRests_45 2 rfl ?_
        refine g_bipush (v := 8) X d_TU_weighRests_46 (by decide) ?_
        refine g_imul X d_TU_weighRests_48 ?_
        refine g_eqi (y := nI (dn * 8)) (nI_mul dn 8) ?_
        refine g_iload X d_TU_weighRests_49 0 rfl ?_
        refine g_iadd X d_TU_weighRests_51 ?_
        refine g_eqi (y := nI (dn * 8 + i)) (nI_add _ _) ?_
        refine g_iload_n X d_TU_weighRests_52 1 rfl ?_
        refine g_if_eq X 60 d_TU_weighRests_53 (by decide) (fun c53 => ?_) (fun c53 => ?_)
        · skip
          refine g_aload_n X d_TU_weighRests_60 3 rfl ?_
          refine g_iload_n X d_TU_weighRests_61 2 rfl ?_
          refine g_iload X d_TU_weighRests_62 0 rfl ?_
          refine g_callV (ci := 2) (As := [.int (nI dn), .int (nI i)]) (rest := [.int (nI (dn * 8 + i)), .ref (a 4)]) X (z_ok eA eM) rfl rfl hT (c_TU_leastRest hR2 hB hA.1 (done := dn) (last := i) (by omega) (by omega)) v_TU_leastRest q_479 q_s12 q_477 rfl rfl (Nat.le_of_ble_eq_true rfl) d_TU_weighRests_64 ⟨(Nat.le_of_ble_eq_true rfl), (Nat.le_of_ble_eq_true rfl)⟩ ⟨(Nat.le_of_ble_eq_true rfl), (Nat.le_of_ble_eq_true rfl)⟩ (g_K.no (fun _ h => h)) (fun r_ f2_ hp => ?_)
          obtain ⟨rfl, hf_⟩ := hp
          subst f2_
          refine g_st (st2 := [.int (nI (lrest P Du Wy Re dn i n)), .int (nI (dn * 8 + i)), .ref (a 4)]) rfl ?_
          refine g_eqi (y := nI (if cov S n need dn then 0 else lrest P Du Wy Re dn i n)) (by rw [if_neg (by rw [bI_z.mp c53]; decide)]) ?_
          refine g_iast (t0 := 0) (g2 := fun q9 => nI ((va_up Re (dn * 8 + i) (if cov S n need dn then 0 else lrest P Du Wy Re dn i n)) q9)) X h4 rfl (nI_ix (by omega : dn * 8 + i < 2048) (by decide)) (upd_nI (g := Re) (by omega : dn * 8 + i < 2 ^ 31)) d_TU_weighRests_67 ?_
          refine g_eqf (f2 := (tu_w cI f a (va_up Re (dn * 8 + i) (if cov S n need dn then 0 else lrest P Du Wy Re dn i n)))) (tu_w_w) ?_
          have hb2 : bellA P Du S Wy n need (va_up Re (dn * 8 + i) (if cov S n need dn then 0 else lrest P Du Wy Re dn i n)) dn := ⟨le_up hA.1 (by split; exact Nat.zero_le _; exact lrest_le _ _ _ _ _ _ _), fun d2 h1 h2 j hj hb => bell_up hn8 (by omega) (by omega) hj (by omega) (hA.2 d2 h1 h2 j hj hb)⟩
          have hj2 : ∀ j, j < i + 1 → dn.testBit j = true → bell P Du S Wy n need (va_up Re (dn * 8 + i) (if cov S n need dn then 0 else lrest P Du Wy Re dn i n)) dn j := fun j hj hb => by
            by_cases e : j = i
            · subst e; exact bell_new hn8 (by omega)
            · exact bell_up hn8 (by omega) (Nat.le_refl _) (by omega) (fun z => e z.2) (hJ j (by omega) hb)
          refine g_iinc (lv' := [(4, .int (nI (i + 1))), (3, .int (bI (cov S n need dn))), (2, .int (nI dn)), (0, .ref t), (1, .int (nI need))]) X d_TU_weighRests_68 0 rfl (nI_1 i) (by decide) rfl ?_
          refine g_goto X 23 d_TU_weighRests_71 (by decide) ?_
          exact g_lv [0, 1, 2, 3, 4] rfl (ih (d - 1) (by omega) (i + 1) (va_up Re (dn * 8 + i) (if cov S n need dn then 0 else lrest P Du Wy Re dn i n)) (by omega) hb2 hj2)
        · skip
          refine g_iconst (v := 0) X d_TU_weighRests_56 (by decide) ?_
          refine g_goto X 67 d_TU_weighRests_57 (by decide) ?_
          refine g_eqi (y := nI (if cov S n need dn then 0 else lrest P Du Wy Re dn i n)) (by rw [if_pos (bt_nf (fun z => c53 (bI_z.mpr z)))]; rfl) ?_
          refine g_iast (t0 := 0) (g2 := fun q9 => nI ((va_up Re (dn * 8 + i) (if cov S n need dn then 0 else lrest P Du Wy Re dn i n)) q9)) X h4 rfl (nI_ix (by omega : dn * 8 + i < 2048) (by decide)) (upd_nI (g := Re) (by omega : dn * 8 + i < 2 ^ 31)) d_TU_weighRests_67 ?_
          refine g_eqf (f2 := (tu_w cI f a (va_up Re (dn * 8 + i) (if cov S n need dn then 0 else lrest P Du Wy Re dn i n)))) (tu_w_w) ?_
          have hb2 : bellA P Du S Wy n need (va_up Re (dn * 8 + i) (if cov S n need dn then 0 else lrest P Du Wy Re dn i n)) dn := ⟨le_up hA.1 (by split; exact Nat.zero_le _; exact lrest_le _ _ _ _ _ _ _), fun d2 h1 h2 j hj hb => bell_up hn8 (by omega) (by omega) hj (by omega) (hA.2 d2 h1 h2 j hj hb)⟩
          have hj2 : ∀ j, j < i + 1 → dn.testBit j = true → bell P Du S Wy n need (va_up Re (dn * 8 + i) (if cov S n need dn then 0 else lrest P Du Wy Re dn i n)) dn j := fun j hj hb => by
            by_cases e : j = i
            · subst e; exact bell_new hn8 (by omega)
            · exact bell_up hn8 (by omega) (Nat.le_refl _) (by omega) (fun z => e z.2) (hJ j (by omega) hb)
          refine g_iinc (lv' := [(4, .int (nI (i + 1))), (3, .int (bI (cov S n need dn))), (2, .int (nI dn)), (0, .ref t), (1, .int (nI need))]) X d_TU_weighRests_68 0 rfl (nI_1 i) (by decide) rfl ?_
          refine g_goto X 23 d_TU_weighRests_71 (by decide) ?_
          exact g_lv [0, 1, 2, 3, 4] rfl (ih (d - 1) (by omega) (i + 1) (va_up Re (dn * 8 + i) (if cov S n need dn then 0 else lrest P Du Wy Re dn i n)) (by omega) hb2 hj2)
set_option maxHeartbeats 4000000 in
set_option maxRecDepth 100000 in
theorem L_TU_weighRests {p : Program} {l : Launch} {e : Env} {s : State} {m : MethodId} {args : Array Value} {below : List Frame} {meth : Method} {c : Code} {Q : State → Prop} {A : Nat → Prop} {D : va_G} {cI cZ cO cJ : ClassId} {eA eM : Nat} {f : g_F} {t : Nat} {a : Nat → Nat} {P Du S Wy Re : Nat → Nat} {n : Nat} (hR : tu_R cI f t a P Du S Wy Re n) (hB : tu_B P Du S Wy n) (hI : ∀ i j, i < 5 → j < 5 → a i = a j → i = j) {need : Nat} (hne : need < 2 ^ 31) (X : g_X p s m args meth c b_TU_weighRests 5 none g_T y_TU_weighRests.cls D g_cl (g_tys cI cZ cO cJ) A (z_Z eA eM)) (kk : ∀ Re : Nat → Nat, bellA P Du S Wy n need Re 0 → g_W p l e { frames := 3, cells := 0, slots := 0, locals := 70 } s m args below meth c 5 D g_cl A (tu_w cI f a Re) 0 0 Q 80 [(2, .int (nI 0)), (0, .ref t), (1, .int (nI need))] []) : ∀ (d : Nat) (Re : Nat → Nat), (d < 2 ^ n) → (bellA P Du S Wy n need Re d) → g_W p l e { frames := 3, cells := 0, slots := 0, locals := 70 } s m args below meth c 5 D g_cl A (tu_w cI f a Re) 0 0 Q 9 [(2, .int (nI d)), (0, .ref t), (1, .int (nI need))] [] := by
  obtain ⟨hT, h0, h1, h2, h3, h4⟩ := id hR
  obtain ⟨hn8, hP, hDu, hS, hWy⟩ := id hB
  have h256 : 2 ^ n ≤ 256 := Nat.pow_le_pow_right (n := 2) (by decide) hn8
  have hR0 := hR
  clear hT h0 h1 h2 h3 h4
  intro d
  induction d using Nat.strongRecOn with
  | _ d ih =>
    intro Re hd hA
    have hR2 := tu_w_R hR0 hI Re
    obtain ⟨hT, h0, h1, h2, h3, h4⟩ := id hR2
    refine g_iload_n X d_TU_weighRests_9 0 rfl ?_
    refine g_if_le X 80 d_TU_weighRests_10 (by decide) (fun c10 => ?_) (fun c10 => ?_)
    · skip
      have e : d = 0 := by
        have := (nI_leI (a := d) (b := 0) (by omega) (by decide)).mp c10
        omega
      subst e
      exact kk Re hA
    · skip
      have hlt : 0 < d := Nat.lt_of_not_le (fun z => c10 ((nI_leI (a := d) (b := 0) (by omega) (by decide)).mpr z))
      refine g_aload_n X d_TU_weighRests_13 1 rfl ?_
      refine g_iload_n X d_TU_weighRests_14 0 rfl ?_
      refine g_iload_n X d_TU_weighRests_15 2 rfl ?_
      refine g_callV (ci := 2) (As := [.int (nI d), .int (nI need)]) (rest := []) X (z_ok eA eM) rfl rfl hT (c_TU_covers hR2 hB (acts := d) (need := need) (by omega) hne) v_TU_covers q_475 q_s11 q_473 rfl rfl (Nat.le_of_ble_eq_true rfl) d_TU_weighRests_16 ⟨(Nat.le_of_ble_eq_true rfl), (Nat.le_of_ble_eq_true rfl)⟩ ⟨(Nat.le_of_ble_eq_true rfl), (Nat.le_of_ble_eq_true rfl)⟩ (g_K.no (fun _ h => h)) (fun r_ f2_ hp => ?_)
      obtain ⟨rfl, hf_⟩ := hp
      subst f2_
      refine g_st (st2 := [.int (bI (cov S n need d))]) rfl ?_
      refine g_istore_n (lv' := [(3, .int (bI (cov S n need d))), (2, .int (nI d)), (0, .ref t), (1, .int (nI need))]) X d_TU_weighRests_19 rfl (by decide) rfl ?_
      refine g_iconst (v := 0) X d_TU_weighRests_20 (by decide) ?_
      refine g_istore (lv' := [(4, .int 0), (3, .int (bI (cov S n need d))), (2, .int (nI d)), (0, .ref t), (1, .int (nI need))]) X d_TU_weighRests_21 (by decide) rfl ?_
      refine L_TU_weighRestsI hR0 hB hI hne (dn := d) (by omega) X ?_ n 0 Re (by omega) hA (fun j hj => absurd hj (by omega))
      intro Re2 hA2 hJ2
      have hA3 : bellA P Du S Wy n need Re2 (d - 1) := ⟨hA2.1, fun d2 h1 h2 j hj hb => by
        by_cases e : d2 = d
        · subst e; exact hJ2 j hj hb
        · exact hA2.2 d2 (by omega) h2 j hj hb⟩
      refine g_iinc (lv' := [(2, .int (nI (d - 1))), (4, .int (nI n)), (3, .int (bI (cov S n need d))), (0, .ref t), (1, .int (nI need))]) X d_TU_weighRests_74 2 rfl (nI_dec hlt) (by decide) rfl ?_
      refine g_goto X 9 d_TU_weighRests_77 (by decide) ?_
      exact g_lv [0, 3, 4] rfl (ih (d - 1) (by omega) Re2 (by omega) hA3)
set_option maxHeartbeats 4000000 in
set_option maxRecDepth 100000 in
theorem c_TU_weighRests {l : Launch} {D : va_G} {cI cZ cO cJ : ClassId} {eA eM : Nat} {f : g_F} {t : Nat} {a : Nat → Nat} {P Du S Wy Re : Nat → Nat} {n : Nat} (hR : tu_R cI f t a P Du S Wy Re n) (hB : tu_B P Du S Wy n) (hRe : ∀ i, Re i ≤ 2 ^ 28) (hI : ∀ i j, i < 5 → j < 5 → a i = a j → i = j) {need : Nat} (hne : need < 2 ^ 31) : g_C l y_TU_weighRests b_TU_weighRests 5 none { frames := 3, cells := 0, slots := 0, locals := 70 } D g_cl (g_tys cI cZ cO cJ) (z_Z eA eM) [.ref t, .int (nI need)] f (fun r f2 => r = none ∧ ∃ Re2 : Nat → Nat, bellA P Du S Wy n need Re2 0 ∧ f2 = tu_w cI f a Re2) (fun _ => False) := by
  refine g_ofW [(0, .ref t), (1, .int (nI need))] (by decide +kernel) (Nat.le_of_ble_eq_true rfl) rfl ?_
  intro p e s m args below meth c X ht hin
  obtain ⟨hT, h0, h1, h2, h3, h4⟩ := id hR
  obtain ⟨hn8, hP, hDu, hS, hWy⟩ := id hB
  refine g_iconst (v := 1) X d_TU_weighRests_0 (by decide) ?_
  refine g_aload_n X d_TU_weighRests_1 0 rfl ?_
  refine g_get (ci := 2) (C := R_TU) (T := F_TU) (N := 6) (v := .int (nI n)) X i_TU rfl hT 5 (by decide) q_89 (fun _ h9 => h9) rfl d_TU_weighRests_2 ?_
  refine g_ishl X d_TU_weighRests_5 ?_
  refine g_iconst (v := 1) X d_TU_weighRests_6 (by decide) ?_
  refine g_isub X d_TU_weighRests_7 ?_
  refine g_eqi (y := nI (2 ^ n - 1)) (full_e hn8) ?_
  refine g_istore_n (lv' := [(2, .int (nI (2 ^ n - 1))), (0, .ref t), (1, .int (nI need))]) X d_TU_weighRests_8 rfl (by decide) rfl ?_
  refine g_eqf (tu_w_id hR).symm ?_
  refine L_TU_weighRests hR hB hI hne X ?_ (2 ^ n - 1) Re (by have := Nat.two_pow_pos n; omega) ⟨hRe, fun d h1 h2 => absurd h1 (by omega)⟩
  intro Re2 hA
  exact g_vret X rfl ⟨rfl, Re2, hA, rfl⟩ (Nat.le_of_ble_eq_true rfl) (Nat.le_of_ble_eq_true rfl) d_TU_weighRests_80
