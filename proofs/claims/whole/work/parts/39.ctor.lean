theorem nd_inj {l : List Nat} (h : l.Pairwise (· ≠ ·)) : ∀ i j, i < l.length → j < l.length → l.getD i 0 = l.getD j 0 → i = j := by
  intro i j hi hj he
  have h2 := List.pairwise_iff_getElem.mp h
  rw [List.getD_eq_getElem?_getD, List.getD_eq_getElem?_getD, List.getElem?_eq_getElem hi, List.getElem?_eq_getElem hj] at he
  have he : l[i] = l[j] := he
  rcases Nat.lt_trichotomy i j with z | z | z
  · exact absurd he (h2 i j hi hj z)
  · exact z
  · exact absurd he.symm (h2 j i hj hi z)
/-- an int between 1 and 5000 -/
def lif (x : Int32) : Nat := if x < 1 then 1 else if x ≤ 5000 then x.toNatClampNeg else 5000
theorem lif_b (x : Int32) : 1 ≤ lif x ∧ lif x ≤ 5000 := by
  unfold lif
  split
  · decide
  · rename_i h1
    split
    · rename_i h2
      obtain ⟨j, hj, rfl⟩ := nI_of (fun z => h1 (Int32.lt_trans z (by decide)))
      rw [nI_clamp hj]
      exact ⟨Nat.le_of_not_lt (fun z => h1 ((nI_ltI (b := 1) hj (by decide)).mpr z)), (nI_leI (b := 5000) hj (by decide)).mp h2⟩
    · decide
theorem lif_1 {x : Int32} (h : x < 1) : nI (lif x) = 1 := by rw [show lif x = 1 from if_pos h]; rfl
theorem lif_5 {x : Int32} (h : ¬ x < 1) (h2 : ¬ x ≤ 5000) : nI (lif x) = 5000 := by rw [show lif x = 5000 from (if_neg h).trans (if_neg h2)]; rfl
theorem lif_x {x : Int32} (h : ¬ x < 1) (h2 : x ≤ 5000) : nI (lif x) = x := by
  rw [show lif x = x.toNatClampNeg from (if_neg h).trans (if_pos h2)]
  obtain ⟨j, hj, rfl⟩ := nI_of (fun z => h (Int32.lt_trans z (by decide)))
  rw [nI_clamp hj]
set_option maxHeartbeats 4000000 in
set_option maxRecDepth 100000 in
theorem c_BC_init {l : Launch} {D : va_G} {cI cZ cO cJ : ClassId} {eA eM : Nat} {f : g_F} {b : Nat} : g_C l y_BC_init b_BC_init 1 none { frames := 1, cells := 0, slots := 0, locals := 20 } D g_cl (g_tys cI cZ cO cJ) (z_Z eA eM) [.ref b] f (fun r f2 => r = none ∧ f2 = f) (fun _ => False) := by
  refine g_ofW [(0, .ref b)] (by decide +kernel) (Nat.le_of_ble_eq_true rfl) rfl ?_
  intro p e s m args below meth c X ht hin
  refine g_aload_n X d_BC_init_0 0 rfl ?_
  refine g_objI X q_46 (Nat.le_of_ble_eq_true rfl) (Nat.le_of_ble_eq_true rfl) d_BC_init_1 ?_
  exact g_vret X rfl (⟨rfl, rfl⟩) (Nat.le_of_ble_eq_true rfl) (Nat.le_of_ble_eq_true rfl) d_BC_init_4
set_option maxHeartbeats 4000000 in
set_option maxRecDepth 100000 in
theorem c_BL_init {l : Launch} {D : va_G} {cI cZ cO cJ : ClassId} {eA eM : Nat} {f : g_F} {b : Nat} {v0 v1 : Value} {mc : Int32} (hb : f b = some (.inr (0, [v0, v1, .int mc]))) : g_C l y_BL_init b_BL_init 1 none { frames := 2, cells := 0, slots := 0, locals := 40 } D g_cl (g_tys cI cZ cO cJ) (z_Z eA eM) [.ref b] f (fun r f2 => r = none ∧ f2 = g_u f b (.inr (0, [v0, v1, .int 0]))) (fun _ => False) := by
  refine g_ofW [(0, .ref b)] (by decide +kernel) (Nat.le_of_ble_eq_true rfl) rfl ?_
  intro p e s m args below meth c X ht hin
  refine g_aload_n X d_BL_init_0 0 rfl ?_
  refine g_callI (ret2 := none) (As := []) (rest := []) X (z_ok eA eM) (c_BC_init (f := f) (b := b)) v_BC_init q_44 rfl q_43 (fun _ h => h) rfl rfl (Nat.le_of_ble_eq_true rfl) d_BL_init_1 ⟨(Nat.le_of_ble_eq_true rfl), (Nat.le_of_ble_eq_true rfl)⟩ ⟨(Nat.le_of_ble_eq_true rfl), (Nat.le_of_ble_eq_true rfl)⟩ (fun r_ f2_ hp => ?_)
  obtain ⟨rfl, hf_⟩ := hp
  subst f2_
  refine g_st (st2 := []) rfl ?_
  refine g_aload_n X d_BL_init_4 0 rfl ?_
  refine g_iconst (v := 0) X d_BL_init_5 (by decide) ?_
  refine g_put (ci := 0) (C := R_AL) (T := F_AL) (N := 3) (ty := .int) (fs2 := [v0, v1, .int 0]) X i_AL t_AL t_AL_ok n_AL rfl hb 2 (by decide) q_51 (fun _ h9 => h9) rfl (by decide +kernel) rfl rfl (Nat.le_of_ble_eq_true rfl) rfl d_BL_init_6 ?_
  generalize ef_1 : g_u f b (.inr (0, [v0, v1, .int 0])) = f_1
  have h_2 : f_1 b = some (.inr (0, [v0, v1, .int 0])) := by rw [← ef_1]; exact g_u_s
  exact g_vret X rfl (⟨rfl, by rw [← ef_1]⟩) (Nat.le_of_ble_eq_true rfl) (Nat.le_of_ble_eq_true rfl) d_BL_init_9
set_option maxHeartbeats 4000000 in
set_option maxRecDepth 100000 in
theorem c_AL_init {l : Launch} {D : va_G} {cI cZ cO cJ : ClassId} {eA eM : Nat} {f : g_F} {b : Nat} (hb : f b = some (.inr (0, [.null, .int 0, .int 0]))) : g_C l y_AL_init b_AL_init 1 none { frames := 3, cells := 0, slots := 0, locals := 60 } D g_cl (g_tys cI cZ cO cJ) (z_Z eA eM) [.ref b] f (fun r f2 => r = none ∧ f2 = g_u f b (.inr (0, [.ref eA, .int 0, .int 0]))) (fun _ => False) := by
  refine g_ofW [(0, .ref b)] (by decide +kernel) (Nat.le_of_ble_eq_true rfl) rfl ?_
  intro p e s m args below meth c X ht hin
  refine g_aload_n X d_AL_init_0 0 rfl ?_
  refine g_callI (ret2 := none) (As := []) (rest := []) X (z_ok eA eM) (c_BL_init (f := f) hb) v_BL_init q_41 rfl q_40 (fun _ h => h) rfl rfl (Nat.le_of_ble_eq_true rfl) d_AL_init_1 ⟨(Nat.le_of_ble_eq_true rfl), (Nat.le_of_ble_eq_true rfl)⟩ ⟨(Nat.le_of_ble_eq_true rfl), (Nat.le_of_ble_eq_true rfl)⟩ (fun r_ f2_ hp => ?_)
  obtain ⟨rfl, rfl⟩ := hp
  refine g_st (st2 := []) rfl ?_
  have hb2 : g_u f b (.inr (0, [.null, .int 0, .int 0])) b = some (.inr (0, [.null, .int 0, .int 0])) := g_u_s
  refine g_aload_n X d_AL_init_4 0 rfl ?_
  refine g_getsE X rfl d_AL_init_5 ?_
  refine g_put (ci := 0) (C := R_AL) (T := F_AL) (N := 3) (ty := .array (.object "java/lang/Object")) (fs2 := [.ref eA, .int 0, .int 0]) X i_AL t_AL t_AL_ok n_AL rfl hb2 0 (by decide) q_49 (fun _ h9 => h9) rfl (by decide +kernel) rfl rfl (Nat.le_of_ble_eq_true rfl) rfl d_AL_init_8 ?_
  generalize ef_1 : g_u (g_u f b (.inr (0, [.null, .int 0, .int 0]))) b (.inr (0, [.ref eA, .int 0, .int 0])) = f_1
  have h_2 : f_1 b = some (.inr (0, [.ref eA, .int 0, .int 0])) := by rw [← ef_1]; exact g_u_s
  exact g_vret X rfl (⟨rfl, by rw [← ef_1, g_u_u]⟩) (Nat.le_of_ble_eq_true rfl) (Nat.le_of_ble_eq_true rfl) d_AL_init_11
theorem g_none {f f2 : g_F} {b q : Nat} (h : ∀ q x, f q = some x → q ≠ b → f2 q = some x) (hq : f2 q = none) (hb : q ≠ b) : f q = none := by
  cases hf : f q with
  | none => rfl
  | some x => rw [h q x hf hb] at hq; cases hq
set_option maxHeartbeats 4000000 in
set_option maxRecDepth 100000 in
theorem c_TL_init {l : Launch} {D : va_G} {cI cZ cO cJ : ClassId} {eA eM : Nat} {f : g_F} {g : Nat} (hb : f g = some (.inr (1, [.null, .null, .int 0]))) : g_C l y_TL_init b_TL_init 1 none { frames := 1, cells := 2, slots := 1024, locals := 20 } D g_cl (g_tys cI cZ cO cJ) (z_Z eA eM) [.ref g] f (fun r f2 => r = none ∧ ∃ b : Nat → Nat, tl_R cI f2 g b (fun _ => 0) (fun _ => 0) 0 ∧ b 0 ≠ b 1 ∧ (∀ i, i < 2 → f (b i) = none) ∧ (∀ q x, f q = some x → q ≠ g → f2 q = some x)) (fun _ => False) := by
  refine g_ofW [(0, .ref g)] (by decide +kernel) (Nat.le_of_ble_eq_true rfl) rfl ?_
  intro p e s m args below meth c X ht hin
  have fr_0 : ∀ q x, f q = some x → q ≠ g → f q = some x := fun q x h1 _ => h1
  refine g_aload_n X d_TL_init_0 0 rfl ?_
  refine g_objI X q_66 (Nat.le_of_ble_eq_true rfl) (Nat.le_of_ble_eq_true rfl) d_TL_init_1 ?_
  refine g_aload_n X d_TL_init_4 0 rfl ?_
  refine g_sipush (v := 512) X d_TL_init_5 (by decide) ?_
  refine g_newi (t0 := 0) (N := 512) X q_77 rfl (by decide) (by decide) (by decide) (Nat.le_of_ble_eq_true rfl) (Nat.le_of_ble_eq_true rfl) d_TL_init_8 (fun q1 hq1 => ?_)
  have nn_2 : f q1 = none := g_none fr_0 hq1 (Ne.symm (g_nf hb hq1))
  generalize ef_3 : g_u f q1 (.inl (cI, 512, .inl (fun _ => 0))) = f_3
  have n_4 : g ≠ q1 := g_nf hb hq1
  have h_5 : f_3 g = some (.inr (1, [.null, .null, .int 0])) := by rw [← ef_3]; exact (g_u_n n_4).trans hb
  have h_6 : f_3 q1 = some (.inl (cI, 512, .inl (fun _ => 0))) := by rw [← ef_3]; exact g_u_s
  have nf_7 : ∀ q x, f q = some x → q ≠ g → q ≠ q1 := fun q x h1 h2 => g_nf (fr_0 q x h1 h2) hq1
  have fr_8 : ∀ q x, f q = some x → q ≠ g → f_3 q = some x := fun q x h1 h2 => by rw [← ef_3]; exact (g_u_n (nf_7 q x h1 h2)).trans (fr_0 q x h1 h2)
  refine g_putF (ci := 1) (C := R_TL) (T := F_TL) (N := 3) (ty := .array .int) (fs2 := [.ref q1, .null, .int 0]) X i_TL t_TL t_TL_ok n_TL rfl h_5 0 (by decide) q_67 (fun _ h9 => h9) rfl hin rfl (by decide +kernel) rfl rfl (Nat.le_of_ble_eq_true rfl) rfl d_TL_init_10 ?_
  generalize ef_9 : g_u f_3 g (.inr (1, [.ref q1, .null, .int 0])) = f_9
  have h_10 : f_9 g = some (.inr (1, [.ref q1, .null, .int 0])) := by rw [← ef_9]; exact g_u_s
  have h_11 : f_9 q1 = some (.inl (cI, 512, .inl (fun _ => 0))) := by rw [← ef_9]; exact (g_u_n (Ne.symm n_4)).trans h_6
  have fr_12 : ∀ q x, f q = some x → q ≠ g → f_9 q = some x := fun q x h1 h2 => by rw [← ef_9]; exact (g_u_n h2).trans (fr_8 q x h1 h2)
  refine g_aload_n X d_TL_init_13 0 rfl ?_
  refine g_sipush (v := 512) X d_TL_init_14 (by decide) ?_
  refine g_newi (t0 := 0) (N := 512) X q_77 rfl (by decide) (by decide) (by decide) (Nat.le_of_ble_eq_true rfl) (Nat.le_of_ble_eq_true rfl) d_TL_init_17 (fun q13 hq13 => ?_)
  have nn_14 : f q13 = none := g_none fr_12 hq13 (Ne.symm (g_nf h_10 hq13))
  generalize ef_15 : g_u f_9 q13 (.inl (cI, 512, .inl (fun _ => 0))) = f_15
  have n_16 : g ≠ q13 := g_nf h_10 hq13
  have h_17 : f_15 g = some (.inr (1, [.ref q1, .null, .int 0])) := by rw [← ef_15]; exact (g_u_n n_16).trans h_10
  have n_18 : q1 ≠ q13 := g_nf h_11 hq13
  have h_19 : f_15 q1 = some (.inl (cI, 512, .inl (fun _ => 0))) := by rw [← ef_15]; exact (g_u_n n_18).trans h_11
  have h_20 : f_15 q13 = some (.inl (cI, 512, .inl (fun _ => 0))) := by rw [← ef_15]; exact g_u_s
  have nf_21 : ∀ q x, f q = some x → q ≠ g → q ≠ q13 := fun q x h1 h2 => g_nf (fr_12 q x h1 h2) hq13
  have fr_22 : ∀ q x, f q = some x → q ≠ g → f_15 q = some x := fun q x h1 h2 => by rw [← ef_15]; exact (g_u_n (nf_21 q x h1 h2)).trans (fr_12 q x h1 h2)
  refine g_putF (ci := 1) (C := R_TL) (T := F_TL) (N := 3) (ty := .array .int) (fs2 := [.ref q1, .ref q13, .int 0]) X i_TL t_TL t_TL_ok n_TL rfl h_17 1 (by decide) q_68 (fun _ h9 => h9) rfl hin rfl (by decide +kernel) rfl rfl (Nat.le_of_ble_eq_true rfl) rfl d_TL_init_19 ?_
  generalize ef_23 : g_u f_15 g (.inr (1, [.ref q1, .ref q13, .int 0])) = f_23
  have h_24 : f_23 g = some (.inr (1, [.ref q1, .ref q13, .int 0])) := by rw [← ef_23]; exact g_u_s
  have h_25 : f_23 q1 = some (.inl (cI, 512, .inl (fun _ => 0))) := by rw [← ef_23]; exact (g_u_n (Ne.symm n_4)).trans h_19
  have h_26 : f_23 q13 = some (.inl (cI, 512, .inl (fun _ => 0))) := by rw [← ef_23]; exact (g_u_n (Ne.symm n_16)).trans h_20
  have fr_27 : ∀ q x, f q = some x → q ≠ g → f_23 q = some x := fun q x h1 h2 => by rw [← ef_23]; exact (g_u_n h2).trans (fr_22 q x h1 h2)
  refine g_aload_n X d_TL_init_22 0 rfl ?_
  refine g_iconst (v := 0) X d_TL_init_23 (by decide) ?_
  refine g_put (ci := 1) (C := R_TL) (T := F_TL) (N := 3) (ty := .int) (fs2 := [.ref q1, .ref q13, .int 0]) X i_TL t_TL t_TL_ok n_TL rfl h_24 2 (by decide) q_69 (fun _ h9 => h9) rfl (by decide +kernel) rfl rfl (Nat.le_of_ble_eq_true rfl) rfl d_TL_init_24 ?_
  generalize ef_28 : g_u f_23 g (.inr (1, [.ref q1, .ref q13, .int 0])) = f_28
  have h_29 : f_28 g = some (.inr (1, [.ref q1, .ref q13, .int 0])) := by rw [← ef_28]; exact g_u_s
  have h_30 : f_28 q1 = some (.inl (cI, 512, .inl (fun _ => 0))) := by rw [← ef_28]; exact (g_u_n (Ne.symm n_4)).trans h_25
  have h_31 : f_28 q13 = some (.inl (cI, 512, .inl (fun _ => 0))) := by rw [← ef_28]; exact (g_u_n (Ne.symm n_16)).trans h_26
  have fr_32 : ∀ q x, f q = some x → q ≠ g → f_28 q = some x := fun q x h1 h2 => by rw [← ef_28]; exact (g_u_n h2).trans (fr_27 q x h1 h2)
  exact g_vret X rfl (⟨rfl, (fun i => ([q1, q13] : List Nat).getD i 0), ⟨h_29, h_30, h_31⟩, n_18, fun i hi => match i, hi with | 0, _ => nn_2 | 1, _ => nn_14 | i + 2, hi => absurd hi (by omega), fr_32⟩) (Nat.le_of_ble_eq_true rfl) (Nat.le_of_ble_eq_true rfl) d_TL_init_27
set_option maxHeartbeats 4000000 in
set_option maxRecDepth 100000 in
theorem c_TU_init {l : Launch} {D : va_G} {cI cZ cO cJ : ClassId} {eA eM : Nat} {f : g_F} {t : Nat} (hb : f t = some (.inr (2, [.null, .null, .null, .null, .null, .int 0]))) : g_C l y_TU_init b_TU_init 1 none { frames := 1, cells := 5, slots := 2172, locals := 20 } D g_cl (g_tys cI cZ cO cJ) (z_Z eA eM) [.ref t] f (fun r f2 => r = none ∧ ∃ a : Nat → Nat, tu_R cI f2 t a (fun _ => 0) (fun _ => 0) (fun _ => 0) (fun _ => 0) (fun _ => 0) 0 ∧ (∀ i j, i < 5 → j < 5 → a i = a j → i = j) ∧ (∀ i, i < 5 → f (a i) = none) ∧ (∀ q x, f q = some x → q ≠ t → f2 q = some x)) (fun _ => False) := by
  refine g_ofW [(0, .ref t)] (by decide +kernel) (Nat.le_of_ble_eq_true rfl) rfl ?_
  intro p e s m args below meth c X ht hin
  have fr_0 : ∀ q x, f q = some x → q ≠ t → f q = some x := fun q x h1 _ => h1
  refine g_aload_n X d_TU_init_0 0 rfl ?_
  refine g_objI X q_83 (Nat.le_of_ble_eq_true rfl) (Nat.le_of_ble_eq_true rfl) d_TU_init_1 ?_
  refine g_aload_n X d_TU_init_4 0 rfl ?_
  refine g_bipush (v := 8) X d_TU_init_5 (by decide) ?_
  refine g_newi (t0 := 0) (N := 8) X q_77 rfl (by decide) (by decide) (by decide) (Nat.le_of_ble_eq_true rfl) (Nat.le_of_ble_eq_true rfl) d_TU_init_7 (fun q1 hq1 => ?_)
  have nn_2 : f q1 = none := g_none fr_0 hq1 (Ne.symm (g_nf hb hq1))
  generalize ef_3 : g_u f q1 (.inl (cI, 8, .inl (fun _ => 0))) = f_3
  have n_4 : t ≠ q1 := g_nf hb hq1
  have h_5 : f_3 t = some (.inr (2, [.null, .null, .null, .null, .null, .int 0])) := by rw [← ef_3]; exact (g_u_n n_4).trans hb
  have h_6 : f_3 q1 = some (.inl (cI, 8, .inl (fun _ => 0))) := by rw [← ef_3]; exact g_u_s
  have nf_7 : ∀ q x, f q = some x → q ≠ t → q ≠ q1 := fun q x h1 h2 => g_nf (fr_0 q x h1 h2) hq1
  have fr_8 : ∀ q x, f q = some x → q ≠ t → f_3 q = some x := fun q x h1 h2 => by rw [← ef_3]; exact (g_u_n (nf_7 q x h1 h2)).trans (fr_0 q x h1 h2)
  refine g_putF (ci := 2) (C := R_TU) (T := F_TU) (N := 6) (ty := .array .int) (fs2 := [.ref q1, .null, .null, .null, .null, .int 0]) X i_TU t_TU t_TU_ok n_TU rfl h_5 0 (by decide) q_84 (fun _ h9 => h9) rfl hin rfl (by decide +kernel) rfl rfl (Nat.le_of_ble_eq_true rfl) rfl d_TU_init_9 ?_
  generalize ef_9 : g_u f_3 t (.inr (2, [.ref q1, .null, .null, .null, .null, .int 0])) = f_9
  have h_10 : f_9 t = some (.inr (2, [.ref q1, .null, .null, .null, .null, .int 0])) := by rw [← ef_9]; exact g_u_s
  have h_11 : f_9 q1 = some (.inl (cI, 8, .inl (fun _ => 0))) := by rw [← ef_9]; exact (g_u_n (Ne.symm n_4)).trans h_6
  have fr_12 : ∀ q x, f q = some x → q ≠ t → f_9 q = some x := fun q x h1 h2 => by rw [← ef_9]; exact (g_u_n h2).trans (fr_8 q x h1 h2)
  refine g_aload_n X d_TU_init_12 0 rfl ?_
  refine g_bipush (v := 8) X d_TU_init_13 (by decide) ?_
  refine g_newi (t0 := 0) (N := 8) X q_77 rfl (by decide) (by decide) (by decide) (Nat.le_of_ble_eq_true rfl) (Nat.le_of_ble_eq_true rfl) d_TU_init_15 (fun q13 hq13 => ?_)
  have nn_14 : f q13 = none := g_none fr_12 hq13 (Ne.symm (g_nf h_10 hq13))
  generalize ef_15 : g_u f_9 q13 (.inl (cI, 8, .inl (fun _ => 0))) = f_15
  have n_16 : t ≠ q13 := g_nf h_10 hq13
  have h_17 : f_15 t = some (.inr (2, [.ref q1, .null, .null, .null, .null, .int 0])) := by rw [← ef_15]; exact (g_u_n n_16).trans h_10
  have n_18 : q1 ≠ q13 := g_nf h_11 hq13
  have h_19 : f_15 q1 = some (.inl (cI, 8, .inl (fun _ => 0))) := by rw [← ef_15]; exact (g_u_n n_18).trans h_11
  have h_20 : f_15 q13 = some (.inl (cI, 8, .inl (fun _ => 0))) := by rw [← ef_15]; exact g_u_s
  have nf_21 : ∀ q x, f q = some x → q ≠ t → q ≠ q13 := fun q x h1 h2 => g_nf (fr_12 q x h1 h2) hq13
  have fr_22 : ∀ q x, f q = some x → q ≠ t → f_15 q = some x := fun q x h1 h2 => by rw [← ef_15]; exact (g_u_n (nf_21 q x h1 h2)).trans (fr_12 q x h1 h2)
  refine g_putF (ci := 2) (C := R_TU) (T := F_TU) (N := 6) (ty := .array .int) (fs2 := [.ref q1, .ref q13, .null, .null, .null, .int 0]) X i_TU t_TU t_TU_ok n_TU rfl h_17 1 (by decide) q_85 (fun _ h9 => h9) rfl hin rfl (by decide +kernel) rfl rfl (Nat.le_of_ble_eq_true rfl) rfl d_TU_init_17 ?_
  generalize ef_23 : g_u f_15 t (.inr (2, [.ref q1, .ref q13, .null, .null, .null, .int 0])) = f_23
  have h_24 : f_23 t = some (.inr (2, [.ref q1, .ref q13, .null, .null, .null, .int 0])) := by rw [← ef_23]; exact g_u_s
  have h_25 : f_23 q1 = some (.inl (cI, 8, .inl (fun _ => 0))) := by rw [← ef_23]; exact (g_u_n (Ne.symm n_4)).trans h_19
  have h_26 : f_23 q13 = some (.inl (cI, 8, .inl (fun _ => 0))) := by rw [← ef_23]; exact (g_u_n (Ne.symm n_16)).trans h_20
  have fr_27 : ∀ q x, f q = some x → q ≠ t → f_23 q = some x := fun q x h1 h2 => by rw [← ef_23]; exact (g_u_n h2).trans (fr_22 q x h1 h2)
  refine g_aload_n X d_TU_init_20 0 rfl ?_
  refine g_bipush (v := 8) X d_TU_init_21 (by decide) ?_
  refine g_newi (t0 := 0) (N := 8) X q_77 rfl (by decide) (by decide) (by decide) (Nat.le_of_ble_eq_true rfl) (Nat.le_of_ble_eq_true rfl) d_TU_init_23 (fun q28 hq28 => ?_)
  have nn_29 : f q28 = none := g_none fr_27 hq28 (Ne.symm (g_nf h_24 hq28))
  generalize ef_30 : g_u f_23 q28 (.inl (cI, 8, .inl (fun _ => 0))) = f_30
  have n_31 : t ≠ q28 := g_nf h_24 hq28
  have h_32 : f_30 t = some (.inr (2, [.ref q1, .ref q13, .null, .null, .null, .int 0])) := by rw [← ef_30]; exact (g_u_n n_31).trans h_24
  have n_33 : q1 ≠ q28 := g_nf h_25 hq28
  have h_34 : f_30 q1 = some (.inl (cI, 8, .inl (fun _ => 0))) := by rw [← ef_30]; exact (g_u_n n_33).trans h_25
  have n_35 : q13 ≠ q28 := g_nf h_26 hq28
  have h_36 : f_30 q13 = some (.inl (cI, 8, .inl (fun _ => 0))) := by rw [← ef_30]; exact (g_u_n n_35).trans h_26
  have h_37 : f_30 q28 = some (.inl (cI, 8, .inl (fun _ => 0))) := by rw [← ef_30]; exact g_u_s
  have nf_38 : ∀ q x, f q = some x → q ≠ t → q ≠ q28 := fun q x h1 h2 => g_nf (fr_27 q x h1 h2) hq28
  have fr_39 : ∀ q x, f q = some x → q ≠ t → f_30 q = some x := fun q x h1 h2 => by rw [← ef_30]; exact (g_u_n (nf_38 q x h1 h2)).trans (fr_27 q x h1 h2)
  refine g_putF (ci := 2) (C := R_TU) (T := F_TU) (N := 6) (ty := .array .int) (fs2 := [.ref q1, .ref q13, .ref q28, .null, .null, .int 0]) X i_TU t_TU t_TU_ok n_TU rfl h_32 2 (by decide) q_86 (fun _ h9 => h9) rfl hin rfl (by decide +kernel) rfl rfl (Nat.le_of_ble_eq_true rfl) rfl d_TU_init_25 ?_
  generalize ef_40 : g_u f_30 t (.inr (2, [.ref q1, .ref q13, .ref q28, .null, .null, .int 0])) = f_40
  have h_41 : f_40 t = some (.inr (2, [.ref q1, .ref q13, .ref q28, .null, .null, .int 0])) := by rw [← ef_40]; exact g_u_s
  have h_42 : f_40 q1 = some (.inl (cI, 8, .inl (fun _ => 0))) := by rw [← ef_40]; exact (g_u_n (Ne.symm n_4)).trans h_34
  have h_43 : f_40 q13 = some (.inl (cI, 8, .inl (fun _ => 0))) := by rw [← ef_40]; exact (g_u_n (Ne.symm n_16)).trans h_36
  have h_44 : f_40 q28 = some (.inl (cI, 8, .inl (fun _ => 0))) := by rw [← ef_40]; exact (g_u_n (Ne.symm n_31)).trans h_37
  have fr_45 : ∀ q x, f q = some x → q ≠ t → f_40 q = some x := fun q x h1 h2 => by rw [← ef_40]; exact (g_u_n h2).trans (fr_39 q x h1 h2)
  refine g_aload_n X d_TU_init_28 0 rfl ?_
  refine g_bipush (v := 100) X d_TU_init_29 (by decide) ?_
  refine g_newi (t0 := 0) (N := 100) X q_77 rfl (by decide) (by decide) (by decide) (Nat.le_of_ble_eq_true rfl) (Nat.le_of_ble_eq_true rfl) d_TU_init_31 (fun q46 hq46 => ?_)
  have nn_47 : f q46 = none := g_none fr_45 hq46 (Ne.symm (g_nf h_41 hq46))
  generalize ef_48 : g_u f_40 q46 (.inl (cI, 100, .inl (fun _ => 0))) = f_48
  have n_49 : t ≠ q46 := g_nf h_41 hq46
  have h_50 : f_48 t = some (.inr (2, [.ref q1, .ref q13, .ref q28, .null, .null, .int 0])) := by rw [← ef_48]; exact (g_u_n n_49).trans h_41
  have n_51 : q1 ≠ q46 := g_nf h_42 hq46
  have h_52 : f_48 q1 = some (.inl (cI, 8, .inl (fun _ => 0))) := by rw [← ef_48]; exact (g_u_n n_51).trans h_42
  have n_53 : q13 ≠ q46 := g_nf h_43 hq46
  have h_54 : f_48 q13 = some (.inl (cI, 8, .inl (fun _ => 0))) := by rw [← ef_48]; exact (g_u_n n_53).trans h_43
  have n_55 : q28 ≠ q46 := g_nf h_44 hq46
  have h_56 : f_48 q28 = some (.inl (cI, 8, .inl (fun _ => 0))) := by rw [← ef_48]; exact (g_u_n n_55).trans h_44
  have h_57 : f_48 q46 = some (.inl (cI, 100, .inl (fun _ => 0))) := by rw [← ef_48]; exact g_u_s
  have nf_58 : ∀ q x, f q = some x → q ≠ t → q ≠ q46 := fun q x h1 h2 => g_nf (fr_45 q x h1 h2) hq46
  have fr_59 : ∀ q x, f q = some x → q ≠ t → f_48 q = some x := fun q x h1 h2 => by rw [← ef_48]; exact (g_u_n (nf_58 q x h1 h2)).trans (fr_45 q x h1 h2)
  refine g_putF (ci := 2) (C := R_TU) (T := F_TU) (N := 6) (ty := .array .int) (fs2 := [.ref q1, .ref q13, .ref q28, .ref q46, .null, .int 0]) X i_TU t_TU t_TU_ok n_TU rfl h_50 3 (by decide) q_87 (fun _ h9 => h9) rfl hin rfl (by decide +kernel) rfl rfl (Nat.le_of_ble_eq_true rfl) rfl d_TU_init_33 ?_
  generalize ef_60 : g_u f_48 t (.inr (2, [.ref q1, .ref q13, .ref q28, .ref q46, .null, .int 0])) = f_60
  have h_61 : f_60 t = some (.inr (2, [.ref q1, .ref q13, .ref q28, .ref q46, .null, .int 0])) := by rw [← ef_60]; exact g_u_s
  have h_62 : f_60 q1 = some (.inl (cI, 8, .inl (fun _ => 0))) := by rw [← ef_60]; exact (g_u_n (Ne.symm n_4)).trans h_52
  have h_63 : f_60 q13 = some (.inl (cI, 8, .inl (fun _ => 0))) := by rw [← ef_60]; exact (g_u_n (Ne.symm n_16)).trans h_54
  have h_64 : f_60 q28 = some (.inl (cI, 8, .inl (fun _ => 0))) := by rw [← ef_60]; exact (g_u_n (Ne.symm n_31)).trans h_56
  have h_65 : f_60 q46 = some (.inl (cI, 100, .inl (fun _ => 0))) := by rw [← ef_60]; exact (g_u_n (Ne.symm n_49)).trans h_57
  have fr_66 : ∀ q x, f q = some x → q ≠ t → f_60 q = some x := fun q x h1 h2 => by rw [← ef_60]; exact (g_u_n h2).trans (fr_59 q x h1 h2)
  refine g_aload_n X d_TU_init_36 0 rfl ?_
  refine g_sipush (v := 2048) X d_TU_init_37 (by decide) ?_
  refine g_newi (t0 := 0) (N := 2048) X q_77 rfl (by decide) (by decide) (by decide) (Nat.le_of_ble_eq_true rfl) (Nat.le_of_ble_eq_true rfl) d_TU_init_40 (fun q67 hq67 => ?_)
  have nn_68 : f q67 = none := g_none fr_66 hq67 (Ne.symm (g_nf h_61 hq67))
  generalize ef_69 : g_u f_60 q67 (.inl (cI, 2048, .inl (fun _ => 0))) = f_69
  have n_70 : t ≠ q67 := g_nf h_61 hq67
  have h_71 : f_69 t = some (.inr (2, [.ref q1, .ref q13, .ref q28, .ref q46, .null, .int 0])) := by rw [← ef_69]; exact (g_u_n n_70).trans h_61
  have n_72 : q1 ≠ q67 := g_nf h_62 hq67
  have h_73 : f_69 q1 = some (.inl (cI, 8, .inl (fun _ => 0))) := by rw [← ef_69]; exact (g_u_n n_72).trans h_62
  have n_74 : q13 ≠ q67 := g_nf h_63 hq67
  have h_75 : f_69 q13 = some (.inl (cI, 8, .inl (fun _ => 0))) := by rw [← ef_69]; exact (g_u_n n_74).trans h_63
  have n_76 : q28 ≠ q67 := g_nf h_64 hq67
  have h_77 : f_69 q28 = some (.inl (cI, 8, .inl (fun _ => 0))) := by rw [← ef_69]; exact (g_u_n n_76).trans h_64
  have n_78 : q46 ≠ q67 := g_nf h_65 hq67
  have h_79 : f_69 q46 = some (.inl (cI, 100, .inl (fun _ => 0))) := by rw [← ef_69]; exact (g_u_n n_78).trans h_65
  have h_80 : f_69 q67 = some (.inl (cI, 2048, .inl (fun _ => 0))) := by rw [← ef_69]; exact g_u_s
  have nf_81 : ∀ q x, f q = some x → q ≠ t → q ≠ q67 := fun q x h1 h2 => g_nf (fr_66 q x h1 h2) hq67
  have fr_82 : ∀ q x, f q = some x → q ≠ t → f_69 q = some x := fun q x h1 h2 => by rw [← ef_69]; exact (g_u_n (nf_81 q x h1 h2)).trans (fr_66 q x h1 h2)
  refine g_putF (ci := 2) (C := R_TU) (T := F_TU) (N := 6) (ty := .array .int) (fs2 := [.ref q1, .ref q13, .ref q28, .ref q46, .ref q67, .int 0]) X i_TU t_TU t_TU_ok n_TU rfl h_71 4 (by decide) q_88 (fun _ h9 => h9) rfl hin rfl (by decide +kernel) rfl rfl (Nat.le_of_ble_eq_true rfl) rfl d_TU_init_42 ?_
  generalize ef_83 : g_u f_69 t (.inr (2, [.ref q1, .ref q13, .ref q28, .ref q46, .ref q67, .int 0])) = f_83
  have h_84 : f_83 t = some (.inr (2, [.ref q1, .ref q13, .ref q28, .ref q46, .ref q67, .int 0])) := by rw [← ef_83]; exact g_u_s
  have h_85 : f_83 q1 = some (.inl (cI, 8, .inl (fun _ => 0))) := by rw [← ef_83]; exact (g_u_n (Ne.symm n_4)).trans h_73
  have h_86 : f_83 q13 = some (.inl (cI, 8, .inl (fun _ => 0))) := by rw [← ef_83]; exact (g_u_n (Ne.symm n_16)).trans h_75
  have h_87 : f_83 q28 = some (.inl (cI, 8, .inl (fun _ => 0))) := by rw [← ef_83]; exact (g_u_n (Ne.symm n_31)).trans h_77
  have h_88 : f_83 q46 = some (.inl (cI, 100, .inl (fun _ => 0))) := by rw [← ef_83]; exact (g_u_n (Ne.symm n_49)).trans h_79
  have h_89 : f_83 q67 = some (.inl (cI, 2048, .inl (fun _ => 0))) := by rw [← ef_83]; exact (g_u_n (Ne.symm n_70)).trans h_80
  have fr_90 : ∀ q x, f q = some x → q ≠ t → f_83 q = some x := fun q x h1 h2 => by rw [← ef_83]; exact (g_u_n h2).trans (fr_82 q x h1 h2)
  refine g_aload_n X d_TU_init_45 0 rfl ?_
  refine g_iconst (v := 0) X d_TU_init_46 (by decide) ?_
  refine g_put (ci := 2) (C := R_TU) (T := F_TU) (N := 6) (ty := .int) (fs2 := [.ref q1, .ref q13, .ref q28, .ref q46, .ref q67, .int 0]) X i_TU t_TU t_TU_ok n_TU rfl h_84 5 (by decide) q_89 (fun _ h9 => h9) rfl (by decide +kernel) rfl rfl (Nat.le_of_ble_eq_true rfl) rfl d_TU_init_47 ?_
  generalize ef_91 : g_u f_83 t (.inr (2, [.ref q1, .ref q13, .ref q28, .ref q46, .ref q67, .int 0])) = f_91
  have h_92 : f_91 t = some (.inr (2, [.ref q1, .ref q13, .ref q28, .ref q46, .ref q67, .int 0])) := by rw [← ef_91]; exact g_u_s
  have h_93 : f_91 q1 = some (.inl (cI, 8, .inl (fun _ => 0))) := by rw [← ef_91]; exact (g_u_n (Ne.symm n_4)).trans h_85
  have h_94 : f_91 q13 = some (.inl (cI, 8, .inl (fun _ => 0))) := by rw [← ef_91]; exact (g_u_n (Ne.symm n_16)).trans h_86
  have h_95 : f_91 q28 = some (.inl (cI, 8, .inl (fun _ => 0))) := by rw [← ef_91]; exact (g_u_n (Ne.symm n_31)).trans h_87
  have h_96 : f_91 q46 = some (.inl (cI, 100, .inl (fun _ => 0))) := by rw [← ef_91]; exact (g_u_n (Ne.symm n_49)).trans h_88
  have h_97 : f_91 q67 = some (.inl (cI, 2048, .inl (fun _ => 0))) := by rw [← ef_91]; exact (g_u_n (Ne.symm n_70)).trans h_89
  have fr_98 : ∀ q x, f q = some x → q ≠ t → f_91 q = some x := fun q x h1 h2 => by rw [← ef_91]; exact (g_u_n h2).trans (fr_90 q x h1 h2)
  exact g_vret X rfl (⟨rfl, (fun i => ([q1, q13, q28, q46, q67] : List Nat).getD i 0), ⟨h_92, h_93, h_94, h_95, h_96, h_97⟩, nd_inj (List.Pairwise.cons (List.forall_mem_cons.mpr ⟨n_18, (List.forall_mem_cons.mpr ⟨n_33, (List.forall_mem_cons.mpr ⟨n_51, (List.forall_mem_cons.mpr ⟨n_72, (fun _ z => by cases z)⟩)⟩)⟩)⟩) (List.Pairwise.cons (List.forall_mem_cons.mpr ⟨n_35, (List.forall_mem_cons.mpr ⟨n_53, (List.forall_mem_cons.mpr ⟨n_74, (fun _ z => by cases z)⟩)⟩)⟩) (List.Pairwise.cons (List.forall_mem_cons.mpr ⟨n_55, (List.forall_mem_cons.mpr ⟨n_76, (fun _ z => by cases z)⟩)⟩) (List.Pairwise.cons (List.forall_mem_cons.mpr ⟨n_78, (fun _ z => by cases z)⟩) (List.Pairwise.cons (fun _ z => by cases z) List.Pairwise.nil))))), fun i hi => match i, hi with | 0, _ => nn_2 | 1, _ => nn_14 | 2, _ => nn_29 | 3, _ => nn_47 | 4, _ => nn_68 | i + 5, hi => absurd hi (by omega), fr_98⟩) (Nat.le_of_ble_eq_true rfl) (Nat.le_of_ble_eq_true rfl) d_TU_init_50
set_option maxHeartbeats 4000000 in
set_option maxRecDepth 100000 in
theorem c_CS_init {l : Launch} {D : va_G} {cI cZ cO cJ : ClassId} {eA eM : Nat} {f : g_F} {k : Nat} {x y : Int32} (hb : f k = some (.inr (4, [.int 0, .int 0, .null, .null, .null, .int 0]))) : g_C l y_CS_init b_CS_init 3 none { frames := 1, cells := 3, slots := 96, locals := 20 } D g_cl (g_tys cI cZ cO cJ) (z_Z eA eM) [.ref k, .int x, .int y] f (fun r f2 => r = none ∧ ∃ a : Nat → Nat, cs_R cI cZ f2 k (a 0) (a 1) (a 2) x y (fun _ => 0) (fun _ => 0) (fun _ => false) 0 ∧ (∀ i j, i < 3 → j < 3 → a i = a j → i = j) ∧ (∀ i, i < 3 → f (a i) = none) ∧ (∀ q x, f q = some x → q ≠ k → f2 q = some x)) (fun _ => False) := by
  refine g_ofW [(0, .ref k), (1, .int x), (2, .int y)] (by decide +kernel) (Nat.le_of_ble_eq_true rfl) rfl ?_
  intro p e s m args below meth c X ht hin
  have fr_0 : ∀ q x, f q = some x → q ≠ k → f q = some x := fun q x h1 _ => h1
  refine g_aload_n X d_CS_init_0 0 rfl ?_
  refine g_objI X q_268 (Nat.le_of_ble_eq_true rfl) (Nat.le_of_ble_eq_true rfl) d_CS_init_1 ?_
  refine g_aload_n X d_CS_init_4 0 rfl ?_
  refine g_iload_n X d_CS_init_5 1 rfl ?_
  refine g_putF (ci := 4) (C := R_CS) (T := F_CS) (N := 6) (ty := .int) (fs2 := [.int x, .int 0, .null, .null, .null, .int 0]) X i_CS t_CS t_CS_ok n_CS rfl hb 0 (by decide) q_269 (fun _ h9 => h9) rfl hin rfl (by decide +kernel) rfl rfl (Nat.le_of_ble_eq_true rfl) rfl d_CS_init_6 ?_
  generalize ef_1 : g_u f k (.inr (4, [.int x, .int 0, .null, .null, .null, .int 0])) = f_1
  have h_2 : f_1 k = some (.inr (4, [.int x, .int 0, .null, .null, .null, .int 0])) := by rw [← ef_1]; exact g_u_s
  have fr_3 : ∀ q x, f q = some x → q ≠ k → f_1 q = some x := fun q x h1 h2 => by rw [← ef_1]; exact (g_u_n h2).trans (fr_0 q x h1 h2)
  refine g_aload_n X d_CS_init_9 0 rfl ?_
  refine g_iload_n X d_CS_init_10 2 rfl ?_
  refine g_putF (ci := 4) (C := R_CS) (T := F_CS) (N := 6) (ty := .int) (fs2 := [.int x, .int y, .null, .null, .null, .int 0]) X i_CS t_CS t_CS_ok n_CS rfl h_2 1 (by decide) q_270 (fun _ h9 => h9) rfl hin rfl (by decide +kernel) rfl rfl (Nat.le_of_ble_eq_true rfl) rfl d_CS_init_11 ?_
  generalize ef_4 : g_u f_1 k (.inr (4, [.int x, .int y, .null, .null, .null, .int 0])) = f_4
  have h_5 : f_4 k = some (.inr (4, [.int x, .int y, .null, .null, .null, .int 0])) := by rw [← ef_4]; exact g_u_s
  have fr_6 : ∀ q x, f q = some x → q ≠ k → f_4 q = some x := fun q x h1 h2 => by rw [← ef_4]; exact (g_u_n h2).trans (fr_3 q x h1 h2)
  refine g_aload_n X d_CS_init_14 0 rfl ?_
  refine g_bipush (v := 32) X d_CS_init_15 (by decide) ?_
  refine g_newi (t0 := 0) (N := 32) X q_77 rfl (by decide) (by decide) (by decide) (Nat.le_of_ble_eq_true rfl) (Nat.le_of_ble_eq_true rfl) d_CS_init_17 (fun q7 hq7 => ?_)
  have nn_8 : f q7 = none := g_none fr_6 hq7 (Ne.symm (g_nf h_5 hq7))
  generalize ef_9 : g_u f_4 q7 (.inl (cI, 32, .inl (fun _ => 0))) = f_9
  have n_10 : k ≠ q7 := g_nf h_5 hq7
  have h_11 : f_9 k = some (.inr (4, [.int x, .int y, .null, .null, .null, .int 0])) := by rw [← ef_9]; exact (g_u_n n_10).trans h_5
  have h_12 : f_9 q7 = some (.inl (cI, 32, .inl (fun _ => 0))) := by rw [← ef_9]; exact g_u_s
  have nf_13 : ∀ q x, f q = some x → q ≠ k → q ≠ q7 := fun q x h1 h2 => g_nf (fr_6 q x h1 h2) hq7
  have fr_14 : ∀ q x, f q = some x → q ≠ k → f_9 q = some x := fun q x h1 h2 => by rw [← ef_9]; exact (g_u_n (nf_13 q x h1 h2)).trans (fr_6 q x h1 h2)
  refine g_putF (ci := 4) (C := R_CS) (T := F_CS) (N := 6) (ty := .array .int) (fs2 := [.int x, .int y, .ref q7, .null, .null, .int 0]) X i_CS t_CS t_CS_ok n_CS rfl h_11 2 (by decide) q_271 (fun _ h9 => h9) rfl hin rfl (by decide +kernel) rfl rfl (Nat.le_of_ble_eq_true rfl) rfl d_CS_init_19 ?_
  generalize ef_15 : g_u f_9 k (.inr (4, [.int x, .int y, .ref q7, .null, .null, .int 0])) = f_15
  have h_16 : f_15 k = some (.inr (4, [.int x, .int y, .ref q7, .null, .null, .int 0])) := by rw [← ef_15]; exact g_u_s
  have h_17 : f_15 q7 = some (.inl (cI, 32, .inl (fun _ => 0))) := by rw [← ef_15]; exact (g_u_n (Ne.symm n_10)).trans h_12
  have fr_18 : ∀ q x, f q = some x → q ≠ k → f_15 q = some x := fun q x h1 h2 => by rw [← ef_15]; exact (g_u_n h2).trans (fr_14 q x h1 h2)
  refine g_aload_n X d_CS_init_22 0 rfl ?_
  refine g_bipush (v := 32) X d_CS_init_23 (by decide) ?_
  refine g_newi (t0 := 0) (N := 32) X q_77 rfl (by decide) (by decide) (by decide) (Nat.le_of_ble_eq_true rfl) (Nat.le_of_ble_eq_true rfl) d_CS_init_25 (fun q19 hq19 => ?_)
  have nn_20 : f q19 = none := g_none fr_18 hq19 (Ne.symm (g_nf h_16 hq19))
  generalize ef_21 : g_u f_15 q19 (.inl (cI, 32, .inl (fun _ => 0))) = f_21
  have n_22 : k ≠ q19 := g_nf h_16 hq19
  have h_23 : f_21 k = some (.inr (4, [.int x, .int y, .ref q7, .null, .null, .int 0])) := by rw [← ef_21]; exact (g_u_n n_22).trans h_16
  have n_24 : q7 ≠ q19 := g_nf h_17 hq19
  have h_25 : f_21 q7 = some (.inl (cI, 32, .inl (fun _ => 0))) := by rw [← ef_21]; exact (g_u_n n_24).trans h_17
  have h_26 : f_21 q19 = some (.inl (cI, 32, .inl (fun _ => 0))) := by rw [← ef_21]; exact g_u_s
  have nf_27 : ∀ q x, f q = some x → q ≠ k → q ≠ q19 := fun q x h1 h2 => g_nf (fr_18 q x h1 h2) hq19
  have fr_28 : ∀ q x, f q = some x → q ≠ k → f_21 q = some x := fun q x h1 h2 => by rw [← ef_21]; exact (g_u_n (nf_27 q x h1 h2)).trans (fr_18 q x h1 h2)
  refine g_putF (ci := 4) (C := R_CS) (T := F_CS) (N := 6) (ty := .array .int) (fs2 := [.int x, .int y, .ref q7, .ref q19, .null, .int 0]) X i_CS t_CS t_CS_ok n_CS rfl h_23 3 (by decide) q_272 (fun _ h9 => h9) rfl hin rfl (by decide +kernel) rfl rfl (Nat.le_of_ble_eq_true rfl) rfl d_CS_init_27 ?_
  generalize ef_29 : g_u f_21 k (.inr (4, [.int x, .int y, .ref q7, .ref q19, .null, .int 0])) = f_29
  have h_30 : f_29 k = some (.inr (4, [.int x, .int y, .ref q7, .ref q19, .null, .int 0])) := by rw [← ef_29]; exact g_u_s
  have h_31 : f_29 q7 = some (.inl (cI, 32, .inl (fun _ => 0))) := by rw [← ef_29]; exact (g_u_n (Ne.symm n_10)).trans h_25
  have h_32 : f_29 q19 = some (.inl (cI, 32, .inl (fun _ => 0))) := by rw [← ef_29]; exact (g_u_n (Ne.symm n_22)).trans h_26
  have fr_33 : ∀ q x, f q = some x → q ≠ k → f_29 q = some x := fun q x h1 h2 => by rw [← ef_29]; exact (g_u_n h2).trans (fr_28 q x h1 h2)
  refine g_aload_n X d_CS_init_30 0 rfl ?_
  refine g_bipush (v := 32) X d_CS_init_31 (by decide) ?_
  refine g_newz (t0 := 1) (N := 32) X q_288 rfl (by decide) (by decide) (by decide) (Nat.le_of_ble_eq_true rfl) (Nat.le_of_ble_eq_true rfl) d_CS_init_33 (fun q34 hq34 => ?_)
  have nn_35 : f q34 = none := g_none fr_33 hq34 (Ne.symm (g_nf h_30 hq34))
  generalize ef_36 : g_u f_29 q34 (.inl (cZ, 32, .inl (fun _ => 0))) = f_36
  have n_37 : k ≠ q34 := g_nf h_30 hq34
  have h_38 : f_36 k = some (.inr (4, [.int x, .int y, .ref q7, .ref q19, .null, .int 0])) := by rw [← ef_36]; exact (g_u_n n_37).trans h_30
  have n_39 : q7 ≠ q34 := g_nf h_31 hq34
  have h_40 : f_36 q7 = some (.inl (cI, 32, .inl (fun _ => 0))) := by rw [← ef_36]; exact (g_u_n n_39).trans h_31
  have n_41 : q19 ≠ q34 := g_nf h_32 hq34
  have h_42 : f_36 q19 = some (.inl (cI, 32, .inl (fun _ => 0))) := by rw [← ef_36]; exact (g_u_n n_41).trans h_32
  have h_43 : f_36 q34 = some (.inl (cZ, 32, .inl (fun _ => 0))) := by rw [← ef_36]; exact g_u_s
  have nf_44 : ∀ q x, f q = some x → q ≠ k → q ≠ q34 := fun q x h1 h2 => g_nf (fr_33 q x h1 h2) hq34
  have fr_45 : ∀ q x, f q = some x → q ≠ k → f_36 q = some x := fun q x h1 h2 => by rw [← ef_36]; exact (g_u_n (nf_44 q x h1 h2)).trans (fr_33 q x h1 h2)
  refine g_putF (ci := 4) (C := R_CS) (T := F_CS) (N := 6) (ty := .array .boolean) (fs2 := [.int x, .int y, .ref q7, .ref q19, .ref q34, .int 0]) X i_CS t_CS t_CS_ok n_CS rfl h_38 4 (by decide) q_273 (fun _ h9 => h9) rfl hin rfl (by decide +kernel) rfl rfl (Nat.le_of_ble_eq_true rfl) rfl d_CS_init_35 ?_
  generalize ef_46 : g_u f_36 k (.inr (4, [.int x, .int y, .ref q7, .ref q19, .ref q34, .int 0])) = f_46
  have h_47 : f_46 k = some (.inr (4, [.int x, .int y, .ref q7, .ref q19, .ref q34, .int 0])) := by rw [← ef_46]; exact g_u_s
  have h_48 : f_46 q7 = some (.inl (cI, 32, .inl (fun _ => 0))) := by rw [← ef_46]; exact (g_u_n (Ne.symm n_10)).trans h_40
  have h_49 : f_46 q19 = some (.inl (cI, 32, .inl (fun _ => 0))) := by rw [← ef_46]; exact (g_u_n (Ne.symm n_22)).trans h_42
  have h_50 : f_46 q34 = some (.inl (cZ, 32, .inl (fun _ => 0))) := by rw [← ef_46]; exact (g_u_n (Ne.symm n_37)).trans h_43
  have fr_51 : ∀ q x, f q = some x → q ≠ k → f_46 q = some x := fun q x h1 h2 => by rw [← ef_46]; exact (g_u_n h2).trans (fr_45 q x h1 h2)
  refine g_aload_n X d_CS_init_38 0 rfl ?_
  refine g_iconst (v := 0) X d_CS_init_39 (by decide) ?_
  refine g_put (ci := 4) (C := R_CS) (T := F_CS) (N := 6) (ty := .int) (fs2 := [.int x, .int y, .ref q7, .ref q19, .ref q34, .int 0]) X i_CS t_CS t_CS_ok n_CS rfl h_47 5 (by decide) q_274 (fun _ h9 => h9) rfl (by decide +kernel) rfl rfl (Nat.le_of_ble_eq_true rfl) rfl d_CS_init_40 ?_
  generalize ef_52 : g_u f_46 k (.inr (4, [.int x, .int y, .ref q7, .ref q19, .ref q34, .int 0])) = f_52
  have h_53 : f_52 k = some (.inr (4, [.int x, .int y, .ref q7, .ref q19, .ref q34, .int 0])) := by rw [← ef_52]; exact g_u_s
  have h_54 : f_52 q7 = some (.inl (cI, 32, .inl (fun _ => 0))) := by rw [← ef_52]; exact (g_u_n (Ne.symm n_10)).trans h_48
  have h_55 : f_52 q19 = some (.inl (cI, 32, .inl (fun _ => 0))) := by rw [← ef_52]; exact (g_u_n (Ne.symm n_22)).trans h_49
  have h_56 : f_52 q34 = some (.inl (cZ, 32, .inl (fun _ => 0))) := by rw [← ef_52]; exact (g_u_n (Ne.symm n_37)).trans h_50
  have fr_57 : ∀ q x, f q = some x → q ≠ k → f_52 q = some x := fun q x h1 h2 => by rw [← ef_52]; exact (g_u_n h2).trans (fr_51 q x h1 h2)
  exact g_vret X rfl (⟨rfl, (fun i => ([q7, q19, q34] : List Nat).getD i 0), ⟨h_53, h_54, h_55, h_56⟩, nd_inj (List.Pairwise.cons (List.forall_mem_cons.mpr ⟨n_24, (List.forall_mem_cons.mpr ⟨n_39, (fun _ z => by cases z)⟩)⟩) (List.Pairwise.cons (List.forall_mem_cons.mpr ⟨n_41, (fun _ z => by cases z)⟩) (List.Pairwise.cons (fun _ z => by cases z) List.Pairwise.nil))), fun i hi => match i, hi with | 0, _ => nn_8 | 1, _ => nn_20 | 2, _ => nn_35 | i + 3, hi => absurd hi (by omega), fr_57⟩) (Nat.le_of_ble_eq_true rfl) (Nat.le_of_ble_eq_true rfl) d_CS_init_43
set_option maxHeartbeats 4000000 in
set_option maxRecDepth 100000 in
theorem c_MO_init {l : Launch} {D : va_G} {cI cZ cO cJ : ClassId} {eA eM : Nat} {f : g_F} {b : Nat} {x : Int32} (hb : f b = some (.inr (5, [.int 0, .int 0, .int 0, .null, .null, .int 0, .null, .null, .null, .null, .null, .null, .null, .null, .null, .int 0, .int 0, .null, .null, .null]))) : g_C l y_MO_init b_MO_init 2 none { frames := 1, cells := 14, slots := 79836, locals := 20 } D g_cl (g_tys cI cZ cO cJ) (z_Z eA eM) [.ref b, .int x] f (fun r f2 => r = none ∧ ∃ bd : Nat → Nat, bd 0 = b ∧ mo_R cI cZ f2 bd 0 (lif x) 0 (fun _ => 0) (fun _ => 0) 0 (fun _ => 0) (fun _ => 0) (fun _ => 0) (fun _ => 0) (fun _ => 0) (fun _ => 0) (fun _ => 0) (fun _ => 0) (fun _ => false) 0 0 (fun _ => 0) (fun _ => 0) (fun _ => false) ∧ (∀ i j, i < 15 → j < 15 → bd i = bd j → i = j) ∧ (∀ i, i < 15 → 0 < i → f (bd i) = none) ∧ (∀ q x, f q = some x → q ≠ b → f2 q = some x)) (fun _ => False) := by
  refine g_ofW [(0, .ref b), (1, .int x)] (by decide +kernel) (Nat.le_of_ble_eq_true rfl) rfl ?_
  intro p e s m args below meth c X ht hin
  have fr_0 : ∀ q x, f q = some x → q ≠ b → f q = some x := fun q x h1 _ => h1
  refine g_aload_n X d_MO_init_0 0 rfl ?_
  refine g_objI X q_595 (Nat.le_of_ble_eq_true rfl) (Nat.le_of_ble_eq_true rfl) d_MO_init_1 ?_
  refine g_aload_n X d_MO_init_4 0 rfl ?_
  refine g_bipush (v := 24) X d_MO_init_5 (by decide) ?_
  refine g_newi (t0 := 0) (N := 24) X q_77 rfl (by decide) (by decide) (by decide) (Nat.le_of_ble_eq_true rfl) (Nat.le_of_ble_eq_true rfl) d_MO_init_7 (fun q1 hq1 => ?_)
  have nn_2 : f q1 = none := g_none fr_0 hq1 (Ne.symm (g_nf hb hq1))
  generalize ef_3 : g_u f q1 (.inl (cI, 24, .inl (fun _ => 0))) = f_3
  have n_4 : b ≠ q1 := g_nf hb hq1
  have h_5 : f_3 b = some (.inr (5, [.int 0, .int 0, .int 0, .null, .null, .int 0, .null, .null, .null, .null, .null, .null, .null, .null, .null, .int 0, .int 0, .null, .null, .null])) := by rw [← ef_3]; exact (g_u_n n_4).trans hb
  have h_6 : f_3 q1 = some (.inl (cI, 24, .inl (fun _ => 0))) := by rw [← ef_3]; exact g_u_s
  have nf_7 : ∀ q x, f q = some x → q ≠ b → q ≠ q1 := fun q x h1 h2 => g_nf (fr_0 q x h1 h2) hq1
  have fr_8 : ∀ q x, f q = some x → q ≠ b → f_3 q = some x := fun q x h1 h2 => by rw [← ef_3]; exact (g_u_n (nf_7 q x h1 h2)).trans (fr_0 q x h1 h2)
  refine g_putF (ci := 5) (C := R_MO) (T := F_MO) (N := 20) (ty := .array .int) (fs2 := [.int 0, .int 0, .int 0, .ref q1, .null, .int 0, .null, .null, .null, .null, .null, .null, .null, .null, .null, .int 0, .int 0, .null, .null, .null]) X i_MO t_MO t_MO_ok n_MO rfl h_5 3 (by decide) q_600 (fun _ h9 => h9) rfl hin rfl (by decide +kernel) rfl rfl (Nat.le_of_ble_eq_true rfl) rfl d_MO_init_9 ?_
  generalize ef_9 : g_u f_3 b (.inr (5, [.int 0, .int 0, .int 0, .ref q1, .null, .int 0, .null, .null, .null, .null, .null, .null, .null, .null, .null, .int 0, .int 0, .null, .null, .null])) = f_9
  have h_10 : f_9 b = some (.inr (5, [.int 0, .int 0, .int 0, .ref q1, .null, .int 0, .null, .null, .null, .null, .null, .null, .null, .null, .null, .int 0, .int 0, .null, .null, .null])) := by rw [← ef_9]; exact g_u_s
  have h_11 : f_9 q1 = some (.inl (cI, 24, .inl (fun _ => 0))) := by rw [← ef_9]; exact (g_u_n (Ne.symm n_4)).trans h_6
  have fr_12 : ∀ q x, f q = some x → q ≠ b → f_9 q = some x := fun q x h1 h2 => by rw [← ef_9]; exact (g_u_n h2).trans (fr_8 q x h1 h2)
  refine g_aload_n X d_MO_init_12 0 rfl ?_
  refine g_bipush (v := 24) X d_MO_init_13 (by decide) ?_
  refine g_newi (t0 := 0) (N := 24) X q_77 rfl (by decide) (by decide) (by decide) (Nat.le_of_ble_eq_true rfl) (Nat.le_of_ble_eq_true rfl) d_MO_init_15 (fun q13 hq13 => ?_)
  have nn_14 : f q13 = none := g_none fr_12 hq13 (Ne.symm (g_nf h_10 hq13))
  generalize ef_15 : g_u f_9 q13 (.inl (cI, 24, .inl (fun _ => 0))) = f_15
  have n_16 : b ≠ q13 := g_nf h_10 hq13
  have h_17 : f_15 b = some (.inr (5, [.int 0, .int 0, .int 0, .ref q1, .null, .int 0, .null, .null, .null, .null, .null, .null, .null, .null, .null, .int 0, .int 0, .null, .null, .null])) := by rw [← ef_15]; exact (g_u_n n_16).trans h_10
  have n_18 : q1 ≠ q13 := g_nf h_11 hq13
  have h_19 : f_15 q1 = some (.inl (cI, 24, .inl (fun _ => 0))) := by rw [← ef_15]; exact (g_u_n n_18).trans h_11
  have h_20 : f_15 q13 = some (.inl (cI, 24, .inl (fun _ => 0))) := by rw [← ef_15]; exact g_u_s
  have nf_21 : ∀ q x, f q = some x → q ≠ b → q ≠ q13 := fun q x h1 h2 => g_nf (fr_12 q x h1 h2) hq13
  have fr_22 : ∀ q x, f q = some x → q ≠ b → f_15 q = some x := fun q x h1 h2 => by rw [← ef_15]; exact (g_u_n (nf_21 q x h1 h2)).trans (fr_12 q x h1 h2)
  refine g_putF (ci := 5) (C := R_MO) (T := F_MO) (N := 20) (ty := .array .int) (fs2 := [.int 0, .int 0, .int 0, .ref q1, .ref q13, .int 0, .null, .null, .null, .null, .null, .null, .null, .null, .null, .int 0, .int 0, .null, .null, .null]) X i_MO t_MO t_MO_ok n_MO rfl h_17 4 (by decide) q_601 (fun _ h9 => h9) rfl hin rfl (by decide +kernel) rfl rfl (Nat.le_of_ble_eq_true rfl) rfl d_MO_init_17 ?_
  generalize ef_23 : g_u f_15 b (.inr (5, [.int 0, .int 0, .int 0, .ref q1, .ref q13, .int 0, .null, .null, .null, .null, .null, .null, .null, .null, .null, .int 0, .int 0, .null, .null, .null])) = f_23
  have h_24 : f_23 b = some (.inr (5, [.int 0, .int 0, .int 0, .ref q1, .ref q13, .int 0, .null, .null, .null, .null, .null, .null, .null, .null, .null, .int 0, .int 0, .null, .null, .null])) := by rw [← ef_23]; exact g_u_s
  have h_25 : f_23 q1 = some (.inl (cI, 24, .inl (fun _ => 0))) := by rw [← ef_23]; exact (g_u_n (Ne.symm n_4)).trans h_19
  have h_26 : f_23 q13 = some (.inl (cI, 24, .inl (fun _ => 0))) := by rw [← ef_23]; exact (g_u_n (Ne.symm n_16)).trans h_20
  have fr_27 : ∀ q x, f q = some x → q ≠ b → f_23 q = some x := fun q x h1 h2 => by rw [← ef_23]; exact (g_u_n h2).trans (fr_22 q x h1 h2)
  refine g_aload_n X d_MO_init_20 0 rfl ?_
  refine g_bipush (v := 8) X d_MO_init_21 (by decide) ?_
  refine g_newi (t0 := 0) (N := 8) X q_77 rfl (by decide) (by decide) (by decide) (Nat.le_of_ble_eq_true rfl) (Nat.le_of_ble_eq_true rfl) d_MO_init_23 (fun q28 hq28 => ?_)
  have nn_29 : f q28 = none := g_none fr_27 hq28 (Ne.symm (g_nf h_24 hq28))
  generalize ef_30 : g_u f_23 q28 (.inl (cI, 8, .inl (fun _ => 0))) = f_30
  have n_31 : b ≠ q28 := g_nf h_24 hq28
  have h_32 : f_30 b = some (.inr (5, [.int 0, .int 0, .int 0, .ref q1, .ref q13, .int 0, .null, .null, .null, .null, .null, .null, .null, .null, .null, .int 0, .int 0, .null, .null, .null])) := by rw [← ef_30]; exact (g_u_n n_31).trans h_24
  have n_33 : q1 ≠ q28 := g_nf h_25 hq28
  have h_34 : f_30 q1 = some (.inl (cI, 24, .inl (fun _ => 0))) := by rw [← ef_30]; exact (g_u_n n_33).trans h_25
  have n_35 : q13 ≠ q28 := g_nf h_26 hq28
  have h_36 : f_30 q13 = some (.inl (cI, 24, .inl (fun _ => 0))) := by rw [← ef_30]; exact (g_u_n n_35).trans h_26
  have h_37 : f_30 q28 = some (.inl (cI, 8, .inl (fun _ => 0))) := by rw [← ef_30]; exact g_u_s
  have nf_38 : ∀ q x, f q = some x → q ≠ b → q ≠ q28 := fun q x h1 h2 => g_nf (fr_27 q x h1 h2) hq28
  have fr_39 : ∀ q x, f q = some x → q ≠ b → f_30 q = some x := fun q x h1 h2 => by rw [← ef_30]; exact (g_u_n (nf_38 q x h1 h2)).trans (fr_27 q x h1 h2)
  refine g_putF (ci := 5) (C := R_MO) (T := F_MO) (N := 20) (ty := .array .int) (fs2 := [.int 0, .int 0, .int 0, .ref q1, .ref q13, .int 0, .ref q28, .null, .null, .null, .null, .null, .null, .null, .null, .int 0, .int 0, .null, .null, .null]) X i_MO t_MO t_MO_ok n_MO rfl h_32 6 (by decide) q_603 (fun _ h9 => h9) rfl hin rfl (by decide +kernel) rfl rfl (Nat.le_of_ble_eq_true rfl) rfl d_MO_init_25 ?_
  generalize ef_40 : g_u f_30 b (.inr (5, [.int 0, .int 0, .int 0, .ref q1, .ref q13, .int 0, .ref q28, .null, .null, .null, .null, .null, .null, .null, .null, .int 0, .int 0, .null, .null, .null])) = f_40
  have h_41 : f_40 b = some (.inr (5, [.int 0, .int 0, .int 0, .ref q1, .ref q13, .int 0, .ref q28, .null, .null, .null, .null, .null, .null, .null, .null, .int 0, .int 0, .null, .null, .null])) := by rw [← ef_40]; exact g_u_s
  have h_42 : f_40 q1 = some (.inl (cI, 24, .inl (fun _ => 0))) := by rw [← ef_40]; exact (g_u_n (Ne.symm n_4)).trans h_34
  have h_43 : f_40 q13 = some (.inl (cI, 24, .inl (fun _ => 0))) := by rw [← ef_40]; exact (g_u_n (Ne.symm n_16)).trans h_36
  have h_44 : f_40 q28 = some (.inl (cI, 8, .inl (fun _ => 0))) := by rw [← ef_40]; exact (g_u_n (Ne.symm n_31)).trans h_37
  have fr_45 : ∀ q x, f q = some x → q ≠ b → f_40 q = some x := fun q x h1 h2 => by rw [← ef_40]; exact (g_u_n h2).trans (fr_39 q x h1 h2)
  refine g_aload_n X d_MO_init_28 0 rfl ?_
  refine g_bipush (v := 8) X d_MO_init_29 (by decide) ?_
  refine g_newi (t0 := 0) (N := 8) X q_77 rfl (by decide) (by decide) (by decide) (Nat.le_of_ble_eq_true rfl) (Nat.le_of_ble_eq_true rfl) d_MO_init_31 (fun q46 hq46 => ?_)
  have nn_47 : f q46 = none := g_none fr_45 hq46 (Ne.symm (g_nf h_41 hq46))
  generalize ef_48 : g_u f_40 q46 (.inl (cI, 8, .inl (fun _ => 0))) = f_48
  have n_49 : b ≠ q46 := g_nf h_41 hq46
  have h_50 : f_48 b = some (.inr (5, [.int 0, .int 0, .int 0, .ref q1, .ref q13, .int 0, .ref q28, .null, .null, .null, .null, .null, .null, .null, .null, .int 0, .int 0, .null, .null, .null])) := by rw [← ef_48]; exact (g_u_n n_49).trans h_41
  have n_51 : q1 ≠ q46 := g_nf h_42 hq46
  have h_52 : f_48 q1 = some (.inl (cI, 24, .inl (fun _ => 0))) := by rw [← ef_48]; exact (g_u_n n_51).trans h_42
  have n_53 : q13 ≠ q46 := g_nf h_43 hq46
  have h_54 : f_48 q13 = some (.inl (cI, 24, .inl (fun _ => 0))) := by rw [← ef_48]; exact (g_u_n n_53).trans h_43
  have n_55 : q28 ≠ q46 := g_nf h_44 hq46
  have h_56 : f_48 q28 = some (.inl (cI, 8, .inl (fun _ => 0))) := by rw [← ef_48]; exact (g_u_n n_55).trans h_44
  have h_57 : f_48 q46 = some (.inl (cI, 8, .inl (fun _ => 0))) := by rw [← ef_48]; exact g_u_s
  have nf_58 : ∀ q x, f q = some x → q ≠ b → q ≠ q46 := fun q x h1 h2 => g_nf (fr_45 q x h1 h2) hq46
  have fr_59 : ∀ q x, f q = some x → q ≠ b → f_48 q = some x := fun q x h1 h2 => by rw [← ef_48]; exact (g_u_n (nf_58 q x h1 h2)).trans (fr_45 q x h1 h2)
  refine g_putF (ci := 5) (C := R_MO) (T := F_MO) (N := 20) (ty := .array .int) (fs2 := [.int 0, .int 0, .int 0, .ref q1, .ref q13, .int 0, .ref q28, .ref q46, .null, .null, .null, .null, .null, .null, .null, .int 0, .int 0, .null, .null, .null]) X i_MO t_MO t_MO_ok n_MO rfl h_50 7 (by decide) q_604 (fun _ h9 => h9) rfl hin rfl (by decide +kernel) rfl rfl (Nat.le_of_ble_eq_true rfl) rfl d_MO_init_33 ?_
  generalize ef_60 : g_u f_48 b (.inr (5, [.int 0, .int 0, .int 0, .ref q1, .ref q13, .int 0, .ref q28, .ref q46, .null, .null, .null, .null, .null, .null, .null, .int 0, .int 0, .null, .null, .null])) = f_60
  have h_61 : f_60 b = some (.inr (5, [.int 0, .int 0, .int 0, .ref q1, .ref q13, .int 0, .ref q28, .ref q46, .null, .null, .null, .null, .null, .null, .null, .int 0, .int 0, .null, .null, .null])) := by rw [← ef_60]; exact g_u_s
  have h_62 : f_60 q1 = some (.inl (cI, 24, .inl (fun _ => 0))) := by rw [← ef_60]; exact (g_u_n (Ne.symm n_4)).trans h_52
  have h_63 : f_60 q13 = some (.inl (cI, 24, .inl (fun _ => 0))) := by rw [← ef_60]; exact (g_u_n (Ne.symm n_16)).trans h_54
  have h_64 : f_60 q28 = some (.inl (cI, 8, .inl (fun _ => 0))) := by rw [← ef_60]; exact (g_u_n (Ne.symm n_31)).trans h_56
  have h_65 : f_60 q46 = some (.inl (cI, 8, .inl (fun _ => 0))) := by rw [← ef_60]; exact (g_u_n (Ne.symm n_49)).trans h_57
  have fr_66 : ∀ q x, f q = some x → q ≠ b → f_60 q = some x := fun q x h1 h2 => by rw [← ef_60]; exact (g_u_n h2).trans (fr_59 q x h1 h2)
  refine g_aload_n X d_MO_init_36 0 rfl ?_
  refine g_bipush (v := 8) X d_MO_init_37 (by decide) ?_
  refine g_newi (t0 := 0) (N := 8) X q_77 rfl (by decide) (by decide) (by decide) (Nat.le_of_ble_eq_true rfl) (Nat.le_of_ble_eq_true rfl) d_MO_init_39 (fun q67 hq67 => ?_)
  have nn_68 : f q67 = none := g_none fr_66 hq67 (Ne.symm (g_nf h_61 hq67))
  generalize ef_69 : g_u f_60 q67 (.inl (cI, 8, .inl (fun _ => 0))) = f_69
  have n_70 : b ≠ q67 := g_nf h_61 hq67
  have h_71 : f_69 b = some (.inr (5, [.int 0, .int 0, .int 0, .ref q1, .ref q13, .int 0, .ref q28, .ref q46, .null, .null, .null, .null, .null, .null, .null, .int 0, .int 0, .null, .null, .null])) := by rw [← ef_69]; exact (g_u_n n_70).trans h_61
  have n_72 : q1 ≠ q67 := g_nf h_62 hq67
  have h_73 : f_69 q1 = some (.inl (cI, 24, .inl (fun _ => 0))) := by rw [← ef_69]; exact (g_u_n n_72).trans h_62
  have n_74 : q13 ≠ q67 := g_nf h_63 hq67
  have h_75 : f_69 q13 = some (.inl (cI, 24, .inl (fun _ => 0))) := by rw [← ef_69]; exact (g_u_n n_74).trans h_63
  have n_76 : q28 ≠ q67 := g_nf h_64 hq67
  have h_77 : f_69 q28 = some (.inl (cI, 8, .inl (fun _ => 0))) := by rw [← ef_69]; exact (g_u_n n_76).trans h_64
  have n_78 : q46 ≠ q67 := g_nf h_65 hq67
  have h_79 : f_69 q46 = some (.inl (cI, 8, .inl (fun _ => 0))) := by rw [← ef_69]; exact (g_u_n n_78).trans h_65
  have h_80 : f_69 q67 = some (.inl (cI, 8, .inl (fun _ => 0))) := by rw [← ef_69]; exact g_u_s
  have nf_81 : ∀ q x, f q = some x → q ≠ b → q ≠ q67 := fun q x h1 h2 => g_nf (fr_66 q x h1 h2) hq67
  have fr_82 : ∀ q x, f q = some x → q ≠ b → f_69 q = some x := fun q x h1 h2 => by rw [← ef_69]; exact (g_u_n (nf_81 q x h1 h2)).trans (fr_66 q x h1 h2)
  refine g_putF (ci := 5) (C := R_MO) (T := F_MO) (N := 20) (ty := .array .int) (fs2 := [.int 0, .int 0, .int 0, .ref q1, .ref q13, .int 0, .ref q28, .ref q46, .ref q67, .null, .null, .null, .null, .null, .null, .int 0, .int 0, .null, .null, .null]) X i_MO t_MO t_MO_ok n_MO rfl h_71 8 (by decide) q_605 (fun _ h9 => h9) rfl hin rfl (by decide +kernel) rfl rfl (Nat.le_of_ble_eq_true rfl) rfl d_MO_init_41 ?_
  generalize ef_83 : g_u f_69 b (.inr (5, [.int 0, .int 0, .int 0, .ref q1, .ref q13, .int 0, .ref q28, .ref q46, .ref q67, .null, .null, .null, .null, .null, .null, .int 0, .int 0, .null, .null, .null])) = f_83
  have h_84 : f_83 b = some (.inr (5, [.int 0, .int 0, .int 0, .ref q1, .ref q13, .int 0, .ref q28, .ref q46, .ref q67, .null, .null, .null, .null, .null, .null, .int 0, .int 0, .null, .null, .null])) := by rw [← ef_83]; exact g_u_s
  have h_85 : f_83 q1 = some (.inl (cI, 24, .inl (fun _ => 0))) := by rw [← ef_83]; exact (g_u_n (Ne.symm n_4)).trans h_73
  have h_86 : f_83 q13 = some (.inl (cI, 24, .inl (fun _ => 0))) := by rw [← ef_83]; exact (g_u_n (Ne.symm n_16)).trans h_75
  have h_87 : f_83 q28 = some (.inl (cI, 8, .inl (fun _ => 0))) := by rw [← ef_83]; exact (g_u_n (Ne.symm n_31)).trans h_77
  have h_88 : f_83 q46 = some (.inl (cI, 8, .inl (fun _ => 0))) := by rw [← ef_83]; exact (g_u_n (Ne.symm n_49)).trans h_79
  have h_89 : f_83 q67 = some (.inl (cI, 8, .inl (fun _ => 0))) := by rw [← ef_83]; exact (g_u_n (Ne.symm n_70)).trans h_80
  have fr_90 : ∀ q x, f q = some x → q ≠ b → f_83 q = some x := fun q x h1 h2 => by rw [← ef_83]; exact (g_u_n h2).trans (fr_82 q x h1 h2)
  refine g_aload_n X d_MO_init_44 0 rfl ?_
  refine g_bipush (v := 100) X d_MO_init_45 (by decide) ?_
  refine g_newi (t0 := 0) (N := 100) X q_77 rfl (by decide) (by decide) (by decide) (Nat.le_of_ble_eq_true rfl) (Nat.le_of_ble_eq_true rfl) d_MO_init_47 (fun q91 hq91 => ?_)
  have nn_92 : f q91 = none := g_none fr_90 hq91 (Ne.symm (g_nf h_84 hq91))
  generalize ef_93 : g_u f_83 q91 (.inl (cI, 100, .inl (fun _ => 0))) = f_93
  have n_94 : b ≠ q91 := g_nf h_84 hq91
  have h_95 : f_93 b = some (.inr (5, [.int 0, .int 0, .int 0, .ref q1, .ref q13, .int 0, .ref q28, .ref q46, .ref q67, .null, .null, .null, .null, .null, .null, .int 0, .int 0, .null, .null, .null])) := by rw [← ef_93]; exact (g_u_n n_94).trans h_84
  have n_96 : q1 ≠ q91 := g_nf h_85 hq91
  have h_97 : f_93 q1 = some (.inl (cI, 24, .inl (fun _ => 0))) := by rw [← ef_93]; exact (g_u_n n_96).trans h_85
  have n_98 : q13 ≠ q91 := g_nf h_86 hq91
  have h_99 : f_93 q13 = some (.inl (cI, 24, .inl (fun _ => 0))) := by rw [← ef_93]; exact (g_u_n n_98).trans h_86
  have n_100 : q28 ≠ q91 := g_nf h_87 hq91
  have h_101 : f_93 q28 = some (.inl (cI, 8, .inl (fun _ => 0))) := by rw [← ef_93]; exact (g_u_n n_100).trans h_87
  have n_102 : q46 ≠ q91 := g_nf h_88 hq91
  have h_103 : f_93 q46 = some (.inl (cI, 8, .inl (fun _ => 0))) := by rw [← ef_93]; exact (g_u_n n_102).trans h_88
  have n_104 : q67 ≠ q91 := g_nf h_89 hq91
  have h_105 : f_93 q67 = some (.inl (cI, 8, .inl (fun _ => 0))) := by rw [← ef_93]; exact (g_u_n n_104).trans h_89
  have h_106 : f_93 q91 = some (.inl (cI, 100, .inl (fun _ => 0))) := by rw [← ef_93]; exact g_u_s
  have nf_107 : ∀ q x, f q = some x → q ≠ b → q ≠ q91 := fun q x h1 h2 => g_nf (fr_90 q x h1 h2) hq91
  have fr_108 : ∀ q x, f q = some x → q ≠ b → f_93 q = some x := fun q x h1 h2 => by rw [← ef_93]; exact (g_u_n (nf_107 q x h1 h2)).trans (fr_90 q x h1 h2)
  refine g_putF (ci := 5) (C := R_MO) (T := F_MO) (N := 20) (ty := .array .int) (fs2 := [.int 0, .int 0, .int 0, .ref q1, .ref q13, .int 0, .ref q28, .ref q46, .ref q67, .ref q91, .null, .null, .null, .null, .null, .int 0, .int 0, .null, .null, .null]) X i_MO t_MO t_MO_ok n_MO rfl h_95 9 (by decide) q_606 (fun _ h9 => h9) rfl hin rfl (by decide +kernel) rfl rfl (Nat.le_of_ble_eq_true rfl) rfl d_MO_init_49 ?_
  generalize ef_109 : g_u f_93 b (.inr (5, [.int 0, .int 0, .int 0, .ref q1, .ref q13, .int 0, .ref q28, .ref q46, .ref q67, .ref q91, .null, .null, .null, .null, .null, .int 0, .int 0, .null, .null, .null])) = f_109
  have h_110 : f_109 b = some (.inr (5, [.int 0, .int 0, .int 0, .ref q1, .ref q13, .int 0, .ref q28, .ref q46, .ref q67, .ref q91, .null, .null, .null, .null, .null, .int 0, .int 0, .null, .null, .null])) := by rw [← ef_109]; exact g_u_s
  have h_111 : f_109 q1 = some (.inl (cI, 24, .inl (fun _ => 0))) := by rw [← ef_109]; exact (g_u_n (Ne.symm n_4)).trans h_97
  have h_112 : f_109 q13 = some (.inl (cI, 24, .inl (fun _ => 0))) := by rw [← ef_109]; exact (g_u_n (Ne.symm n_16)).trans h_99
  have h_113 : f_109 q28 = some (.inl (cI, 8, .inl (fun _ => 0))) := by rw [← ef_109]; exact (g_u_n (Ne.symm n_31)).trans h_101
  have h_114 : f_109 q46 = some (.inl (cI, 8, .inl (fun _ => 0))) := by rw [← ef_109]; exact (g_u_n (Ne.symm n_49)).trans h_103
  have h_115 : f_109 q67 = some (.inl (cI, 8, .inl (fun _ => 0))) := by rw [← ef_109]; exact (g_u_n (Ne.symm n_70)).trans h_105
  have h_116 : f_109 q91 = some (.inl (cI, 100, .inl (fun _ => 0))) := by rw [← ef_109]; exact (g_u_n (Ne.symm n_94)).trans h_106
  have fr_117 : ∀ q x, f q = some x → q ≠ b → f_109 q = some x := fun q x h1 h2 => by rw [← ef_109]; exact (g_u_n h2).trans (fr_108 q x h1 h2)
  refine g_aload_n X d_MO_init_52 0 rfl ?_
  refine g_ldc (v := 75024) X q_596 d_MO_init_53 ?_
  refine g_newi (t0 := 0) (N := 75024) X q_77 rfl (by decide) (by decide) (by decide) (Nat.le_of_ble_eq_true rfl) (Nat.le_of_ble_eq_true rfl) d_MO_init_55 (fun q118 hq118 => ?_)
  have nn_119 : f q118 = none := g_none fr_117 hq118 (Ne.symm (g_nf h_110 hq118))
  generalize ef_120 : g_u f_109 q118 (.inl (cI, 75024, .inl (fun _ => 0))) = f_120
  have n_121 : b ≠ q118 := g_nf h_110 hq118
  have h_122 : f_120 b = some (.inr (5, [.int 0, .int 0, .int 0, .ref q1, .ref q13, .int 0, .ref q28, .ref q46, .ref q67, .ref q91, .null, .null, .null, .null, .null, .int 0, .int 0, .null, .null, .null])) := by rw [← ef_120]; exact (g_u_n n_121).trans h_110
  have n_123 : q1 ≠ q118 := g_nf h_111 hq118
  have h_124 : f_120 q1 = some (.inl (cI, 24, .inl (fun _ => 0))) := by rw [← ef_120]; exact (g_u_n n_123).trans h_111
  have n_125 : q13 ≠ q118 := g_nf h_112 hq118
  have h_126 : f_120 q13 = some (.inl (cI, 24, .inl (fun _ => 0))) := by rw [← ef_120]; exact (g_u_n n_125).trans h_112
  have n_127 : q28 ≠ q118 := g_nf h_113 hq118
  have h_128 : f_120 q28 = some (.inl (cI, 8, .inl (fun _ => 0))) := by rw [← ef_120]; exact (g_u_n n_127).trans h_113
  have n_129 : q46 ≠ q118 := g_nf h_114 hq118
  have h_130 : f_120 q46 = some (.inl (cI, 8, .inl (fun _ => 0))) := by rw [← ef_120]; exact (g_u_n n_129).trans h_114
  have n_131 : q67 ≠ q118 := g_nf h_115 hq118
  have h_132 : f_120 q67 = some (.inl (cI, 8, .inl (fun _ => 0))) := by rw [← ef_120]; exact (g_u_n n_131).trans h_115
  have n_133 : q91 ≠ q118 := g_nf h_116 hq118
  have h_134 : f_120 q91 = some (.inl (cI, 100, .inl (fun _ => 0))) := by rw [← ef_120]; exact (g_u_n n_133).trans h_116
  have h_135 : f_120 q118 = some (.inl (cI, 75024, .inl (fun _ => 0))) := by rw [← ef_120]; exact g_u_s
  have nf_136 : ∀ q x, f q = some x → q ≠ b → q ≠ q118 := fun q x h1 h2 => g_nf (fr_117 q x h1 h2) hq118
  have fr_137 : ∀ q x, f q = some x → q ≠ b → f_120 q = some x := fun q x h1 h2 => by rw [← ef_120]; exact (g_u_n (nf_136 q x h1 h2)).trans (fr_117 q x h1 h2)
  refine g_putF (ci := 5) (C := R_MO) (T := F_MO) (N := 20) (ty := .array .int) (fs2 := [.int 0, .int 0, .int 0, .ref q1, .ref q13, .int 0, .ref q28, .ref q46, .ref q67, .ref q91, .ref q118, .null, .null, .null, .null, .int 0, .int 0, .null, .null, .null]) X i_MO t_MO t_MO_ok n_MO rfl h_122 10 (by decide) q_607 (fun _ h9 => h9) rfl hin rfl (by decide +kernel) rfl rfl (Nat.le_of_ble_eq_true rfl) rfl d_MO_init_57 ?_
  generalize ef_138 : g_u f_120 b (.inr (5, [.int 0, .int 0, .int 0, .ref q1, .ref q13, .int 0, .ref q28, .ref q46, .ref q67, .ref q91, .ref q118, .null, .null, .null, .null, .int 0, .int 0, .null, .null, .null])) = f_138
  have h_139 : f_138 b = some (.inr (5, [.int 0, .int 0, .int 0, .ref q1, .ref q13, .int 0, .ref q28, .ref q46, .ref q67, .ref q91, .ref q118, .null, .null, .null, .null, .int 0, .int 0, .null, .null, .null])) := by rw [← ef_138]; exact g_u_s
  have h_140 : f_138 q1 = some (.inl (cI, 24, .inl (fun _ => 0))) := by rw [← ef_138]; exact (g_u_n (Ne.symm n_4)).trans h_124
  have h_141 : f_138 q13 = some (.inl (cI, 24, .inl (fun _ => 0))) := by rw [← ef_138]; exact (g_u_n (Ne.symm n_16)).trans h_126
  have h_142 : f_138 q28 = some (.inl (cI, 8, .inl (fun _ => 0))) := by rw [← ef_138]; exact (g_u_n (Ne.symm n_31)).trans h_128
  have h_143 : f_138 q46 = some (.inl (cI, 8, .inl (fun _ => 0))) := by rw [← ef_138]; exact (g_u_n (Ne.symm n_49)).trans h_130
  have h_144 : f_138 q67 = some (.inl (cI, 8, .inl (fun _ => 0))) := by rw [← ef_138]; exact (g_u_n (Ne.symm n_70)).trans h_132
  have h_145 : f_138 q91 = some (.inl (cI, 100, .inl (fun _ => 0))) := by rw [← ef_138]; exact (g_u_n (Ne.symm n_94)).trans h_134
  have h_146 : f_138 q118 = some (.inl (cI, 75024, .inl (fun _ => 0))) := by rw [← ef_138]; exact (g_u_n (Ne.symm n_121)).trans h_135
  have fr_147 : ∀ q x, f q = some x → q ≠ b → f_138 q = some x := fun q x h1 h2 => by rw [← ef_138]; exact (g_u_n h2).trans (fr_137 q x h1 h2)
  refine g_aload_n X d_MO_init_60 0 rfl ?_
  refine g_bipush (v := 24) X d_MO_init_61 (by decide) ?_
  refine g_newi (t0 := 0) (N := 24) X q_77 rfl (by decide) (by decide) (by decide) (Nat.le_of_ble_eq_true rfl) (Nat.le_of_ble_eq_true rfl) d_MO_init_63 (fun q148 hq148 => ?_)
  have nn_149 : f q148 = none := g_none fr_147 hq148 (Ne.symm (g_nf h_139 hq148))
  generalize ef_150 : g_u f_138 q148 (.inl (cI, 24, .inl (fun _ => 0))) = f_150
  have n_151 : b ≠ q148 := g_nf h_139 hq148
  have h_152 : f_150 b = some (.inr (5, [.int 0, .int 0, .int 0, .ref q1, .ref q13, .int 0, .ref q28, .ref q46, .ref q67, .ref q91, .ref q118, .null, .null, .null, .null, .int 0, .int 0, .null, .null, .null])) := by rw [← ef_150]; exact (g_u_n n_151).trans h_139
  have n_153 : q1 ≠ q148 := g_nf h_140 hq148
  have h_154 : f_150 q1 = some (.inl (cI, 24, .inl (fun _ => 0))) := by rw [← ef_150]; exact (g_u_n n_153).trans h_140
  have n_155 : q13 ≠ q148 := g_nf h_141 hq148
  have h_156 : f_150 q13 = some (.inl (cI, 24, .inl (fun _ => 0))) := by rw [← ef_150]; exact (g_u_n n_155).trans h_141
  have n_157 : q28 ≠ q148 := g_nf h_142 hq148
  have h_158 : f_150 q28 = some (.inl (cI, 8, .inl (fun _ => 0))) := by rw [← ef_150]; exact (g_u_n n_157).trans h_142
  have n_159 : q46 ≠ q148 := g_nf h_143 hq148
  have h_160 : f_150 q46 = some (.inl (cI, 8, .inl (fun _ => 0))) := by rw [← ef_150]; exact (g_u_n n_159).trans h_143
  have n_161 : q67 ≠ q148 := g_nf h_144 hq148
  have h_162 : f_150 q67 = some (.inl (cI, 8, .inl (fun _ => 0))) := by rw [← ef_150]; exact (g_u_n n_161).trans h_144
  have n_163 : q91 ≠ q148 := g_nf h_145 hq148
  have h_164 : f_150 q91 = some (.inl (cI, 100, .inl (fun _ => 0))) := by rw [← ef_150]; exact (g_u_n n_163).trans h_145
  have n_165 : q118 ≠ q148 := g_nf h_146 hq148
  have h_166 : f_150 q118 = some (.inl (cI, 75024, .inl (fun _ => 0))) := by rw [← ef_150]; exact (g_u_n n_165).trans h_146
  have h_167 : f_150 q148 = some (.inl (cI, 24, .inl (fun _ => 0))) := by rw [← ef_150]; exact g_u_s
  have nf_168 : ∀ q x, f q = some x → q ≠ b → q ≠ q148 := fun q x h1 h2 => g_nf (fr_147 q x h1 h2) hq148
  have fr_169 : ∀ q x, f q = some x → q ≠ b → f_150 q = some x := fun q x h1 h2 => by rw [← ef_150]; exact (g_u_n (nf_168 q x h1 h2)).trans (fr_147 q x h1 h2)
  refine g_putF (ci := 5) (C := R_MO) (T := F_MO) (N := 20) (ty := .array .int) (fs2 := [.int 0, .int 0, .int 0, .ref q1, .ref q13, .int 0, .ref q28, .ref q46, .ref q67, .ref q91, .ref q118, .ref q148, .null, .null, .null, .int 0, .int 0, .null, .null, .null]) X i_MO t_MO t_MO_ok n_MO rfl h_152 11 (by decide) q_608 (fun _ h9 => h9) rfl hin rfl (by decide +kernel) rfl rfl (Nat.le_of_ble_eq_true rfl) rfl d_MO_init_65 ?_
  generalize ef_170 : g_u f_150 b (.inr (5, [.int 0, .int 0, .int 0, .ref q1, .ref q13, .int 0, .ref q28, .ref q46, .ref q67, .ref q91, .ref q118, .ref q148, .null, .null, .null, .int 0, .int 0, .null, .null, .null])) = f_170
  have h_171 : f_170 b = some (.inr (5, [.int 0, .int 0, .int 0, .ref q1, .ref q13, .int 0, .ref q28, .ref q46, .ref q67, .ref q91, .ref q118, .ref q148, .null, .null, .null, .int 0, .int 0, .null, .null, .null])) := by rw [← ef_170]; exact g_u_s
  have h_172 : f_170 q1 = some (.inl (cI, 24, .inl (fun _ => 0))) := by rw [← ef_170]; exact (g_u_n (Ne.symm n_4)).trans h_154
  have h_173 : f_170 q13 = some (.inl (cI, 24, .inl (fun _ => 0))) := by rw [← ef_170]; exact (g_u_n (Ne.symm n_16)).trans h_156
  have h_174 : f_170 q28 = some (.inl (cI, 8, .inl (fun _ => 0))) := by rw [← ef_170]; exact (g_u_n (Ne.symm n_31)).trans h_158
  have h_175 : f_170 q46 = some (.inl (cI, 8, .inl (fun _ => 0))) := by rw [← ef_170]; exact (g_u_n (Ne.symm n_49)).trans h_160
  have h_176 : f_170 q67 = some (.inl (cI, 8, .inl (fun _ => 0))) := by rw [← ef_170]; exact (g_u_n (Ne.symm n_70)).trans h_162
  have h_177 : f_170 q91 = some (.inl (cI, 100, .inl (fun _ => 0))) := by rw [← ef_170]; exact (g_u_n (Ne.symm n_94)).trans h_164
  have h_178 : f_170 q118 = some (.inl (cI, 75024, .inl (fun _ => 0))) := by rw [← ef_170]; exact (g_u_n (Ne.symm n_121)).trans h_166
  have h_179 : f_170 q148 = some (.inl (cI, 24, .inl (fun _ => 0))) := by rw [← ef_170]; exact (g_u_n (Ne.symm n_151)).trans h_167
  have fr_180 : ∀ q x, f q = some x → q ≠ b → f_170 q = some x := fun q x h1 h2 => by rw [← ef_170]; exact (g_u_n h2).trans (fr_169 q x h1 h2)
  refine g_aload_n X d_MO_init_68 0 rfl ?_
  refine g_sipush (v := 768) X d_MO_init_69 (by decide) ?_
  refine g_newi (t0 := 0) (N := 768) X q_77 rfl (by decide) (by decide) (by decide) (Nat.le_of_ble_eq_true rfl) (Nat.le_of_ble_eq_true rfl) d_MO_init_72 (fun q181 hq181 => ?_)
  have nn_182 : f q181 = none := g_none fr_180 hq181 (Ne.symm (g_nf h_171 hq181))
  generalize ef_183 : g_u f_170 q181 (.inl (cI, 768, .inl (fun _ => 0))) = f_183
  have n_184 : b ≠ q181 := g_nf h_171 hq181
  have h_185 : f_183 b = some (.inr (5, [.int 0, .int 0, .int 0, .ref q1, .ref q13, .int 0, .ref q28, .ref q46, .ref q67, .ref q91, .ref q118, .ref q148, .null, .null, .null, .int 0, .int 0, .null, .null, .null])) := by rw [← ef_183]; exact (g_u_n n_184).trans h_171
  have n_186 : q1 ≠ q181 := g_nf h_172 hq181
  have h_187 : f_183 q1 = some (.inl (cI, 24, .inl (fun _ => 0))) := by rw [← ef_183]; exact (g_u_n n_186).trans h_172
  have n_188 : q13 ≠ q181 := g_nf h_173 hq181
  have h_189 : f_183 q13 = some (.inl (cI, 24, .inl (fun _ => 0))) := by rw [← ef_183]; exact (g_u_n n_188).trans h_173
  have n_190 : q28 ≠ q181 := g_nf h_174 hq181
  have h_191 : f_183 q28 = some (.inl (cI, 8, .inl (fun _ => 0))) := by rw [← ef_183]; exact (g_u_n n_190).trans h_174
  have n_192 : q46 ≠ q181 := g_nf h_175 hq181
  have h_193 : f_183 q46 = some (.inl (cI, 8, .inl (fun _ => 0))) := by rw [← ef_183]; exact (g_u_n n_192).trans h_175
  have n_194 : q67 ≠ q181 := g_nf h_176 hq181
  have h_195 : f_183 q67 = some (.inl (cI, 8, .inl (fun _ => 0))) := by rw [← ef_183]; exact (g_u_n n_194).trans h_176
  have n_196 : q91 ≠ q181 := g_nf h_177 hq181
  have h_197 : f_183 q91 = some (.inl (cI, 100, .inl (fun _ => 0))) := by rw [← ef_183]; exact (g_u_n n_196).trans h_177
  have n_198 : q118 ≠ q181 := g_nf h_178 hq181
  have h_199 : f_183 q118 = some (.inl (cI, 75024, .inl (fun _ => 0))) := by rw [← ef_183]; exact (g_u_n n_198).trans h_178
  have n_200 : q148 ≠ q181 := g_nf h_179 hq181
  have h_201 : f_183 q148 = some (.inl (cI, 24, .inl (fun _ => 0))) := by rw [← ef_183]; exact (g_u_n n_200).trans h_179
  have h_202 : f_183 q181 = some (.inl (cI, 768, .inl (fun _ => 0))) := by rw [← ef_183]; exact g_u_s
  have nf_203 : ∀ q x, f q = some x → q ≠ b → q ≠ q181 := fun q x h1 h2 => g_nf (fr_180 q x h1 h2) hq181
  have fr_204 : ∀ q x, f q = some x → q ≠ b → f_183 q = some x := fun q x h1 h2 => by rw [← ef_183]; exact (g_u_n (nf_203 q x h1 h2)).trans (fr_180 q x h1 h2)
  refine g_putF (ci := 5) (C := R_MO) (T := F_MO) (N := 20) (ty := .array .int) (fs2 := [.int 0, .int 0, .int 0, .ref q1, .ref q13, .int 0, .ref q28, .ref q46, .ref q67, .ref q91, .ref q118, .ref q148, .ref q181, .null, .null, .int 0, .int 0, .null, .null, .null]) X i_MO t_MO t_MO_ok n_MO rfl h_185 12 (by decide) q_609 (fun _ h9 => h9) rfl hin rfl (by decide +kernel) rfl rfl (Nat.le_of_ble_eq_true rfl) rfl d_MO_init_74 ?_
  generalize ef_205 : g_u f_183 b (.inr (5, [.int 0, .int 0, .int 0, .ref q1, .ref q13, .int 0, .ref q28, .ref q46, .ref q67, .ref q91, .ref q118, .ref q148, .ref q181, .null, .null, .int 0, .int 0, .null, .null, .null])) = f_205
  have h_206 : f_205 b = some (.inr (5, [.int 0, .int 0, .int 0, .ref q1, .ref q13, .int 0, .ref q28, .ref q46, .ref q67, .ref q91, .ref q118, .ref q148, .ref q181, .null, .null, .int 0, .int 0, .null, .null, .null])) := by rw [← ef_205]; exact g_u_s
  have h_207 : f_205 q1 = some (.inl (cI, 24, .inl (fun _ => 0))) := by rw [← ef_205]; exact (g_u_n (Ne.symm n_4)).trans h_187
  have h_208 : f_205 q13 = some (.inl (cI, 24, .inl (fun _ => 0))) := by rw [← ef_205]; exact (g_u_n (Ne.symm n_16)).trans h_189
  have h_209 : f_205 q28 = some (.inl (cI, 8, .inl (fun _ => 0))) := by rw [← ef_205]; exact (g_u_n (Ne.symm n_31)).trans h_191
  have h_210 : f_205 q46 = some (.inl (cI, 8, .inl (fun _ => 0))) := by rw [← ef_205]; exact (g_u_n (Ne.symm n_49)).trans h_193
  have h_211 : f_205 q67 = some (.inl (cI, 8, .inl (fun _ => 0))) := by rw [← ef_205]; exact (g_u_n (Ne.symm n_70)).trans h_195
  have h_212 : f_205 q91 = some (.inl (cI, 100, .inl (fun _ => 0))) := by rw [← ef_205]; exact (g_u_n (Ne.symm n_94)).trans h_197
  have h_213 : f_205 q118 = some (.inl (cI, 75024, .inl (fun _ => 0))) := by rw [← ef_205]; exact (g_u_n (Ne.symm n_121)).trans h_199
  have h_214 : f_205 q148 = some (.inl (cI, 24, .inl (fun _ => 0))) := by rw [← ef_205]; exact (g_u_n (Ne.symm n_151)).trans h_201
  have h_215 : f_205 q181 = some (.inl (cI, 768, .inl (fun _ => 0))) := by rw [← ef_205]; exact (g_u_n (Ne.symm n_184)).trans h_202
  have fr_216 : ∀ q x, f q = some x → q ≠ b → f_205 q = some x := fun q x h1 h2 => by rw [← ef_205]; exact (g_u_n h2).trans (fr_204 q x h1 h2)
  refine g_aload_n X d_MO_init_77 0 rfl ?_
  refine g_sipush (v := 768) X d_MO_init_78 (by decide) ?_
  refine g_newi (t0 := 0) (N := 768) X q_77 rfl (by decide) (by decide) (by decide) (Nat.le_of_ble_eq_true rfl) (Nat.le_of_ble_eq_true rfl) d_MO_init_81 (fun q217 hq217 => ?_)
  have nn_218 : f q217 = none := g_none fr_216 hq217 (Ne.symm (g_nf h_206 hq217))
  generalize ef_219 : g_u f_205 q217 (.inl (cI, 768, .inl (fun _ => 0))) = f_219
  have n_220 : b ≠ q217 := g_nf h_206 hq217
  have h_221 : f_219 b = some (.inr (5, [.int 0, .int 0, .int 0, .ref q1, .ref q13, .int 0, .ref q28, .ref q46, .ref q67, .ref q91, .ref q118, .ref q148, .ref q181, .null, .null, .int 0, .int 0, .null, .null, .null])) := by rw [← ef_219]; exact (g_u_n n_220).trans h_206
  have n_222 : q1 ≠ q217 := g_nf h_207 hq217
  have h_223 : f_219 q1 = some (.inl (cI, 24, .inl (fun _ => 0))) := by rw [← ef_219]; exact (g_u_n n_222).trans h_207
  have n_224 : q13 ≠ q217 := g_nf h_208 hq217
  have h_225 : f_219 q13 = some (.inl (cI, 24, .inl (fun _ => 0))) := by rw [← ef_219]; exact (g_u_n n_224).trans h_208
  have n_226 : q28 ≠ q217 := g_nf h_209 hq217
  have h_227 : f_219 q28 = some (.inl (cI, 8, .inl (fun _ => 0))) := by rw [← ef_219]; exact (g_u_n n_226).trans h_209
  have n_228 : q46 ≠ q217 := g_nf h_210 hq217
  have h_229 : f_219 q46 = some (.inl (cI, 8, .inl (fun _ => 0))) := by rw [← ef_219]; exact (g_u_n n_228).trans h_210
  have n_230 : q67 ≠ q217 := g_nf h_211 hq217
  have h_231 : f_219 q67 = some (.inl (cI, 8, .inl (fun _ => 0))) := by rw [← ef_219]; exact (g_u_n n_230).trans h_211
  have n_232 : q91 ≠ q217 := g_nf h_212 hq217
  have h_233 : f_219 q91 = some (.inl (cI, 100, .inl (fun _ => 0))) := by rw [← ef_219]; exact (g_u_n n_232).trans h_212
  have n_234 : q118 ≠ q217 := g_nf h_213 hq217
  have h_235 : f_219 q118 = some (.inl (cI, 75024, .inl (fun _ => 0))) := by rw [← ef_219]; exact (g_u_n n_234).trans h_213
  have n_236 : q148 ≠ q217 := g_nf h_214 hq217
  have h_237 : f_219 q148 = some (.inl (cI, 24, .inl (fun _ => 0))) := by rw [← ef_219]; exact (g_u_n n_236).trans h_214
  have n_238 : q181 ≠ q217 := g_nf h_215 hq217
  have h_239 : f_219 q181 = some (.inl (cI, 768, .inl (fun _ => 0))) := by rw [← ef_219]; exact (g_u_n n_238).trans h_215
  have h_240 : f_219 q217 = some (.inl (cI, 768, .inl (fun _ => 0))) := by rw [← ef_219]; exact g_u_s
  have nf_241 : ∀ q x, f q = some x → q ≠ b → q ≠ q217 := fun q x h1 h2 => g_nf (fr_216 q x h1 h2) hq217
  have fr_242 : ∀ q x, f q = some x → q ≠ b → f_219 q = some x := fun q x h1 h2 => by rw [← ef_219]; exact (g_u_n (nf_241 q x h1 h2)).trans (fr_216 q x h1 h2)
  refine g_putF (ci := 5) (C := R_MO) (T := F_MO) (N := 20) (ty := .array .int) (fs2 := [.int 0, .int 0, .int 0, .ref q1, .ref q13, .int 0, .ref q28, .ref q46, .ref q67, .ref q91, .ref q118, .ref q148, .ref q181, .ref q217, .null, .int 0, .int 0, .null, .null, .null]) X i_MO t_MO t_MO_ok n_MO rfl h_221 13 (by decide) q_610 (fun _ h9 => h9) rfl hin rfl (by decide +kernel) rfl rfl (Nat.le_of_ble_eq_true rfl) rfl d_MO_init_83 ?_
  generalize ef_243 : g_u f_219 b (.inr (5, [.int 0, .int 0, .int 0, .ref q1, .ref q13, .int 0, .ref q28, .ref q46, .ref q67, .ref q91, .ref q118, .ref q148, .ref q181, .ref q217, .null, .int 0, .int 0, .null, .null, .null])) = f_243
  have h_244 : f_243 b = some (.inr (5, [.int 0, .int 0, .int 0, .ref q1, .ref q13, .int 0, .ref q28, .ref q46, .ref q67, .ref q91, .ref q118, .ref q148, .ref q181, .ref q217, .null, .int 0, .int 0, .null, .null, .null])) := by rw [← ef_243]; exact g_u_s
  have h_245 : f_243 q1 = some (.inl (cI, 24, .inl (fun _ => 0))) := by rw [← ef_243]; exact (g_u_n (Ne.symm n_4)).trans h_223
  have h_246 : f_243 q13 = some (.inl (cI, 24, .inl (fun _ => 0))) := by rw [← ef_243]; exact (g_u_n (Ne.symm n_16)).trans h_225
  have h_247 : f_243 q28 = some (.inl (cI, 8, .inl (fun _ => 0))) := by rw [← ef_243]; exact (g_u_n (Ne.symm n_31)).trans h_227
  have h_248 : f_243 q46 = some (.inl (cI, 8, .inl (fun _ => 0))) := by rw [← ef_243]; exact (g_u_n (Ne.symm n_49)).trans h_229
  have h_249 : f_243 q67 = some (.inl (cI, 8, .inl (fun _ => 0))) := by rw [← ef_243]; exact (g_u_n (Ne.symm n_70)).trans h_231
  have h_250 : f_243 q91 = some (.inl (cI, 100, .inl (fun _ => 0))) := by rw [← ef_243]; exact (g_u_n (Ne.symm n_94)).trans h_233
  have h_251 : f_243 q118 = some (.inl (cI, 75024, .inl (fun _ => 0))) := by rw [← ef_243]; exact (g_u_n (Ne.symm n_121)).trans h_235
  have h_252 : f_243 q148 = some (.inl (cI, 24, .inl (fun _ => 0))) := by rw [← ef_243]; exact (g_u_n (Ne.symm n_151)).trans h_237
  have h_253 : f_243 q181 = some (.inl (cI, 768, .inl (fun _ => 0))) := by rw [← ef_243]; exact (g_u_n (Ne.symm n_184)).trans h_239
  have h_254 : f_243 q217 = some (.inl (cI, 768, .inl (fun _ => 0))) := by rw [← ef_243]; exact (g_u_n (Ne.symm n_220)).trans h_240
  have fr_255 : ∀ q x, f q = some x → q ≠ b → f_243 q = some x := fun q x h1 h2 => by rw [← ef_243]; exact (g_u_n h2).trans (fr_242 q x h1 h2)
  refine g_aload_n X d_MO_init_86 0 rfl ?_
  refine g_sipush (v := 768) X d_MO_init_87 (by decide) ?_
  refine g_newz (t0 := 1) (N := 768) X q_288 rfl (by decide) (by decide) (by decide) (Nat.le_of_ble_eq_true rfl) (Nat.le_of_ble_eq_true rfl) d_MO_init_90 (fun q256 hq256 => ?_)
  have nn_257 : f q256 = none := g_none fr_255 hq256 (Ne.symm (g_nf h_244 hq256))
  generalize ef_258 : g_u f_243 q256 (.inl (cZ, 768, .inl (fun _ => 0))) = f_258
  have n_259 : b ≠ q256 := g_nf h_244 hq256
  have h_260 : f_258 b = some (.inr (5, [.int 0, .int 0, .int 0, .ref q1, .ref q13, .int 0, .ref q28, .ref q46, .ref q67, .ref q91, .ref q118, .ref q148, .ref q181, .ref q217, .null, .int 0, .int 0, .null, .null, .null])) := by rw [← ef_258]; exact (g_u_n n_259).trans h_244
  have n_261 : q1 ≠ q256 := g_nf h_245 hq256
  have h_262 : f_258 q1 = some (.inl (cI, 24, .inl (fun _ => 0))) := by rw [← ef_258]; exact (g_u_n n_261).trans h_245
  have n_263 : q13 ≠ q256 := g_nf h_246 hq256
  have h_264 : f_258 q13 = some (.inl (cI, 24, .inl (fun _ => 0))) := by rw [← ef_258]; exact (g_u_n n_263).trans h_246
  have n_265 : q28 ≠ q256 := g_nf h_247 hq256
  have h_266 : f_258 q28 = some (.inl (cI, 8, .inl (fun _ => 0))) := by rw [← ef_258]; exact (g_u_n n_265).trans h_247
  have n_267 : q46 ≠ q256 := g_nf h_248 hq256
  have h_268 : f_258 q46 = some (.inl (cI, 8, .inl (fun _ => 0))) := by rw [← ef_258]; exact (g_u_n n_267).trans h_248
  have n_269 : q67 ≠ q256 := g_nf h_249 hq256
  have h_270 : f_258 q67 = some (.inl (cI, 8, .inl (fun _ => 0))) := by rw [← ef_258]; exact (g_u_n n_269).trans h_249
  have n_271 : q91 ≠ q256 := g_nf h_250 hq256
  have h_272 : f_258 q91 = some (.inl (cI, 100, .inl (fun _ => 0))) := by rw [← ef_258]; exact (g_u_n n_271).trans h_250
  have n_273 : q118 ≠ q256 := g_nf h_251 hq256
  have h_274 : f_258 q118 = some (.inl (cI, 75024, .inl (fun _ => 0))) := by rw [← ef_258]; exact (g_u_n n_273).trans h_251
  have n_275 : q148 ≠ q256 := g_nf h_252 hq256
  have h_276 : f_258 q148 = some (.inl (cI, 24, .inl (fun _ => 0))) := by rw [← ef_258]; exact (g_u_n n_275).trans h_252
  have n_277 : q181 ≠ q256 := g_nf h_253 hq256
  have h_278 : f_258 q181 = some (.inl (cI, 768, .inl (fun _ => 0))) := by rw [← ef_258]; exact (g_u_n n_277).trans h_253
  have n_279 : q217 ≠ q256 := g_nf h_254 hq256
  have h_280 : f_258 q217 = some (.inl (cI, 768, .inl (fun _ => 0))) := by rw [← ef_258]; exact (g_u_n n_279).trans h_254
  have h_281 : f_258 q256 = some (.inl (cZ, 768, .inl (fun _ => 0))) := by rw [← ef_258]; exact g_u_s
  have nf_282 : ∀ q x, f q = some x → q ≠ b → q ≠ q256 := fun q x h1 h2 => g_nf (fr_255 q x h1 h2) hq256
  have fr_283 : ∀ q x, f q = some x → q ≠ b → f_258 q = some x := fun q x h1 h2 => by rw [← ef_258]; exact (g_u_n (nf_282 q x h1 h2)).trans (fr_255 q x h1 h2)
  refine g_putF (ci := 5) (C := R_MO) (T := F_MO) (N := 20) (ty := .array .boolean) (fs2 := [.int 0, .int 0, .int 0, .ref q1, .ref q13, .int 0, .ref q28, .ref q46, .ref q67, .ref q91, .ref q118, .ref q148, .ref q181, .ref q217, .ref q256, .int 0, .int 0, .null, .null, .null]) X i_MO t_MO t_MO_ok n_MO rfl h_260 14 (by decide) q_611 (fun _ h9 => h9) rfl hin rfl (by decide +kernel) rfl rfl (Nat.le_of_ble_eq_true rfl) rfl d_MO_init_92 ?_
  generalize ef_284 : g_u f_258 b (.inr (5, [.int 0, .int 0, .int 0, .ref q1, .ref q13, .int 0, .ref q28, .ref q46, .ref q67, .ref q91, .ref q118, .ref q148, .ref q181, .ref q217, .ref q256, .int 0, .int 0, .null, .null, .null])) = f_284
  have h_285 : f_284 b = some (.inr (5, [.int 0, .int 0, .int 0, .ref q1, .ref q13, .int 0, .ref q28, .ref q46, .ref q67, .ref q91, .ref q118, .ref q148, .ref q181, .ref q217, .ref q256, .int 0, .int 0, .null, .null, .null])) := by rw [← ef_284]; exact g_u_s
  have h_286 : f_284 q1 = some (.inl (cI, 24, .inl (fun _ => 0))) := by rw [← ef_284]; exact (g_u_n (Ne.symm n_4)).trans h_262
  have h_287 : f_284 q13 = some (.inl (cI, 24, .inl (fun _ => 0))) := by rw [← ef_284]; exact (g_u_n (Ne.symm n_16)).trans h_264
  have h_288 : f_284 q28 = some (.inl (cI, 8, .inl (fun _ => 0))) := by rw [← ef_284]; exact (g_u_n (Ne.symm n_31)).trans h_266
  have h_289 : f_284 q46 = some (.inl (cI, 8, .inl (fun _ => 0))) := by rw [← ef_284]; exact (g_u_n (Ne.symm n_49)).trans h_268
  have h_290 : f_284 q67 = some (.inl (cI, 8, .inl (fun _ => 0))) := by rw [← ef_284]; exact (g_u_n (Ne.symm n_70)).trans h_270
  have h_291 : f_284 q91 = some (.inl (cI, 100, .inl (fun _ => 0))) := by rw [← ef_284]; exact (g_u_n (Ne.symm n_94)).trans h_272
  have h_292 : f_284 q118 = some (.inl (cI, 75024, .inl (fun _ => 0))) := by rw [← ef_284]; exact (g_u_n (Ne.symm n_121)).trans h_274
  have h_293 : f_284 q148 = some (.inl (cI, 24, .inl (fun _ => 0))) := by rw [← ef_284]; exact (g_u_n (Ne.symm n_151)).trans h_276
  have h_294 : f_284 q181 = some (.inl (cI, 768, .inl (fun _ => 0))) := by rw [← ef_284]; exact (g_u_n (Ne.symm n_184)).trans h_278
  have h_295 : f_284 q217 = some (.inl (cI, 768, .inl (fun _ => 0))) := by rw [← ef_284]; exact (g_u_n (Ne.symm n_220)).trans h_280
  have h_296 : f_284 q256 = some (.inl (cZ, 768, .inl (fun _ => 0))) := by rw [← ef_284]; exact (g_u_n (Ne.symm n_259)).trans h_281
  have fr_297 : ∀ q x, f q = some x → q ≠ b → f_284 q = some x := fun q x h1 h2 => by rw [← ef_284]; exact (g_u_n h2).trans (fr_283 q x h1 h2)
  refine g_aload_n X d_MO_init_95 0 rfl ?_
  refine g_bipush (v := 8) X d_MO_init_96 (by decide) ?_
  refine g_newi (t0 := 0) (N := 8) X q_77 rfl (by decide) (by decide) (by decide) (Nat.le_of_ble_eq_true rfl) (Nat.le_of_ble_eq_true rfl) d_MO_init_98 (fun q298 hq298 => ?_)
  have nn_299 : f q298 = none := g_none fr_297 hq298 (Ne.symm (g_nf h_285 hq298))
  generalize ef_300 : g_u f_284 q298 (.inl (cI, 8, .inl (fun _ => 0))) = f_300
  have n_301 : b ≠ q298 := g_nf h_285 hq298
  have h_302 : f_300 b = some (.inr (5, [.int 0, .int 0, .int 0, .ref q1, .ref q13, .int 0, .ref q28, .ref q46, .ref q67, .ref q91, .ref q118, .ref q148, .ref q181, .ref q217, .ref q256, .int 0, .int 0, .null, .null, .null])) := by rw [← ef_300]; exact (g_u_n n_301).trans h_285
  have n_303 : q1 ≠ q298 := g_nf h_286 hq298
  have h_304 : f_300 q1 = some (.inl (cI, 24, .inl (fun _ => 0))) := by rw [← ef_300]; exact (g_u_n n_303).trans h_286
  have n_305 : q13 ≠ q298 := g_nf h_287 hq298
  have h_306 : f_300 q13 = some (.inl (cI, 24, .inl (fun _ => 0))) := by rw [← ef_300]; exact (g_u_n n_305).trans h_287
  have n_307 : q28 ≠ q298 := g_nf h_288 hq298
  have h_308 : f_300 q28 = some (.inl (cI, 8, .inl (fun _ => 0))) := by rw [← ef_300]; exact (g_u_n n_307).trans h_288
  have n_309 : q46 ≠ q298 := g_nf h_289 hq298
  have h_310 : f_300 q46 = some (.inl (cI, 8, .inl (fun _ => 0))) := by rw [← ef_300]; exact (g_u_n n_309).trans h_289
  have n_311 : q67 ≠ q298 := g_nf h_290 hq298
  have h_312 : f_300 q67 = some (.inl (cI, 8, .inl (fun _ => 0))) := by rw [← ef_300]; exact (g_u_n n_311).trans h_290
  have n_313 : q91 ≠ q298 := g_nf h_291 hq298
  have h_314 : f_300 q91 = some (.inl (cI, 100, .inl (fun _ => 0))) := by rw [← ef_300]; exact (g_u_n n_313).trans h_291
  have n_315 : q118 ≠ q298 := g_nf h_292 hq298
  have h_316 : f_300 q118 = some (.inl (cI, 75024, .inl (fun _ => 0))) := by rw [← ef_300]; exact (g_u_n n_315).trans h_292
  have n_317 : q148 ≠ q298 := g_nf h_293 hq298
  have h_318 : f_300 q148 = some (.inl (cI, 24, .inl (fun _ => 0))) := by rw [← ef_300]; exact (g_u_n n_317).trans h_293
  have n_319 : q181 ≠ q298 := g_nf h_294 hq298
  have h_320 : f_300 q181 = some (.inl (cI, 768, .inl (fun _ => 0))) := by rw [← ef_300]; exact (g_u_n n_319).trans h_294
  have n_321 : q217 ≠ q298 := g_nf h_295 hq298
  have h_322 : f_300 q217 = some (.inl (cI, 768, .inl (fun _ => 0))) := by rw [← ef_300]; exact (g_u_n n_321).trans h_295
  have n_323 : q256 ≠ q298 := g_nf h_296 hq298
  have h_324 : f_300 q256 = some (.inl (cZ, 768, .inl (fun _ => 0))) := by rw [← ef_300]; exact (g_u_n n_323).trans h_296
  have h_325 : f_300 q298 = some (.inl (cI, 8, .inl (fun _ => 0))) := by rw [← ef_300]; exact g_u_s
  have nf_326 : ∀ q x, f q = some x → q ≠ b → q ≠ q298 := fun q x h1 h2 => g_nf (fr_297 q x h1 h2) hq298
  have fr_327 : ∀ q x, f q = some x → q ≠ b → f_300 q = some x := fun q x h1 h2 => by rw [← ef_300]; exact (g_u_n (nf_326 q x h1 h2)).trans (fr_297 q x h1 h2)
  refine g_putF (ci := 5) (C := R_MO) (T := F_MO) (N := 20) (ty := .array .int) (fs2 := [.int 0, .int 0, .int 0, .ref q1, .ref q13, .int 0, .ref q28, .ref q46, .ref q67, .ref q91, .ref q118, .ref q148, .ref q181, .ref q217, .ref q256, .int 0, .int 0, .ref q298, .null, .null]) X i_MO t_MO t_MO_ok n_MO rfl h_302 17 (by decide) q_614 (fun _ h9 => h9) rfl hin rfl (by decide +kernel) rfl rfl (Nat.le_of_ble_eq_true rfl) rfl d_MO_init_100 ?_
  generalize ef_328 : g_u f_300 b (.inr (5, [.int 0, .int 0, .int 0, .ref q1, .ref q13, .int 0, .ref q28, .ref q46, .ref q67, .ref q91, .ref q118, .ref q148, .ref q181, .ref q217, .ref q256, .int 0, .int 0, .ref q298, .null, .null])) = f_328
  have h_329 : f_328 b = some (.inr (5, [.int 0, .int 0, .int 0, .ref q1, .ref q13, .int 0, .ref q28, .ref q46, .ref q67, .ref q91, .ref q118, .ref q148, .ref q181, .ref q217, .ref q256, .int 0, .int 0, .ref q298, .null, .null])) := by rw [← ef_328]; exact g_u_s
  have h_330 : f_328 q1 = some (.inl (cI, 24, .inl (fun _ => 0))) := by rw [← ef_328]; exact (g_u_n (Ne.symm n_4)).trans h_304
  have h_331 : f_328 q13 = some (.inl (cI, 24, .inl (fun _ => 0))) := by rw [← ef_328]; exact (g_u_n (Ne.symm n_16)).trans h_306
  have h_332 : f_328 q28 = some (.inl (cI, 8, .inl (fun _ => 0))) := by rw [← ef_328]; exact (g_u_n (Ne.symm n_31)).trans h_308
  have h_333 : f_328 q46 = some (.inl (cI, 8, .inl (fun _ => 0))) := by rw [← ef_328]; exact (g_u_n (Ne.symm n_49)).trans h_310
  have h_334 : f_328 q67 = some (.inl (cI, 8, .inl (fun _ => 0))) := by rw [← ef_328]; exact (g_u_n (Ne.symm n_70)).trans h_312
  have h_335 : f_328 q91 = some (.inl (cI, 100, .inl (fun _ => 0))) := by rw [← ef_328]; exact (g_u_n (Ne.symm n_94)).trans h_314
  have h_336 : f_328 q118 = some (.inl (cI, 75024, .inl (fun _ => 0))) := by rw [← ef_328]; exact (g_u_n (Ne.symm n_121)).trans h_316
  have h_337 : f_328 q148 = some (.inl (cI, 24, .inl (fun _ => 0))) := by rw [← ef_328]; exact (g_u_n (Ne.symm n_151)).trans h_318
  have h_338 : f_328 q181 = some (.inl (cI, 768, .inl (fun _ => 0))) := by rw [← ef_328]; exact (g_u_n (Ne.symm n_184)).trans h_320
  have h_339 : f_328 q217 = some (.inl (cI, 768, .inl (fun _ => 0))) := by rw [← ef_328]; exact (g_u_n (Ne.symm n_220)).trans h_322
  have h_340 : f_328 q256 = some (.inl (cZ, 768, .inl (fun _ => 0))) := by rw [← ef_328]; exact (g_u_n (Ne.symm n_259)).trans h_324
  have h_341 : f_328 q298 = some (.inl (cI, 8, .inl (fun _ => 0))) := by rw [← ef_328]; exact (g_u_n (Ne.symm n_301)).trans h_325
  have fr_342 : ∀ q x, f q = some x → q ≠ b → f_328 q = some x := fun q x h1 h2 => by rw [← ef_328]; exact (g_u_n h2).trans (fr_327 q x h1 h2)
  refine g_aload_n X d_MO_init_103 0 rfl ?_
  refine g_sipush (v := 2048) X d_MO_init_104 (by decide) ?_
  refine g_newi (t0 := 0) (N := 2048) X q_77 rfl (by decide) (by decide) (by decide) (Nat.le_of_ble_eq_true rfl) (Nat.le_of_ble_eq_true rfl) d_MO_init_107 (fun q343 hq343 => ?_)
  have nn_344 : f q343 = none := g_none fr_342 hq343 (Ne.symm (g_nf h_329 hq343))
  generalize ef_345 : g_u f_328 q343 (.inl (cI, 2048, .inl (fun _ => 0))) = f_345
  have n_346 : b ≠ q343 := g_nf h_329 hq343
  have h_347 : f_345 b = some (.inr (5, [.int 0, .int 0, .int 0, .ref q1, .ref q13, .int 0, .ref q28, .ref q46, .ref q67, .ref q91, .ref q118, .ref q148, .ref q181, .ref q217, .ref q256, .int 0, .int 0, .ref q298, .null, .null])) := by rw [← ef_345]; exact (g_u_n n_346).trans h_329
  have n_348 : q1 ≠ q343 := g_nf h_330 hq343
  have h_349 : f_345 q1 = some (.inl (cI, 24, .inl (fun _ => 0))) := by rw [← ef_345]; exact (g_u_n n_348).trans h_330
  have n_350 : q13 ≠ q343 := g_nf h_331 hq343
  have h_351 : f_345 q13 = some (.inl (cI, 24, .inl (fun _ => 0))) := by rw [← ef_345]; exact (g_u_n n_350).trans h_331
  have n_352 : q28 ≠ q343 := g_nf h_332 hq343
  have h_353 : f_345 q28 = some (.inl (cI, 8, .inl (fun _ => 0))) := by rw [← ef_345]; exact (g_u_n n_352).trans h_332
  have n_354 : q46 ≠ q343 := g_nf h_333 hq343
  have h_355 : f_345 q46 = some (.inl (cI, 8, .inl (fun _ => 0))) := by rw [← ef_345]; exact (g_u_n n_354).trans h_333
  have n_356 : q67 ≠ q343 := g_nf h_334 hq343
  have h_357 : f_345 q67 = some (.inl (cI, 8, .inl (fun _ => 0))) := by rw [← ef_345]; exact (g_u_n n_356).trans h_334
  have n_358 : q91 ≠ q343 := g_nf h_335 hq343
  have h_359 : f_345 q91 = some (.inl (cI, 100, .inl (fun _ => 0))) := by rw [← ef_345]; exact (g_u_n n_358).trans h_335
  have n_360 : q118 ≠ q343 := g_nf h_336 hq343
  have h_361 : f_345 q118 = some (.inl (cI, 75024, .inl (fun _ => 0))) := by rw [← ef_345]; exact (g_u_n n_360).trans h_336
  have n_362 : q148 ≠ q343 := g_nf h_337 hq343
  have h_363 : f_345 q148 = some (.inl (cI, 24, .inl (fun _ => 0))) := by rw [← ef_345]; exact (g_u_n n_362).trans h_337
  have n_364 : q181 ≠ q343 := g_nf h_338 hq343
  have h_365 : f_345 q181 = some (.inl (cI, 768, .inl (fun _ => 0))) := by rw [← ef_345]; exact (g_u_n n_364).trans h_338
  have n_366 : q217 ≠ q343 := g_nf h_339 hq343
  have h_367 : f_345 q217 = some (.inl (cI, 768, .inl (fun _ => 0))) := by rw [← ef_345]; exact (g_u_n n_366).trans h_339
  have n_368 : q256 ≠ q343 := g_nf h_340 hq343
  have h_369 : f_345 q256 = some (.inl (cZ, 768, .inl (fun _ => 0))) := by rw [← ef_345]; exact (g_u_n n_368).trans h_340
  have n_370 : q298 ≠ q343 := g_nf h_341 hq343
  have h_371 : f_345 q298 = some (.inl (cI, 8, .inl (fun _ => 0))) := by rw [← ef_345]; exact (g_u_n n_370).trans h_341
  have h_372 : f_345 q343 = some (.inl (cI, 2048, .inl (fun _ => 0))) := by rw [← ef_345]; exact g_u_s
  have nf_373 : ∀ q x, f q = some x → q ≠ b → q ≠ q343 := fun q x h1 h2 => g_nf (fr_342 q x h1 h2) hq343
  have fr_374 : ∀ q x, f q = some x → q ≠ b → f_345 q = some x := fun q x h1 h2 => by rw [← ef_345]; exact (g_u_n (nf_373 q x h1 h2)).trans (fr_342 q x h1 h2)
  refine g_putF (ci := 5) (C := R_MO) (T := F_MO) (N := 20) (ty := .array .int) (fs2 := [.int 0, .int 0, .int 0, .ref q1, .ref q13, .int 0, .ref q28, .ref q46, .ref q67, .ref q91, .ref q118, .ref q148, .ref q181, .ref q217, .ref q256, .int 0, .int 0, .ref q298, .ref q343, .null]) X i_MO t_MO t_MO_ok n_MO rfl h_347 18 (by decide) q_615 (fun _ h9 => h9) rfl hin rfl (by decide +kernel) rfl rfl (Nat.le_of_ble_eq_true rfl) rfl d_MO_init_109 ?_
  generalize ef_375 : g_u f_345 b (.inr (5, [.int 0, .int 0, .int 0, .ref q1, .ref q13, .int 0, .ref q28, .ref q46, .ref q67, .ref q91, .ref q118, .ref q148, .ref q181, .ref q217, .ref q256, .int 0, .int 0, .ref q298, .ref q343, .null])) = f_375
  have h_376 : f_375 b = some (.inr (5, [.int 0, .int 0, .int 0, .ref q1, .ref q13, .int 0, .ref q28, .ref q46, .ref q67, .ref q91, .ref q118, .ref q148, .ref q181, .ref q217, .ref q256, .int 0, .int 0, .ref q298, .ref q343, .null])) := by rw [← ef_375]; exact g_u_s
  have h_377 : f_375 q1 = some (.inl (cI, 24, .inl (fun _ => 0))) := by rw [← ef_375]; exact (g_u_n (Ne.symm n_4)).trans h_349
  have h_378 : f_375 q13 = some (.inl (cI, 24, .inl (fun _ => 0))) := by rw [← ef_375]; exact (g_u_n (Ne.symm n_16)).trans h_351
  have h_379 : f_375 q28 = some (.inl (cI, 8, .inl (fun _ => 0))) := by rw [← ef_375]; exact (g_u_n (Ne.symm n_31)).trans h_353
  have h_380 : f_375 q46 = some (.inl (cI, 8, .inl (fun _ => 0))) := by rw [← ef_375]; exact (g_u_n (Ne.symm n_49)).trans h_355
  have h_381 : f_375 q67 = some (.inl (cI, 8, .inl (fun _ => 0))) := by rw [← ef_375]; exact (g_u_n (Ne.symm n_70)).trans h_357
  have h_382 : f_375 q91 = some (.inl (cI, 100, .inl (fun _ => 0))) := by rw [← ef_375]; exact (g_u_n (Ne.symm n_94)).trans h_359
  have h_383 : f_375 q118 = some (.inl (cI, 75024, .inl (fun _ => 0))) := by rw [← ef_375]; exact (g_u_n (Ne.symm n_121)).trans h_361
  have h_384 : f_375 q148 = some (.inl (cI, 24, .inl (fun _ => 0))) := by rw [← ef_375]; exact (g_u_n (Ne.symm n_151)).trans h_363
  have h_385 : f_375 q181 = some (.inl (cI, 768, .inl (fun _ => 0))) := by rw [← ef_375]; exact (g_u_n (Ne.symm n_184)).trans h_365
  have h_386 : f_375 q217 = some (.inl (cI, 768, .inl (fun _ => 0))) := by rw [← ef_375]; exact (g_u_n (Ne.symm n_220)).trans h_367
  have h_387 : f_375 q256 = some (.inl (cZ, 768, .inl (fun _ => 0))) := by rw [← ef_375]; exact (g_u_n (Ne.symm n_259)).trans h_369
  have h_388 : f_375 q298 = some (.inl (cI, 8, .inl (fun _ => 0))) := by rw [← ef_375]; exact (g_u_n (Ne.symm n_301)).trans h_371
  have h_389 : f_375 q343 = some (.inl (cI, 2048, .inl (fun _ => 0))) := by rw [← ef_375]; exact (g_u_n (Ne.symm n_346)).trans h_372
  have fr_390 : ∀ q x, f q = some x → q ≠ b → f_375 q = some x := fun q x h1 h2 => by rw [← ef_375]; exact (g_u_n h2).trans (fr_374 q x h1 h2)
  refine g_aload_n X d_MO_init_112 0 rfl ?_
  refine g_sipush (v := 256) X d_MO_init_113 (by decide) ?_
  refine g_newz (t0 := 1) (N := 256) X q_288 rfl (by decide) (by decide) (by decide) (Nat.le_of_ble_eq_true rfl) (Nat.le_of_ble_eq_true rfl) d_MO_init_116 (fun q391 hq391 => ?_)
  have nn_392 : f q391 = none := g_none fr_390 hq391 (Ne.symm (g_nf h_376 hq391))
  generalize ef_393 : g_u f_375 q391 (.inl (cZ, 256, .inl (fun _ => 0))) = f_393
  have n_394 : b ≠ q391 := g_nf h_376 hq391
  have h_395 : f_393 b = some (.inr (5, [.int 0, .int 0, .int 0, .ref q1, .ref q13, .int 0, .ref q28, .ref q46, .ref q67, .ref q91, .ref q118, .ref q148, .ref q181, .ref q217, .ref q256, .int 0, .int 0, .ref q298, .ref q343, .null])) := by rw [← ef_393]; exact (g_u_n n_394).trans h_376
  have n_396 : q1 ≠ q391 := g_nf h_377 hq391
  have h_397 : f_393 q1 = some (.inl (cI, 24, .inl (fun _ => 0))) := by rw [← ef_393]; exact (g_u_n n_396).trans h_377
  have n_398 : q13 ≠ q391 := g_nf h_378 hq391
  have h_399 : f_393 q13 = some (.inl (cI, 24, .inl (fun _ => 0))) := by rw [← ef_393]; exact (g_u_n n_398).trans h_378
  have n_400 : q28 ≠ q391 := g_nf h_379 hq391
  have h_401 : f_393 q28 = some (.inl (cI, 8, .inl (fun _ => 0))) := by rw [← ef_393]; exact (g_u_n n_400).trans h_379
  have n_402 : q46 ≠ q391 := g_nf h_380 hq391
  have h_403 : f_393 q46 = some (.inl (cI, 8, .inl (fun _ => 0))) := by rw [← ef_393]; exact (g_u_n n_402).trans h_380
  have n_404 : q67 ≠ q391 := g_nf h_381 hq391
  have h_405 : f_393 q67 = some (.inl (cI, 8, .inl (fun _ => 0))) := by rw [← ef_393]; exact (g_u_n n_404).trans h_381
  have n_406 : q91 ≠ q391 := g_nf h_382 hq391
  have h_407 : f_393 q91 = some (.inl (cI, 100, .inl (fun _ => 0))) := by rw [← ef_393]; exact (g_u_n n_406).trans h_382
  have n_408 : q118 ≠ q391 := g_nf h_383 hq391
  have h_409 : f_393 q118 = some (.inl (cI, 75024, .inl (fun _ => 0))) := by rw [← ef_393]; exact (g_u_n n_408).trans h_383
  have n_410 : q148 ≠ q391 := g_nf h_384 hq391
  have h_411 : f_393 q148 = some (.inl (cI, 24, .inl (fun _ => 0))) := by rw [← ef_393]; exact (g_u_n n_410).trans h_384
  have n_412 : q181 ≠ q391 := g_nf h_385 hq391
  have h_413 : f_393 q181 = some (.inl (cI, 768, .inl (fun _ => 0))) := by rw [← ef_393]; exact (g_u_n n_412).trans h_385
  have n_414 : q217 ≠ q391 := g_nf h_386 hq391
  have h_415 : f_393 q217 = some (.inl (cI, 768, .inl (fun _ => 0))) := by rw [← ef_393]; exact (g_u_n n_414).trans h_386
  have n_416 : q256 ≠ q391 := g_nf h_387 hq391
  have h_417 : f_393 q256 = some (.inl (cZ, 768, .inl (fun _ => 0))) := by rw [← ef_393]; exact (g_u_n n_416).trans h_387
  have n_418 : q298 ≠ q391 := g_nf h_388 hq391
  have h_419 : f_393 q298 = some (.inl (cI, 8, .inl (fun _ => 0))) := by rw [← ef_393]; exact (g_u_n n_418).trans h_388
  have n_420 : q343 ≠ q391 := g_nf h_389 hq391
  have h_421 : f_393 q343 = some (.inl (cI, 2048, .inl (fun _ => 0))) := by rw [← ef_393]; exact (g_u_n n_420).trans h_389
  have h_422 : f_393 q391 = some (.inl (cZ, 256, .inl (fun _ => 0))) := by rw [← ef_393]; exact g_u_s
  have nf_423 : ∀ q x, f q = some x → q ≠ b → q ≠ q391 := fun q x h1 h2 => g_nf (fr_390 q x h1 h2) hq391
  have fr_424 : ∀ q x, f q = some x → q ≠ b → f_393 q = some x := fun q x h1 h2 => by rw [← ef_393]; exact (g_u_n (nf_423 q x h1 h2)).trans (fr_390 q x h1 h2)
  refine g_putF (ci := 5) (C := R_MO) (T := F_MO) (N := 20) (ty := .array .boolean) (fs2 := [.int 0, .int 0, .int 0, .ref q1, .ref q13, .int 0, .ref q28, .ref q46, .ref q67, .ref q91, .ref q118, .ref q148, .ref q181, .ref q217, .ref q256, .int 0, .int 0, .ref q298, .ref q343, .ref q391]) X i_MO t_MO t_MO_ok n_MO rfl h_395 19 (by decide) q_616 (fun _ h9 => h9) rfl hin rfl (by decide +kernel) rfl rfl (Nat.le_of_ble_eq_true rfl) rfl d_MO_init_118 ?_
  generalize ef_425 : g_u f_393 b (.inr (5, [.int 0, .int 0, .int 0, .ref q1, .ref q13, .int 0, .ref q28, .ref q46, .ref q67, .ref q91, .ref q118, .ref q148, .ref q181, .ref q217, .ref q256, .int 0, .int 0, .ref q298, .ref q343, .ref q391])) = f_425
  have h_426 : f_425 b = some (.inr (5, [.int 0, .int 0, .int 0, .ref q1, .ref q13, .int 0, .ref q28, .ref q46, .ref q67, .ref q91, .ref q118, .ref q148, .ref q181, .ref q217, .ref q256, .int 0, .int 0, .ref q298, .ref q343, .ref q391])) := by rw [← ef_425]; exact g_u_s
  have h_427 : f_425 q1 = some (.inl (cI, 24, .inl (fun _ => 0))) := by rw [← ef_425]; exact (g_u_n (Ne.symm n_4)).trans h_397
  have h_428 : f_425 q13 = some (.inl (cI, 24, .inl (fun _ => 0))) := by rw [← ef_425]; exact (g_u_n (Ne.symm n_16)).trans h_399
  have h_429 : f_425 q28 = some (.inl (cI, 8, .inl (fun _ => 0))) := by rw [← ef_425]; exact (g_u_n (Ne.symm n_31)).trans h_401
  have h_430 : f_425 q46 = some (.inl (cI, 8, .inl (fun _ => 0))) := by rw [← ef_425]; exact (g_u_n (Ne.symm n_49)).trans h_403
  have h_431 : f_425 q67 = some (.inl (cI, 8, .inl (fun _ => 0))) := by rw [← ef_425]; exact (g_u_n (Ne.symm n_70)).trans h_405
  have h_432 : f_425 q91 = some (.inl (cI, 100, .inl (fun _ => 0))) := by rw [← ef_425]; exact (g_u_n (Ne.symm n_94)).trans h_407
  have h_433 : f_425 q118 = some (.inl (cI, 75024, .inl (fun _ => 0))) := by rw [← ef_425]; exact (g_u_n (Ne.symm n_121)).trans h_409
  have h_434 : f_425 q148 = some (.inl (cI, 24, .inl (fun _ => 0))) := by rw [← ef_425]; exact (g_u_n (Ne.symm n_151)).trans h_411
  have h_435 : f_425 q181 = some (.inl (cI, 768, .inl (fun _ => 0))) := by rw [← ef_425]; exact (g_u_n (Ne.symm n_184)).trans h_413
  have h_436 : f_425 q217 = some (.inl (cI, 768, .inl (fun _ => 0))) := by rw [← ef_425]; exact (g_u_n (Ne.symm n_220)).trans h_415
  have h_437 : f_425 q256 = some (.inl (cZ, 768, .inl (fun _ => 0))) := by rw [← ef_425]; exact (g_u_n (Ne.symm n_259)).trans h_417
  have h_438 : f_425 q298 = some (.inl (cI, 8, .inl (fun _ => 0))) := by rw [← ef_425]; exact (g_u_n (Ne.symm n_301)).trans h_419
  have h_439 : f_425 q343 = some (.inl (cI, 2048, .inl (fun _ => 0))) := by rw [← ef_425]; exact (g_u_n (Ne.symm n_346)).trans h_421
  have h_440 : f_425 q391 = some (.inl (cZ, 256, .inl (fun _ => 0))) := by rw [← ef_425]; exact (g_u_n (Ne.symm n_394)).trans h_422
  have fr_441 : ∀ q x, f q = some x → q ≠ b → f_425 q = some x := fun q x h1 h2 => by rw [← ef_425]; exact (g_u_n h2).trans (fr_424 q x h1 h2)
  refine g_aload_n X d_MO_init_121 0 rfl ?_
  refine g_iload_n X d_MO_init_122 1 rfl ?_
  refine g_iconst (v := 1) X d_MO_init_123 (by decide) ?_
  refine g_icmp_ge X 131 d_MO_init_124 (by decide) (fun c124 => ?_) (fun c124 => ?_)
  · skip
    have c124 : ¬ x < 1 := Int32.not_lt.mpr c124
    refine g_iload_n X d_MO_init_131 1 rfl ?_
    refine g_sipush (v := 5000) X d_MO_init_132 (by decide) ?_
    refine g_icmp_le X 144 d_MO_init_135 (by decide) (fun c135 => ?_) (fun c135 => ?_)
    · skip
      refine g_iload_n X d_MO_init_144 1 rfl ?_
      refine g_eqi (y := nI (lif x)) ((lif_x c124 c135).symm) ?_
      refine g_putF (ci := 5) (C := R_MO) (T := F_MO) (N := 20) (ty := .int) (fs2 := [.int 0, .int (nI (lif x)), .int 0, .ref q1, .ref q13, .int 0, .ref q28, .ref q46, .ref q67, .ref q91, .ref q118, .ref q148, .ref q181, .ref q217, .ref q256, .int 0, .int 0, .ref q298, .ref q343, .ref q391]) X i_MO t_MO t_MO_ok n_MO rfl h_426 1 (by decide) q_598 (fun _ h9 => h9) rfl hin rfl (by decide +kernel) rfl rfl (Nat.le_of_ble_eq_true rfl) rfl d_MO_init_145 ?_
      generalize ef_442 : g_u f_425 b (.inr (5, [.int 0, .int (nI (lif x)), .int 0, .ref q1, .ref q13, .int 0, .ref q28, .ref q46, .ref q67, .ref q91, .ref q118, .ref q148, .ref q181, .ref q217, .ref q256, .int 0, .int 0, .ref q298, .ref q343, .ref q391])) = f_442
      have h_443 : f_442 b = some (.inr (5, [.int 0, .int (nI (lif x)), .int 0, .ref q1, .ref q13, .int 0, .ref q28, .ref q46, .ref q67, .ref q91, .ref q118, .ref q148, .ref q181, .ref q217, .ref q256, .int 0, .int 0, .ref q298, .ref q343, .ref q391])) := by rw [← ef_442]; exact g_u_s
      have h_444 : f_442 q1 = some (.inl (cI, 24, .inl (fun _ => 0))) := by rw [← ef_442]; exact (g_u_n (Ne.symm n_4)).trans h_427
      have h_445 : f_442 q13 = some (.inl (cI, 24, .inl (fun _ => 0))) := by rw [← ef_442]; exact (g_u_n (Ne.symm n_16)).trans h_428
      have h_446 : f_442 q28 = some (.inl (cI, 8, .inl (fun _ => 0))) := by rw [← ef_442]; exact (g_u_n (Ne.symm n_31)).trans h_429
      have h_447 : f_442 q46 = some (.inl (cI, 8, .inl (fun _ => 0))) := by rw [← ef_442]; exact (g_u_n (Ne.symm n_49)).trans h_430
      have h_448 : f_442 q67 = some (.inl (cI, 8, .inl (fun _ => 0))) := by rw [← ef_442]; exact (g_u_n (Ne.symm n_70)).trans h_431
      have h_449 : f_442 q91 = some (.inl (cI, 100, .inl (fun _ => 0))) := by rw [← ef_442]; exact (g_u_n (Ne.symm n_94)).trans h_432
      have h_450 : f_442 q118 = some (.inl (cI, 75024, .inl (fun _ => 0))) := by rw [← ef_442]; exact (g_u_n (Ne.symm n_121)).trans h_433
      have h_451 : f_442 q148 = some (.inl (cI, 24, .inl (fun _ => 0))) := by rw [← ef_442]; exact (g_u_n (Ne.symm n_151)).trans h_434
      have h_452 : f_442 q181 = some (.inl (cI, 768, .inl (fun _ => 0))) := by rw [← ef_442]; exact (g_u_n (Ne.symm n_184)).trans h_435
      have h_453 : f_442 q217 = some (.inl (cI, 768, .inl (fun _ => 0))) := by rw [← ef_442]; exact (g_u_n (Ne.symm n_220)).trans h_436
      have h_454 : f_442 q256 = some (.inl (cZ, 768, .inl (fun _ => 0))) := by rw [← ef_442]; exact (g_u_n (Ne.symm n_259)).trans h_437
      have h_455 : f_442 q298 = some (.inl (cI, 8, .inl (fun _ => 0))) := by rw [← ef_442]; exact (g_u_n (Ne.symm n_301)).trans h_438
      have h_456 : f_442 q343 = some (.inl (cI, 2048, .inl (fun _ => 0))) := by rw [← ef_442]; exact (g_u_n (Ne.symm n_346)).trans h_439
      have h_457 : f_442 q391 = some (.inl (cZ, 256, .inl (fun _ => 0))) := by rw [← ef_442]; exact (g_u_n (Ne.symm n_394)).trans h_440
      have fr_458 : ∀ q x, f q = some x → q ≠ b → f_442 q = some x := fun q x h1 h2 => by rw [← ef_442]; exact (g_u_n h2).trans (fr_441 q x h1 h2)
      exact g_vret X rfl (⟨rfl, (fun i => ([b, q1, q13, q28, q46, q67, q91, q118, q148, q181, q217, q256, q298, q343, q391] : List Nat).getD i 0), rfl, ⟨h_443, h_444, h_445, h_446, h_447, h_448, h_449, h_450, h_451, h_452, h_453, h_454, h_455, h_456, h_457⟩, nd_inj (List.Pairwise.cons (List.forall_mem_cons.mpr ⟨n_4, (List.forall_mem_cons.mpr ⟨n_16, (List.forall_mem_cons.mpr ⟨n_31, (List.forall_mem_cons.mpr ⟨n_49, (List.forall_mem_cons.mpr ⟨n_70, (List.forall_mem_cons.mpr ⟨n_94, (List.forall_mem_cons.mpr ⟨n_121, (List.forall_mem_cons.mpr ⟨n_151, (List.forall_mem_cons.mpr ⟨n_184, (List.forall_mem_cons.mpr ⟨n_220, (List.forall_mem_cons.mpr ⟨n_259, (List.forall_mem_cons.mpr ⟨n_301, (List.forall_mem_cons.mpr ⟨n_346, (List.forall_mem_cons.mpr ⟨n_394, (fun _ z => by cases z)⟩)⟩)⟩)⟩)⟩)⟩)⟩)⟩)⟩)⟩)⟩)⟩)⟩)⟩) (List.Pairwise.cons (List.forall_mem_cons.mpr ⟨n_18, (List.forall_mem_cons.mpr ⟨n_33, (List.forall_mem_cons.mpr ⟨n_51, (List.forall_mem_cons.mpr ⟨n_72, (List.forall_mem_cons.mpr ⟨n_96, (List.forall_mem_cons.mpr ⟨n_123, (List.forall_mem_cons.mpr ⟨n_153, (List.forall_mem_cons.mpr ⟨n_186, (List.forall_mem_cons.mpr ⟨n_222, (List.forall_mem_cons.mpr ⟨n_261, (List.forall_mem_cons.mpr ⟨n_303, (List.forall_mem_cons.mpr ⟨n_348, (List.forall_mem_cons.mpr ⟨n_396, (fun _ z => by cases z)⟩)⟩)⟩)⟩)⟩)⟩)⟩)⟩)⟩)⟩)⟩)⟩)⟩) (List.Pairwise.cons (List.forall_mem_cons.mpr ⟨n_35, (List.forall_mem_cons.mpr ⟨n_53, (List.forall_mem_cons.mpr ⟨n_74, (List.forall_mem_cons.mpr ⟨n_98, (List.forall_mem_cons.mpr ⟨n_125, (List.forall_mem_cons.mpr ⟨n_155, (List.forall_mem_cons.mpr ⟨n_188, (List.forall_mem_cons.mpr ⟨n_224, (List.forall_mem_cons.mpr ⟨n_263, (List.forall_mem_cons.mpr ⟨n_305, (List.forall_mem_cons.mpr ⟨n_350, (List.forall_mem_cons.mpr ⟨n_398, (fun _ z => by cases z)⟩)⟩)⟩)⟩)⟩)⟩)⟩)⟩)⟩)⟩)⟩)⟩) (List.Pairwise.cons (List.forall_mem_cons.mpr ⟨n_55, (List.forall_mem_cons.mpr ⟨n_76, (List.forall_mem_cons.mpr ⟨n_100, (List.forall_mem_cons.mpr ⟨n_127, (List.forall_mem_cons.mpr ⟨n_157, (List.forall_mem_cons.mpr ⟨n_190, (List.forall_mem_cons.mpr ⟨n_226, (List.forall_mem_cons.mpr ⟨n_265, (List.forall_mem_cons.mpr ⟨n_307, (List.forall_mem_cons.mpr ⟨n_352, (List.forall_mem_cons.mpr ⟨n_400, (fun _ z => by cases z)⟩)⟩)⟩)⟩)⟩)⟩)⟩)⟩)⟩)⟩)⟩) (List.Pairwise.cons (List.forall_mem_cons.mpr ⟨n_78, (List.forall_mem_cons.mpr ⟨n_102, (List.forall_mem_cons.mpr ⟨n_129, (List.forall_mem_cons.mpr ⟨n_159, (List.forall_mem_cons.mpr ⟨n_192, (List.forall_mem_cons.mpr ⟨n_228, (List.forall_mem_cons.mpr ⟨n_267, (List.forall_mem_cons.mpr ⟨n_309, (List.forall_mem_cons.mpr ⟨n_354, (List.forall_mem_cons.mpr ⟨n_402, (fun _ z => by cases z)⟩)⟩)⟩)⟩)⟩)⟩)⟩)⟩)⟩)⟩) (List.Pairwise.cons (List.forall_mem_cons.mpr ⟨n_104, (List.forall_mem_cons.mpr ⟨n_131, (List.forall_mem_cons.mpr ⟨n_161, (List.forall_mem_cons.mpr ⟨n_194, (List.forall_mem_cons.mpr ⟨n_230, (List.forall_mem_cons.mpr ⟨n_269, (List.forall_mem_cons.mpr ⟨n_311, (List.forall_mem_cons.mpr ⟨n_356, (List.forall_mem_cons.mpr ⟨n_404, (fun _ z => by cases z)⟩)⟩)⟩)⟩)⟩)⟩)⟩)⟩)⟩) (List.Pairwise.cons (List.forall_mem_cons.mpr ⟨n_133, (List.forall_mem_cons.mpr ⟨n_163, (List.forall_mem_cons.mpr ⟨n_196, (List.forall_mem_cons.mpr ⟨n_232, (List.forall_mem_cons.mpr ⟨n_271, (List.forall_mem_cons.mpr ⟨n_313, (List.forall_mem_cons.mpr ⟨n_358, (List.forall_mem_cons.mpr ⟨n_406, (fun _ z => by cases z)⟩)⟩)⟩)⟩)⟩)⟩)⟩)⟩) (List.Pairwise.cons (List.forall_mem_cons.mpr ⟨n_165, (List.forall_mem_cons.mpr ⟨n_198, (List.forall_mem_cons.mpr ⟨n_234, (List.forall_mem_cons.mpr ⟨n_273, (List.forall_mem_cons.mpr ⟨n_315, (List.forall_mem_cons.mpr ⟨n_360, (List.forall_mem_cons.mpr ⟨n_408, (fun _ z => by cases z)⟩)⟩)⟩)⟩)⟩)⟩)⟩) (List.Pairwise.cons (List.forall_mem_cons.mpr ⟨n_200, (List.forall_mem_cons.mpr ⟨n_236, (List.forall_mem_cons.mpr ⟨n_275, (List.forall_mem_cons.mpr ⟨n_317, (List.forall_mem_cons.mpr ⟨n_362, (List.forall_mem_cons.mpr ⟨n_410, (fun _ z => by cases z)⟩)⟩)⟩)⟩)⟩)⟩) (List.Pairwise.cons (List.forall_mem_cons.mpr ⟨n_238, (List.forall_mem_cons.mpr ⟨n_277, (List.forall_mem_cons.mpr ⟨n_319, (List.forall_mem_cons.mpr ⟨n_364, (List.forall_mem_cons.mpr ⟨n_412, (fun _ z => by cases z)⟩)⟩)⟩)⟩)⟩) (List.Pairwise.cons (List.forall_mem_cons.mpr ⟨n_279, (List.forall_mem_cons.mpr ⟨n_321, (List.forall_mem_cons.mpr ⟨n_366, (List.forall_mem_cons.mpr ⟨n_414, (fun _ z => by cases z)⟩)⟩)⟩)⟩) (List.Pairwise.cons (List.forall_mem_cons.mpr ⟨n_323, (List.forall_mem_cons.mpr ⟨n_368, (List.forall_mem_cons.mpr ⟨n_416, (fun _ z => by cases z)⟩)⟩)⟩) (List.Pairwise.cons (List.forall_mem_cons.mpr ⟨n_370, (List.forall_mem_cons.mpr ⟨n_418, (fun _ z => by cases z)⟩)⟩) (List.Pairwise.cons (List.forall_mem_cons.mpr ⟨n_420, (fun _ z => by cases z)⟩) (List.Pairwise.cons (fun _ z => by cases z) List.Pairwise.nil))))))))))))))), fun i hi hi0 => match i, hi, hi0 with | 0, _, hi0 => absurd hi0 (by decide) | 1, _, _ => nn_2 | 2, _, _ => nn_14 | 3, _, _ => nn_29 | 4, _, _ => nn_47 | 5, _, _ => nn_68 | 6, _, _ => nn_92 | 7, _, _ => nn_119 | 8, _, _ => nn_149 | 9, _, _ => nn_182 | 10, _, _ => nn_218 | 11, _, _ => nn_257 | 12, _, _ => nn_299 | 13, _, _ => nn_344 | 14, _, _ => nn_392 | i + 15, hi, _ => absurd hi (by omega), fr_458⟩) (Nat.le_of_ble_eq_true rfl) (Nat.le_of_ble_eq_true rfl) d_MO_init_148
    · skip
      refine g_sipush (v := 5000) X d_MO_init_138 (by decide) ?_
      refine g_goto X 145 d_MO_init_141 (by decide) ?_
      refine g_eqi (y := nI (lif x)) ((lif_5 c124 c135).symm) ?_
      refine g_putF (ci := 5) (C := R_MO) (T := F_MO) (N := 20) (ty := .int) (fs2 := [.int 0, .int (nI (lif x)), .int 0, .ref q1, .ref q13, .int 0, .ref q28, .ref q46, .ref q67, .ref q91, .ref q118, .ref q148, .ref q181, .ref q217, .ref q256, .int 0, .int 0, .ref q298, .ref q343, .ref q391]) X i_MO t_MO t_MO_ok n_MO rfl h_426 1 (by decide) q_598 (fun _ h9 => h9) rfl hin rfl (by decide +kernel) rfl rfl (Nat.le_of_ble_eq_true rfl) rfl d_MO_init_145 ?_
      generalize ef_459 : g_u f_425 b (.inr (5, [.int 0, .int (nI (lif x)), .int 0, .ref q1, .ref q13, .int 0, .ref q28, .ref q46, .ref q67, .ref q91, .ref q118, .ref q148, .ref q181, .ref q217, .ref q256, .int 0, .int 0, .ref q298, .ref q343, .ref q391])) = f_459
      have h_460 : f_459 b = some (.inr (5, [.int 0, .int (nI (lif x)), .int 0, .ref q1, .ref q13, .int 0, .ref q28, .ref q46, .ref q67, .ref q91, .ref q118, .ref q148, .ref q181, .ref q217, .ref q256, .int 0, .int 0, .ref q298, .ref q343, .ref q391])) := by rw [← ef_459]; exact g_u_s
      have h_461 : f_459 q1 = some (.inl (cI, 24, .inl (fun _ => 0))) := by rw [← ef_459]; exact (g_u_n (Ne.symm n_4)).trans h_427
      have h_462 : f_459 q13 = some (.inl (cI, 24, .inl (fun _ => 0))) := by rw [← ef_459]; exact (g_u_n (Ne.symm n_16)).trans h_428
      have h_463 : f_459 q28 = some (.inl (cI, 8, .inl (fun _ => 0))) := by rw [← ef_459]; exact (g_u_n (Ne.symm n_31)).trans h_429
      have h_464 : f_459 q46 = some (.inl (cI, 8, .inl (fun _ => 0))) := by rw [← ef_459]; exact (g_u_n (Ne.symm n_49)).trans h_430
      have h_465 : f_459 q67 = some (.inl (cI, 8, .inl (fun _ => 0))) := by rw [← ef_459]; exact (g_u_n (Ne.symm n_70)).trans h_431
      have h_466 : f_459 q91 = some (.inl (cI, 100, .inl (fun _ => 0))) := by rw [← ef_459]; exact (g_u_n (Ne.symm n_94)).trans h_432
      have h_467 : f_459 q118 = some (.inl (cI, 75024, .inl (fun _ => 0))) := by rw [← ef_459]; exact (g_u_n (Ne.symm n_121)).trans h_433
      have h_468 : f_459 q148 = some (.inl (cI, 24, .inl (fun _ => 0))) := by rw [← ef_459]; exact (g_u_n (Ne.symm n_151)).trans h_434
      have h_469 : f_459 q181 = some (.inl (cI, 768, .inl (fun _ => 0))) := by rw [← ef_459]; exact (g_u_n (Ne.symm n_184)).trans h_435
      have h_470 : f_459 q217 = some (.inl (cI, 768, .inl (fun _ => 0))) := by rw [← ef_459]; exact (g_u_n (Ne.symm n_220)).trans h_436
      have h_471 : f_459 q256 = some (.inl (cZ, 768, .inl (fun _ => 0))) := by rw [← ef_459]; exact (g_u_n (Ne.symm n_259)).trans h_437
      have h_472 : f_459 q298 = some (.inl (cI, 8, .inl (fun _ => 0))) := by rw [← ef_459]; exact (g_u_n (Ne.symm n_301)).trans h_438
      have h_473 : f_459 q343 = some (.inl (cI, 2048, .inl (fun _ => 0))) := by rw [← ef_459]; exact (g_u_n (Ne.symm n_346)).trans h_439
      have h_474 : f_459 q391 = some (.inl (cZ, 256, .inl (fun _ => 0))) := by rw [← ef_459]; exact (g_u_n (Ne.symm n_394)).trans h_440
      have fr_475 : ∀ q x, f q = some x → q ≠ b → f_459 q = some x := fun q x h1 h2 => by rw [← ef_459]; exact (g_u_n h2).trans (fr_441 q x h1 h2)
      exact g_vret X rfl (⟨rfl, (fun i => ([b, q1, q13, q28, q46, q67, q91, q118, q148, q181, q217, q256, q298, q343, q391] : List Nat).getD i 0), rfl, ⟨h_460, h_461, h_462, h_463, h_464, h_465, h_466, h_467, h_468, h_469, h_470, h_471, h_472, h_473, h_474⟩, nd_inj (List.Pairwise.cons (List.forall_mem_cons.mpr ⟨n_4, (List.forall_mem_cons.mpr ⟨n_16, (List.forall_mem_cons.mpr ⟨n_31, (List.forall_mem_cons.mpr ⟨n_49, (List.forall_mem_cons.mpr ⟨n_70, (List.forall_mem_cons.mpr ⟨n_94, (List.forall_mem_cons.mpr ⟨n_121, (List.forall_mem_cons.mpr ⟨n_151, (List.forall_mem_cons.mpr ⟨n_184, (List.forall_mem_cons.mpr ⟨n_220, (List.forall_mem_cons.mpr ⟨n_259, (List.forall_mem_cons.mpr ⟨n_301, (List.forall_mem_cons.mpr ⟨n_346, (List.forall_mem_cons.mpr ⟨n_394, (fun _ z => by cases z)⟩)⟩)⟩)⟩)⟩)⟩)⟩)⟩)⟩)⟩)⟩)⟩)⟩)⟩) (List.Pairwise.cons (List.forall_mem_cons.mpr ⟨n_18, (List.forall_mem_cons.mpr ⟨n_33, (List.forall_mem_cons.mpr ⟨n_51, (List.forall_mem_cons.mpr ⟨n_72, (List.forall_mem_cons.mpr ⟨n_96, (List.forall_mem_cons.mpr ⟨n_123, (List.forall_mem_cons.mpr ⟨n_153, (List.forall_mem_cons.mpr ⟨n_186, (List.forall_mem_cons.mpr ⟨n_222, (List.forall_mem_cons.mpr ⟨n_261, (List.forall_mem_cons.mpr ⟨n_303, (List.forall_mem_cons.mpr ⟨n_348, (List.forall_mem_cons.mpr ⟨n_396, (fun _ z => by cases z)⟩)⟩)⟩)⟩)⟩)⟩)⟩)⟩)⟩)⟩)⟩)⟩)⟩) (List.Pairwise.cons (List.forall_mem_cons.mpr ⟨n_35, (List.forall_mem_cons.mpr ⟨n_53, (List.forall_mem_cons.mpr ⟨n_74, (List.forall_mem_cons.mpr ⟨n_98, (List.forall_mem_cons.mpr ⟨n_125, (List.forall_mem_cons.mpr ⟨n_155, (List.forall_mem_cons.mpr ⟨n_188, (List.forall_mem_cons.mpr ⟨n_224, (List.forall_mem_cons.mpr ⟨n_263, (List.forall_mem_cons.mpr ⟨n_305, (List.forall_mem_cons.mpr ⟨n_350, (List.forall_mem_cons.mpr ⟨n_398, (fun _ z => by cases z)⟩)⟩)⟩)⟩)⟩)⟩)⟩)⟩)⟩)⟩)⟩)⟩) (List.Pairwise.cons (List.forall_mem_cons.mpr ⟨n_55, (List.forall_mem_cons.mpr ⟨n_76, (List.forall_mem_cons.mpr ⟨n_100, (List.forall_mem_cons.mpr ⟨n_127, (List.forall_mem_cons.mpr ⟨n_157, (List.forall_mem_cons.mpr ⟨n_190, (List.forall_mem_cons.mpr ⟨n_226, (List.forall_mem_cons.mpr ⟨n_265, (List.forall_mem_cons.mpr ⟨n_307, (List.forall_mem_cons.mpr ⟨n_352, (List.forall_mem_cons.mpr ⟨n_400, (fun _ z => by cases z)⟩)⟩)⟩)⟩)⟩)⟩)⟩)⟩)⟩)⟩)⟩) (List.Pairwise.cons (List.forall_mem_cons.mpr ⟨n_78, (List.forall_mem_cons.mpr ⟨n_102, (List.forall_mem_cons.mpr ⟨n_129, (List.forall_mem_cons.mpr ⟨n_159, (List.forall_mem_cons.mpr ⟨n_192, (List.forall_mem_cons.mpr ⟨n_228, (List.forall_mem_cons.mpr ⟨n_267, (List.forall_mem_cons.mpr ⟨n_309, (List.forall_mem_cons.mpr ⟨n_354, (List.forall_mem_cons.mpr ⟨n_402, (fun _ z => by cases z)⟩)⟩)⟩)⟩)⟩)⟩)⟩)⟩)⟩)⟩) (List.Pairwise.cons (List.forall_mem_cons.mpr ⟨n_104, (List.forall_mem_cons.mpr ⟨n_131, (List.forall_mem_cons.mpr ⟨n_161, (List.forall_mem_cons.mpr ⟨n_194, (List.forall_mem_cons.mpr ⟨n_230, (List.forall_mem_cons.mpr ⟨n_269, (List.forall_mem_cons.mpr ⟨n_311, (List.forall_mem_cons.mpr ⟨n_356, (List.forall_mem_cons.mpr ⟨n_404, (fun _ z => by cases z)⟩)⟩)⟩)⟩)⟩)⟩)⟩)⟩)⟩) (List.Pairwise.cons (List.forall_mem_cons.mpr ⟨n_133, (List.forall_mem_cons.mpr ⟨n_163, (List.forall_mem_cons.mpr ⟨n_196, (List.forall_mem_cons.mpr ⟨n_232, (List.forall_mem_cons.mpr ⟨n_271, (List.forall_mem_cons.mpr ⟨n_313, (List.forall_mem_cons.mpr ⟨n_358, (List.forall_mem_cons.mpr ⟨n_406, (fun _ z => by cases z)⟩)⟩)⟩)⟩)⟩)⟩)⟩)⟩) (List.Pairwise.cons (List.forall_mem_cons.mpr ⟨n_165, (List.forall_mem_cons.mpr ⟨n_198, (List.forall_mem_cons.mpr ⟨n_234, (List.forall_mem_cons.mpr ⟨n_273, (List.forall_mem_cons.mpr ⟨n_315, (List.forall_mem_cons.mpr ⟨n_360, (List.forall_mem_cons.mpr ⟨n_408, (fun _ z => by cases z)⟩)⟩)⟩)⟩)⟩)⟩)⟩) (List.Pairwise.cons (List.forall_mem_cons.mpr ⟨n_200, (List.forall_mem_cons.mpr ⟨n_236, (List.forall_mem_cons.mpr ⟨n_275, (List.forall_mem_cons.mpr ⟨n_317, (List.forall_mem_cons.mpr ⟨n_362, (List.forall_mem_cons.mpr ⟨n_410, (fun _ z => by cases z)⟩)⟩)⟩)⟩)⟩)⟩) (List.Pairwise.cons (List.forall_mem_cons.mpr ⟨n_238, (List.forall_mem_cons.mpr ⟨n_277, (List.forall_mem_cons.mpr ⟨n_319, (List.forall_mem_cons.mpr ⟨n_364, (List.forall_mem_cons.mpr ⟨n_412, (fun _ z => by cases z)⟩)⟩)⟩)⟩)⟩) (List.Pairwise.cons (List.forall_mem_cons.mpr ⟨n_279, (List.forall_mem_cons.mpr ⟨n_321, (List.forall_mem_cons.mpr ⟨n_366, (List.forall_mem_cons.mpr ⟨n_414, (fun _ z => by cases z)⟩)⟩)⟩)⟩) (List.Pairwise.cons (List.forall_mem_cons.mpr ⟨n_323, (List.forall_mem_cons.mpr ⟨n_368, (List.forall_mem_cons.mpr ⟨n_416, (fun _ z => by cases z)⟩)⟩)⟩) (List.Pairwise.cons (List.forall_mem_cons.mpr ⟨n_370, (List.forall_mem_cons.mpr ⟨n_418, (fun _ z => by cases z)⟩)⟩) (List.Pairwise.cons (List.forall_mem_cons.mpr ⟨n_420, (fun _ z => by cases z)⟩) (List.Pairwise.cons (fun _ z => by cases z) List.Pairwise.nil))))))))))))))), fun i hi hi0 => match i, hi, hi0 with | 0, _, hi0 => absurd hi0 (by decide) | 1, _, _ => nn_2 | 2, _, _ => nn_14 | 3, _, _ => nn_29 | 4, _, _ => nn_47 | 5, _, _ => nn_68 | 6, _, _ => nn_92 | 7, _, _ => nn_119 | 8, _, _ => nn_149 | 9, _, _ => nn_182 | 10, _, _ => nn_218 | 11, _, _ => nn_257 | 12, _, _ => nn_299 | 13, _, _ => nn_344 | 14, _, _ => nn_392 | i + 15, hi, _ => absurd hi (by omega), fr_475⟩) (Nat.le_of_ble_eq_true rfl) (Nat.le_of_ble_eq_true rfl) d_MO_init_148
  · skip
    have c124 : x < 1 := Int32.not_le.mp c124
    refine g_iconst (v := 1) X d_MO_init_127 (by decide) ?_
    refine g_goto X 145 d_MO_init_128 (by decide) ?_
    refine g_eqi (y := nI (lif x)) ((lif_1 c124).symm) ?_
    refine g_putF (ci := 5) (C := R_MO) (T := F_MO) (N := 20) (ty := .int) (fs2 := [.int 0, .int (nI (lif x)), .int 0, .ref q1, .ref q13, .int 0, .ref q28, .ref q46, .ref q67, .ref q91, .ref q118, .ref q148, .ref q181, .ref q217, .ref q256, .int 0, .int 0, .ref q298, .ref q343, .ref q391]) X i_MO t_MO t_MO_ok n_MO rfl h_426 1 (by decide) q_598 (fun _ h9 => h9) rfl hin rfl (by decide +kernel) rfl rfl (Nat.le_of_ble_eq_true rfl) rfl d_MO_init_145 ?_
    generalize ef_476 : g_u f_425 b (.inr (5, [.int 0, .int (nI (lif x)), .int 0, .ref q1, .ref q13, .int 0, .ref q28, .ref q46, .ref q67, .ref q91, .ref q118, .ref q148, .ref q181, .ref q217, .ref q256, .int 0, .int 0, .ref q298, .ref q343, .ref q391])) = f_476
    have h_477 : f_476 b = some (.inr (5, [.int 0, .int (nI (lif x)), .int 0, .ref q1, .ref q13, .int 0, .ref q28, .ref q46, .ref q67, .ref q91, .ref q118, .ref q148, .ref q181, .ref q217, .ref q256, .int 0, .int 0, .ref q298, .ref q343, .ref q391])) := by rw [← ef_476]; exact g_u_s
    have h_478 : f_476 q1 = some (.inl (cI, 24, .inl (fun _ => 0))) := by rw [← ef_476]; exact (g_u_n (Ne.symm n_4)).trans h_427
    have h_479 : f_476 q13 = some (.inl (cI, 24, .inl (fun _ => 0))) := by rw [← ef_476]; exact (g_u_n (Ne.symm n_16)).trans h_428
    have h_480 : f_476 q28 = some (.inl (cI, 8, .inl (fun _ => 0))) := by rw [← ef_476]; exact (g_u_n (Ne.symm n_31)).trans h_429
    have h_481 : f_476 q46 = some (.inl (cI, 8, .inl (fun _ => 0))) := by rw [← ef_476]; exact (g_u_n (Ne.symm n_49)).trans h_430
    have h_482 : f_476 q67 = some (.inl (cI, 8, .inl (fun _ => 0))) := by rw [← ef_476]; exact (g_u_n (Ne.symm n_70)).trans h_431
    have h_483 : f_476 q91 = some (.inl (cI, 100, .inl (fun _ => 0))) := by rw [← ef_476]; exact (g_u_n (Ne.symm n_94)).trans h_432
    have h_484 : f_476 q118 = some (.inl (cI, 75024, .inl (fun _ => 0))) := by rw [← ef_476]; exact (g_u_n (Ne.symm n_121)).trans h_433
    have h_485 : f_476 q148 = some (.inl (cI, 24, .inl (fun _ => 0))) := by rw [← ef_476]; exact (g_u_n (Ne.symm n_151)).trans h_434
    have h_486 : f_476 q181 = some (.inl (cI, 768, .inl (fun _ => 0))) := by rw [← ef_476]; exact (g_u_n (Ne.symm n_184)).trans h_435
    have h_487 : f_476 q217 = some (.inl (cI, 768, .inl (fun _ => 0))) := by rw [← ef_476]; exact (g_u_n (Ne.symm n_220)).trans h_436
    have h_488 : f_476 q256 = some (.inl (cZ, 768, .inl (fun _ => 0))) := by rw [← ef_476]; exact (g_u_n (Ne.symm n_259)).trans h_437
    have h_489 : f_476 q298 = some (.inl (cI, 8, .inl (fun _ => 0))) := by rw [← ef_476]; exact (g_u_n (Ne.symm n_301)).trans h_438
    have h_490 : f_476 q343 = some (.inl (cI, 2048, .inl (fun _ => 0))) := by rw [← ef_476]; exact (g_u_n (Ne.symm n_346)).trans h_439
    have h_491 : f_476 q391 = some (.inl (cZ, 256, .inl (fun _ => 0))) := by rw [← ef_476]; exact (g_u_n (Ne.symm n_394)).trans h_440
    have fr_492 : ∀ q x, f q = some x → q ≠ b → f_476 q = some x := fun q x h1 h2 => by rw [← ef_476]; exact (g_u_n h2).trans (fr_441 q x h1 h2)
    exact g_vret X rfl (⟨rfl, (fun i => ([b, q1, q13, q28, q46, q67, q91, q118, q148, q181, q217, q256, q298, q343, q391] : List Nat).getD i 0), rfl, ⟨h_477, h_478, h_479, h_480, h_481, h_482, h_483, h_484, h_485, h_486, h_487, h_488, h_489, h_490, h_491⟩, nd_inj (List.Pairwise.cons (List.forall_mem_cons.mpr ⟨n_4, (List.forall_mem_cons.mpr ⟨n_16, (List.forall_mem_cons.mpr ⟨n_31, (List.forall_mem_cons.mpr ⟨n_49, (List.forall_mem_cons.mpr ⟨n_70, (List.forall_mem_cons.mpr ⟨n_94, (List.forall_mem_cons.mpr ⟨n_121, (List.forall_mem_cons.mpr ⟨n_151, (List.forall_mem_cons.mpr ⟨n_184, (List.forall_mem_cons.mpr ⟨n_220, (List.forall_mem_cons.mpr ⟨n_259, (List.forall_mem_cons.mpr ⟨n_301, (List.forall_mem_cons.mpr ⟨n_346, (List.forall_mem_cons.mpr ⟨n_394, (fun _ z => by cases z)⟩)⟩)⟩)⟩)⟩)⟩)⟩)⟩)⟩)⟩)⟩)⟩)⟩)⟩) (List.Pairwise.cons (List.forall_mem_cons.mpr ⟨n_18, (List.forall_mem_cons.mpr ⟨n_33, (List.forall_mem_cons.mpr ⟨n_51, (List.forall_mem_cons.mpr ⟨n_72, (List.forall_mem_cons.mpr ⟨n_96, (List.forall_mem_cons.mpr ⟨n_123, (List.forall_mem_cons.mpr ⟨n_153, (List.forall_mem_cons.mpr ⟨n_186, (List.forall_mem_cons.mpr ⟨n_222, (List.forall_mem_cons.mpr ⟨n_261, (List.forall_mem_cons.mpr ⟨n_303, (List.forall_mem_cons.mpr ⟨n_348, (List.forall_mem_cons.mpr ⟨n_396, (fun _ z => by cases z)⟩)⟩)⟩)⟩)⟩)⟩)⟩)⟩)⟩)⟩)⟩)⟩)⟩) (List.Pairwise.cons (List.forall_mem_cons.mpr ⟨n_35, (List.forall_mem_cons.mpr ⟨n_53, (List.forall_mem_cons.mpr ⟨n_74, (List.forall_mem_cons.mpr ⟨n_98, (List.forall_mem_cons.mpr ⟨n_125, (List.forall_mem_cons.mpr ⟨n_155, (List.forall_mem_cons.mpr ⟨n_188, (List.forall_mem_cons.mpr ⟨n_224, (List.forall_mem_cons.mpr ⟨n_263, (List.forall_mem_cons.mpr ⟨n_305, (List.forall_mem_cons.mpr ⟨n_350, (List.forall_mem_cons.mpr ⟨n_398, (fun _ z => by cases z)⟩)⟩)⟩)⟩)⟩)⟩)⟩)⟩)⟩)⟩)⟩)⟩) (List.Pairwise.cons (List.forall_mem_cons.mpr ⟨n_55, (List.forall_mem_cons.mpr ⟨n_76, (List.forall_mem_cons.mpr ⟨n_100, (List.forall_mem_cons.mpr ⟨n_127, (List.forall_mem_cons.mpr ⟨n_157, (List.forall_mem_cons.mpr ⟨n_190, (List.forall_mem_cons.mpr ⟨n_226, (List.forall_mem_cons.mpr ⟨n_265, (List.forall_mem_cons.mpr ⟨n_307, (List.forall_mem_cons.mpr ⟨n_352, (List.forall_mem_cons.mpr ⟨n_400, (fun _ z => by cases z)⟩)⟩)⟩)⟩)⟩)⟩)⟩)⟩)⟩)⟩)⟩) (List.Pairwise.cons (List.forall_mem_cons.mpr ⟨n_78, (List.forall_mem_cons.mpr ⟨n_102, (List.forall_mem_cons.mpr ⟨n_129, (List.forall_mem_cons.mpr ⟨n_159, (List.forall_mem_cons.mpr ⟨n_192, (List.forall_mem_cons.mpr ⟨n_228, (List.forall_mem_cons.mpr ⟨n_267, (List.forall_mem_cons.mpr ⟨n_309, (List.forall_mem_cons.mpr ⟨n_354, (List.forall_mem_cons.mpr ⟨n_402, (fun _ z => by cases z)⟩)⟩)⟩)⟩)⟩)⟩)⟩)⟩)⟩)⟩) (List.Pairwise.cons (List.forall_mem_cons.mpr ⟨n_104, (List.forall_mem_cons.mpr ⟨n_131, (List.forall_mem_cons.mpr ⟨n_161, (List.forall_mem_cons.mpr ⟨n_194, (List.forall_mem_cons.mpr ⟨n_230, (List.forall_mem_cons.mpr ⟨n_269, (List.forall_mem_cons.mpr ⟨n_311, (List.forall_mem_cons.mpr ⟨n_356, (List.forall_mem_cons.mpr ⟨n_404, (fun _ z => by cases z)⟩)⟩)⟩)⟩)⟩)⟩)⟩)⟩)⟩) (List.Pairwise.cons (List.forall_mem_cons.mpr ⟨n_133, (List.forall_mem_cons.mpr ⟨n_163, (List.forall_mem_cons.mpr ⟨n_196, (List.forall_mem_cons.mpr ⟨n_232, (List.forall_mem_cons.mpr ⟨n_271, (List.forall_mem_cons.mpr ⟨n_313, (List.forall_mem_cons.mpr ⟨n_358, (List.forall_mem_cons.mpr ⟨n_406, (fun _ z => by cases z)⟩)⟩)⟩)⟩)⟩)⟩)⟩)⟩) (List.Pairwise.cons (List.forall_mem_cons.mpr ⟨n_165, (List.forall_mem_cons.mpr ⟨n_198, (List.forall_mem_cons.mpr ⟨n_234, (List.forall_mem_cons.mpr ⟨n_273, (List.forall_mem_cons.mpr ⟨n_315, (List.forall_mem_cons.mpr ⟨n_360, (List.forall_mem_cons.mpr ⟨n_408, (fun _ z => by cases z)⟩)⟩)⟩)⟩)⟩)⟩)⟩) (List.Pairwise.cons (List.forall_mem_cons.mpr ⟨n_200, (List.forall_mem_cons.mpr ⟨n_236, (List.forall_mem_cons.mpr ⟨n_275, (List.forall_mem_cons.mpr ⟨n_317, (List.forall_mem_cons.mpr ⟨n_362, (List.forall_mem_cons.mpr ⟨n_410, (fun _ z => by cases z)⟩)⟩)⟩)⟩)⟩)⟩) (List.Pairwise.cons (List.forall_mem_cons.mpr ⟨n_238, (List.forall_mem_cons.mpr ⟨n_277, (List.forall_mem_cons.mpr ⟨n_319, (List.forall_mem_cons.mpr ⟨n_364, (List.forall_mem_cons.mpr ⟨n_412, (fun _ z => by cases z)⟩)⟩)⟩)⟩)⟩) (List.Pairwise.cons (List.forall_mem_cons.mpr ⟨n_279, (List.forall_mem_cons.mpr ⟨n_321, (List.forall_mem_cons.mpr ⟨n_366, (List.forall_mem_cons.mpr ⟨n_414, (fun _ z => by cases z)⟩)⟩)⟩)⟩) (List.Pairwise.cons (List.forall_mem_cons.mpr ⟨n_323, (List.forall_mem_cons.mpr ⟨n_368, (List.forall_mem_cons.mpr ⟨n_416, (fun _ z => by cases z)⟩)⟩)⟩) (List.Pairwise.cons (List.forall_mem_cons.mpr ⟨n_370, (List.forall_mem_cons.mpr ⟨n_418, (fun _ z => by cases z)⟩)⟩) (List.Pairwise.cons (List.forall_mem_cons.mpr ⟨n_420, (fun _ z => by cases z)⟩) (List.Pairwise.cons (fun _ z => by cases z) List.Pairwise.nil))))))))))))))), fun i hi hi0 => match i, hi, hi0 with | 0, _, hi0 => absurd hi0 (by decide) | 1, _, _ => nn_2 | 2, _, _ => nn_14 | 3, _, _ => nn_29 | 4, _, _ => nn_47 | 5, _, _ => nn_68 | 6, _, _ => nn_92 | 7, _, _ => nn_119 | 8, _, _ => nn_149 | 9, _, _ => nn_182 | 10, _, _ => nn_218 | 11, _, _ => nn_257 | 12, _, _ => nn_299 | 13, _, _ => nn_344 | 14, _, _ => nn_392 | i + 15, hi, _ => absurd hi (by omega), fr_492⟩) (Nat.le_of_ble_eq_true rfl) (Nat.le_of_ble_eq_true rfl) d_MO_init_148
