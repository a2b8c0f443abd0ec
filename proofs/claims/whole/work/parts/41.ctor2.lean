theorem lif_m (x : Int32) : (if (1 : Int32) < (if x < 5000 then x else 5000) then (if x < 5000 then x else 5000) else 1) = nI (lif x) := by
  by_cases h1 : x < 1
  · rw [lif_1 h1, if_pos (Int32.lt_trans h1 (by decide)), if_neg (fun z => absurd (Int32.lt_trans z h1) (by decide))]
  · by_cases h2 : x ≤ 5000
    · rw [lif_x h1 h2]
      have h3 : (if x < 5000 then x else 5000) = x := by
        split
        · rfl
        · rename_i h; exact Int32.le_antisymm (Int32.not_lt.mp h) h2
      rw [h3]
      split
      · rfl
      · rename_i h; exact Int32.le_antisymm (Int32.not_lt.mp h1) (Int32.not_lt.mp h)
    · rw [lif_5 h1 h2, if_neg (fun z => h2 (Int32.le_of_lt z)), if_pos (by decide)]
set_option maxHeartbeats 4000000 in
set_option maxRecDepth 100000 in
theorem c_CL_init {l : Launch} {D : va_G} {cI cZ cO cJ : ClassId} {eA eM : Nat} {f : g_F} {b : Nat} {x : Int32} (hb : f b = some (.inr (3, [.int 0, .null, .null, .null, .null, .int 0, .int 0]))) : g_C l y_CL_init b_CL_init 2 none { frames := 4, cells := 11, slots := 3216, locals := 80 } D g_cl (g_tys cI cZ cO cJ) (z_Z eA eM) [.ref b, .int x] f (fun r f2 => r = none ∧ ∃ ad : Nat → Nat, ad 0 = b ∧ ad 2 = eA ∧ cl_R cI cZ cO f2 ad (lif x) 0 (fun _ => 0) (fun _ => 0) (fun _ _ => 0) (fun _ _ => 0) (fun _ _ => false) (fun _ => 0) (fun _ => 0) (fun _ => 0) 0 (fun _ => 0) (fun _ => 0) (fun _ => 0) (fun _ => 0) (fun _ => 0) 0 (fun _ => 0) 0 0 0 0 ∧ (∀ i j, i < 13 → j < 13 → ad i = ad j → i = j) ∧ (∀ i, i < 13 → i ≠ 0 → i ≠ 2 → f (ad i) = none) ∧ (∀ q x, f q = some x → q ≠ b → f2 q = some x)) (fun _ => False) := by
  refine g_ofW [(0, .ref b), (1, .int x)] (by decide +kernel) (Nat.le_of_ble_eq_true rfl) rfl ?_
  intro p e s m args below meth c X ht hin
  have fr_0 : ∀ q x, f q = some x → q ≠ b → f q = some x := fun q x h1 _ => h1
  refine g_aload_n X d_CL_init_0 0 rfl ?_
  refine g_objI X q_26 (Nat.le_of_ble_eq_true rfl) (Nat.le_of_ble_eq_true rfl) d_CL_init_1 ?_
  refine g_aload_n X d_CL_init_4 0 rfl ?_
  refine g_iconst (v := 1) X d_CL_init_5 (by decide) ?_
  refine g_sipush (v := 5000) X d_CL_init_6 (by decide) ?_
  refine g_iload_n X d_CL_init_9 1 rfl ?_
  refine g_mminI X q_29 (Nat.le_of_ble_eq_true rfl) (Nat.le_of_ble_eq_true rfl) (Nat.le_of_ble_eq_true rfl) (Nat.le_of_ble_eq_true rfl) d_CL_init_10 ?_
  refine g_mmaxI X q_32 (Nat.le_of_ble_eq_true rfl) (Nat.le_of_ble_eq_true rfl) (Nat.le_of_ble_eq_true rfl) (Nat.le_of_ble_eq_true rfl) d_CL_init_13 ?_
  refine g_eqi (y := nI (lif x)) (lif_m x) ?_
  refine g_putF (ci := 3) (C := R_CL) (T := F_CL) (N := 7) (ty := .int) (fs2 := [.int (nI (lif x)), .null, .null, .null, .null, .int 0, .int 0]) X i_CL t_CL t_CL_ok n_CL rfl hb 0 (by decide) q_103 (fun _ h9 => h9) rfl hin rfl (by decide +kernel) rfl rfl (Nat.le_of_ble_eq_true rfl) rfl d_CL_init_16 ?_
  generalize ef_1 : g_u f b (.inr (3, [.int (nI (lif x)), .null, .null, .null, .null, .int 0, .int 0])) = f_1
  have h_2 : f_1 b = some (.inr (3, [.int (nI (lif x)), .null, .null, .null, .null, .int 0, .int 0])) := by rw [← ef_1]; exact g_u_s
  have fr_3 : ∀ q x, f q = some x → q ≠ b → f_1 q = some x := fun q x h1 h2 => by rw [← ef_1]; exact (g_u_n h2).trans (fr_0 q x h1 h2)
  refine g_aload_n X d_CL_init_19 0 rfl ?_
  refine g_new (ci := 0) (C := R_AL) (T := F_AL) (N := 3) (fs := [.null, .int 0, .int 0]) X i_AL t_AL t_AL_ok q_35 q_36 q_5 rfl (fun j hj => match j, hj with | 0, _ => rfl | 1, _ => rfl | 2, _ => rfl | j + 3, hj => absurd hj (by omega)) (Nat.le_of_ble_eq_true rfl) (Nat.le_of_ble_eq_true rfl) d_CL_init_20 (fun q4 hq4 => ?_)
  have nn_5 : f q4 = none := g_none fr_3 hq4 (Ne.symm (g_nf h_2 hq4))
  generalize ef_6 : g_u f_1 q4 (.inr (0, [.null, .int 0, .int 0])) = f_6
  have n_7 : b ≠ q4 := g_nf h_2 hq4
  have h_8 : f_6 b = some (.inr (3, [.int (nI (lif x)), .null, .null, .null, .null, .int 0, .int 0])) := by rw [← ef_6]; exact (g_u_n n_7).trans h_2
  have h_9 : f_6 q4 = some (.inr (0, [.null, .int 0, .int 0])) := by rw [← ef_6]; exact g_u_s
  have nf_10 : ∀ q x, f q = some x → q ≠ b → q ≠ q4 := fun q x h1 h2 => g_nf (fr_3 q x h1 h2) hq4
  have fr_11 : ∀ q x, f q = some x → q ≠ b → f_6 q = some x := fun q x h1 h2 => by rw [← ef_6]; exact (g_u_n (nf_10 q x h1 h2)).trans (fr_3 q x h1 h2)
  refine g_dup X d_CL_init_23 rfl ?_
  refine g_callI (ret2 := none) (As := []) (rest := [.ref q4, .ref b]) X (z_ok eA eM) (c_AL_init h_9) v_AL_init q_38 rfl q_37 (fun _ h => h) rfl rfl (Nat.le_of_ble_eq_true rfl) d_CL_init_24 ⟨(Nat.le_of_ble_eq_true rfl), (Nat.le_of_ble_eq_true rfl)⟩ ⟨(Nat.le_of_ble_eq_true rfl), (Nat.le_of_ble_eq_true rfl)⟩ (fun r_ f2_ hp => ?_)
  obtain ⟨rfl, rfl⟩ := hp
  refine g_st (st2 := [.ref q4, .ref b]) rfl ?_
  generalize ef_12 : g_u f_6 q4 (.inr (0, [.ref eA, .int 0, .int 0])) = f_12
  have h_13 : f_12 b = some (.inr (3, [.int (nI (lif x)), .null, .null, .null, .null, .int 0, .int 0])) := by rw [← ef_12]; exact (g_u_n (n_7)).trans h_8
  have h_14 : f_12 q4 = some (.inr (0, [.ref eA, .int 0, .int 0])) := by rw [← ef_12]; exact g_u_s
  have fr_15 : ∀ q x, f q = some x → q ≠ b → f_12 q = some x := fun q x h1 h2 => by rw [← ef_12]; exact (g_u_n (nf_10 q x h1 h2)).trans (fr_11 q x h1 h2)
  refine g_putF (ci := 3) (C := R_CL) (T := F_CL) (N := 7) (ty := .object "java/util/ArrayList") (fs2 := [.int (nI (lif x)), .ref q4, .null, .null, .null, .int 0, .int 0]) X i_CL t_CL t_CL_ok n_CL rfl h_13 1 (by decide) q_104 (fun _ h9 => h9) rfl hin rfl (by decide +kernel) rfl rfl (Nat.le_of_ble_eq_true rfl) rfl d_CL_init_27 ?_
  generalize ef_16 : g_u f_12 b (.inr (3, [.int (nI (lif x)), .ref q4, .null, .null, .null, .int 0, .int 0])) = f_16
  have h_17 : f_16 b = some (.inr (3, [.int (nI (lif x)), .ref q4, .null, .null, .null, .int 0, .int 0])) := by rw [← ef_16]; exact g_u_s
  have h_18 : f_16 q4 = some (.inr (0, [.ref eA, .int 0, .int 0])) := by rw [← ef_16]; exact (g_u_n (Ne.symm n_7)).trans h_14
  have fr_19 : ∀ q x, f q = some x → q ≠ b → f_16 q = some x := fun q x h1 h2 => by rw [← ef_16]; exact (g_u_n h2).trans (fr_15 q x h1 h2)
  refine g_aload_n X d_CL_init_30 0 rfl ?_
  refine g_new (ci := 1) (C := R_TL) (T := F_TL) (N := 3) (fs := [.null, .null, .int 0]) X i_TL t_TL t_TL_ok q_61 q_62 q_6 rfl (fun j hj => match j, hj with | 0, _ => rfl | 1, _ => rfl | 2, _ => rfl | j + 3, hj => absurd hj (by omega)) (Nat.le_of_ble_eq_true rfl) (Nat.le_of_ble_eq_true rfl) d_CL_init_31 (fun q20 hq20 => ?_)
  have nn_21 : f q20 = none := g_none fr_19 hq20 (Ne.symm (g_nf h_17 hq20))
  generalize ef_22 : g_u f_16 q20 (.inr (1, [.null, .null, .int 0])) = f_22
  have n_23 : b ≠ q20 := g_nf h_17 hq20
  have h_24 : f_22 b = some (.inr (3, [.int (nI (lif x)), .ref q4, .null, .null, .null, .int 0, .int 0])) := by rw [← ef_22]; exact (g_u_n n_23).trans h_17
  have n_25 : q4 ≠ q20 := g_nf h_18 hq20
  have h_26 : f_22 q4 = some (.inr (0, [.ref eA, .int 0, .int 0])) := by rw [← ef_22]; exact (g_u_n n_25).trans h_18
  have h_27 : f_22 q20 = some (.inr (1, [.null, .null, .int 0])) := by rw [← ef_22]; exact g_u_s
  have nf_28 : ∀ q x, f q = some x → q ≠ b → q ≠ q20 := fun q x h1 h2 => g_nf (fr_19 q x h1 h2) hq20
  have fr_29 : ∀ q x, f q = some x → q ≠ b → f_22 q = some x := fun q x h1 h2 => by rw [← ef_22]; exact (g_u_n (nf_28 q x h1 h2)).trans (fr_19 q x h1 h2)
  refine g_dup X d_CL_init_34 rfl ?_
  refine g_callI (ret2 := none) (As := []) (rest := [.ref q20, .ref b]) X (z_ok eA eM) (c_TL_init h_27) v_TL_init q_64 rfl q_63 (fun _ h => h) rfl rfl (Nat.le_of_ble_eq_true rfl) d_CL_init_35 ⟨(Nat.le_of_ble_eq_true rfl), (Nat.le_of_ble_eq_true rfl)⟩ ⟨(Nat.le_of_ble_eq_true rfl), (Nat.le_of_ble_eq_true rfl)⟩ (fun r_ f2_t hp => ?_)
  obtain ⟨rfl, b4, hT4, hn4, hf4, hr4⟩ := hp
  refine g_st (st2 := [.ref q20, .ref b]) rfl ?_
  have h_30 : f2_t b = some (.inr (3, [.int (nI (lif x)), .ref q4, .null, .null, .null, .int 0, .int 0])) := hr4 _ _ h_24 n_23
  have h_31 : f2_t q4 = some (.inr (0, [.ref eA, .int 0, .int 0])) := hr4 _ _ h_26 n_25
  have h_32 : f2_t q20 = some (.inr (1, [.ref (b4 0), .ref (b4 1), .int (nI 0)])) := hT4.1
  have n_33 : b ≠ b4 0 := g_nf h_24 (hf4 0 (by decide))
  have n_34 : q4 ≠ b4 0 := g_nf h_26 (hf4 0 (by decide))
  have n_35 : q20 ≠ b4 0 := g_nf h_27 (hf4 0 (by decide))
  have nn_36 : f (b4 0) = none := g_none fr_29 (hf4 0 (by decide)) (Ne.symm n_33)
  have nf_37 : ∀ q x, f q = some x → q ≠ b → q ≠ b4 0 := fun q x h1 h2 => g_nf (fr_29 q x h1 h2) (hf4 0 (by decide))
  have h_38 : f2_t (b4 0) = some (.inl (cI, 512, .inl (fun q9 => nI ((fun _ => 0) q9)))) := hT4.2.1
  have n_39 : b ≠ b4 1 := g_nf h_24 (hf4 1 (by decide))
  have n_40 : q4 ≠ b4 1 := g_nf h_26 (hf4 1 (by decide))
  have n_41 : q20 ≠ b4 1 := g_nf h_27 (hf4 1 (by decide))
  have nn_42 : f (b4 1) = none := g_none fr_29 (hf4 1 (by decide)) (Ne.symm n_39)
  have nf_43 : ∀ q x, f q = some x → q ≠ b → q ≠ b4 1 := fun q x h1 h2 => g_nf (fr_29 q x h1 h2) (hf4 1 (by decide))
  have h_44 : f2_t (b4 1) = some (.inl (cI, 512, .inl (fun q9 => nI ((fun _ => 0) q9)))) := hT4.2.2
  have n_45 : b4 0 ≠ b4 1 := hn4
  have fr_46 : ∀ q x, f q = some x → q ≠ b → f2_t q = some x := fun q x h1 h2 => hr4 q x (fr_29 q x h1 h2) (nf_28 q x h1 h2)
  refine g_putF (ci := 3) (C := R_CL) (T := F_CL) (N := 7) (ty := .object "CaseLists$TouchLog") (fs2 := [.int (nI (lif x)), .ref q4, .ref q20, .null, .null, .int 0, .int 0]) X i_CL t_CL t_CL_ok n_CL rfl h_30 2 (by decide) q_105 (fun _ h9 => h9) rfl hin rfl (by decide +kernel) rfl rfl (Nat.le_of_ble_eq_true rfl) rfl d_CL_init_38 ?_
  generalize ef_47 : g_u f2_t b (.inr (3, [.int (nI (lif x)), .ref q4, .ref q20, .null, .null, .int 0, .int 0])) = f_47
  have h_48 : f_47 b = some (.inr (3, [.int (nI (lif x)), .ref q4, .ref q20, .null, .null, .int 0, .int 0])) := by rw [← ef_47]; exact g_u_s
  have h_49 : f_47 q4 = some (.inr (0, [.ref eA, .int 0, .int 0])) := by rw [← ef_47]; exact (g_u_n (Ne.symm n_7)).trans h_31
  have h_50 : f_47 q20 = some (.inr (1, [.ref (b4 0), .ref (b4 1), .int (nI 0)])) := by rw [← ef_47]; exact (g_u_n (Ne.symm n_23)).trans h_32
  have h_51 : f_47 (b4 0) = some (.inl (cI, 512, .inl (fun q9 => nI ((fun _ => 0) q9)))) := by rw [← ef_47]; exact (g_u_n (Ne.symm n_33)).trans h_38
  have h_52 : f_47 (b4 1) = some (.inl (cI, 512, .inl (fun q9 => nI ((fun _ => 0) q9)))) := by rw [← ef_47]; exact (g_u_n (Ne.symm n_39)).trans h_44
  have fr_53 : ∀ q x, f q = some x → q ≠ b → f_47 q = some x := fun q x h1 h2 => by rw [← ef_47]; exact (g_u_n h2).trans (fr_46 q x h1 h2)
  refine g_aload_n X d_CL_init_41 0 rfl ?_
  refine g_new (ci := 2) (C := R_TU) (T := F_TU) (N := 6) (fs := [.null, .null, .null, .null, .null, .int 0]) X i_TU t_TU t_TU_ok q_78 q_79 q_7 rfl (fun j hj => match j, hj with | 0, _ => rfl | 1, _ => rfl | 2, _ => rfl | 3, _ => rfl | 4, _ => rfl | 5, _ => rfl | j + 6, hj => absurd hj (by omega)) (Nat.le_of_ble_eq_true rfl) (Nat.le_of_ble_eq_true rfl) d_CL_init_42 (fun q54 hq54 => ?_)
  have nn_55 : f q54 = none := g_none fr_53 hq54 (Ne.symm (g_nf h_48 hq54))
  generalize ef_56 : g_u f_47 q54 (.inr (2, [.null, .null, .null, .null, .null, .int 0])) = f_56
  have n_57 : b ≠ q54 := g_nf h_48 hq54
  have h_58 : f_56 b = some (.inr (3, [.int (nI (lif x)), .ref q4, .ref q20, .null, .null, .int 0, .int 0])) := by rw [← ef_56]; exact (g_u_n n_57).trans h_48
  have n_59 : q4 ≠ q54 := g_nf h_49 hq54
  have h_60 : f_56 q4 = some (.inr (0, [.ref eA, .int 0, .int 0])) := by rw [← ef_56]; exact (g_u_n n_59).trans h_49
  have n_61 : q20 ≠ q54 := g_nf h_50 hq54
  have h_62 : f_56 q20 = some (.inr (1, [.ref (b4 0), .ref (b4 1), .int (nI 0)])) := by rw [← ef_56]; exact (g_u_n n_61).trans h_50
  have n_63 : b4 0 ≠ q54 := g_nf h_51 hq54
  have h_64 : f_56 (b4 0) = some (.inl (cI, 512, .inl (fun q9 => nI ((fun _ => 0) q9)))) := by rw [← ef_56]; exact (g_u_n n_63).trans h_51
  have n_65 : b4 1 ≠ q54 := g_nf h_52 hq54
  have h_66 : f_56 (b4 1) = some (.inl (cI, 512, .inl (fun q9 => nI ((fun _ => 0) q9)))) := by rw [← ef_56]; exact (g_u_n n_65).trans h_52
  have h_67 : f_56 q54 = some (.inr (2, [.null, .null, .null, .null, .null, .int 0])) := by rw [← ef_56]; exact g_u_s
  have nf_68 : ∀ q x, f q = some x → q ≠ b → q ≠ q54 := fun q x h1 h2 => g_nf (fr_53 q x h1 h2) hq54
  have fr_69 : ∀ q x, f q = some x → q ≠ b → f_56 q = some x := fun q x h1 h2 => by rw [← ef_56]; exact (g_u_n (nf_68 q x h1 h2)).trans (fr_53 q x h1 h2)
  refine g_dup X d_CL_init_45 rfl ?_
  refine g_callI (ret2 := none) (As := []) (rest := [.ref q54, .ref b]) X (z_ok eA eM) (c_TU_init h_67) v_TU_init q_81 rfl q_80 (fun _ h => h) rfl rfl (Nat.le_of_ble_eq_true rfl) d_CL_init_46 ⟨(Nat.le_of_ble_eq_true rfl), (Nat.le_of_ble_eq_true rfl)⟩ ⟨(Nat.le_of_ble_eq_true rfl), (Nat.le_of_ble_eq_true rfl)⟩ (fun r_ f2_u hp => ?_)
  obtain ⟨rfl, a7, hU7, hi7, hf7, hr7⟩ := hp
  refine g_st (st2 := [.ref q54, .ref b]) rfl ?_
  have h_70 : f2_u b = some (.inr (3, [.int (nI (lif x)), .ref q4, .ref q20, .null, .null, .int 0, .int 0])) := hr7 _ _ h_58 n_57
  have h_71 : f2_u q4 = some (.inr (0, [.ref eA, .int 0, .int 0])) := hr7 _ _ h_60 n_59
  have h_72 : f2_u q20 = some (.inr (1, [.ref (b4 0), .ref (b4 1), .int (nI 0)])) := hr7 _ _ h_62 n_61
  have h_73 : f2_u (b4 0) = some (.inl (cI, 512, .inl (fun q9 => nI ((fun _ => 0) q9)))) := hr7 _ _ h_64 n_63
  have h_74 : f2_u (b4 1) = some (.inl (cI, 512, .inl (fun q9 => nI ((fun _ => 0) q9)))) := hr7 _ _ h_66 n_65
  have h_75 : f2_u q54 = some (.inr (2, [.ref (a7 0), .ref (a7 1), .ref (a7 2), .ref (a7 3), .ref (a7 4), .int (nI 0)])) := hU7.1
  have n_76 : b ≠ a7 0 := g_nf h_58 (hf7 0 (by decide))
  have n_77 : q4 ≠ a7 0 := g_nf h_60 (hf7 0 (by decide))
  have n_78 : q20 ≠ a7 0 := g_nf h_62 (hf7 0 (by decide))
  have n_79 : b4 0 ≠ a7 0 := g_nf h_64 (hf7 0 (by decide))
  have n_80 : b4 1 ≠ a7 0 := g_nf h_66 (hf7 0 (by decide))
  have n_81 : q54 ≠ a7 0 := g_nf h_67 (hf7 0 (by decide))
  have nn_82 : f (a7 0) = none := g_none fr_69 (hf7 0 (by decide)) (Ne.symm n_76)
  have nf_83 : ∀ q x, f q = some x → q ≠ b → q ≠ a7 0 := fun q x h1 h2 => g_nf (fr_69 q x h1 h2) (hf7 0 (by decide))
  have h_84 : f2_u (a7 0) = some (.inl (cI, 8, .inl (fun q9 => nI ((fun _ => 0) q9)))) := hU7.2.1
  have n_85 : b ≠ a7 1 := g_nf h_58 (hf7 1 (by decide))
  have n_86 : q4 ≠ a7 1 := g_nf h_60 (hf7 1 (by decide))
  have n_87 : q20 ≠ a7 1 := g_nf h_62 (hf7 1 (by decide))
  have n_88 : b4 0 ≠ a7 1 := g_nf h_64 (hf7 1 (by decide))
  have n_89 : b4 1 ≠ a7 1 := g_nf h_66 (hf7 1 (by decide))
  have n_90 : q54 ≠ a7 1 := g_nf h_67 (hf7 1 (by decide))
  have nn_91 : f (a7 1) = none := g_none fr_69 (hf7 1 (by decide)) (Ne.symm n_85)
  have nf_92 : ∀ q x, f q = some x → q ≠ b → q ≠ a7 1 := fun q x h1 h2 => g_nf (fr_69 q x h1 h2) (hf7 1 (by decide))
  have h_93 : f2_u (a7 1) = some (.inl (cI, 8, .inl (fun q9 => nI ((fun _ => 0) q9)))) := hU7.2.2.1
  have n_94 : b ≠ a7 2 := g_nf h_58 (hf7 2 (by decide))
  have n_95 : q4 ≠ a7 2 := g_nf h_60 (hf7 2 (by decide))
  have n_96 : q20 ≠ a7 2 := g_nf h_62 (hf7 2 (by decide))
  have n_97 : b4 0 ≠ a7 2 := g_nf h_64 (hf7 2 (by decide))
  have n_98 : b4 1 ≠ a7 2 := g_nf h_66 (hf7 2 (by decide))
  have n_99 : q54 ≠ a7 2 := g_nf h_67 (hf7 2 (by decide))
  have nn_100 : f (a7 2) = none := g_none fr_69 (hf7 2 (by decide)) (Ne.symm n_94)
  have nf_101 : ∀ q x, f q = some x → q ≠ b → q ≠ a7 2 := fun q x h1 h2 => g_nf (fr_69 q x h1 h2) (hf7 2 (by decide))
  have h_102 : f2_u (a7 2) = some (.inl (cI, 8, .inl (fun q9 => nI ((fun _ => 0) q9)))) := hU7.2.2.2.1
  have n_103 : b ≠ a7 3 := g_nf h_58 (hf7 3 (by decide))
  have n_104 : q4 ≠ a7 3 := g_nf h_60 (hf7 3 (by decide))
  have n_105 : q20 ≠ a7 3 := g_nf h_62 (hf7 3 (by decide))
  have n_106 : b4 0 ≠ a7 3 := g_nf h_64 (hf7 3 (by decide))
  have n_107 : b4 1 ≠ a7 3 := g_nf h_66 (hf7 3 (by decide))
  have n_108 : q54 ≠ a7 3 := g_nf h_67 (hf7 3 (by decide))
  have nn_109 : f (a7 3) = none := g_none fr_69 (hf7 3 (by decide)) (Ne.symm n_103)
  have nf_110 : ∀ q x, f q = some x → q ≠ b → q ≠ a7 3 := fun q x h1 h2 => g_nf (fr_69 q x h1 h2) (hf7 3 (by decide))
  have h_111 : f2_u (a7 3) = some (.inl (cI, 100, .inl (fun q9 => nI ((fun _ => 0) q9)))) := hU7.2.2.2.2.1
  have n_112 : b ≠ a7 4 := g_nf h_58 (hf7 4 (by decide))
  have n_113 : q4 ≠ a7 4 := g_nf h_60 (hf7 4 (by decide))
  have n_114 : q20 ≠ a7 4 := g_nf h_62 (hf7 4 (by decide))
  have n_115 : b4 0 ≠ a7 4 := g_nf h_64 (hf7 4 (by decide))
  have n_116 : b4 1 ≠ a7 4 := g_nf h_66 (hf7 4 (by decide))
  have n_117 : q54 ≠ a7 4 := g_nf h_67 (hf7 4 (by decide))
  have nn_118 : f (a7 4) = none := g_none fr_69 (hf7 4 (by decide)) (Ne.symm n_112)
  have nf_119 : ∀ q x, f q = some x → q ≠ b → q ≠ a7 4 := fun q x h1 h2 => g_nf (fr_69 q x h1 h2) (hf7 4 (by decide))
  have h_120 : f2_u (a7 4) = some (.inl (cI, 2048, .inl (fun q9 => nI ((fun _ => 0) q9)))) := hU7.2.2.2.2.2
  have n_121 : a7 0 ≠ a7 1 := fun z => absurd (hi7 0 1 (by decide) (by decide) z) (by decide)
  have n_122 : a7 0 ≠ a7 2 := fun z => absurd (hi7 0 2 (by decide) (by decide) z) (by decide)
  have n_123 : a7 0 ≠ a7 3 := fun z => absurd (hi7 0 3 (by decide) (by decide) z) (by decide)
  have n_124 : a7 0 ≠ a7 4 := fun z => absurd (hi7 0 4 (by decide) (by decide) z) (by decide)
  have n_125 : a7 1 ≠ a7 2 := fun z => absurd (hi7 1 2 (by decide) (by decide) z) (by decide)
  have n_126 : a7 1 ≠ a7 3 := fun z => absurd (hi7 1 3 (by decide) (by decide) z) (by decide)
  have n_127 : a7 1 ≠ a7 4 := fun z => absurd (hi7 1 4 (by decide) (by decide) z) (by decide)
  have n_128 : a7 2 ≠ a7 3 := fun z => absurd (hi7 2 3 (by decide) (by decide) z) (by decide)
  have n_129 : a7 2 ≠ a7 4 := fun z => absurd (hi7 2 4 (by decide) (by decide) z) (by decide)
  have n_130 : a7 3 ≠ a7 4 := fun z => absurd (hi7 3 4 (by decide) (by decide) z) (by decide)
  have fr_131 : ∀ q x, f q = some x → q ≠ b → f2_u q = some x := fun q x h1 h2 => hr7 q x (fr_69 q x h1 h2) (nf_68 q x h1 h2)
  refine g_putF (ci := 3) (C := R_CL) (T := F_CL) (N := 7) (ty := .object "CaseLists$Tours") (fs2 := [.int (nI (lif x)), .ref q4, .ref q20, .ref q54, .null, .int 0, .int 0]) X i_CL t_CL t_CL_ok n_CL rfl h_70 3 (by decide) q_106 (fun _ h9 => h9) rfl hin rfl (by decide +kernel) rfl rfl (Nat.le_of_ble_eq_true rfl) rfl d_CL_init_49 ?_
  generalize ef_132 : g_u f2_u b (.inr (3, [.int (nI (lif x)), .ref q4, .ref q20, .ref q54, .null, .int 0, .int 0])) = f_132
  have h_133 : f_132 b = some (.inr (3, [.int (nI (lif x)), .ref q4, .ref q20, .ref q54, .null, .int 0, .int 0])) := by rw [← ef_132]; exact g_u_s
  have h_134 : f_132 q4 = some (.inr (0, [.ref eA, .int 0, .int 0])) := by rw [← ef_132]; exact (g_u_n (Ne.symm n_7)).trans h_71
  have h_135 : f_132 q20 = some (.inr (1, [.ref (b4 0), .ref (b4 1), .int (nI 0)])) := by rw [← ef_132]; exact (g_u_n (Ne.symm n_23)).trans h_72
  have h_136 : f_132 (b4 0) = some (.inl (cI, 512, .inl (fun q9 => nI ((fun _ => 0) q9)))) := by rw [← ef_132]; exact (g_u_n (Ne.symm n_33)).trans h_73
  have h_137 : f_132 (b4 1) = some (.inl (cI, 512, .inl (fun q9 => nI ((fun _ => 0) q9)))) := by rw [← ef_132]; exact (g_u_n (Ne.symm n_39)).trans h_74
  have h_138 : f_132 q54 = some (.inr (2, [.ref (a7 0), .ref (a7 1), .ref (a7 2), .ref (a7 3), .ref (a7 4), .int (nI 0)])) := by rw [← ef_132]; exact (g_u_n (Ne.symm n_57)).trans h_75
  have h_139 : f_132 (a7 0) = some (.inl (cI, 8, .inl (fun q9 => nI ((fun _ => 0) q9)))) := by rw [← ef_132]; exact (g_u_n (Ne.symm n_76)).trans h_84
  have h_140 : f_132 (a7 1) = some (.inl (cI, 8, .inl (fun q9 => nI ((fun _ => 0) q9)))) := by rw [← ef_132]; exact (g_u_n (Ne.symm n_85)).trans h_93
  have h_141 : f_132 (a7 2) = some (.inl (cI, 8, .inl (fun q9 => nI ((fun _ => 0) q9)))) := by rw [← ef_132]; exact (g_u_n (Ne.symm n_94)).trans h_102
  have h_142 : f_132 (a7 3) = some (.inl (cI, 100, .inl (fun q9 => nI ((fun _ => 0) q9)))) := by rw [← ef_132]; exact (g_u_n (Ne.symm n_103)).trans h_111
  have h_143 : f_132 (a7 4) = some (.inl (cI, 2048, .inl (fun q9 => nI ((fun _ => 0) q9)))) := by rw [← ef_132]; exact (g_u_n (Ne.symm n_112)).trans h_120
  have fr_144 : ∀ q x, f q = some x → q ≠ b → f_132 q = some x := fun q x h1 h2 => by rw [← ef_132]; exact (g_u_n h2).trans (fr_131 q x h1 h2)
  refine g_aload_n X d_CL_init_52 0 rfl ?_
  refine g_bipush (v := 8) X d_CL_init_53 (by decide) ?_
  refine g_newi (t0 := 0) (N := 8) X q_77 rfl (by decide) (by decide) (by decide) (Nat.le_of_ble_eq_true rfl) (Nat.le_of_ble_eq_true rfl) d_CL_init_55 (fun q145 hq145 => ?_)
  have nn_146 : f q145 = none := g_none fr_144 hq145 (Ne.symm (g_nf h_133 hq145))
  generalize ef_147 : g_u f_132 q145 (.inl (cI, 8, .inl (fun _ => 0))) = f_147
  have n_148 : b ≠ q145 := g_nf h_133 hq145
  have h_149 : f_147 b = some (.inr (3, [.int (nI (lif x)), .ref q4, .ref q20, .ref q54, .null, .int 0, .int 0])) := by rw [← ef_147]; exact (g_u_n n_148).trans h_133
  have n_150 : q4 ≠ q145 := g_nf h_134 hq145
  have h_151 : f_147 q4 = some (.inr (0, [.ref eA, .int 0, .int 0])) := by rw [← ef_147]; exact (g_u_n n_150).trans h_134
  have n_152 : q20 ≠ q145 := g_nf h_135 hq145
  have h_153 : f_147 q20 = some (.inr (1, [.ref (b4 0), .ref (b4 1), .int (nI 0)])) := by rw [← ef_147]; exact (g_u_n n_152).trans h_135
  have n_154 : b4 0 ≠ q145 := g_nf h_136 hq145
  have h_155 : f_147 (b4 0) = some (.inl (cI, 512, .inl (fun q9 => nI ((fun _ => 0) q9)))) := by rw [← ef_147]; exact (g_u_n n_154).trans h_136
  have n_156 : b4 1 ≠ q145 := g_nf h_137 hq145
  have h_157 : f_147 (b4 1) = some (.inl (cI, 512, .inl (fun q9 => nI ((fun _ => 0) q9)))) := by rw [← ef_147]; exact (g_u_n n_156).trans h_137
  have n_158 : q54 ≠ q145 := g_nf h_138 hq145
  have h_159 : f_147 q54 = some (.inr (2, [.ref (a7 0), .ref (a7 1), .ref (a7 2), .ref (a7 3), .ref (a7 4), .int (nI 0)])) := by rw [← ef_147]; exact (g_u_n n_158).trans h_138
  have n_160 : a7 0 ≠ q145 := g_nf h_139 hq145
  have h_161 : f_147 (a7 0) = some (.inl (cI, 8, .inl (fun q9 => nI ((fun _ => 0) q9)))) := by rw [← ef_147]; exact (g_u_n n_160).trans h_139
  have n_162 : a7 1 ≠ q145 := g_nf h_140 hq145
  have h_163 : f_147 (a7 1) = some (.inl (cI, 8, .inl (fun q9 => nI ((fun _ => 0) q9)))) := by rw [← ef_147]; exact (g_u_n n_162).trans h_140
  have n_164 : a7 2 ≠ q145 := g_nf h_141 hq145
  have h_165 : f_147 (a7 2) = some (.inl (cI, 8, .inl (fun q9 => nI ((fun _ => 0) q9)))) := by rw [← ef_147]; exact (g_u_n n_164).trans h_141
  have n_166 : a7 3 ≠ q145 := g_nf h_142 hq145
  have h_167 : f_147 (a7 3) = some (.inl (cI, 100, .inl (fun q9 => nI ((fun _ => 0) q9)))) := by rw [← ef_147]; exact (g_u_n n_166).trans h_142
  have n_168 : a7 4 ≠ q145 := g_nf h_143 hq145
  have h_169 : f_147 (a7 4) = some (.inl (cI, 2048, .inl (fun q9 => nI ((fun _ => 0) q9)))) := by rw [← ef_147]; exact (g_u_n n_168).trans h_143
  have h_170 : f_147 q145 = some (.inl (cI, 8, .inl (fun _ => 0))) := by rw [← ef_147]; exact g_u_s
  have nf_171 : ∀ q x, f q = some x → q ≠ b → q ≠ q145 := fun q x h1 h2 => g_nf (fr_144 q x h1 h2) hq145
  have fr_172 : ∀ q x, f q = some x → q ≠ b → f_147 q = some x := fun q x h1 h2 => by rw [← ef_147]; exact (g_u_n (nf_171 q x h1 h2)).trans (fr_144 q x h1 h2)
  refine g_putF (ci := 3) (C := R_CL) (T := F_CL) (N := 7) (ty := .array .int) (fs2 := [.int (nI (lif x)), .ref q4, .ref q20, .ref q54, .ref q145, .int 0, .int 0]) X i_CL t_CL t_CL_ok n_CL rfl h_149 4 (by decide) q_107 (fun _ h9 => h9) rfl hin rfl (by decide +kernel) rfl rfl (Nat.le_of_ble_eq_true rfl) rfl d_CL_init_57 ?_
  generalize ef_173 : g_u f_147 b (.inr (3, [.int (nI (lif x)), .ref q4, .ref q20, .ref q54, .ref q145, .int 0, .int 0])) = f_173
  have h_174 : f_173 b = some (.inr (3, [.int (nI (lif x)), .ref q4, .ref q20, .ref q54, .ref q145, .int 0, .int 0])) := by rw [← ef_173]; exact g_u_s
  have h_175 : f_173 q4 = some (.inr (0, [.ref eA, .int 0, .int 0])) := by rw [← ef_173]; exact (g_u_n (Ne.symm n_7)).trans h_151
  have h_176 : f_173 q20 = some (.inr (1, [.ref (b4 0), .ref (b4 1), .int (nI 0)])) := by rw [← ef_173]; exact (g_u_n (Ne.symm n_23)).trans h_153
  have h_177 : f_173 (b4 0) = some (.inl (cI, 512, .inl (fun q9 => nI ((fun _ => 0) q9)))) := by rw [← ef_173]; exact (g_u_n (Ne.symm n_33)).trans h_155
  have h_178 : f_173 (b4 1) = some (.inl (cI, 512, .inl (fun q9 => nI ((fun _ => 0) q9)))) := by rw [← ef_173]; exact (g_u_n (Ne.symm n_39)).trans h_157
  have h_179 : f_173 q54 = some (.inr (2, [.ref (a7 0), .ref (a7 1), .ref (a7 2), .ref (a7 3), .ref (a7 4), .int (nI 0)])) := by rw [← ef_173]; exact (g_u_n (Ne.symm n_57)).trans h_159
  have h_180 : f_173 (a7 0) = some (.inl (cI, 8, .inl (fun q9 => nI ((fun _ => 0) q9)))) := by rw [← ef_173]; exact (g_u_n (Ne.symm n_76)).trans h_161
  have h_181 : f_173 (a7 1) = some (.inl (cI, 8, .inl (fun q9 => nI ((fun _ => 0) q9)))) := by rw [← ef_173]; exact (g_u_n (Ne.symm n_85)).trans h_163
  have h_182 : f_173 (a7 2) = some (.inl (cI, 8, .inl (fun q9 => nI ((fun _ => 0) q9)))) := by rw [← ef_173]; exact (g_u_n (Ne.symm n_94)).trans h_165
  have h_183 : f_173 (a7 3) = some (.inl (cI, 100, .inl (fun q9 => nI ((fun _ => 0) q9)))) := by rw [← ef_173]; exact (g_u_n (Ne.symm n_103)).trans h_167
  have h_184 : f_173 (a7 4) = some (.inl (cI, 2048, .inl (fun q9 => nI ((fun _ => 0) q9)))) := by rw [← ef_173]; exact (g_u_n (Ne.symm n_112)).trans h_169
  have h_185 : f_173 q145 = some (.inl (cI, 8, .inl (fun _ => 0))) := by rw [← ef_173]; exact (g_u_n (Ne.symm n_148)).trans h_170
  have fr_186 : ∀ q x, f q = some x → q ≠ b → f_173 q = some x := fun q x h1 h2 => by rw [← ef_173]; exact (g_u_n h2).trans (fr_172 q x h1 h2)
  refine g_aload_n X d_CL_init_60 0 rfl ?_
  refine g_iconst (v := 0) X d_CL_init_61 (by decide) ?_
  refine g_put (ci := 3) (C := R_CL) (T := F_CL) (N := 7) (ty := .int) (fs2 := [.int (nI (lif x)), .ref q4, .ref q20, .ref q54, .ref q145, .int 0, .int 0]) X i_CL t_CL t_CL_ok n_CL rfl h_174 5 (by decide) q_108 (fun _ h9 => h9) rfl (by decide +kernel) rfl rfl (Nat.le_of_ble_eq_true rfl) rfl d_CL_init_62 ?_
  generalize ef_187 : g_u f_173 b (.inr (3, [.int (nI (lif x)), .ref q4, .ref q20, .ref q54, .ref q145, .int 0, .int 0])) = f_187
  have h_188 : f_187 b = some (.inr (3, [.int (nI (lif x)), .ref q4, .ref q20, .ref q54, .ref q145, .int 0, .int 0])) := by rw [← ef_187]; exact g_u_s
  have h_189 : f_187 q4 = some (.inr (0, [.ref eA, .int 0, .int 0])) := by rw [← ef_187]; exact (g_u_n (Ne.symm n_7)).trans h_175
  have h_190 : f_187 q20 = some (.inr (1, [.ref (b4 0), .ref (b4 1), .int (nI 0)])) := by rw [← ef_187]; exact (g_u_n (Ne.symm n_23)).trans h_176
  have h_191 : f_187 (b4 0) = some (.inl (cI, 512, .inl (fun q9 => nI ((fun _ => 0) q9)))) := by rw [← ef_187]; exact (g_u_n (Ne.symm n_33)).trans h_177
  have h_192 : f_187 (b4 1) = some (.inl (cI, 512, .inl (fun q9 => nI ((fun _ => 0) q9)))) := by rw [← ef_187]; exact (g_u_n (Ne.symm n_39)).trans h_178
  have h_193 : f_187 q54 = some (.inr (2, [.ref (a7 0), .ref (a7 1), .ref (a7 2), .ref (a7 3), .ref (a7 4), .int (nI 0)])) := by rw [← ef_187]; exact (g_u_n (Ne.symm n_57)).trans h_179
  have h_194 : f_187 (a7 0) = some (.inl (cI, 8, .inl (fun q9 => nI ((fun _ => 0) q9)))) := by rw [← ef_187]; exact (g_u_n (Ne.symm n_76)).trans h_180
  have h_195 : f_187 (a7 1) = some (.inl (cI, 8, .inl (fun q9 => nI ((fun _ => 0) q9)))) := by rw [← ef_187]; exact (g_u_n (Ne.symm n_85)).trans h_181
  have h_196 : f_187 (a7 2) = some (.inl (cI, 8, .inl (fun q9 => nI ((fun _ => 0) q9)))) := by rw [← ef_187]; exact (g_u_n (Ne.symm n_94)).trans h_182
  have h_197 : f_187 (a7 3) = some (.inl (cI, 100, .inl (fun q9 => nI ((fun _ => 0) q9)))) := by rw [← ef_187]; exact (g_u_n (Ne.symm n_103)).trans h_183
  have h_198 : f_187 (a7 4) = some (.inl (cI, 2048, .inl (fun q9 => nI ((fun _ => 0) q9)))) := by rw [← ef_187]; exact (g_u_n (Ne.symm n_112)).trans h_184
  have h_199 : f_187 q145 = some (.inl (cI, 8, .inl (fun _ => 0))) := by rw [← ef_187]; exact (g_u_n (Ne.symm n_148)).trans h_185
  have fr_200 : ∀ q x, f q = some x → q ≠ b → f_187 q = some x := fun q x h1 h2 => by rw [← ef_187]; exact (g_u_n h2).trans (fr_186 q x h1 h2)
  refine g_aload_n X d_CL_init_65 0 rfl ?_
  refine g_iconst (v := 0) X d_CL_init_66 (by decide) ?_
  refine g_put (ci := 3) (C := R_CL) (T := F_CL) (N := 7) (ty := .int) (fs2 := [.int (nI (lif x)), .ref q4, .ref q20, .ref q54, .ref q145, .int 0, .int 0]) X i_CL t_CL t_CL_ok n_CL rfl h_188 6 (by decide) q_109 (fun _ h9 => h9) rfl (by decide +kernel) rfl rfl (Nat.le_of_ble_eq_true rfl) rfl d_CL_init_67 ?_
  generalize ef_201 : g_u f_187 b (.inr (3, [.int (nI (lif x)), .ref q4, .ref q20, .ref q54, .ref q145, .int 0, .int 0])) = f_201
  have h_202 : f_201 b = some (.inr (3, [.int (nI (lif x)), .ref q4, .ref q20, .ref q54, .ref q145, .int 0, .int 0])) := by rw [← ef_201]; exact g_u_s
  have h_203 : f_201 q4 = some (.inr (0, [.ref eA, .int 0, .int 0])) := by rw [← ef_201]; exact (g_u_n (Ne.symm n_7)).trans h_189
  have h_204 : f_201 q20 = some (.inr (1, [.ref (b4 0), .ref (b4 1), .int (nI 0)])) := by rw [← ef_201]; exact (g_u_n (Ne.symm n_23)).trans h_190
  have h_205 : f_201 (b4 0) = some (.inl (cI, 512, .inl (fun q9 => nI ((fun _ => 0) q9)))) := by rw [← ef_201]; exact (g_u_n (Ne.symm n_33)).trans h_191
  have h_206 : f_201 (b4 1) = some (.inl (cI, 512, .inl (fun q9 => nI ((fun _ => 0) q9)))) := by rw [← ef_201]; exact (g_u_n (Ne.symm n_39)).trans h_192
  have h_207 : f_201 q54 = some (.inr (2, [.ref (a7 0), .ref (a7 1), .ref (a7 2), .ref (a7 3), .ref (a7 4), .int (nI 0)])) := by rw [← ef_201]; exact (g_u_n (Ne.symm n_57)).trans h_193
  have h_208 : f_201 (a7 0) = some (.inl (cI, 8, .inl (fun q9 => nI ((fun _ => 0) q9)))) := by rw [← ef_201]; exact (g_u_n (Ne.symm n_76)).trans h_194
  have h_209 : f_201 (a7 1) = some (.inl (cI, 8, .inl (fun q9 => nI ((fun _ => 0) q9)))) := by rw [← ef_201]; exact (g_u_n (Ne.symm n_85)).trans h_195
  have h_210 : f_201 (a7 2) = some (.inl (cI, 8, .inl (fun q9 => nI ((fun _ => 0) q9)))) := by rw [← ef_201]; exact (g_u_n (Ne.symm n_94)).trans h_196
  have h_211 : f_201 (a7 3) = some (.inl (cI, 100, .inl (fun q9 => nI ((fun _ => 0) q9)))) := by rw [← ef_201]; exact (g_u_n (Ne.symm n_103)).trans h_197
  have h_212 : f_201 (a7 4) = some (.inl (cI, 2048, .inl (fun q9 => nI ((fun _ => 0) q9)))) := by rw [← ef_201]; exact (g_u_n (Ne.symm n_112)).trans h_198
  have h_213 : f_201 q145 = some (.inl (cI, 8, .inl (fun _ => 0))) := by rw [← ef_201]; exact (g_u_n (Ne.symm n_148)).trans h_199
  have fr_214 : ∀ q x, f q = some x → q ≠ b → f_201 q = some x := fun q x h1 h2 => by rw [← ef_201]; exact (g_u_n h2).trans (fr_200 q x h1 h2)
  refine g_knowE X (fun hE9 => ?_)
  exact g_vret X rfl (⟨rfl, (fun i => ([b, q4, eA, q20, b4 0, b4 1, q54, a7 0, a7 1, a7 2, a7 3, a7 4, q145] : List Nat).getD i 0), rfl, rfl, ⟨h_202, ⟨h_203, Nat.le_refl _, by decide, fun z => absurd z (by decide)⟩, ⟨h_204, h_205, h_206⟩, ⟨h_207, h_208, h_209, h_210, h_211, h_212⟩, h_213, fun k hk => absurd hk (by omega)⟩, nd_inj (List.Pairwise.cons (List.forall_mem_cons.mpr ⟨n_7, (List.forall_mem_cons.mpr ⟨(g_nf h_202 hE9), (List.forall_mem_cons.mpr ⟨n_23, (List.forall_mem_cons.mpr ⟨n_33, (List.forall_mem_cons.mpr ⟨n_39, (List.forall_mem_cons.mpr ⟨n_57, (List.forall_mem_cons.mpr ⟨n_76, (List.forall_mem_cons.mpr ⟨n_85, (List.forall_mem_cons.mpr ⟨n_94, (List.forall_mem_cons.mpr ⟨n_103, (List.forall_mem_cons.mpr ⟨n_112, (List.forall_mem_cons.mpr ⟨n_148, (fun _ z => by cases z)⟩)⟩)⟩)⟩)⟩)⟩)⟩)⟩)⟩)⟩)⟩)⟩) (List.Pairwise.cons (List.forall_mem_cons.mpr ⟨(g_nf h_203 hE9), (List.forall_mem_cons.mpr ⟨n_25, (List.forall_mem_cons.mpr ⟨n_34, (List.forall_mem_cons.mpr ⟨n_40, (List.forall_mem_cons.mpr ⟨n_59, (List.forall_mem_cons.mpr ⟨n_77, (List.forall_mem_cons.mpr ⟨n_86, (List.forall_mem_cons.mpr ⟨n_95, (List.forall_mem_cons.mpr ⟨n_104, (List.forall_mem_cons.mpr ⟨n_113, (List.forall_mem_cons.mpr ⟨n_150, (fun _ z => by cases z)⟩)⟩)⟩)⟩)⟩)⟩)⟩)⟩)⟩)⟩)⟩) (List.Pairwise.cons (List.forall_mem_cons.mpr ⟨(Ne.symm (g_nf h_204 hE9)), (List.forall_mem_cons.mpr ⟨(Ne.symm (g_nf h_205 hE9)), (List.forall_mem_cons.mpr ⟨(Ne.symm (g_nf h_206 hE9)), (List.forall_mem_cons.mpr ⟨(Ne.symm (g_nf h_207 hE9)), (List.forall_mem_cons.mpr ⟨(Ne.symm (g_nf h_208 hE9)), (List.forall_mem_cons.mpr ⟨(Ne.symm (g_nf h_209 hE9)), (List.forall_mem_cons.mpr ⟨(Ne.symm (g_nf h_210 hE9)), (List.forall_mem_cons.mpr ⟨(Ne.symm (g_nf h_211 hE9)), (List.forall_mem_cons.mpr ⟨(Ne.symm (g_nf h_212 hE9)), (List.forall_mem_cons.mpr ⟨(Ne.symm (g_nf h_213 hE9)), (fun _ z => by cases z)⟩)⟩)⟩)⟩)⟩)⟩)⟩)⟩)⟩)⟩) (List.Pairwise.cons (List.forall_mem_cons.mpr ⟨n_35, (List.forall_mem_cons.mpr ⟨n_41, (List.forall_mem_cons.mpr ⟨n_61, (List.forall_mem_cons.mpr ⟨n_78, (List.forall_mem_cons.mpr ⟨n_87, (List.forall_mem_cons.mpr ⟨n_96, (List.forall_mem_cons.mpr ⟨n_105, (List.forall_mem_cons.mpr ⟨n_114, (List.forall_mem_cons.mpr ⟨n_152, (fun _ z => by cases z)⟩)⟩)⟩)⟩)⟩)⟩)⟩)⟩)⟩) (List.Pairwise.cons (List.forall_mem_cons.mpr ⟨n_45, (List.forall_mem_cons.mpr ⟨n_63, (List.forall_mem_cons.mpr ⟨n_79, (List.forall_mem_cons.mpr ⟨n_88, (List.forall_mem_cons.mpr ⟨n_97, (List.forall_mem_cons.mpr ⟨n_106, (List.forall_mem_cons.mpr ⟨n_115, (List.forall_mem_cons.mpr ⟨n_154, (fun _ z => by cases z)⟩)⟩)⟩)⟩)⟩)⟩)⟩)⟩) (List.Pairwise.cons (List.forall_mem_cons.mpr ⟨n_65, (List.forall_mem_cons.mpr ⟨n_80, (List.forall_mem_cons.mpr ⟨n_89, (List.forall_mem_cons.mpr ⟨n_98, (List.forall_mem_cons.mpr ⟨n_107, (List.forall_mem_cons.mpr ⟨n_116, (List.forall_mem_cons.mpr ⟨n_156, (fun _ z => by cases z)⟩)⟩)⟩)⟩)⟩)⟩)⟩) (List.Pairwise.cons (List.forall_mem_cons.mpr ⟨n_81, (List.forall_mem_cons.mpr ⟨n_90, (List.forall_mem_cons.mpr ⟨n_99, (List.forall_mem_cons.mpr ⟨n_108, (List.forall_mem_cons.mpr ⟨n_117, (List.forall_mem_cons.mpr ⟨n_158, (fun _ z => by cases z)⟩)⟩)⟩)⟩)⟩)⟩) (List.Pairwise.cons (List.forall_mem_cons.mpr ⟨n_121, (List.forall_mem_cons.mpr ⟨n_122, (List.forall_mem_cons.mpr ⟨n_123, (List.forall_mem_cons.mpr ⟨n_124, (List.forall_mem_cons.mpr ⟨n_160, (fun _ z => by cases z)⟩)⟩)⟩)⟩)⟩) (List.Pairwise.cons (List.forall_mem_cons.mpr ⟨n_125, (List.forall_mem_cons.mpr ⟨n_126, (List.forall_mem_cons.mpr ⟨n_127, (List.forall_mem_cons.mpr ⟨n_162, (fun _ z => by cases z)⟩)⟩)⟩)⟩) (List.Pairwise.cons (List.forall_mem_cons.mpr ⟨n_128, (List.forall_mem_cons.mpr ⟨n_129, (List.forall_mem_cons.mpr ⟨n_164, (fun _ z => by cases z)⟩)⟩)⟩) (List.Pairwise.cons (List.forall_mem_cons.mpr ⟨n_130, (List.forall_mem_cons.mpr ⟨n_166, (fun _ z => by cases z)⟩)⟩) (List.Pairwise.cons (List.forall_mem_cons.mpr ⟨n_168, (fun _ z => by cases z)⟩) (List.Pairwise.cons (fun _ z => by cases z) List.Pairwise.nil))))))))))))), fun i hi h0 h2 => match i, hi, h0, h2 with | 0, _, h0, _ => absurd rfl h0 | 2, _, _, h2 => absurd rfl h2 | 1, _, _, _ => nn_5 | 3, _, _, _ => nn_21 | 4, _, _, _ => nn_36 | 5, _, _, _ => nn_42 | 6, _, _, _ => nn_55 | 7, _, _, _ => nn_82 | 8, _, _, _ => nn_91 | 9, _, _, _ => nn_100 | 10, _, _, _ => nn_109 | 11, _, _, _ => nn_118 | 12, _, _, _ => nn_146 | i + 13, hi, _, _ => absurd hi (by omega), fr_214⟩) (Nat.le_of_ble_eq_true rfl) (Nat.le_of_ble_eq_true rfl) d_CL_init_70
