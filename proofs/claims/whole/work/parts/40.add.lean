set_option maxHeartbeats 4000000 in
set_option maxRecDepth 100000 in
theorem c_AS_newLength {l : Launch} {D : va_G} {cI cZ cO cJ : ClassId} {eA eM : Nat} {f : g_F} {a b c_ : Nat} (ha0 : 0 < a) (ha : a ≤ 100) (hb : b ≤ 100) (hc : c_ ≤ 100) : g_C l y_AS_newLength b_AS_newLength 4 (some .int) { frames := 2, cells := 0, slots := 0, locals := 30 } D g_cl (g_tys cI cZ cO cJ) (z_Z eA eM) [.int (nI a), .int (nI b), .int (nI c_)] f (fun r f2 => r = some (.int (nI (a + max b c_))) ∧ f2 = f) (fun _ => False) := by
  refine g_ofW [(0, .int (nI a)), (1, .int (nI b)), (2, .int (nI c_))] (by decide +kernel) (Nat.le_of_ble_eq_true rfl) rfl ?_
  intro p e s m args below meth c X ht hin
  refine g_iload_n X d_AS_newLength_0 0 rfl ?_
  refine g_iload_n X d_AS_newLength_1 1 rfl ?_
  refine g_iload_n X d_AS_newLength_2 2 rfl ?_
  refine g_mmax (a := b) (b := c_) X q_308 (by omega) (by omega) (Nat.le_of_ble_eq_true rfl) (Nat.le_of_ble_eq_true rfl) (Nat.le_of_ble_eq_true rfl) (Nat.le_of_ble_eq_true rfl) d_AS_newLength_3 ?_
  refine g_iadd X d_AS_newLength_6 ?_
  refine g_eqi (y := nI (a + max b c_)) (nI_add _ _) ?_
  refine g_istore_n (lv' := [(3, .int (nI (a + max b c_))), (0, .int (nI a)), (1, .int (nI b)), (2, .int (nI c_))]) X d_AS_newLength_7 rfl (by decide) rfl ?_
  refine g_iconst (v := 0) X d_AS_newLength_8 (by decide) ?_
  refine g_iload_n X d_AS_newLength_9 0 rfl ?_
  refine g_icmp_ge X 21 d_AS_newLength_10 (by decide) (fun c10 => ?_) (fun c10 => ?_)
  · skip
    exact absurd ((nI_leI (a := a + max b c_) (b := 0) (by omega) (by decide)).mp c10) (by omega)
  · skip
    refine g_iload_n X d_AS_newLength_13 0 rfl ?_
    refine g_ldc (v := 2147483639) X q_309 d_AS_newLength_14 ?_
    refine g_icmp_gt X 21 d_AS_newLength_16 (by decide) (fun c16 => ?_) (fun c16 => ?_)
    · skip
      exact absurd ((nI_ltI (a := 2147483639) (b := a + max b c_) (by decide) (by omega)).mp c16) (by omega)
    · skip
      refine g_iload_n X d_AS_newLength_19 0 rfl ?_
      exact g_iret X rfl (⟨rfl, rfl⟩) (Nat.le_of_ble_eq_true rfl) (Nat.le_of_ble_eq_true rfl) d_AS_newLength_20
set_option maxHeartbeats 4000000 in
set_option maxRecDepth 100000 in
theorem c_AR_copyOf2 {l : Launch} {D : va_G} {cI cZ cO cJ : ClassId} {eA eM : Nat} {f : g_F} {a n0 L : Nat} {g0 : Nat → Option Nat} (h0 : f a = some (.inl (cO, n0, .inr (.inr (.inr (.inr g0)))))) (hel : ∀ i, i < n0 → ∀ y, g0 i = some y → ∃ vs, f y = some (.inr (4, vs))) (hL : n0 ≤ L) (hL2 : L ≤ 40) : g_C l y_AR_copyOf2 b_AR_copyOf2 4 (some (.array (.object "java/lang/Object"))) { frames := 2, cells := 1, slots := 40, locals := 60 } D g_cl (g_tys cI cZ cO cJ) (z_Z eA eM) [.ref a, .int (nI L), .ref eM] f (fun r f2 => ∃ q2, f q2 = none ∧ r = some (.ref q2) ∧ f2 = g_u f q2 (.inl (cO, L, .inr (.inr (.inr (.inr (va_cpy g0 (fun _ => none) 0 0 n0))))))) (fun _ => False) := by
  refine g_ofW [(0, .ref a), (1, .int (nI L)), (2, .ref eM)] (by decide +kernel) (Nat.le_of_ble_eq_true rfl) rfl ?_
  intro p e s m args below meth c X ht hin
  refine g_aload_n X d_AR_copyOf2_0 2 rfl ?_
  refine g_ldcM X rfl d_AR_copyOf2_1 ?_
  refine g_acmp_ne X 13 d_AR_copyOf2_3 (by decide) (fun c3 => ?_) (fun c3 => ?_)
  · skip
    exact absurd rfl c3
  · skip
    refine g_iload_n X d_AR_copyOf2_6 1 rfl ?_
    refine g_anewO X q_333 (nI_pos (by omega)) (nI_clamp (by omega)) (by omega) (Nat.le_of_ble_eq_true rfl) (by show 0 + L ≤ 40; omega) d_AR_copyOf2_7 (fun q2 hq2 => ?_)
    refine g_wid (k := 1) (n := 40) (Nat.le_of_ble_eq_true rfl) (by show 0 + L ≤ 40; omega) ?_
    have hne : a ≠ q2 := g_nf h0 hq2
    have h02 : g_u f q2 (.inl (cO, L, .inr (.inr (.inr (.inr (fun _ => none)))))) a = some (.inl (cO, n0, .inr (.inr (.inr (.inr g0))))) := (g_u_n hne).trans h0
    have h12 : g_u f q2 (.inl (cO, L, .inr (.inr (.inr (.inr (fun _ => none)))))) q2 = some (.inl (cO, L, .inr (.inr (.inr (.inr (fun _ => none)))))) := g_u_s
    refine g_goto X 24 d_AR_copyOf2_10 (by decide) ?_
    refine g_astore_n (lv' := [(3, .ref q2), (0, .ref a), (1, .int (nI L)), (2, .ref eM)]) X d_AR_copyOf2_24 rfl (by decide) rfl ?_
    refine g_aload_n X d_AR_copyOf2_25 1 rfl ?_
    refine g_iconst (v := 0) X d_AR_copyOf2_26 (by decide) ?_
    refine g_aload_n X d_AR_copyOf2_27 0 rfl ?_
    refine g_iconst (v := 0) X d_AR_copyOf2_28 (by decide) ?_
    refine g_aload_n X d_AR_copyOf2_29 1 rfl ?_
    refine g_alen (t0 := 2) (v := nI n0) X h02 rfl rfl d_AR_copyOf2_30 ?_
    refine g_iload_n X d_AR_copyOf2_31 2 rfl ?_
    refine g_mmin (a := n0) (b := L) X q_334 (by omega) (by omega) (Nat.le_of_ble_eq_true rfl) (Nat.le_of_ble_eq_true rfl) (Nat.le_of_ble_eq_true rfl) (Nat.le_of_ble_eq_true rfl) d_AR_copyOf2_32 ?_
    refine g_copyO X rfl h02 h12 hne (nI_pos (by omega)) (N := n0) (by rw [nI_clamp (by omega), Nat.min_eq_left hL]) (Nat.le_refl _) hL (fun i hi y hy => by obtain ⟨vs, hvs⟩ := hel i hi y hy; exact ⟨vs, (g_u_n (g_nf hvs hq2)).trans hvs⟩) (Nat.le_of_ble_eq_true rfl) (Nat.le_of_ble_eq_true rfl) d_AR_copyOf2_35 ?_
    refine g_eqf (f2 := g_u f q2 (.inl (cO, L, .inr (.inr (.inr (.inr (va_cpy g0 (fun _ => none) 0 0 n0))))))) g_u_u ?_
    refine g_aload_n X d_AR_copyOf2_38 0 rfl ?_
    exact g_aret X rfl (Or.inr ⟨_, rfl⟩) (Or.inr ⟨_, rfl⟩) (⟨q2, hq2, rfl, rfl⟩) (Nat.le_of_ble_eq_true rfl) (Nat.le_of_ble_eq_true rfl) d_AR_copyOf2_39
set_option maxHeartbeats 4000000 in
set_option maxRecDepth 100000 in
theorem c_AR_copyOf {l : Launch} {D : va_G} {cI cZ cO cJ : ClassId} {eA eM : Nat} {f : g_F} {a n0 L : Nat} {g0 : Nat → Option Nat} (h0 : f a = some (.inl (cO, n0, .inr (.inr (.inr (.inr g0)))))) (hel : ∀ i, i < n0 → ∀ y, g0 i = some y → ∃ vs, f y = some (.inr (4, vs))) (hL : n0 ≤ L) (hL2 : L ≤ 40) : g_C l y_AR_copyOf b_AR_copyOf 2 (some (.array (.object "java/lang/Object"))) { frames := 3, cells := 1, slots := 40, locals := 83 } D g_cl (g_tys cI cZ cO cJ) (z_Z eA eM) [.ref a, .int (nI L)] f (fun r f2 => ∃ q2, f q2 = none ∧ r = some (.ref q2) ∧ f2 = g_u f q2 (.inl (cO, L, .inr (.inr (.inr (.inr (va_cpy g0 (fun _ => none) 0 0 n0))))))) (fun _ => False) := by
  refine g_ofW [(0, .ref a), (1, .int (nI L))] (by decide +kernel) (Nat.le_of_ble_eq_true rfl) rfl ?_
  intro p e s m args below meth c X ht hin
  refine g_aload_n X d_AR_copyOf_0 0 rfl ?_
  refine g_iload_n X d_AR_copyOf_1 1 rfl ?_
  refine g_aload_n X d_AR_copyOf_2 0 rfl ?_
  refine g_getC X rfl h0 (Nat.le_of_ble_eq_true rfl) (Nat.le_of_ble_eq_true rfl) d_AR_copyOf_3 ?_
  refine g_callS (As := [.ref a, .int (nI L), .ref eM]) (rest := []) X (z_ok eA eM) (c_AR_copyOf2 h0 hel hL hL2) v_AR_copyOf2 q_329 q_328 rfl rfl (Nat.le_of_ble_eq_true rfl) d_AR_copyOf_6 ⟨(Nat.le_of_ble_eq_true rfl), (Nat.le_of_ble_eq_true rfl)⟩ ⟨(Nat.le_of_ble_eq_true rfl), (Nat.le_of_ble_eq_true rfl)⟩ (g_K.no (fun _ h => h)) (fun r_ f2_ hp => ?_)
  obtain ⟨q2, hq2, rfl, rfl⟩ := hp
  refine g_st (st2 := [.ref q2]) rfl ?_
  exact g_aret X rfl (Or.inr ⟨_, rfl⟩) (Or.inr ⟨_, rfl⟩) (⟨q2, hq2, rfl, rfl⟩) (Nat.le_of_ble_eq_true rfl) (Nat.le_of_ble_eq_true rfl) d_AR_copyOf_9
set_option maxHeartbeats 4000000 in
set_option maxRecDepth 100000 in
theorem c_AL_grow2 {l : Launch} {D : va_G} {cI cZ cO cJ : ClassId} {eA eM : Nat} {f : g_F} {q eD : Nat} {ca : Nat → Nat} {n cap : Nat} {mc : Int32} (hR : al_R cO f q eD ca n cap mc) (hn24 : n < 24) (hel : ∀ i, i < n → ∃ vs, f (ca i) = some (.inr (4, vs))) (hF : (n = 0 ∧ eD = eA) ∨ (0 < n ∧ cap = n)) : g_C l y_AL_grow2 b_AL_grow2 4 (some (.array (.object "java/lang/Object"))) { frames := 4, cells := 1, slots := 40, locals := 104 } D g_cl (g_tys cI cZ cO cJ) (z_Z eA eM) [.ref q, .int (nI (n + 1))] f (fun r f2 => ∃ (q2 cap2 : Nat) (g : Nat → Option Nat), f q2 = none ∧ n < cap2 ∧ cap2 ≤ 40 ∧ (∀ k, k < n → g k = some (ca k)) ∧ r = some (.ref q2) ∧ f2 = g_u (g_u f q2 (.inl (cO, cap2, .inr (.inr (.inr (.inr g)))))) q (.inr (0, [.ref q2, .int (nI n), .int mc]))) (fun _ => False) := by
  refine g_ofW [(0, .ref q), (1, .int (nI (n + 1)))] (by decide +kernel) (Nat.le_of_ble_eq_true rfl) rfl ?_
  intro p e s m args below meth c X ht hin
  obtain ⟨hQ, hnc, hcap, hE⟩ := id hR
  rcases hF with ⟨h1, h2⟩ | ⟨hn0, h2⟩
  · subst h1
    have h2 := h2.symm
    subst h2
    refine g_aload_n X d_AL_grow2_0 0 rfl ?_
    refine g_get (ci := 0) (C := R_AL) (T := F_AL) (N := 3) (v := .ref eA) X i_AL rfl hQ 0 (by decide) q_49 (fun _ h9 => h9) rfl d_AL_grow2_1 ?_
    refine g_tlenE X d_AL_grow2_4 ?_
    refine g_istore_n (lv' := [(2, .int 0), (0, .ref q), (1, .int (nI 1))]) X d_AL_grow2_5 rfl (by decide) rfl ?_
    refine g_iload_n X d_AL_grow2_6 0 rfl ?_
    refine g_if_gt X 20 d_AL_grow2_7 (by decide) (fun c7 => ?_) (fun c7 => ?_)
    · skip
      exact absurd c7 (by decide)
    · skip
      refine g_aload_n X d_AL_grow2_10 1 rfl ?_
      refine g_get (ci := 0) (C := R_AL) (T := F_AL) (N := 3) (v := .ref eA) X i_AL rfl hQ 0 (by decide) q_49 (fun _ h9 => h9) rfl d_AL_grow2_11 ?_
      refine g_getsE X rfl d_AL_grow2_14 ?_
      refine g_acmp_eq X 45 d_AL_grow2_17 (by decide) (fun c17 => ?_) (fun c17 => ?_)
      · skip
        refine g_aload_n X d_AL_grow2_45 1 rfl ?_
        refine g_bipush (v := 10) X d_AL_grow2_46 (by decide) ?_
        refine g_iload_n X d_AL_grow2_48 2 rfl ?_
        refine g_mmaxI X q_338 (Nat.le_of_ble_eq_true rfl) (Nat.le_of_ble_eq_true rfl) (Nat.le_of_ble_eq_true rfl) (Nat.le_of_ble_eq_true rfl) d_AL_grow2_49 ?_
        refine g_eqi (y := 10) (by decide) ?_
        refine g_anewO X q_339 (by decide) (N := 10) (by decide) (by decide) (Nat.le_of_ble_eq_true rfl) (Nat.le_of_ble_eq_true rfl) d_AL_grow2_52 (fun q2 hq2 => ?_)
        refine g_wid (k := 1) (n := 40) (Nat.le_of_ble_eq_true rfl) (Nat.le_of_ble_eq_true rfl) ?_
        have hQ2 : g_u f q2 (.inl (cO, 10, .inr (.inr (.inr (.inr (fun _ => none)))))) q = some (.inr (0, [.ref eA, .int (nI 0), .int mc])) := (g_u_n (g_nf hQ hq2)).trans hQ
        refine g_dup_x1 X d_AL_grow2_55 rfl rfl ?_
        refine g_put (ci := 0) (C := R_AL) (T := F_AL) (N := 3) (ty := .array (.object "java/lang/Object")) (fs2 := [.ref q2, .int (nI 0), .int mc]) X i_AL t_AL t_AL_ok n_AL rfl hQ2 0 (by decide) q_49 (fun _ h9 => h9) rfl (by decide +kernel) rfl rfl (Nat.le_of_ble_eq_true rfl) rfl d_AL_grow2_56 ?_
        generalize ef_1 : g_u (g_u f q2 (.inl (cO, 10, .inr (.inr (.inr (.inr (fun _ => none))))))) q (.inr (0, [.ref q2, .int (nI 0), .int mc])) = f_1
        have h_2 : f_1 q = some (.inr (0, [.ref q2, .int (nI 0), .int mc])) := by rw [← ef_1]; exact g_u_s
        exact g_aret X rfl (Or.inr ⟨_, rfl⟩) (Or.inr ⟨_, rfl⟩) (⟨q2, 10, (fun _ => none), hq2, by decide, by decide, fun k hk => absurd hk (by omega), rfl, by rw [← ef_1]⟩) (Nat.le_of_ble_eq_true rfl) (Nat.le_of_ble_eq_true rfl) d_AL_grow2_59
      · skip
        exact absurd rfl c17
  · have h2 := h2.symm
    subst h2
    obtain ⟨g, hE0, hg⟩ := hE hn0
    refine g_aload_n X d_AL_grow2_0 0 rfl ?_
    refine g_get (ci := 0) (C := R_AL) (T := F_AL) (N := 3) (v := .ref eD) X i_AL rfl hQ 0 (by decide) q_49 (fun _ h9 => h9) rfl d_AL_grow2_1 ?_
    refine g_alen (t0 := 2) (v := nI n) X hE0 rfl rfl d_AL_grow2_4 ?_
    refine g_istore_n (lv' := [(2, .int (nI n)), (0, .ref q), (1, .int (nI (n + 1)))]) X d_AL_grow2_5 rfl (by decide) rfl ?_
    refine g_iload_n X d_AL_grow2_6 0 rfl ?_
    refine g_if_gt X 20 d_AL_grow2_7 (by decide) (fun c7 => ?_) (fun c7 => ?_)
    · skip
      refine g_iload_n X d_AL_grow2_20 0 rfl ?_
      refine g_iload_n X d_AL_grow2_21 2 rfl ?_
      refine g_iload_n X d_AL_grow2_22 0 rfl ?_
      refine g_isub X d_AL_grow2_23 ?_
      refine g_eqi (y := nI 1) ((nI_sub (by omega)).trans (by rw [show n + 1 - n = 1 by omega])) ?_
      refine g_iload_n X d_AL_grow2_24 0 rfl ?_
      refine g_iconst (v := 1) X d_AL_grow2_25 (by decide) ?_
      refine g_ishr X d_AL_grow2_26 ?_
      refine g_eqi (y := nI (n / 2)) (pk_shrN (by omega) _ 1 (by decide)) ?_
      refine g_callS (As := [.int (nI n), .int (nI 1), .int (nI (n / 2))]) (rest := []) X (z_ok eA eM) (c_AS_newLength (f := f) (a := n) (b := 1) (c_ := n / 2) hn0 (by omega) (by omega) (by omega)) v_AS_newLength q_306 q_305 rfl rfl (Nat.le_of_ble_eq_true rfl) d_AL_grow2_27 ⟨(Nat.le_of_ble_eq_true rfl), (Nat.le_of_ble_eq_true rfl)⟩ ⟨(Nat.le_of_ble_eq_true rfl), (Nat.le_of_ble_eq_true rfl)⟩ (g_K.no (fun _ h => h)) (fun r_ f2_ hp => ?_)
      obtain ⟨rfl, hf_⟩ := hp
      subst f2_
      refine g_st (st2 := [.int (nI (n + max 1 (n / 2)))]) rfl ?_
      refine g_istore_n (lv' := [(3, .int (nI (n + max 1 (n / 2)))), (2, .int (nI n)), (0, .ref q), (1, .int (nI (n + 1)))]) X d_AL_grow2_30 rfl (by decide) rfl ?_
      refine g_aload_n X d_AL_grow2_31 2 rfl ?_
      refine g_aload_n X d_AL_grow2_32 2 rfl ?_
      refine g_get (ci := 0) (C := R_AL) (T := F_AL) (N := 3) (v := .ref eD) X i_AL rfl hQ 0 (by decide) q_49 (fun _ h9 => h9) rfl d_AL_grow2_33 ?_
      refine g_iload_n X d_AL_grow2_36 0 rfl ?_
      refine g_callS (As := [.ref eD, .int (nI (n + max 1 (n / 2)))]) (rest := [.ref q]) X (z_ok eA eM) (c_AR_copyOf (L := n + max 1 (n / 2)) hE0 (fun i hi y hy => by rw [hg i hi] at hy; cases hy; exact hel i hi) (by omega) (by omega)) v_AR_copyOf q_314 q_313 rfl rfl (Nat.le_of_ble_eq_true rfl) d_AL_grow2_37 ⟨(Nat.le_of_ble_eq_true rfl), (Nat.le_of_ble_eq_true rfl)⟩ ⟨(Nat.le_of_ble_eq_true rfl), (Nat.le_of_ble_eq_true rfl)⟩ (g_K.no (fun _ h => h)) (fun r_ f2_ hp => ?_)
      obtain ⟨q2, hq2, rfl, rfl⟩ := hp
      refine g_st (st2 := [.ref q2, .ref q]) rfl ?_
      have hQ2 : g_u f q2 (.inl (cO, (n + max 1 (n / 2)), .inr (.inr (.inr (.inr (va_cpy g (fun _ => none) 0 0 n)))))) q = some (.inr (0, [.ref eD, .int (nI n), .int mc])) := (g_u_n (g_nf hQ hq2)).trans hQ
      refine g_dup_x1 X d_AL_grow2_40 rfl rfl ?_
      refine g_put (ci := 0) (C := R_AL) (T := F_AL) (N := 3) (ty := .array (.object "java/lang/Object")) (fs2 := [.ref q2, .int (nI n), .int mc]) X i_AL t_AL t_AL_ok n_AL rfl hQ2 0 (by decide) q_49 (fun _ h9 => h9) rfl (by decide +kernel) rfl rfl (Nat.le_of_ble_eq_true rfl) rfl d_AL_grow2_41 ?_
      generalize ef_1 : g_u (g_u f q2 (.inl (cO, (n + max 1 (n / 2)), .inr (.inr (.inr (.inr (va_cpy g (fun _ => none) 0 0 n))))))) q (.inr (0, [.ref q2, .int (nI n), .int mc])) = f_1
      have h_2 : f_1 q = some (.inr (0, [.ref q2, .int (nI n), .int mc])) := by rw [← ef_1]; exact g_u_s
      exact g_aret X rfl (Or.inr ⟨_, rfl⟩) (Or.inr ⟨_, rfl⟩) (⟨q2, n + max 1 (n / 2), va_cpy g (fun _ => none) 0 0 n, hq2, by omega, by omega, fun k hk => by show (if 0 ≤ k ∧ k < 0 + n then g (0 + (k - 0)) else none) = _; rw [if_pos (by omega), show 0 + (k - 0) = k by omega]; exact hg k hk, rfl, by rw [← ef_1]⟩) (Nat.le_of_ble_eq_true rfl) (Nat.le_of_ble_eq_true rfl) d_AL_grow2_44
    · skip
      exact absurd ((nI_ltI (a := 0) (by decide) (by omega)).mpr hn0) c7
set_option maxHeartbeats 4000000 in
set_option maxRecDepth 100000 in
theorem c_AL_grow {l : Launch} {D : va_G} {cI cZ cO cJ : ClassId} {eA eM : Nat} {f : g_F} {q eD : Nat} {ca : Nat → Nat} {n cap : Nat} {mc : Int32} (hR : al_R cO f q eD ca n cap mc) (hn24 : n < 24) (hel : ∀ i, i < n → ∃ vs, f (ca i) = some (.inr (4, vs))) (hF : (n = 0 ∧ eD = eA) ∨ (0 < n ∧ cap = n)) : g_C l y_AL_grow b_AL_grow 1 (some (.array (.object "java/lang/Object"))) { frames := 5, cells := 1, slots := 40, locals := 127 } D g_cl (g_tys cI cZ cO cJ) (z_Z eA eM) [.ref q] f (fun r f2 => ∃ (q2 cap2 : Nat) (g : Nat → Option Nat), f q2 = none ∧ n < cap2 ∧ cap2 ≤ 40 ∧ (∀ k, k < n → g k = some (ca k)) ∧ r = some (.ref q2) ∧ f2 = g_u (g_u f q2 (.inl (cO, cap2, .inr (.inr (.inr (.inr g)))))) q (.inr (0, [.ref q2, .int (nI n), .int mc]))) (fun _ => False) := by
  refine g_ofW [(0, .ref q)] (by decide +kernel) (Nat.le_of_ble_eq_true rfl) rfl ?_
  intro p e s m args below meth c X ht hin
  obtain ⟨hQ, hn, hcap, hE⟩ := id hR
  refine g_aload_n X d_AL_grow_0 0 rfl ?_
  refine g_aload_n X d_AL_grow_1 0 rfl ?_
  refine g_get (ci := 0) (C := R_AL) (T := F_AL) (N := 3) (v := .int (nI n)) X i_AL rfl hQ 1 (by decide) q_50 (fun _ h9 => h9) rfl d_AL_grow_2 ?_
  refine g_iconst (v := 1) X d_AL_grow_5 (by decide) ?_
  refine g_iadd X d_AL_grow_6 ?_
  refine g_eqi (y := nI (n + 1)) (nI_1 n) ?_
  refine g_callV (ci := 0) (As := [.int (nI (n + 1))]) (rest := []) X (z_ok eA eM) rfl rfl hQ (c_AL_grow2 hR hn24 hel hF) v_AL_grow2 q_303 q_s4 q_301 rfl rfl (Nat.le_of_ble_eq_true rfl) d_AL_grow_7 ⟨(Nat.le_of_ble_eq_true rfl), (Nat.le_of_ble_eq_true rfl)⟩ ⟨(Nat.le_of_ble_eq_true rfl), (Nat.le_of_ble_eq_true rfl)⟩ (g_K.no (fun _ h => h)) (fun r_ f2_ hp => ?_)
  obtain ⟨q2, cap2, g, e1, e2, e3, e4, rfl, rfl⟩ := hp
  refine g_st (st2 := [.ref q2]) rfl ?_
  exact g_aret X rfl (Or.inr ⟨_, rfl⟩) (Or.inr ⟨_, rfl⟩) (⟨q2, cap2, g, e1, e2, e3, e4, rfl, rfl⟩) (Nat.le_of_ble_eq_true rfl) (Nat.le_of_ble_eq_true rfl) d_AL_grow_10
set_option maxHeartbeats 4000000 in
set_option maxRecDepth 100000 in
theorem c_AL_add2 {l : Launch} {D : va_G} {cI cZ cO cJ : ClassId} {eA eM : Nat} {f : g_F} {q eD : Nat} {ca : Nat → Nat} {n cap : Nat} {mc : Int32} (hR : al_R cO f q eD ca n cap mc) (hn24 : n < 24) (hel : ∀ i, i < n → ∃ vs, f (ca i) = some (.inr (4, vs))) (hE0 : n = 0 → eD = eA ∧ cap = 0) {v : Nat} {vs : List Value} (hv : f v = some (.inr (4, vs))) : g_C l y_AL_add2 b_AL_add2 4 none { frames := 6, cells := 1, slots := 40, locals := 147 } D g_cl (g_tys cI cZ cO cJ) (z_Z eA eM) [.ref q, .ref v, .ref eD, .int (nI n)] f (fun r f2 => r = none ∧ ∃ eD2 cap2, al_R cO f2 q eD2 (va_up ca n v) (n + 1) cap2 mc ∧ (eD2 = eD ∨ f eD2 = none) ∧ eD2 ≠ q ∧ f2 eD2 ≠ none ∧ (∀ p_ x_, f p_ = some x_ → p_ ≠ q → p_ ≠ eD → f2 p_ = some x_)) (fun _ => False) := by
  refine g_ofW [(0, .ref q), (1, .ref v), (2, .ref eD), (3, .int (nI n))] (by decide +kernel) (Nat.le_of_ble_eq_true rfl) rfl ?_
  intro p e s m args below meth c X ht hin
  obtain ⟨hQ, hnc, hcap, hE⟩ := id hR
  by_cases hlt : n < cap
  · have hn0 : 0 < n := Nat.pos_of_ne_zero (fun z => by have := (hE0 z).2; omega)
    obtain ⟨g, hA0, hg⟩ := hE hn0
    refine g_iload_n X d_AL_add2_0 3 rfl ?_
    refine g_aload_n X d_AL_add2_1 2 rfl ?_
    refine g_alen (t0 := 2) (v := nI cap) X hA0 rfl rfl d_AL_add2_2 ?_
    refine g_icmp_ne X 11 d_AL_add2_3 (by decide) (fun c3 => ?_) (fun c3 => ?_)
    · skip
      refine g_aload_n X d_AL_add2_11 2 rfl ?_
      refine g_iload_n X d_AL_add2_12 3 rfl ?_
      refine g_aload_n X d_AL_add2_13 1 rfl ?_
      refine g_aastO X hA0 hv (nI_ix (by omega : n < cap) (by omega)) d_AL_add2_14 ?_
      refine g_eqf (f2 := g_u f eD (.inl (cO, cap, .inr (.inr (.inr (.inr (va_up g n (some v)))))))) (by rw [nI_clamp (by omega)]) ?_
      have hQ9 : (g_u f eD (.inl (cO, cap, .inr (.inr (.inr (.inr (va_up g n (some v)))))))) q = some (.inr (0, [.ref eD, .int (nI n), .int mc])) := (g_u_n (tu_ne hQ hA0)).trans hQ
      refine g_aload_n X d_AL_add2_15 0 rfl ?_
      refine g_iload_n X d_AL_add2_16 3 rfl ?_
      refine g_iconst (v := 1) X d_AL_add2_17 (by decide) ?_
      refine g_iadd X d_AL_add2_18 ?_
      refine g_eqi (y := nI (n + 1)) (nI_1 n) ?_
      refine g_put (ci := 0) (C := R_AL) (T := F_AL) (N := 3) (ty := .int) (fs2 := [.ref eD, .int (nI (n + 1)), .int mc]) X i_AL t_AL t_AL_ok n_AL rfl hQ9 1 (by decide) q_50 (fun _ h9 => h9) rfl (by decide +kernel) rfl rfl (Nat.le_of_ble_eq_true rfl) rfl d_AL_add2_19 ?_
      generalize ef_1 : g_u (g_u f eD (.inl (cO, cap, .inr (.inr (.inr (.inr (va_up g n (some v)))))))) q (.inr (0, [.ref eD, .int (nI (n + 1)), .int mc])) = f_1
      have h_2 : f_1 q = some (.inr (0, [.ref eD, .int (nI (n + 1)), .int mc])) := by rw [← ef_1]; exact g_u_s
      exact g_vret X rfl (⟨rfl, eD, cap, ⟨by rw [← ef_1]; exact g_u_s, by omega, by omega, fun _ => ⟨va_up g n (some v), by rw [← ef_1]; exact (g_u_n (Ne.symm (tu_ne hQ hA0))).trans g_u_s, fun k hk => by unfold va_up; by_cases hkn : k = n; rw [if_pos hkn, if_pos hkn]; rw [if_neg hkn, if_neg hkn]; exact hg k (by omega)⟩⟩, Or.inl rfl, (Ne.symm (tu_ne hQ hA0)), (by rw [← ef_1]; rw [g_u_n (Ne.symm (tu_ne hQ hA0)), g_u_s]; exact fun z => (by cases z)), fun p_ x_ h1 h2 h3 => by rw [← ef_1]; exact (g_u_n h2).trans ((g_u_n h3).trans h1)⟩) (Nat.le_of_ble_eq_true rfl) (Nat.le_of_ble_eq_true rfl) d_AL_add2_22
    · skip
      exact absurd ((nI_eq (by omega) (by omega)).mp c3) (by omega)
  · by_cases hn0 : n = 0
    · obtain ⟨h1, h2⟩ := hE0 hn0
      subst hn0
      subst h1
      have hF : (0 = 0 ∧ eD = eD) ∨ (0 < 0 ∧ cap = 0) := Or.inl ⟨rfl, rfl⟩
      refine g_iload_n X d_AL_add2_0 3 rfl ?_
      refine g_aload_n X d_AL_add2_1 2 rfl ?_
      refine g_tlenE X d_AL_add2_2 ?_
      refine g_icmp_ne X 11 d_AL_add2_3 (by decide) (fun c3 => ?_) (fun c3 => ?_)
      · skip
        exact absurd rfl c3
      · skip
        refine g_aload_n X d_AL_add2_6 0 rfl ?_
        refine g_callV (ci := 0) (As := []) (rest := []) X (z_ok eD eM) rfl rfl hQ (c_AL_grow hR hn24 hel hF) v_AL_grow q_299 q_s3 q_297 rfl rfl (Nat.le_of_ble_eq_true rfl) d_AL_add2_7 ⟨(Nat.le_of_ble_eq_true rfl), (Nat.le_of_ble_eq_true rfl)⟩ ⟨(Nat.le_of_ble_eq_true rfl), (Nat.le_of_ble_eq_true rfl)⟩ (g_K.no (fun _ h => h)) (fun r_ f2_ hp => ?_)
        obtain ⟨q2, cap2, g, e1, e2, e3, hg, rfl, rfl⟩ := hp
        refine g_st (st2 := [.ref q2]) rfl ?_
        have hqq : q ≠ q2 := g_nf hQ e1
        have hA0 : (g_u (g_u f q2 (.inl (cO, cap2, .inr (.inr (.inr (.inr g)))))) q (.inr (0, [.ref q2, .int (nI 0), .int mc]))) q2 = some (.inl (cO, cap2, .inr (.inr (.inr (.inr g))))) := (g_u_n (Ne.symm hqq)).trans g_u_s
        have hQ2 : (g_u (g_u f q2 (.inl (cO, cap2, .inr (.inr (.inr (.inr g)))))) q (.inr (0, [.ref q2, .int (nI 0), .int mc]))) q = some (.inr (0, [.ref q2, .int (nI 0), .int mc])) := g_u_s
        have hvq : v ≠ q := g_ne hv hQ (fun z => by cases z)
        have hv2 : (g_u (g_u f q2 (.inl (cO, cap2, .inr (.inr (.inr (.inr g)))))) q (.inr (0, [.ref q2, .int (nI 0), .int mc]))) v = some (.inr (4, vs)) := (g_u_n hvq).trans ((g_u_n (g_nf hv e1)).trans hv)
        refine g_astore_n (lv' := [(2, .ref q2), (0, .ref q), (1, .ref v), (3, .int (nI 0))]) X d_AL_add2_10 rfl (by decide) rfl ?_
        refine g_aload_n X d_AL_add2_11 0 rfl ?_
        refine g_iload_n X d_AL_add2_12 3 rfl ?_
        refine g_aload_n X d_AL_add2_13 2 rfl ?_
        refine g_aastO X hA0 hv2 (nI_ix (by omega : 0 < cap2) (by omega)) d_AL_add2_14 ?_
        refine g_eqf (f2 := g_u (g_u (g_u f q2 (.inl (cO, cap2, .inr (.inr (.inr (.inr g)))))) q (.inr (0, [.ref q2, .int (nI 0), .int mc]))) q2 (.inl (cO, cap2, .inr (.inr (.inr (.inr (va_up g 0 (some v)))))))) (by rw [nI_clamp (by omega)]) ?_
        have hQ9 : (g_u (g_u (g_u f q2 (.inl (cO, cap2, .inr (.inr (.inr (.inr g)))))) q (.inr (0, [.ref q2, .int (nI 0), .int mc]))) q2 (.inl (cO, cap2, .inr (.inr (.inr (.inr (va_up g 0 (some v)))))))) q = some (.inr (0, [.ref q2, .int (nI 0), .int mc])) := (g_u_n (tu_ne hQ2 hA0)).trans hQ2
        refine g_aload_n X d_AL_add2_15 1 rfl ?_
        refine g_iload_n X d_AL_add2_16 3 rfl ?_
        refine g_iconst (v := 1) X d_AL_add2_17 (by decide) ?_
        refine g_iadd X d_AL_add2_18 ?_
        refine g_eqi (y := nI (0 + 1)) (nI_1 0) ?_
        refine g_put (ci := 0) (C := R_AL) (T := F_AL) (N := 3) (ty := .int) (fs2 := [.ref q2, .int (nI (0 + 1)), .int mc]) X i_AL t_AL t_AL_ok n_AL rfl hQ9 1 (by decide) q_50 (fun _ h9 => h9) rfl (by decide +kernel) rfl rfl (Nat.le_of_ble_eq_true rfl) rfl d_AL_add2_19 ?_
        generalize ef_1 : g_u (g_u (g_u (g_u f q2 (.inl (cO, cap2, .inr (.inr (.inr (.inr g)))))) q (.inr (0, [.ref q2, .int (nI 0), .int mc]))) q2 (.inl (cO, cap2, .inr (.inr (.inr (.inr (va_up g 0 (some v)))))))) q (.inr (0, [.ref q2, .int (nI (0 + 1)), .int mc])) = f_1
        have h_2 : f_1 q = some (.inr (0, [.ref q2, .int (nI (0 + 1)), .int mc])) := by rw [← ef_1]; exact g_u_s
        exact g_vret X rfl (⟨rfl, q2, cap2, ⟨by rw [← ef_1]; exact g_u_s, by omega, by omega, fun _ => ⟨va_up g 0 (some v), by rw [← ef_1]; exact (g_u_n (Ne.symm hqq)).trans g_u_s, fun k hk => by unfold va_up; by_cases hkn : k = 0; rw [if_pos hkn, if_pos hkn]; rw [if_neg hkn, if_neg hkn]; exact hg k (by omega)⟩⟩, Or.inr e1, (Ne.symm hqq), (by rw [← ef_1]; rw [g_u_n (Ne.symm hqq), g_u_s]; exact fun z => (by cases z)), fun p_ x_ h1 h2 h3 => by rw [← ef_1]; exact (g_u_n h2).trans ((g_u_n (g_nf h1 e1)).trans ((g_u_n h2).trans ((g_u_n (g_nf h1 e1)).trans h1)))⟩) (Nat.le_of_ble_eq_true rfl) (Nat.le_of_ble_eq_true rfl) d_AL_add2_22
    · have hF : (n = 0 ∧ eD = eA) ∨ (0 < n ∧ cap = n) := Or.inr ⟨by omega, by omega⟩
      obtain ⟨g0, hD0, hg0⟩ := hE (by omega)
      have hce : cap = n := by omega
      subst hce
      refine g_iload_n X d_AL_add2_0 3 rfl ?_
      refine g_aload_n X d_AL_add2_1 2 rfl ?_
      refine g_alen (t0 := 2) (v := nI cap) X hD0 rfl rfl d_AL_add2_2 ?_
      refine g_icmp_ne X 11 d_AL_add2_3 (by decide) (fun c3 => ?_) (fun c3 => ?_)
      · skip
        exact absurd rfl c3
      · skip
        refine g_aload_n X d_AL_add2_6 0 rfl ?_
        refine g_callV (ci := 0) (As := []) (rest := []) X (z_ok eA eM) rfl rfl hQ (c_AL_grow hR hn24 hel hF) v_AL_grow q_299 q_s3 q_297 rfl rfl (Nat.le_of_ble_eq_true rfl) d_AL_add2_7 ⟨(Nat.le_of_ble_eq_true rfl), (Nat.le_of_ble_eq_true rfl)⟩ ⟨(Nat.le_of_ble_eq_true rfl), (Nat.le_of_ble_eq_true rfl)⟩ (g_K.no (fun _ h => h)) (fun r_ f2_ hp => ?_)
        obtain ⟨q2, cap2, g, e1, e2, e3, hg, rfl, rfl⟩ := hp
        refine g_st (st2 := [.ref q2]) rfl ?_
        have hqq : q ≠ q2 := g_nf hQ e1
        have hA0 : (g_u (g_u f q2 (.inl (cO, cap2, .inr (.inr (.inr (.inr g)))))) q (.inr (0, [.ref q2, .int (nI cap), .int mc]))) q2 = some (.inl (cO, cap2, .inr (.inr (.inr (.inr g))))) := (g_u_n (Ne.symm hqq)).trans g_u_s
        have hQ2 : (g_u (g_u f q2 (.inl (cO, cap2, .inr (.inr (.inr (.inr g)))))) q (.inr (0, [.ref q2, .int (nI cap), .int mc]))) q = some (.inr (0, [.ref q2, .int (nI cap), .int mc])) := g_u_s
        have hvq : v ≠ q := g_ne hv hQ (fun z => by cases z)
        have hv2 : (g_u (g_u f q2 (.inl (cO, cap2, .inr (.inr (.inr (.inr g)))))) q (.inr (0, [.ref q2, .int (nI cap), .int mc]))) v = some (.inr (4, vs)) := (g_u_n hvq).trans ((g_u_n (g_nf hv e1)).trans hv)
        refine g_astore_n (lv' := [(2, .ref q2), (0, .ref q), (1, .ref v), (3, .int (nI cap))]) X d_AL_add2_10 rfl (by decide) rfl ?_
        refine g_aload_n X d_AL_add2_11 0 rfl ?_
        refine g_iload_n X d_AL_add2_12 3 rfl ?_
        refine g_aload_n X d_AL_add2_13 2 rfl ?_
        refine g_aastO X hA0 hv2 (nI_ix (by omega : cap < cap2) (by omega)) d_AL_add2_14 ?_
        refine g_eqf (f2 := g_u (g_u (g_u f q2 (.inl (cO, cap2, .inr (.inr (.inr (.inr g)))))) q (.inr (0, [.ref q2, .int (nI cap), .int mc]))) q2 (.inl (cO, cap2, .inr (.inr (.inr (.inr (va_up g cap (some v)))))))) (by rw [nI_clamp (by omega)]) ?_
        have hQ9 : (g_u (g_u (g_u f q2 (.inl (cO, cap2, .inr (.inr (.inr (.inr g)))))) q (.inr (0, [.ref q2, .int (nI cap), .int mc]))) q2 (.inl (cO, cap2, .inr (.inr (.inr (.inr (va_up g cap (some v)))))))) q = some (.inr (0, [.ref q2, .int (nI cap), .int mc])) := (g_u_n (tu_ne hQ2 hA0)).trans hQ2
        refine g_aload_n X d_AL_add2_15 1 rfl ?_
        refine g_iload_n X d_AL_add2_16 3 rfl ?_
        refine g_iconst (v := 1) X d_AL_add2_17 (by decide) ?_
        refine g_iadd X d_AL_add2_18 ?_
        refine g_eqi (y := nI (cap + 1)) (nI_1 cap) ?_
        refine g_put (ci := 0) (C := R_AL) (T := F_AL) (N := 3) (ty := .int) (fs2 := [.ref q2, .int (nI (cap + 1)), .int mc]) X i_AL t_AL t_AL_ok n_AL rfl hQ9 1 (by decide) q_50 (fun _ h9 => h9) rfl (by decide +kernel) rfl rfl (Nat.le_of_ble_eq_true rfl) rfl d_AL_add2_19 ?_
        generalize ef_1 : g_u (g_u (g_u (g_u f q2 (.inl (cO, cap2, .inr (.inr (.inr (.inr g)))))) q (.inr (0, [.ref q2, .int (nI cap), .int mc]))) q2 (.inl (cO, cap2, .inr (.inr (.inr (.inr (va_up g cap (some v)))))))) q (.inr (0, [.ref q2, .int (nI (cap + 1)), .int mc])) = f_1
        have h_2 : f_1 q = some (.inr (0, [.ref q2, .int (nI (cap + 1)), .int mc])) := by rw [← ef_1]; exact g_u_s
        exact g_vret X rfl (⟨rfl, q2, cap2, ⟨by rw [← ef_1]; exact g_u_s, by omega, by omega, fun _ => ⟨va_up g cap (some v), by rw [← ef_1]; exact (g_u_n (Ne.symm hqq)).trans g_u_s, fun k hk => by unfold va_up; by_cases hkn : k = cap; rw [if_pos hkn, if_pos hkn]; rw [if_neg hkn, if_neg hkn]; exact hg k (by omega)⟩⟩, Or.inr e1, (Ne.symm hqq), (by rw [← ef_1]; rw [g_u_n (Ne.symm hqq), g_u_s]; exact fun z => (by cases z)), fun p_ x_ h1 h2 h3 => by rw [← ef_1]; exact (g_u_n h2).trans ((g_u_n (g_nf h1 e1)).trans ((g_u_n h2).trans ((g_u_n (g_nf h1 e1)).trans h1)))⟩) (Nat.le_of_ble_eq_true rfl) (Nat.le_of_ble_eq_true rfl) d_AL_add2_22
set_option maxHeartbeats 4000000 in
set_option maxRecDepth 100000 in
theorem c_AL_add {l : Launch} {D : va_G} {cI cZ cO cJ : ClassId} {eA eM : Nat} {f : g_F} {q eD : Nat} {ca : Nat → Nat} {n cap : Nat} {mc : Int32} (hR : al_R cO f q eD ca n cap mc) (hn24 : n < 24) (hel : ∀ i, i < n → ∃ vs, f (ca i) = some (.inr (4, vs))) (hE0 : n = 0 → eD = eA ∧ cap = 0) {v : Nat} {vs : List Value} (hv : f v = some (.inr (4, vs))) : g_C l y_AL_add b_AL_add 2 (some .boolean) { frames := 7, cells := 1, slots := 40, locals := 170 } D g_cl (g_tys cI cZ cO cJ) (z_Z eA eM) [.ref q, .ref v] f (fun r f2 => r = some (.int 1) ∧ ∃ eD2 cap2, al_R cO f2 q eD2 (va_up ca n v) (n + 1) cap2 (mc + 1) ∧ (eD2 = eD ∨ f eD2 = none) ∧ eD2 ≠ q ∧ f2 eD2 ≠ none ∧ (∀ p_ x_, f p_ = some x_ → p_ ≠ q → p_ ≠ eD → f2 p_ = some x_)) (fun _ => False) := by
  refine g_ofW [(0, .ref q), (1, .ref v)] (by decide +kernel) (Nat.le_of_ble_eq_true rfl) rfl ?_
  intro p e s m args below meth c X ht hin
  obtain ⟨hQ, hn, hcap, hE⟩ := id hR
  refine g_aload_n X d_AL_add_0 0 rfl ?_
  refine g_dup X d_AL_add_1 rfl ?_
  refine g_get (ci := 0) (C := R_AL) (T := F_AL) (N := 3) (v := .int mc) X i_AL rfl hQ 2 (by decide) q_52 (fun x h9 => u_same (X.1.2.2.2.2 _ q_same) x h9) rfl d_AL_add_2 ?_
  refine g_iconst (v := 1) X d_AL_add_5 (by decide) ?_
  refine g_iadd X d_AL_add_6 ?_
  refine g_put (ci := 0) (C := R_AL) (T := F_AL) (N := 3) (ty := .int) (fs2 := [.ref eD, .int (nI n), .int (mc + 1)]) X i_AL t_AL t_AL_ok n_AL rfl hQ 2 (by decide) q_52 (fun x h9 => u_same (X.1.2.2.2.2 _ q_same) x h9) rfl (by decide +kernel) rfl rfl (Nat.le_of_ble_eq_true rfl) rfl d_AL_add_7 ?_
  generalize ef_1 : g_u f q (.inr (0, [.ref eD, .int (nI n), .int (mc + 1)])) = f_1
  have h_2 : f_1 q = some (.inr (0, [.ref eD, .int (nI n), .int (mc + 1)])) := by rw [← ef_1]; exact g_u_s
  refine g_aload_n X d_AL_add_10 0 rfl ?_
  refine g_aload_n X d_AL_add_11 1 rfl ?_
  refine g_aload_n X d_AL_add_12 0 rfl ?_
  refine g_get (ci := 0) (C := R_AL) (T := F_AL) (N := 3) (v := .ref eD) X i_AL rfl h_2 0 (by decide) q_49 (fun _ h9 => h9) rfl d_AL_add_13 ?_
  refine g_aload_n X d_AL_add_16 0 rfl ?_
  refine g_get (ci := 0) (C := R_AL) (T := F_AL) (N := 3) (v := .int (nI n)) X i_AL rfl h_2 1 (by decide) q_50 (fun _ h9 => h9) rfl d_AL_add_17 ?_
  have hR2 : al_R cO f_1 q eD ca n cap (mc + 1) := ⟨h_2, hn, hcap, fun h => by
    obtain ⟨g, g1, g2⟩ := hE h
    exact ⟨g, by rw [← ef_1]; exact (g_u_n (Ne.symm (tu_ne hQ g1))).trans g1, g2⟩⟩
  have hel2 : ∀ i, i < n → ∃ vs, f_1 (ca i) = some (.inr (4, vs)) := fun i hi => by
    obtain ⟨vs, hvs⟩ := hel i hi
    exact ⟨vs, by rw [← ef_1]; exact (g_u_n (g_ne hvs hQ (fun z => by cases z))).trans hvs⟩
  have hv2 : f_1 v = some (.inr (4, vs)) := by rw [← ef_1]; exact (g_u_n (g_ne hv hQ (fun z => by cases z))).trans hv
  refine g_callV (ci := 0) (As := [.ref v, .ref eD, .int (nI n)]) (rest := []) X (z_ok eA eM) rfl rfl h_2 (c_AL_add2 hR2 hn24 hel2 hE0 hv2) v_AL_add2 q_295 q_s2 q_293 rfl rfl (Nat.le_of_ble_eq_true rfl) d_AL_add_20 ⟨(Nat.le_of_ble_eq_true rfl), (Nat.le_of_ble_eq_true rfl)⟩ ⟨(Nat.le_of_ble_eq_true rfl), (Nat.le_of_ble_eq_true rfl)⟩ (g_K.no (fun _ h => h)) (fun r_ f2_ hp => ?_)
  obtain ⟨rfl, eD2, cap2, a1, a2, a3, a4, a5⟩ := hp
  refine g_st (st2 := []) rfl ?_
  have a2b : eD2 = eD ∨ f eD2 = none := a2.imp id (fun z => by rw [← ef_1, g_u_n a3] at z; exact z)
  have a5b : ∀ p_ x_, f p_ = some x_ → p_ ≠ q → p_ ≠ eD → f2_ p_ = some x_ := fun p_ x_ h1 h2 h3 => a5 p_ x_ (by rw [← ef_1]; exact (g_u_n h2).trans h1) h2 h3
  refine g_iconst (v := 1) X d_AL_add_23 (by decide) ?_
  exact g_zret X rfl (by decide) (⟨rfl, eD2, cap2, a1, a2b, a3, a4, a5b⟩) (Nat.le_of_ble_eq_true rfl) (Nat.le_of_ble_eq_true rfl) d_AL_add_24
