/-- the reference's cells: 0 the object, 1 .. 14 its arrays -/
def mo_R (cI cZ : ClassId) (f : g_F) (bd : Nat → Nat) (th : Int32) (L nc : Nat) (pt ot : Nat → Int32) (n : Nat) (P Du S Wy tw ct PF DF : Nat → Nat) (GF : Nat → Bool) (pz pm : Nat) (O Le : Nat → Nat) (Sl : Nat → Bool) : Prop :=
  f (bd 0) = some (.inr (5, [.int th, .int (nI L), .int (nI nc), .ref (bd 1), .ref (bd 2), .int (nI n), .ref (bd 3), .ref (bd 4), .ref (bd 5), .ref (bd 6), .ref (bd 7), .ref (bd 8), .ref (bd 9), .ref (bd 10), .ref (bd 11), .int (nI pz), .int (nI pm), .ref (bd 12), .ref (bd 13), .ref (bd 14)])) ∧ f (bd 1) = some (.inl (cI, 24, .inl pt)) ∧ f (bd 2) = some (.inl (cI, 24, .inl ot)) ∧ f (bd 3) = some (.inl (cI, 8, .inl (fun q9 => nI (P q9)))) ∧ f (bd 4) = some (.inl (cI, 8, .inl (fun q9 => nI (Du q9)))) ∧ f (bd 5) = some (.inl (cI, 8, .inl (fun q9 => nI (S q9)))) ∧ f (bd 6) = some (.inl (cI, 100, .inl (fun q9 => nI (Wy q9)))) ∧ f (bd 7) = some (.inl (cI, 75024, .inl (fun q9 => nI (tw q9)))) ∧ f (bd 8) = some (.inl (cI, 24, .inl (fun q9 => nI (ct q9)))) ∧ f (bd 9) = some (.inl (cI, 768, .inl (fun q9 => nI (PF q9)))) ∧ f (bd 10) = some (.inl (cI, 768, .inl (fun q9 => nI (DF q9)))) ∧ f (bd 11) = some (.inl (cZ, 768, .inl (fun q9 => bI (GF q9)))) ∧ f (bd 12) = some (.inl (cI, 8, .inl (fun q9 => nI (O q9)))) ∧ f (bd 13) = some (.inl (cI, 2048, .inl (fun q9 => nI (Le q9)))) ∧ f (bd 14) = some (.inl (cZ, 256, .inl (fun q9 => bI (Sl q9))))
def mo_B (L nc n : Nat) (P Du S Wy tw ct PF DF : Nat → Nat) (pz pm : Nat) (O Le : Nat → Nat) : Prop :=
  (1 ≤ L ∧ L ≤ 5000) ∧ nc ≤ 24 ∧ tu_B P Du S Wy n ∧ (∀ i, tw i < 2 ^ 32) ∧ (∀ i, ct i ≤ 32) ∧ (∀ i, PF i < 10) ∧ (∀ i, DF i ≤ 100000) ∧ (pz ≤ 1000000000 ∧ pm ≤ 1000000000 ∧ (∀ i, O i < 8)) ∧ ∀ i, Le i ≤ 1000010000
set_option maxHeartbeats 4000000 in
set_option maxRecDepth 100000 in
theorem c_MO_thrown {l : Launch} {D : va_G} {cI cZ cO cJ : ClassId} {eA eM : Nat} {f : g_F} {bd : Nat → Nat} {th : Int32} {L nc : Nat} {pt ot : Nat → Int32} {n : Nat} {P Du S Wy tw ct PF DF : Nat → Nat} {GF : Nat → Bool} {pz pm : Nat} {O Le : Nat → Nat} {Sl : Nat → Bool} (hR : mo_R cI cZ f bd th L nc pt ot n P Du S Wy tw ct PF DF GF pz pm O Le Sl) (hB : mo_B L nc n P Du S Wy tw ct PF DF pz pm O Le) : g_C l y_MO_thrown b_MO_thrown 1 (some .int) { frames := 0, cells := 0, slots := 0, locals := 0 } D g_cl (g_tys cI cZ cO cJ) (z_Z eA eM) [.ref (bd 0)] f (fun r f2 => r = some (.int th) ∧ f2 = f) (fun _ => False) := by
  refine g_ofW [(0, .ref (bd 0))] (by decide +kernel) (Nat.le_of_ble_eq_true rfl) rfl ?_
  intro p e s m args below meth c X ht hin
  obtain ⟨hM, h1, h2, h3, h4, h5, h6, h7, h8, h9, h10, h11, h12, h13, h14⟩ := id hR
  obtain ⟨⟨hL1, hL5⟩, hnc, hUB, htw, hct, hPF, hDF, ⟨hpz, hpm, hO8⟩, hLe⟩ := id hB
  obtain ⟨hn8, hP, hDu, hS, hWy⟩ := id hUB
  refine g_aload_n X d_MO_thrown_0 0 rfl ?_
  refine g_get (ci := 5) (C := R_MO) (T := F_MO) (N := 20) (v := .int th) X i_MO rfl hM 0 (by decide) q_597 (fun _ h9 => h9) rfl d_MO_thrown_1 ?_
  exact g_iret X rfl (⟨rfl, rfl⟩) (Nat.le_of_ble_eq_true rfl) (Nat.le_of_ble_eq_true rfl) d_MO_thrown_4
set_option maxHeartbeats 4000000 in
set_option maxRecDepth 100000 in
theorem c_MO_in {l : Launch} {D : va_G} {cI cZ cO cJ : ClassId} {eA eM : Nat} {f : g_F} {x a b : Int32} : g_C l y_MO_in b_MO_in 3 (some .boolean) { frames := 0, cells := 0, slots := 0, locals := 0 } D g_cl (g_tys cI cZ cO cJ) (z_Z eA eM) [.int x, .int a, .int b] f (fun r f2 => r = some (.int (bI (decide (¬ x < a ∧ x ≤ b)))) ∧ f2 = f) (fun _ => False) := by
  refine g_ofW [(0, .int x), (1, .int a), (2, .int b)] (by decide +kernel) (Nat.le_of_ble_eq_true rfl) rfl ?_
  intro p e s m args below meth c X ht hin
  refine g_iload_n X d_MO_in_0 0 rfl ?_
  refine g_iload_n X d_MO_in_1 1 rfl ?_
  refine g_icmp_lt X 14 d_MO_in_2 (by decide) (fun c2 => ?_) (fun c2 => ?_)
  · skip
    refine g_iconst (v := 0) X d_MO_in_14 (by decide) ?_
    exact g_zret X rfl (by decide) (⟨by rw [decide_eq_false (show ¬ (¬ x < a ∧ x ≤ b) from fun z => by first | exact z.1 c2 | exact absurd c7 (Int32.not_lt.mpr z.2))]; rfl, rfl⟩) (Nat.le_of_ble_eq_true rfl) (Nat.le_of_ble_eq_true rfl) d_MO_in_15
  · skip
    refine g_iload_n X d_MO_in_5 0 rfl ?_
    refine g_iload_n X d_MO_in_6 2 rfl ?_
    refine g_icmp_gt X 14 d_MO_in_7 (by decide) (fun c7 => ?_) (fun c7 => ?_)
    · skip
      refine g_iconst (v := 0) X d_MO_in_14 (by decide) ?_
      exact g_zret X rfl (by decide) (⟨by rw [decide_eq_false (show ¬ (¬ x < a ∧ x ≤ b) from fun z => by first | exact z.1 c2 | exact absurd c7 (Int32.not_lt.mpr z.2))]; rfl, rfl⟩) (Nat.le_of_ble_eq_true rfl) (Nat.le_of_ble_eq_true rfl) d_MO_in_15
    · skip
      refine g_iconst (v := 1) X d_MO_in_10 (by decide) ?_
      refine g_goto X 15 d_MO_in_11 (by decide) ?_
      exact g_zret X rfl (by decide) (⟨by rw [decide_eq_true (show ¬ x < a ∧ x ≤ b from ⟨c2, Int32.not_lt.mp c7⟩)]; rfl, rfl⟩) (Nat.le_of_ble_eq_true rfl) (Nat.le_of_ble_eq_true rfl) d_MO_in_15
abbrev gth (b1 b2 : Bool) : Int32 := if b1 then (if b2 then 0 else 2) else 1
/-- the world with another 'thrown' -/
abbrev m_th (f : g_F) (bd : Nat → Nat) (v : Int32) (L nc n pz pm : Nat) : g_F := g_u f (bd 0) (.inr (5, [.int v, .int (nI L), .int (nI nc), .ref (bd 1), .ref (bd 2), .int (nI n), .ref (bd 3), .ref (bd 4), .ref (bd 5), .ref (bd 6), .ref (bd 7), .ref (bd 8), .ref (bd 9), .ref (bd 10), .ref (bd 11), .int (nI pz), .int (nI pm), .ref (bd 12), .ref (bd 13), .ref (bd 14)]))
set_option maxHeartbeats 4000000 in
set_option maxRecDepth 100000 in
theorem c_MO_goes {l : Launch} {D : va_G} {cI cZ cO cJ : ClassId} {eA eM : Nat} {f : g_F} {bd : Nat → Nat} {th : Int32} {L nc : Nat} {pt ot : Nat → Int32} {n : Nat} {P Du S Wy tw ct PF DF : Nat → Nat} {GF : Nat → Bool} {pz pm : Nat} {O Le : Nat → Nat} {Sl : Nat → Bool} (hR : mo_R cI cZ f bd th L nc pt ot n P Du S Wy tw ct PF DF GF pz pm O Le Sl) (hB : mo_B L nc n P Du S Wy tw ct PF DF pz pm O Le) {b1 b2 : Bool} : g_C l y_MO_goes b_MO_goes 3 (some .boolean) { frames := 0, cells := 0, slots := 0, locals := 0 } D g_cl (g_tys cI cZ cO cJ) (z_Z eA eM) [.ref (bd 0), .int (bI b1), .int (bI b2)] f (fun r f2 => r = some (.int (bI (b1 && b2))) ∧ f2 = m_th f bd (gth b1 b2) L nc n pz pm) (fun _ => False) := by
  refine g_ofW [(0, .ref (bd 0)), (1, .int (bI b1)), (2, .int (bI b2))] (by decide +kernel) (Nat.le_of_ble_eq_true rfl) rfl ?_
  intro p e s m args below meth c X ht hin
  obtain ⟨hM, h1, h2, h3, h4, h5, h6, h7, h8, h9, h10, h11, h12, h13, h14⟩ := id hR
  obtain ⟨⟨hL1, hL5⟩, hnc, hUB, htw, hct, hPF, hDF, ⟨hpz, hpm, hO8⟩, hLe⟩ := id hB
  obtain ⟨hn8, hP, hDu, hS, hWy⟩ := id hUB
  refine g_aload_n X d_MO_goes_0 0 rfl ?_
  refine g_iload_n X d_MO_goes_1 1 rfl ?_
  refine g_if_ne X 9 d_MO_goes_2 (by decide) (fun c2 => ?_) (fun c2 => ?_)
  · skip
    refine g_iload_n X d_MO_goes_9 2 rfl ?_
    refine g_if_ne X 17 d_MO_goes_10 (by decide) (fun c10 => ?_) (fun c10 => ?_)
    · skip
      refine g_iconst (v := 0) X d_MO_goes_17 (by decide) ?_
      refine g_put (ci := 5) (C := R_MO) (T := F_MO) (N := 20) (ty := .int) (fs2 := [.int 0, .int (nI L), .int (nI nc), .ref (bd 1), .ref (bd 2), .int (nI n), .ref (bd 3), .ref (bd 4), .ref (bd 5), .ref (bd 6), .ref (bd 7), .ref (bd 8), .ref (bd 9), .ref (bd 10), .ref (bd 11), .int (nI pz), .int (nI pm), .ref (bd 12), .ref (bd 13), .ref (bd 14)]) X i_MO t_MO t_MO_ok n_MO rfl hM 0 (by decide) q_597 (fun _ h9 => h9) rfl (by decide +kernel) rfl rfl (Nat.le_of_ble_eq_true rfl) rfl d_MO_goes_18 ?_
      generalize ef_1 : g_u f (bd 0) (.inr (5, [.int 0, .int (nI L), .int (nI nc), .ref (bd 1), .ref (bd 2), .int (nI n), .ref (bd 3), .ref (bd 4), .ref (bd 5), .ref (bd 6), .ref (bd 7), .ref (bd 8), .ref (bd 9), .ref (bd 10), .ref (bd 11), .int (nI pz), .int (nI pm), .ref (bd 12), .ref (bd 13), .ref (bd 14)])) = f_1
      have h_2 : f_1 (bd 0) = some (.inr (5, [.int 0, .int (nI L), .int (nI nc), .ref (bd 1), .ref (bd 2), .int (nI n), .ref (bd 3), .ref (bd 4), .ref (bd 5), .ref (bd 6), .ref (bd 7), .ref (bd 8), .ref (bd 9), .ref (bd 10), .ref (bd 11), .int (nI pz), .int (nI pm), .ref (bd 12), .ref (bd 13), .ref (bd 14)])) := by rw [← ef_1]; exact g_u_s
      refine g_aload_n X d_MO_goes_21 0 rfl ?_
      refine g_get (ci := 5) (C := R_MO) (T := F_MO) (N := 20) (v := .int 0) X i_MO rfl h_2 0 (by decide) q_597 (fun _ h9 => h9) rfl d_MO_goes_22 ?_
      refine g_if_ne X 32 d_MO_goes_25 (by decide) (fun c25 => ?_) (fun c25 => ?_)
      · skip
        exact absurd rfl c25
      · skip
        skip
        refine g_iconst (v := 1) X d_MO_goes_28 (by decide) ?_
        refine g_goto X 33 d_MO_goes_29 (by decide) ?_
        exact g_zret X rfl (by decide) (⟨by rw [bt_nf (fun z => c2 (bI_z.mpr z)), bt_nf (fun z => c10 (bI_z.mpr z))]; rfl, by rw [bt_nf (fun z => c2 (bI_z.mpr z)), bt_nf (fun z => c10 (bI_z.mpr z))]; rw [← ef_1]; rfl⟩) (Nat.le_of_ble_eq_true rfl) (Nat.le_of_ble_eq_true rfl) d_MO_goes_33
    · skip
      refine g_iconst (v := 2) X d_MO_goes_13 (by decide) ?_
      refine g_goto X 18 d_MO_goes_14 (by decide) ?_
      refine g_put (ci := 5) (C := R_MO) (T := F_MO) (N := 20) (ty := .int) (fs2 := [.int 2, .int (nI L), .int (nI nc), .ref (bd 1), .ref (bd 2), .int (nI n), .ref (bd 3), .ref (bd 4), .ref (bd 5), .ref (bd 6), .ref (bd 7), .ref (bd 8), .ref (bd 9), .ref (bd 10), .ref (bd 11), .int (nI pz), .int (nI pm), .ref (bd 12), .ref (bd 13), .ref (bd 14)]) X i_MO t_MO t_MO_ok n_MO rfl hM 0 (by decide) q_597 (fun _ h9 => h9) rfl (by decide +kernel) rfl rfl (Nat.le_of_ble_eq_true rfl) rfl d_MO_goes_18 ?_
      generalize ef_3 : g_u f (bd 0) (.inr (5, [.int 2, .int (nI L), .int (nI nc), .ref (bd 1), .ref (bd 2), .int (nI n), .ref (bd 3), .ref (bd 4), .ref (bd 5), .ref (bd 6), .ref (bd 7), .ref (bd 8), .ref (bd 9), .ref (bd 10), .ref (bd 11), .int (nI pz), .int (nI pm), .ref (bd 12), .ref (bd 13), .ref (bd 14)])) = f_3
      have h_4 : f_3 (bd 0) = some (.inr (5, [.int 2, .int (nI L), .int (nI nc), .ref (bd 1), .ref (bd 2), .int (nI n), .ref (bd 3), .ref (bd 4), .ref (bd 5), .ref (bd 6), .ref (bd 7), .ref (bd 8), .ref (bd 9), .ref (bd 10), .ref (bd 11), .int (nI pz), .int (nI pm), .ref (bd 12), .ref (bd 13), .ref (bd 14)])) := by rw [← ef_3]; exact g_u_s
      refine g_aload_n X d_MO_goes_21 0 rfl ?_
      refine g_get (ci := 5) (C := R_MO) (T := F_MO) (N := 20) (v := .int 2) X i_MO rfl h_4 0 (by decide) q_597 (fun _ h9 => h9) rfl d_MO_goes_22 ?_
      refine g_if_ne X 32 d_MO_goes_25 (by decide) (fun c25 => ?_) (fun c25 => ?_)
      · skip
        skip
        refine g_iconst (v := 0) X d_MO_goes_32 (by decide) ?_
        exact g_zret X rfl (by decide) (⟨by rw [bI_z.mp c10, Bool.and_false]; rfl, by rw [bt_nf (fun z => c2 (bI_z.mpr z)), bI_z.mp c10]; rw [← ef_3]; rfl⟩) (Nat.le_of_ble_eq_true rfl) (Nat.le_of_ble_eq_true rfl) d_MO_goes_33
      · skip
        exact absurd c25 (by decide)
  · skip
    refine g_iconst (v := 1) X d_MO_goes_5 (by decide) ?_
    refine g_goto X 18 d_MO_goes_6 (by decide) ?_
    refine g_put (ci := 5) (C := R_MO) (T := F_MO) (N := 20) (ty := .int) (fs2 := [.int 1, .int (nI L), .int (nI nc), .ref (bd 1), .ref (bd 2), .int (nI n), .ref (bd 3), .ref (bd 4), .ref (bd 5), .ref (bd 6), .ref (bd 7), .ref (bd 8), .ref (bd 9), .ref (bd 10), .ref (bd 11), .int (nI pz), .int (nI pm), .ref (bd 12), .ref (bd 13), .ref (bd 14)]) X i_MO t_MO t_MO_ok n_MO rfl hM 0 (by decide) q_597 (fun _ h9 => h9) rfl (by decide +kernel) rfl rfl (Nat.le_of_ble_eq_true rfl) rfl d_MO_goes_18 ?_
    generalize ef_5 : g_u f (bd 0) (.inr (5, [.int 1, .int (nI L), .int (nI nc), .ref (bd 1), .ref (bd 2), .int (nI n), .ref (bd 3), .ref (bd 4), .ref (bd 5), .ref (bd 6), .ref (bd 7), .ref (bd 8), .ref (bd 9), .ref (bd 10), .ref (bd 11), .int (nI pz), .int (nI pm), .ref (bd 12), .ref (bd 13), .ref (bd 14)])) = f_5
    have h_6 : f_5 (bd 0) = some (.inr (5, [.int 1, .int (nI L), .int (nI nc), .ref (bd 1), .ref (bd 2), .int (nI n), .ref (bd 3), .ref (bd 4), .ref (bd 5), .ref (bd 6), .ref (bd 7), .ref (bd 8), .ref (bd 9), .ref (bd 10), .ref (bd 11), .int (nI pz), .int (nI pm), .ref (bd 12), .ref (bd 13), .ref (bd 14)])) := by rw [← ef_5]; exact g_u_s
    refine g_aload_n X d_MO_goes_21 0 rfl ?_
    refine g_get (ci := 5) (C := R_MO) (T := F_MO) (N := 20) (v := .int 1) X i_MO rfl h_6 0 (by decide) q_597 (fun _ h9 => h9) rfl d_MO_goes_22 ?_
    refine g_if_ne X 32 d_MO_goes_25 (by decide) (fun c25 => ?_) (fun c25 => ?_)
    · skip
      skip
      refine g_iconst (v := 0) X d_MO_goes_32 (by decide) ?_
      exact g_zret X rfl (by decide) (⟨by rw [bI_z.mp c2]; rfl, by rw [bI_z.mp c2] ; rw [← ef_5]; rfl⟩) (Nat.le_of_ble_eq_true rfl) (Nat.le_of_ble_eq_true rfl) d_MO_goes_33
    · skip
      exact absurd c25 (by decide)
set_option maxHeartbeats 4000000 in
set_option maxRecDepth 100000 in
theorem c_MO_isCase {l : Launch} {D : va_G} {cI cZ cO cJ : ClassId} {eA eM : Nat} {f : g_F} {bd : Nat → Nat} {th : Int32} {L nc : Nat} {pt ot : Nat → Int32} {n : Nat} {P Du S Wy tw ct PF DF : Nat → Nat} {GF : Nat → Bool} {pz pm : Nat} {O Le : Nat → Nat} {Sl : Nat → Bool} (hR : mo_R cI cZ f bd th L nc pt ot n P Du S Wy tw ct PF DF GF pz pm O Le Sl) (hB : mo_B L nc n P Du S Wy tw ct PF DF pz pm O Le) {x : Int32} : g_C l y_MO_isCase b_MO_isCase 2 (some .boolean) { frames := 1, cells := 0, slots := 0, locals := 22 } D g_cl (g_tys cI cZ cO cJ) (z_Z eA eM) [.ref (bd 0), .int x] f (fun r f2 => (∃ b : Bool, (b = true ↔ inR x nc) ∧ r = some (.int (bI b))) ∧ f2 = f) (fun _ => False) := by
  refine g_ofW [(0, .ref (bd 0)), (1, .int x)] (by decide +kernel) (Nat.le_of_ble_eq_true rfl) rfl ?_
  intro p e s m args below meth c X ht hin
  obtain ⟨hM, h1, h2, h3, h4, h5, h6, h7, h8, h9, h10, h11, h12, h13, h14⟩ := id hR
  obtain ⟨⟨hL1, hL5⟩, hnc, hUB, htw, hct, hPF, hDF, ⟨hpz, hpm, hO8⟩, hLe⟩ := id hB
  obtain ⟨hn8, hP, hDu, hS, hWy⟩ := id hUB
  refine g_iload_n X d_MO_isCase_0 1 rfl ?_
  refine g_iconst (v := 0) X d_MO_isCase_1 (by decide) ?_
  refine g_aload_n X d_MO_isCase_2 0 rfl ?_
  refine g_get (ci := 5) (C := R_MO) (T := F_MO) (N := 20) (v := .int (nI nc)) X i_MO rfl hM 2 (by decide) q_599 (fun _ h9 => h9) rfl d_MO_isCase_3 ?_
  refine g_iconst (v := 1) X d_MO_isCase_6 (by decide) ?_
  refine g_isub X d_MO_isCase_7 ?_
  refine g_callS (As := [.int x, .int 0, .int ((nI nc) - 1)]) (rest := []) X (z_ok eA eM) (c_MO_in (f := f) (x := x) (a := 0) (b := nI nc - 1)) v_MO_in q_667 q_666 rfl rfl (Nat.le_of_ble_eq_true rfl) d_MO_isCase_8 ⟨(Nat.le_of_ble_eq_true rfl), (Nat.le_of_ble_eq_true rfl)⟩ ⟨(Nat.le_of_ble_eq_true rfl), (Nat.le_of_ble_eq_true rfl)⟩ (g_K.no (fun _ h => h)) (fun r_ f2_ hp => ?_)
  obtain ⟨rfl, hf_⟩ := hp
  subst f2_
  refine g_st (st2 := [.int (bI (decide (¬ x < 0 ∧ x ≤ (nI nc - 1))))]) rfl ?_
  exact g_zret X rfl (bI_nar _) (⟨⟨_, ⟨fun h => (inR_iff (by omega)).mp (of_decide_eq_true h), fun h => decide_eq_true ((inR_iff (by omega)).mpr h)⟩, rfl⟩, rfl⟩) (Nat.le_of_ble_eq_true rfl) (Nat.le_of_ble_eq_true rfl) d_MO_isCase_11
set_option maxHeartbeats 4000000 in
set_option maxRecDepth 100000 in
theorem c_MO_isDay {l : Launch} {D : va_G} {cI cZ cO cJ : ClassId} {eA eM : Nat} {f : g_F} {x : Int32} : g_C l y_MO_isDay b_MO_isDay 1 (some .boolean) { frames := 1, cells := 0, slots := 0, locals := 22 } D g_cl (g_tys cI cZ cO cJ) (z_Z eA eM) [.int x] f (fun r f2 => (∃ b : Bool, (b = true ↔ inR x 100001) ∧ r = some (.int (bI b))) ∧ f2 = f) (fun _ => False) := by
  refine g_ofW [(0, .int x)] (by decide +kernel) (Nat.le_of_ble_eq_true rfl) rfl ?_
  intro p e s m args below meth c X ht hin
  refine g_iload_n X d_MO_isDay_0 0 rfl ?_
  refine g_iconst (v := 0) X d_MO_isDay_1 (by decide) ?_
  refine g_ldc (v := 100000) X q_696 d_MO_isDay_2 ?_
  refine g_callS (As := [.int x, .int 0, .int 100000]) (rest := []) X (z_ok eA eM) (c_MO_in (f := f) (x := x) (a := 0) (b := 100000)) v_MO_in q_667 q_666 rfl rfl (Nat.le_of_ble_eq_true rfl) d_MO_isDay_4 ⟨(Nat.le_of_ble_eq_true rfl), (Nat.le_of_ble_eq_true rfl)⟩ ⟨(Nat.le_of_ble_eq_true rfl), (Nat.le_of_ble_eq_true rfl)⟩ (g_K.no (fun _ h => h)) (fun r_ f2_ hp => ?_)
  obtain ⟨rfl, hf_⟩ := hp
  subst f2_
  refine g_st (st2 := [.int (bI (decide (¬ x < 0 ∧ x ≤ 100000)))]) rfl ?_
  exact g_zret X rfl (bI_nar _) (⟨⟨_, ⟨fun h => inD_iff.mp (of_decide_eq_true h), fun h => decide_eq_true (inD_iff.mpr h)⟩, rfl⟩, rfl⟩) (Nat.le_of_ble_eq_true rfl) (Nat.le_of_ble_eq_true rfl) d_MO_isDay_7
theorem sbit {a k : Nat} (ha : a < 2 ^ 31) (hk : k < 32) : (nI a >>> (nI k &&& 31)) &&& 1 = nI (a / 2 ^ k % 2) := by
  rw [pk_shrN ha _ k (bs_l k hk), show (1 : Int32) = nI 1 from rfl, nI_and, Nat.and_one_is_mod]
theorem sbit_iff {a k : Nat} (ha : a < 2 ^ 31) (hk : k < 32) : (nI a >>> (nI k &&& 31)) &&& 1 = 1 ↔ a.testBit k = true := by
  rw [sbit ha hk, show (1 : Int32) = nI 1 from rfl, nI_eq (by omega) (by decide), Nat.testBit_eq_decide_div_mod_eq, decide_eq_true_iff]
theorem sbit_z {a k : Nat} (ha : a < 2 ^ 31) (hk : k < 32) : (nI a >>> (nI k &&& 31)) &&& 1 = 0 ↔ a.testBit k = false := by
  rw [sbit ha hk, nI_z (by omega), Nat.testBit_eq_decide_div_mod_eq, decide_eq_false_iff_not]
  omega
set_option maxHeartbeats 4000000 in
set_option maxRecDepth 100000 in
theorem c_MO_has {l : Launch} {D : va_G} {cI cZ cO cJ : ClassId} {eA eM : Nat} {f : g_F} {a k : Nat} (ha : a < 2 ^ 31) (hk : k < 32) : g_C l y_MO_has b_MO_has 2 (some .boolean) { frames := 0, cells := 0, slots := 0, locals := 0 } D g_cl (g_tys cI cZ cO cJ) (z_Z eA eM) [.int (nI a), .int (nI k)] f (fun r f2 => r = some (.int (bI (a.testBit k))) ∧ f2 = f) (fun _ => False) := by
  refine g_ofW [(0, .int (nI a)), (1, .int (nI k))] (by decide +kernel) (Nat.le_of_ble_eq_true rfl) rfl ?_
  intro p e s m args below meth c X ht hin
  refine g_iload_n X d_MO_has_0 0 rfl ?_
  refine g_iload_n X d_MO_has_1 1 rfl ?_
  refine g_ishr X d_MO_has_2 ?_
  refine g_iconst (v := 1) X d_MO_has_3 (by decide) ?_
  refine g_iand X d_MO_has_4 ?_
  refine g_iconst (v := 1) X d_MO_has_5 (by decide) ?_
  refine g_icmp_ne X 13 d_MO_has_6 (by decide) (fun c6 => ?_) (fun c6 => ?_)
  · skip
    refine g_iconst (v := 0) X d_MO_has_13 (by decide) ?_
    exact g_zret X rfl (by decide) (⟨by rw [bt_nt (fun z => c6 ((sbit_iff ha hk).mpr z))]; rfl, rfl⟩) (Nat.le_of_ble_eq_true rfl) (Nat.le_of_ble_eq_true rfl) d_MO_has_14
  · skip
    refine g_iconst (v := 1) X d_MO_has_9 (by decide) ?_
    refine g_goto X 14 d_MO_has_10 (by decide) ?_
    exact g_zret X rfl (by decide) (⟨by rw [(sbit_iff ha hk).mp c6]; rfl, rfl⟩) (Nat.le_of_ble_eq_true rfl) (Nat.le_of_ble_eq_true rfl) d_MO_has_14
set_option maxHeartbeats 4000000 in
set_option maxRecDepth 100000 in
theorem c_MO_between {l : Launch} {D : va_G} {cI cZ cO cJ : ClassId} {eA eM : Nat} {f : g_F} {bd : Nat → Nat} {th : Int32} {L nc : Nat} {pt ot : Nat → Int32} {n : Nat} {P Du S Wy tw ct PF DF : Nat → Nat} {GF : Nat → Bool} {pz pm : Nat} {O Le : Nat → Nat} {Sl : Nat → Bool} (hR : mo_R cI cZ f bd th L nc pt ot n P Du S Wy tw ct PF DF GF pz pm O Le Sl) (hB : mo_B L nc n P Du S Wy tw ct PF DF pz pm O Le) {i j : Nat} (hi : i < 8) (hj : j < 8) : g_C l y_MO_between b_MO_between 3 (some .int) { frames := 0, cells := 0, slots := 0, locals := 0 } D g_cl (g_tys cI cZ cO cJ) (z_Z eA eM) [.ref (bd 0), .int (nI i), .int (nI j)] f (fun r f2 => r = some (.int (nI (tu_wy P Wy i j))) ∧ f2 = f) (fun _ => False) := by
  refine g_ofW [(0, .ref (bd 0)), (1, .int (nI i)), (2, .int (nI j))] (by decide +kernel) (Nat.le_of_ble_eq_true rfl) rfl ?_
  intro p e s m args below meth c X ht hin
  obtain ⟨hM, h1, h2, h3, h4, h5, h6, h7, h8, h9, h10, h11, h12, h13, h14⟩ := id hR
  obtain ⟨⟨hL1, hL5⟩, hnc, hUB, htw, hct, hPF, hDF, ⟨hpz, hpm, hO8⟩, hLe⟩ := id hB
  obtain ⟨hn8, hP, hDu, hS, hWy⟩ := id hUB
  have hb : P i * 10 + P j < 100 := by have := hP i; have := hP j; omega
  refine g_aload_n X d_MO_between_0 0 rfl ?_
  refine g_get (ci := 5) (C := R_MO) (T := F_MO) (N := 20) (v := .ref (bd 6)) X i_MO rfl hM 9 (by decide) q_606 (fun _ h9 => h9) rfl d_MO_between_1 ?_
  refine g_bipush (v := 10) X d_MO_between_4 (by decide) ?_
  refine g_aload_n X d_MO_between_6 0 rfl ?_
  refine g_get (ci := 5) (C := R_MO) (T := F_MO) (N := 20) (v := .ref (bd 3)) X i_MO rfl hM 6 (by decide) q_603 (fun _ h9 => h9) rfl d_MO_between_7 ?_
  refine g_iload_n X d_MO_between_10 1 rfl ?_
  refine g_iald (t0 := 0) (v := nI (P i)) X h3 rfl (nI_ix (hi) (by decide)) (nI_cl (g := fun q9 => nI (P q9)) (Nat.lt_trans (hi) (by decide))) d_MO_between_11 ?_
  refine g_imul X d_MO_between_12 ?_
  refine g_eqi (y := nI (P i * 10)) ((nI_mul 10 (P i)).trans (by rw [Nat.mul_comm])) ?_
  refine g_aload_n X d_MO_between_13 0 rfl ?_
  refine g_get (ci := 5) (C := R_MO) (T := F_MO) (N := 20) (v := .ref (bd 3)) X i_MO rfl hM 6 (by decide) q_603 (fun _ h9 => h9) rfl d_MO_between_14 ?_
  refine g_iload_n X d_MO_between_17 2 rfl ?_
  refine g_iald (t0 := 0) (v := nI (P j)) X h3 rfl (nI_ix (hj) (by decide)) (nI_cl (g := fun q9 => nI (P q9)) (Nat.lt_trans (hj) (by decide))) d_MO_between_18 ?_
  refine g_iadd X d_MO_between_19 ?_
  refine g_eqi (y := nI (P i * 10 + P j)) (nI_add _ _) ?_
  refine g_iald (t0 := 0) (v := nI (Wy (P i * 10 + P j))) X h6 rfl (nI_ix (hb) (by decide)) (nI_cl (g := fun q9 => nI (Wy q9)) (Nat.lt_trans (hb) (by decide))) d_MO_between_20 ?_
  exact g_iret X rfl (⟨rfl, rfl⟩) (Nat.le_of_ble_eq_true rfl) (Nat.le_of_ble_eq_true rfl) d_MO_between_21
def orA (S : Nat → Nat) : Nat → Nat
  | 0 => 0
  | i + 1 => orA S i ||| S i
theorem orA_lt {S : Nat → Nat} (hS : ∀ i, S i < 2 ^ 24) : ∀ n, orA S n < 2 ^ 24
  | 0 => (by decide : 0 < 2 ^ 24)
  | n + 1 => or_lt (orA_lt hS n) (hS n)
set_option maxHeartbeats 4000000 in
set_option maxRecDepth 100000 in
theorem L_MO_allShown {p : Program} {l : Launch} {e : Env} {s : State} {m : MethodId} {args : Array Value} {below : List Frame} {meth : Method} {c : Code} {Q : State → Prop} {A : Nat → Prop} {D : va_G} {cI cZ cO cJ : ClassId} {eA eM : Nat} {f : g_F} {bd : Nat → Nat} {th : Int32} {L nc : Nat} {pt ot : Nat → Int32} {n : Nat} {P Du S Wy tw ct PF DF : Nat → Nat} {GF : Nat → Bool} {pz pm : Nat} {O Le : Nat → Nat} {Sl : Nat → Bool} (hR : mo_R cI cZ f bd th L nc pt ot n P Du S Wy tw ct PF DF GF pz pm O Le Sl) (hB : mo_B L nc n P Du S Wy tw ct PF DF pz pm O Le) (X : g_X p s m args meth c b_MO_allShown 3 (some .int) g_T y_MO_allShown.cls D g_cl (g_tys cI cZ cO cJ) A (z_Z eA eM)) (kk : g_W p l e { frames := 0, cells := 0, slots := 0, locals := 0 } s m args below meth c 3 D g_cl A f 0 0 Q 27 [(2, .int (nI n)), (1, .int (nI (orA S n))), (0, .ref (bd 0))] []) : ∀ (d : Nat) (i : Nat), (i + d = n) → g_W p l e { frames := 0, cells := 0, slots := 0, locals := 0 } s m args below meth c 3 D g_cl A f 0 0 Q 4 [(2, .int (nI i)), (1, .int (nI (orA S i))), (0, .ref (bd 0))] [] := by
  obtain ⟨hM, h1, h2, h3, h4, h5, h6, h7, h8, h9, h10, h11, h12, h13, h14⟩ := id hR
  obtain ⟨⟨hL1, hL5⟩, hnc, hUB, htw, hct, hPF, hDF, ⟨hpz, hpm, hO8⟩, hLe⟩ := id hB
  obtain ⟨hn8, hP, hDu, hS, hWy⟩ := id hUB
  intro d
  induction d using Nat.strongRecOn with
  | _ d ih =>
    intro i hi
    refine g_iload_n X d_MO_allShown_4 0 rfl ?_
    refine g_aload_n X d_MO_allShown_5 2 rfl ?_
    refine g_get (ci := 5) (C := R_MO) (T := F_MO) (N := 20) (v := .int (nI n)) X i_MO rfl hM 5 (by decide) q_602 (fun _ h9 => h9) rfl d_MO_allShown_6 ?_
    refine g_icmp_ge X 27 d_MO_allShown_9 (by decide) (fun c9 => ?_) (fun c9 => ?_)
    · skip
      have e : i = n := by have := (nI_leI (by omega) (by omega)).mp c9; omega
      subst e
      exact kk
    · skip
      have hlt : i < n := Nat.lt_of_not_le (fun z => c9 ((nI_leI (by omega) (by omega)).mpr z))
      refine g_iload_n X d_MO_allShown_12 1 rfl ?_
      refine g_aload_n X d_MO_allShown_13 2 rfl ?_
      refine g_get (ci := 5) (C := R_MO) (T := F_MO) (N := 20) (v := .ref (bd 5)) X i_MO rfl hM 8 (by decide) q_605 (fun _ h9 => h9) rfl d_MO_allShown_14 ?_
      refine g_iload_n X d_MO_allShown_17 0 rfl ?_
      refine g_iald (t0 := 0) (v := nI (S i)) X h5 rfl (nI_ix ((by omega : i < 8)) (by decide)) (nI_cl (g := fun q9 => nI (S q9)) (Nat.lt_trans ((by omega : i < 8)) (by decide))) d_MO_allShown_18 ?_
      refine g_ior X d_MO_allShown_19 ?_
      refine g_eqi (y := nI (orA S (i + 1))) (nI_or _ _) ?_
      refine g_istore_n (lv' := [(1, .int (nI (orA S (i + 1)))), (2, .int (nI i)), (0, .ref (bd 0))]) X d_MO_allShown_20 rfl (by decide) rfl ?_
      refine g_iinc (lv' := [(2, .int (nI (i + 1))), (1, .int (nI (orA S (i + 1)))), (0, .ref (bd 0))]) X d_MO_allShown_21 1 rfl (nI_1 i) (by decide) rfl ?_
      refine g_goto X 4 d_MO_allShown_24 (by decide) ?_
      exact g_lv [0, 1, 2] rfl (ih (d - 1) (by omega) (i + 1) (by omega))
set_option maxHeartbeats 4000000 in
set_option maxRecDepth 100000 in
theorem c_MO_allShown {l : Launch} {D : va_G} {cI cZ cO cJ : ClassId} {eA eM : Nat} {f : g_F} {bd : Nat → Nat} {th : Int32} {L nc : Nat} {pt ot : Nat → Int32} {n : Nat} {P Du S Wy tw ct PF DF : Nat → Nat} {GF : Nat → Bool} {pz pm : Nat} {O Le : Nat → Nat} {Sl : Nat → Bool} (hR : mo_R cI cZ f bd th L nc pt ot n P Du S Wy tw ct PF DF GF pz pm O Le Sl) (hB : mo_B L nc n P Du S Wy tw ct PF DF pz pm O Le) : g_C l y_MO_allShown b_MO_allShown 3 (some .int) { frames := 0, cells := 0, slots := 0, locals := 0 } D g_cl (g_tys cI cZ cO cJ) (z_Z eA eM) [.ref (bd 0)] f (fun r f2 => r = some (.int (nI (orA S n))) ∧ f2 = f) (fun _ => False) := by
  refine g_ofW [(0, .ref (bd 0))] (by decide +kernel) (Nat.le_of_ble_eq_true rfl) rfl ?_
  intro p e s m args below meth c X ht hin
  obtain ⟨hM, h1, h2, h3, h4, h5, h6, h7, h8, h9, h10, h11, h12, h13, h14⟩ := id hR
  obtain ⟨⟨hL1, hL5⟩, hnc, hUB, htw, hct, hPF, hDF, ⟨hpz, hpm, hO8⟩, hLe⟩ := id hB
  obtain ⟨hn8, hP, hDu, hS, hWy⟩ := id hUB
  refine g_iconst (v := 0) X d_MO_allShown_0 (by decide) ?_
  refine g_istore_n (lv' := [(1, .int 0), (0, .ref (bd 0))]) X d_MO_allShown_1 rfl (by decide) rfl ?_
  refine g_iconst (v := 0) X d_MO_allShown_2 (by decide) ?_
  refine g_istore_n (lv' := [(2, .int 0), (1, .int 0), (0, .ref (bd 0))]) X d_MO_allShown_3 rfl (by decide) rfl ?_
  refine L_MO_allShown hR hB X ?_ n 0 (by omega)
  exact g_iload_n X d_MO_allShown_27 1 rfl (g_iret X rfl ⟨rfl, rfl⟩ (Nat.le_of_ble_eq_true rfl) (Nat.le_of_ble_eq_true rfl) d_MO_allShown_28)
set_option maxHeartbeats 4000000 in
set_option maxRecDepth 100000 in
theorem L_MO_shownBy {p : Program} {l : Launch} {e : Env} {s : State} {m : MethodId} {args : Array Value} {below : List Frame} {meth : Method} {c : Code} {Q : State → Prop} {A : Nat → Prop} {D : va_G} {cI cZ cO cJ : ClassId} {eA eM : Nat} {f : g_F} {bd : Nat → Nat} {th : Int32} {L nc : Nat} {pt ot : Nat → Int32} {n : Nat} {P Du S Wy tw ct PF DF : Nat → Nat} {GF : Nat → Bool} {pz pm : Nat} {O Le : Nat → Nat} {Sl : Nat → Bool} (hR : mo_R cI cZ f bd th L nc pt ot n P Du S Wy tw ct PF DF GF pz pm O Le Sl) (hB : mo_B L nc n P Du S Wy tw ct PF DF pz pm O Le) {acts : Nat} (ha : acts < 2 ^ 31) (X : g_X p s m args meth c b_MO_shownBy 4 (some .int) g_T y_MO_shownBy.cls D g_cl (g_tys cI cZ cO cJ) A (z_Z eA eM)) (kk : g_W p l e { frames := 1, cells := 0, slots := 0, locals := 21 } s m args below meth c 4 D g_cl A f 0 0 Q 39 [(3, .int (nI n)), (2, .int (nI (orS S acts n))), (0, .ref (bd 0)), (1, .int (nI acts))] []) : ∀ (d : Nat) (i : Nat), (i + d = n) → g_W p l e { frames := 1, cells := 0, slots := 0, locals := 21 } s m args below meth c 4 D g_cl A f 0 0 Q 4 [(3, .int (nI i)), (2, .int (nI (orS S acts i))), (0, .ref (bd 0)), (1, .int (nI acts))] [] := by
  obtain ⟨hM, h1, h2, h3, h4, h5, h6, h7, h8, h9, h10, h11, h12, h13, h14⟩ := id hR
  obtain ⟨⟨hL1, hL5⟩, hnc, hUB, htw, hct, hPF, hDF, ⟨hpz, hpm, hO8⟩, hLe⟩ := id hB
  obtain ⟨hn8, hP, hDu, hS, hWy⟩ := id hUB
  intro d
  induction d using Nat.strongRecOn with
  | _ d ih =>
    intro i hi
    refine g_iload_n X d_MO_shownBy_4 0 rfl ?_
    refine g_aload_n X d_MO_shownBy_5 2 rfl ?_
    refine g_get (ci := 5) (C := R_MO) (T := F_MO) (N := 20) (v := .int (nI n)) X i_MO rfl hM 5 (by decide) q_602 (fun _ h9 => h9) rfl d_MO_shownBy_6 ?_
    refine g_icmp_ge X 39 d_MO_shownBy_9 (by decide) (fun c9 => ?_) (fun c9 => ?_)
    · skip
      have e : i = n := by have := (nI_leI (by omega) (by omega)).mp c9; omega
      subst e
      exact kk
    · skip
      have hlt : i < n := Nat.lt_of_not_le (fun z => c9 ((nI_leI (by omega) (by omega)).mpr z))
      refine g_iload_n X d_MO_shownBy_12 3 rfl ?_
      refine g_iload_n X d_MO_shownBy_13 0 rfl ?_
      refine g_callS (As := [.int (nI acts), .int (nI i)]) (rest := []) X (z_ok eA eM) (c_MO_has (f := f) (a := acts) (k := i) (ha) (by omega)) v_MO_has q_759 q_758 rfl rfl (Nat.le_of_ble_eq_true rfl) d_MO_shownBy_14 ⟨(Nat.le_of_ble_eq_true rfl), (Nat.le_of_ble_eq_true rfl)⟩ ⟨(Nat.le_of_ble_eq_true rfl), (Nat.le_of_ble_eq_true rfl)⟩ (g_K.no (fun _ h => h)) (fun r_ f2_ hp => ?_)
      obtain ⟨rfl, hf_⟩ := hp
      subst f2_
      refine g_st (st2 := [.int (bI (Nat.testBit acts i))]) rfl ?_
      refine g_if_eq X 31 d_MO_shownBy_17 (by decide) (fun c17 => ?_) (fun c17 => ?_)
      · skip
        have e : orS S acts (i + 1) = orS S acts i := if_neg (by rw [bI_z.mp c17]; decide)
        refine g_iload_n X d_MO_shownBy_31 1 rfl ?_
        refine g_istore_n (lv' := [(2, .int (nI (orS S acts i))), (3, .int (nI i)), (0, .ref (bd 0)), (1, .int (nI acts))]) X d_MO_shownBy_32 rfl (by decide) rfl ?_
        refine g_iinc (lv' := [(3, .int (nI (i + 1))), (2, .int (nI (orS S acts i))), (0, .ref (bd 0)), (1, .int (nI acts))]) X d_MO_shownBy_33 1 rfl (nI_1 i) (by decide) rfl ?_
        refine g_goto X 4 d_MO_shownBy_36 (by decide) ?_
        rw [← e]
        exact g_lv [0, 1, 2, 3] rfl (ih (d - 1) (by omega) (i + 1) (by omega))
      · skip
        have e : orS S acts (i + 1) = orS S acts i ||| S i := if_pos (bt_nf (fun z => c17 (bI_z.mpr z)))
        refine g_iload_n X d_MO_shownBy_20 1 rfl ?_
        refine g_aload_n X d_MO_shownBy_21 2 rfl ?_
        refine g_get (ci := 5) (C := R_MO) (T := F_MO) (N := 20) (v := .ref (bd 5)) X i_MO rfl hM 8 (by decide) q_605 (fun _ h9 => h9) rfl d_MO_shownBy_22 ?_
        refine g_iload_n X d_MO_shownBy_25 0 rfl ?_
        refine g_iald (t0 := 0) (v := nI (S i)) X h5 rfl (nI_ix ((by omega : i < 8)) (by decide)) (nI_cl (g := fun q9 => nI (S q9)) (Nat.lt_trans ((by omega : i < 8)) (by decide))) d_MO_shownBy_26 ?_
        refine g_ior X d_MO_shownBy_27 ?_
        refine g_eqi (y := nI (orS S acts (i + 1))) (by rw [e]; exact nI_or _ _) ?_
        refine g_goto X 32 d_MO_shownBy_28 (by decide) ?_
        refine g_istore_n (lv' := [(2, .int (nI (orS S acts (i + 1)))), (3, .int (nI i)), (0, .ref (bd 0)), (1, .int (nI acts))]) X d_MO_shownBy_32 rfl (by decide) rfl ?_
        refine g_iinc (lv' := [(3, .int (nI (i + 1))), (2, .int (nI (orS S acts (i + 1)))), (0, .ref (bd 0)), (1, .int (nI acts))]) X d_MO_shownBy_33 1 rfl (nI_1 i) (by decide) rfl ?_
        refine g_goto X 4 d_MO_shownBy_36 (by decide) ?_
        exact g_lv [0, 1, 2, 3] rfl (ih (d - 1) (by omega) (i + 1) (by omega))
set_option maxHeartbeats 4000000 in
set_option maxRecDepth 100000 in
theorem c_MO_shownBy {l : Launch} {D : va_G} {cI cZ cO cJ : ClassId} {eA eM : Nat} {f : g_F} {bd : Nat → Nat} {th : Int32} {L nc : Nat} {pt ot : Nat → Int32} {n : Nat} {P Du S Wy tw ct PF DF : Nat → Nat} {GF : Nat → Bool} {pz pm : Nat} {O Le : Nat → Nat} {Sl : Nat → Bool} (hR : mo_R cI cZ f bd th L nc pt ot n P Du S Wy tw ct PF DF GF pz pm O Le Sl) (hB : mo_B L nc n P Du S Wy tw ct PF DF pz pm O Le) {acts : Nat} (ha : acts < 2 ^ 31) : g_C l y_MO_shownBy b_MO_shownBy 4 (some .int) { frames := 1, cells := 0, slots := 0, locals := 21 } D g_cl (g_tys cI cZ cO cJ) (z_Z eA eM) [.ref (bd 0), .int (nI acts)] f (fun r f2 => r = some (.int (nI (orS S acts n))) ∧ f2 = f) (fun _ => False) := by
  refine g_ofW [(0, .ref (bd 0)), (1, .int (nI acts))] (by decide +kernel) (Nat.le_of_ble_eq_true rfl) rfl ?_
  intro p e s m args below meth c X ht hin
  obtain ⟨hM, h1, h2, h3, h4, h5, h6, h7, h8, h9, h10, h11, h12, h13, h14⟩ := id hR
  obtain ⟨⟨hL1, hL5⟩, hnc, hUB, htw, hct, hPF, hDF, ⟨hpz, hpm, hO8⟩, hLe⟩ := id hB
  obtain ⟨hn8, hP, hDu, hS, hWy⟩ := id hUB
  refine g_iconst (v := 0) X d_MO_shownBy_0 (by decide) ?_
  refine g_istore_n (lv' := [(2, .int 0), (0, .ref (bd 0)), (1, .int (nI acts))]) X d_MO_shownBy_1 rfl (by decide) rfl ?_
  refine g_iconst (v := 0) X d_MO_shownBy_2 (by decide) ?_
  refine g_istore_n (lv' := [(3, .int 0), (2, .int 0), (0, .ref (bd 0)), (1, .int (nI acts))]) X d_MO_shownBy_3 rfl (by decide) rfl ?_
  refine L_MO_shownBy hR hB ha X ?_ n 0 (by omega)
  exact g_iload_n X d_MO_shownBy_39 1 rfl (g_iret X rfl ⟨rfl, rfl⟩ (Nat.le_of_ble_eq_true rfl) (Nat.le_of_ble_eq_true rfl) d_MO_shownBy_40)
/-- how many of the first acts a set has -/
def szo (acts : Nat) : Nat → Nat
  | 0 => 0
  | i + 1 => if acts.testBit i then szo acts i + 1 else szo acts i
theorem szo_le (acts : Nat) : ∀ i, szo acts i ≤ i
  | 0 => Nat.le_refl _
  | i + 1 => by
    unfold szo
    have := szo_le acts i
    split <;> omega
set_option maxHeartbeats 4000000 in
set_option maxRecDepth 100000 in
theorem L_MO_sizeOf {p : Program} {l : Launch} {e : Env} {s : State} {m : MethodId} {args : Array Value} {below : List Frame} {meth : Method} {c : Code} {Q : State → Prop} {A : Nat → Prop} {D : va_G} {cI cZ cO cJ : ClassId} {eA eM : Nat} {f : g_F} {acts : Nat} (ha : acts < 2 ^ 31) (X : g_X p s m args meth c b_MO_sizeOf 3 (some .int) g_T y_MO_sizeOf.cls D g_cl (g_tys cI cZ cO cJ) A (z_Z eA eM)) (kk : g_W p l e { frames := 1, cells := 0, slots := 0, locals := 21 } s m args below meth c 3 D g_cl A f 0 0 Q 32 [(2, .int (nI 8)), (1, .int (nI (szo acts 8))), (0, .int (nI acts))] []) : ∀ (d : Nat) (i : Nat), (i + d = 8) → g_W p l e { frames := 1, cells := 0, slots := 0, locals := 21 } s m args below meth c 3 D g_cl A f 0 0 Q 4 [(2, .int (nI i)), (1, .int (nI (szo acts i))), (0, .int (nI acts))] [] := by
  intro d
  induction d using Nat.strongRecOn with
  | _ d ih =>
    intro i hi
    refine g_iload_n X d_MO_sizeOf_4 0 rfl ?_
    refine g_bipush (v := 8) X d_MO_sizeOf_5 (by decide) ?_
    refine g_icmp_ge X 32 d_MO_sizeOf_7 (by decide) (fun c7 => ?_) (fun c7 => ?_)
    · skip
      have e : i = 8 := by have := (nI_leI (a := 8) (b := i) (by decide) (by omega)).mp c7; omega
      subst e
      exact kk
    · skip
      have hlt : i < 8 := Nat.lt_of_not_le (fun z => c7 ((nI_leI (a := 8) (b := i) (by decide) (by omega)).mpr z))
      refine g_iload_n X d_MO_sizeOf_10 2 rfl ?_
      refine g_iload_n X d_MO_sizeOf_11 0 rfl ?_
      refine g_callS (As := [.int (nI acts), .int (nI i)]) (rest := []) X (z_ok eA eM) (c_MO_has (f := f) (a := acts) (k := i) (ha) (by omega)) v_MO_has q_759 q_758 rfl rfl (Nat.le_of_ble_eq_true rfl) d_MO_sizeOf_12 ⟨(Nat.le_of_ble_eq_true rfl), (Nat.le_of_ble_eq_true rfl)⟩ ⟨(Nat.le_of_ble_eq_true rfl), (Nat.le_of_ble_eq_true rfl)⟩ (g_K.no (fun _ h => h)) (fun r_ f2_ hp => ?_)
      obtain ⟨rfl, hf_⟩ := hp
      subst f2_
      refine g_st (st2 := [.int (bI (Nat.testBit acts i))]) rfl ?_
      refine g_if_eq X 24 d_MO_sizeOf_15 (by decide) (fun c15 => ?_) (fun c15 => ?_)
      · skip
        have e : szo acts (i + 1) = szo acts i := if_neg (by rw [bI_z.mp c15]; decide)
        refine g_iload_n X d_MO_sizeOf_24 1 rfl ?_
        refine g_istore_n (lv' := [(1, .int (nI (szo acts i))), (2, .int (nI i)), (0, .int (nI acts))]) X d_MO_sizeOf_25 rfl (by decide) rfl ?_
        refine g_iinc (lv' := [(2, .int (nI (i + 1))), (1, .int (nI (szo acts i))), (0, .int (nI acts))]) X d_MO_sizeOf_26 1 rfl (nI_1 i) (by decide) rfl ?_
        refine g_goto X 4 d_MO_sizeOf_29 (by decide) ?_
        rw [← e]
        exact g_lv [0, 1, 2] rfl (ih (d - 1) (by omega) (i + 1) (by omega))
      · skip
        have e : szo acts (i + 1) = szo acts i + 1 := if_pos (bt_nf (fun z => c15 (bI_z.mpr z)))
        refine g_iload_n X d_MO_sizeOf_18 1 rfl ?_
        refine g_iconst (v := 1) X d_MO_sizeOf_19 (by decide) ?_
        refine g_iadd X d_MO_sizeOf_20 ?_
        refine g_eqi (y := nI (szo acts (i + 1))) (by rw [e]; exact nI_1 _) ?_
        refine g_goto X 25 d_MO_sizeOf_21 (by decide) ?_
        refine g_istore_n (lv' := [(1, .int (nI (szo acts (i + 1)))), (2, .int (nI i)), (0, .int (nI acts))]) X d_MO_sizeOf_25 rfl (by decide) rfl ?_
        refine g_iinc (lv' := [(2, .int (nI (i + 1))), (1, .int (nI (szo acts (i + 1)))), (0, .int (nI acts))]) X d_MO_sizeOf_26 1 rfl (nI_1 i) (by decide) rfl ?_
        refine g_goto X 4 d_MO_sizeOf_29 (by decide) ?_
        exact g_lv [0, 1, 2] rfl (ih (d - 1) (by omega) (i + 1) (by omega))
set_option maxHeartbeats 4000000 in
set_option maxRecDepth 100000 in
theorem c_MO_sizeOf {l : Launch} {D : va_G} {cI cZ cO cJ : ClassId} {eA eM : Nat} {f : g_F} {acts : Nat} (ha : acts < 2 ^ 31) : g_C l y_MO_sizeOf b_MO_sizeOf 3 (some .int) { frames := 1, cells := 0, slots := 0, locals := 21 } D g_cl (g_tys cI cZ cO cJ) (z_Z eA eM) [.int (nI acts)] f (fun r f2 => r = some (.int (nI (szo acts 8))) ∧ f2 = f) (fun _ => False) := by
  refine g_ofW [(0, .int (nI acts))] (by decide +kernel) (Nat.le_of_ble_eq_true rfl) rfl ?_
  intro p e s m args below meth c X ht hin
  refine g_iconst (v := 0) X d_MO_sizeOf_0 (by decide) ?_
  refine g_istore_n (lv' := [(1, .int 0), (0, .int (nI acts))]) X d_MO_sizeOf_1 rfl (by decide) rfl ?_
  refine g_iconst (v := 0) X d_MO_sizeOf_2 (by decide) ?_
  refine g_istore_n (lv' := [(2, .int 0), (1, .int 0), (0, .int (nI acts))]) X d_MO_sizeOf_3 rfl (by decide) rfl ?_
  refine L_MO_sizeOf ha X ?_ 8 0 (by omega)
  exact g_iload_n X d_MO_sizeOf_32 1 rfl (g_iret X rfl ⟨rfl, rfl⟩ (Nat.le_of_ble_eq_true rfl) (Nat.le_of_ble_eq_true rfl) d_MO_sizeOf_33)
/-- the least time of a set, by its first act -/
def lof (Le : Nat → Nat) (acts : Nat) : Nat → Nat
  | 0 => if acts = 0 then 0 else 1000000000
  | i + 1 => if acts.testBit i = true ∧ Le (acts * 8 + i) < lof Le acts i then Le (acts * 8 + i) else lof Le acts i
theorem lof_le (Le : Nat → Nat) (acts : Nat) : ∀ i, lof Le acts i ≤ 1000000000
  | 0 => by unfold lof; split <;> decide
  | i + 1 => by
    unfold lof
    have := lof_le Le acts i
    split
    · rename_i h; omega
    · exact this
set_option maxHeartbeats 4000000 in
set_option maxRecDepth 100000 in
theorem L_MO_leastOf {p : Program} {l : Launch} {e : Env} {s : State} {m : MethodId} {args : Array Value} {below : List Frame} {meth : Method} {c : Code} {Q : State → Prop} {A : Nat → Prop} {D : va_G} {cI cZ cO cJ : ClassId} {eA eM : Nat} {f : g_F} {bd : Nat → Nat} {th : Int32} {L nc : Nat} {pt ot : Nat → Int32} {n : Nat} {P Du S Wy tw ct PF DF : Nat → Nat} {GF : Nat → Bool} {pz pm : Nat} {O Le : Nat → Nat} {Sl : Nat → Bool} (hR : mo_R cI cZ f bd th L nc pt ot n P Du S Wy tw ct PF DF GF pz pm O Le Sl) (hB : mo_B L nc n P Du S Wy tw ct PF DF pz pm O Le) {acts : Nat} (ha : acts < 256) (X : g_X p s m args meth c b_MO_leastOf 4 (some .int) g_T y_MO_leastOf.cls D g_cl (g_tys cI cZ cO cJ) A (z_Z eA eM)) (kk : g_W p l e { frames := 1, cells := 0, slots := 0, locals := 21 } s m args below meth c 4 D g_cl A f 0 0 Q 66 [(3, .int (nI n)), (2, .int (nI (lof Le acts n))), (0, .ref (bd 0)), (1, .int (nI acts))] []) : ∀ (d : Nat) (i : Nat), (i + d = n) → g_W p l e { frames := 1, cells := 0, slots := 0, locals := 21 } s m args below meth c 4 D g_cl A f 0 0 Q 13 [(3, .int (nI i)), (2, .int (nI (lof Le acts i))), (0, .ref (bd 0)), (1, .int (nI acts))] [] := by
  obtain ⟨hM, h1, h2, h3, h4, h5, h6, h7, h8, h9, h10, h11, h12, h13, h14⟩ := id hR
  obtain ⟨⟨hL1, hL5⟩, hnc, hUB, htw, hct, hPF, hDF, ⟨hpz, hpm, hO8⟩, hLe⟩ := id hB
  obtain ⟨hn8, hP, hDu, hS, hWy⟩ := id hUB
  intro d
  induction d using Nat.strongRecOn with
  | _ d ih =>
    intro i hi
    refine g_iload_n X d_MO_leastOf_13 0 rfl ?_
    refine g_aload_n X d_MO_leastOf_14 2 rfl ?_
    refine g_get (ci := 5) (C := R_MO) (T := F_MO) (N := 20) (v := .int (nI n)) X i_MO rfl hM 5 (by decide) q_602 (fun _ h9 => h9) rfl d_MO_leastOf_15 ?_
    refine g_icmp_ge X 66 d_MO_leastOf_18 (by decide) (fun c18 => ?_) (fun c18 => ?_)
    · skip
      have e : i = n := by have := (nI_leI (by omega) (by omega)).mp c18; omega
      subst e
      exact kk
    · skip
      have hlt : i < n := Nat.lt_of_not_le (fun z => c18 ((nI_leI (by omega) (by omega)).mpr z))
      have hle := hLe (acts * 8 + i)
      have hlo := lof_le Le acts i
      refine g_iload_n X d_MO_leastOf_21 3 rfl ?_
      refine g_iload_n X d_MO_leastOf_22 0 rfl ?_
      refine g_callS (As := [.int (nI acts), .int (nI i)]) (rest := []) X (z_ok eA eM) (c_MO_has (f := f) (a := acts) (k := i) (by omega) (by omega)) v_MO_has q_759 q_758 rfl rfl (Nat.le_of_ble_eq_true rfl) d_MO_leastOf_23 ⟨(Nat.le_of_ble_eq_true rfl), (Nat.le_of_ble_eq_true rfl)⟩ ⟨(Nat.le_of_ble_eq_true rfl), (Nat.le_of_ble_eq_true rfl)⟩ (g_K.no (fun _ h => h)) (fun r_ f2_ hp => ?_)
      obtain ⟨rfl, hf_⟩ := hp
      subst f2_
      refine g_st (st2 := [.int (bI (Nat.testBit acts i))]) rfl ?_
      refine g_if_eq X 58 d_MO_leastOf_26 (by decide) (fun c26 => ?_) (fun c26 => ?_)
      · skip
        have e : lof Le acts (i + 1) = lof Le acts i := if_neg (fun z => absurd z.1 (by rw [bI_z.mp c26]; decide))
        refine g_iload_n X d_MO_leastOf_58 1 rfl ?_
        refine g_istore_n (lv' := [(2, .int (nI (lof Le acts i))), (3, .int (nI i)), (0, .ref (bd 0)), (1, .int (nI acts))]) X d_MO_leastOf_59 rfl (by decide) rfl ?_
        refine g_iinc (lv' := [(3, .int (nI (i + 1))), (2, .int (nI (lof Le acts i))), (0, .ref (bd 0)), (1, .int (nI acts))]) X d_MO_leastOf_60 1 rfl (nI_1 i) (by decide) rfl ?_
        refine g_goto X 13 d_MO_leastOf_63 (by decide) ?_
        rw [← e]
        exact g_lv [0, 1, 2, 3] rfl (ih (d - 1) (by omega) (i + 1) (by omega))
      · skip
        refine g_aload_n X d_MO_leastOf_29 2 rfl ?_
        refine g_get (ci := 5) (C := R_MO) (T := F_MO) (N := 20) (v := .ref (bd 13)) X i_MO rfl hM 18 (by decide) q_615 (fun _ h9 => h9) rfl d_MO_leastOf_30 ?_
        refine g_bipush (v := 8) X d_MO_leastOf_33 (by decide) ?_
        refine g_iload_n X d_MO_leastOf_35 3 rfl ?_
        refine g_imul X d_MO_leastOf_36 ?_
        refine g_eqi (y := nI (acts * 8)) ((nI_mul 8 acts).trans (by rw [Nat.mul_comm])) ?_
        refine g_iload_n X d_MO_leastOf_37 0 rfl ?_
        refine g_iadd X d_MO_leastOf_38 ?_
        refine g_eqi (y := nI (acts * 8 + i)) (nI_add _ _) ?_
        refine g_iald (t0 := 0) (v := nI (Le (acts * 8 + i))) X h13 rfl (nI_ix ((by omega : acts * 8 + i < 2048)) (by decide)) (nI_cl (g := fun q9 => nI (Le q9)) (Nat.lt_trans ((by omega : acts * 8 + i < 2048)) (by decide))) d_MO_leastOf_39 ?_
        refine g_iload_n X d_MO_leastOf_40 1 rfl ?_
        refine g_icmp_ge X 58 d_MO_leastOf_41 (by decide) (fun c41 => ?_) (fun c41 => ?_)
        · skip
          have e : lof Le acts (i + 1) = lof Le acts i := if_neg (fun z => absurd z.2 (Nat.not_lt.mpr ((nI_leI (by omega) (by omega)).mp c41)))
          refine g_iload_n X d_MO_leastOf_58 1 rfl ?_
          refine g_istore_n (lv' := [(2, .int (nI (lof Le acts i))), (3, .int (nI i)), (0, .ref (bd 0)), (1, .int (nI acts))]) X d_MO_leastOf_59 rfl (by decide) rfl ?_
          refine g_iinc (lv' := [(3, .int (nI (i + 1))), (2, .int (nI (lof Le acts i))), (0, .ref (bd 0)), (1, .int (nI acts))]) X d_MO_leastOf_60 1 rfl (nI_1 i) (by decide) rfl ?_
          refine g_goto X 13 d_MO_leastOf_63 (by decide) ?_
          rw [← e]
          exact g_lv [0, 1, 2, 3] rfl (ih (d - 1) (by omega) (i + 1) (by omega))
        · skip
          have e : lof Le acts (i + 1) = Le (acts * 8 + i) := if_pos ⟨bt_nf (fun z => c26 (bI_z.mpr z)), Nat.lt_of_not_le (fun z => c41 ((nI_leI (by omega) (by omega)).mpr z))⟩
          refine g_aload_n X d_MO_leastOf_44 2 rfl ?_
          refine g_get (ci := 5) (C := R_MO) (T := F_MO) (N := 20) (v := .ref (bd 13)) X i_MO rfl hM 18 (by decide) q_615 (fun _ h9 => h9) rfl d_MO_leastOf_45 ?_
          refine g_bipush (v := 8) X d_MO_leastOf_48 (by decide) ?_
          refine g_iload_n X d_MO_leastOf_50 3 rfl ?_
          refine g_imul X d_MO_leastOf_51 ?_
          refine g_eqi (y := nI (acts * 8)) ((nI_mul 8 acts).trans (by rw [Nat.mul_comm])) ?_
          refine g_iload_n X d_MO_leastOf_52 0 rfl ?_
          refine g_iadd X d_MO_leastOf_53 ?_
          refine g_eqi (y := nI (acts * 8 + i)) (nI_add _ _) ?_
          refine g_iald (t0 := 0) (v := nI (Le (acts * 8 + i))) X h13 rfl (nI_ix ((by omega : acts * 8 + i < 2048)) (by decide)) (nI_cl (g := fun q9 => nI (Le q9)) (Nat.lt_trans ((by omega : acts * 8 + i < 2048)) (by decide))) d_MO_leastOf_54 ?_
          refine g_goto X 59 d_MO_leastOf_55 (by decide) ?_
          refine g_istore_n (lv' := [(2, .int (nI (Le (acts * 8 + i)))), (3, .int (nI i)), (0, .ref (bd 0)), (1, .int (nI acts))]) X d_MO_leastOf_59 rfl (by decide) rfl ?_
          refine g_iinc (lv' := [(3, .int (nI (i + 1))), (2, .int (nI (Le (acts * 8 + i)))), (0, .ref (bd 0)), (1, .int (nI acts))]) X d_MO_leastOf_60 1 rfl (nI_1 i) (by decide) rfl ?_
          refine g_goto X 13 d_MO_leastOf_63 (by decide) ?_
          rw [← e]
          exact g_lv [0, 1, 2, 3] rfl (ih (d - 1) (by omega) (i + 1) (by omega))
set_option maxHeartbeats 4000000 in
set_option maxRecDepth 100000 in
theorem c_MO_leastOf {l : Launch} {D : va_G} {cI cZ cO cJ : ClassId} {eA eM : Nat} {f : g_F} {bd : Nat → Nat} {th : Int32} {L nc : Nat} {pt ot : Nat → Int32} {n : Nat} {P Du S Wy tw ct PF DF : Nat → Nat} {GF : Nat → Bool} {pz pm : Nat} {O Le : Nat → Nat} {Sl : Nat → Bool} (hR : mo_R cI cZ f bd th L nc pt ot n P Du S Wy tw ct PF DF GF pz pm O Le Sl) (hB : mo_B L nc n P Du S Wy tw ct PF DF pz pm O Le) {acts : Nat} (ha : acts < 256) : g_C l y_MO_leastOf b_MO_leastOf 4 (some .int) { frames := 1, cells := 0, slots := 0, locals := 21 } D g_cl (g_tys cI cZ cO cJ) (z_Z eA eM) [.ref (bd 0), .int (nI acts)] f (fun r f2 => r = some (.int (nI (lof Le acts n))) ∧ f2 = f) (fun _ => False) := by
  refine g_ofW [(0, .ref (bd 0)), (1, .int (nI acts))] (by decide +kernel) (Nat.le_of_ble_eq_true rfl) rfl ?_
  intro p e s m args below meth c X ht hin
  obtain ⟨hM, h1, h2, h3, h4, h5, h6, h7, h8, h9, h10, h11, h12, h13, h14⟩ := id hR
  obtain ⟨⟨hL1, hL5⟩, hnc, hUB, htw, hct, hPF, hDF, ⟨hpz, hpm, hO8⟩, hLe⟩ := id hB
  obtain ⟨hn8, hP, hDu, hS, hWy⟩ := id hUB
  refine g_iload_n X d_MO_leastOf_0 1 rfl ?_
  refine g_if_ne X 8 d_MO_leastOf_1 (by decide) (fun c1 => ?_) (fun c1 => ?_)
  · skip
    refine g_ldc (v := 1000000000) X q_745 d_MO_leastOf_8 ?_
    refine g_eqi (y := nI (lof Le acts 0)) (by rw [show lof Le acts 0 = 1000000000 from if_neg (fun z => c1 ((nI_z (by omega)).mpr z))]; rfl) ?_
    refine g_istore_n (lv' := [(2, .int (nI (lof Le acts 0))), (0, .ref (bd 0)), (1, .int (nI acts))]) X d_MO_leastOf_10 rfl (by decide) rfl ?_
    refine g_iconst (v := 0) X d_MO_leastOf_11 (by decide) ?_
    refine g_istore_n (lv' := [(3, .int 0), (2, .int (nI (lof Le acts 0))), (0, .ref (bd 0)), (1, .int (nI acts))]) X d_MO_leastOf_12 rfl (by decide) rfl ?_
    refine L_MO_leastOf hR hB ha X ?_ n 0 (by omega)
    exact g_iload_n X d_MO_leastOf_66 1 rfl (g_iret X rfl ⟨rfl, rfl⟩ (Nat.le_of_ble_eq_true rfl) (Nat.le_of_ble_eq_true rfl) d_MO_leastOf_67)
  · skip
    refine g_iconst (v := 0) X d_MO_leastOf_4 (by decide) ?_
    refine g_goto X 10 d_MO_leastOf_5 (by decide) ?_
    refine g_eqi (y := nI (lof Le acts 0)) (by rw [show lof Le acts 0 = 0 from if_pos ((nI_z (by omega)).mp c1)]; rfl) ?_
    refine g_istore_n (lv' := [(2, .int (nI (lof Le acts 0))), (0, .ref (bd 0)), (1, .int (nI acts))]) X d_MO_leastOf_10 rfl (by decide) rfl ?_
    refine g_iconst (v := 0) X d_MO_leastOf_11 (by decide) ?_
    refine g_istore_n (lv' := [(3, .int 0), (2, .int (nI (lof Le acts 0))), (0, .ref (bd 0)), (1, .int (nI acts))]) X d_MO_leastOf_12 rfl (by decide) rfl ?_
    refine L_MO_leastOf hR hB ha X ?_ n 0 (by omega)
    exact g_iload_n X d_MO_leastOf_66 1 rfl (g_iret X rfl ⟨rfl, rfl⟩ (Nat.le_of_ble_eq_true rfl) (Nat.le_of_ble_eq_true rfl) d_MO_leastOf_67)
