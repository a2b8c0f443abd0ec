theorem mo_th {cI cZ : ClassId} {f : g_F} {bd : Nat → Nat} {th : Int32} {L nc : Nat} {pt ot : Nat → Int32} {n : Nat} {P Du S Wy tw ct PF DF : Nat → Nat} {GF : Nat → Bool} {pz pm : Nat} {O Le : Nat → Nat} {Sl : Nat → Bool} (hR : mo_R cI cZ f bd th L nc pt ot n P Du S Wy tw ct PF DF GF pz pm O Le Sl) (v : Int32) : mo_R cI cZ (m_th f bd v L nc n pz pm) bd v L nc pt ot n P Du S Wy tw ct PF DF GF pz pm O Le Sl := by
  obtain ⟨hM, h1, h2, h3, h4, h5, h6, h7, h8, h9, h10, h11, h12, h13, h14⟩ := hR
  exact ⟨g_u_s, (g_u_n (Ne.symm (tu_ne hM h1))).trans h1, (g_u_n (Ne.symm (tu_ne hM h2))).trans h2, (g_u_n (Ne.symm (tu_ne hM h3))).trans h3, (g_u_n (Ne.symm (tu_ne hM h4))).trans h4, (g_u_n (Ne.symm (tu_ne hM h5))).trans h5, (g_u_n (Ne.symm (tu_ne hM h6))).trans h6, (g_u_n (Ne.symm (tu_ne hM h7))).trans h7, (g_u_n (Ne.symm (tu_ne hM h8))).trans h8, (g_u_n (Ne.symm (tu_ne hM h9))).trans h9, (g_u_n (Ne.symm (tu_ne hM h10))).trans h10, (g_u_n (Ne.symm (tu_ne hM h11))).trans h11, (g_u_n (Ne.symm (tu_ne hM h12))).trans h12, (g_u_n (Ne.symm (tu_ne hM h13))).trans h13, (g_u_n (Ne.symm (tu_ne hM h14))).trans h14⟩
set_option maxHeartbeats 4000000 in
set_option maxRecDepth 100000 in
theorem c_MO_state {l : Launch} {D : va_G} {cI cZ cO cJ : ClassId} {eA eM : Nat} {f : g_F} {bd : Nat → Nat} {th : Int32} {L nc : Nat} {pt ot : Nat → Int32} {n : Nat} {P Du S Wy tw ct PF DF : Nat → Nat} {GF : Nat → Bool} {pz pm : Nat} {O Le : Nat → Nat} {Sl : Nat → Bool} (hR : mo_R cI cZ f bd th L nc pt ot n P Du S Wy tw ct PF DF GF pz pm O Le Sl) (hB : mo_B L nc n P Du S Wy tw ct PF DF pz pm O Le) {x y : Int32} : g_C l y_MO_state b_MO_state 3 (some .int) { frames := 3, cells := 0, slots := 0, locals := 72 } D g_cl (g_tys cI cZ cO cJ) (z_Z eA eM) [.ref (bd 0), .int x, .int y] f (fun r f2 => (¬ (inR x nc ∧ inR y 100001) ∧ r = some (.int 0) ∧ f2 = (m_th f bd 1 L nc n pz pm)) ∨ (∃ k dd, k < nc ∧ dd < 100001 ∧ x = nI k ∧ y = nI dd ∧ r = some (.int (nI (mst L tw ct PF DF GF k dd))) ∧ f2 = (m_th f bd 0 L nc n pz pm))) (fun _ => False) := by
  refine g_ofW [(0, .ref (bd 0)), (1, .int x), (2, .int y)] (by decide +kernel) (Nat.le_of_ble_eq_true rfl) rfl ?_
  intro p e s m args below meth c X ht hin
  obtain ⟨hM, h1, h2, h3, h4, h5, h6, h7, h8, h9, h10, h11, h12, h13, h14⟩ := id hR
  obtain ⟨⟨hL1, hL5⟩, hnc, hUB, htw, hct, hPF, hDF, ⟨hpz, hpm, hO8⟩, hLe⟩ := id hB
  obtain ⟨hn8, hP, hDu, hS, hWy⟩ := id hUB
  have kj : ∀ b_ : Bool, (b_ = true ↔ (inR x nc ∧ inR y 100001)) → g_W p l e { frames := 3, cells := 0, slots := 0, locals := 72 } s m args below meth c 3 D g_cl (g_A f s.heap.size) f 0 0 (g_End below D g_cl f (fun r f2 => (¬ (inR x nc ∧ inR y 100001) ∧ r = some (.int 0) ∧ f2 = (m_th f bd 1 L nc n pz pm)) ∨ (∃ k dd, k < nc ∧ dd < 100001 ∧ x = nI k ∧ y = nI dd ∧ r = some (.int (nI (mst L tw ct PF DF GF k dd))) ∧ f2 = (m_th f bd 0 L nc n pz pm))) (fun _ => False) args s { frames := 3, cells := 0, slots := 0, locals := 72 }) 21 [(0, .ref (bd 0)), (1, .int x), (2, .int y)] [.int (bI b_), .ref (bd 0)] := by
    intro b_ hb_
    cases b_ with
    | false =>
      have hV : ¬ (inR x nc ∧ inR y 100001) := fun z => Bool.noConfusion (hb_.mpr z)
      refine g_iconst (v := 1) X d_MO_state_21 (by decide) ?_
      refine g_callV (ci := 5) (As := [.int (bI false), .int 1]) (rest := []) X (z_ok eA eM) rfl rfl hM (c_MO_goes hR hB (b1 := false) (b2 := true)) v_MO_goes q_671 q_s19 q_669 rfl rfl (Nat.le_of_ble_eq_true rfl) d_MO_state_22 ⟨(Nat.le_of_ble_eq_true rfl), (Nat.le_of_ble_eq_true rfl)⟩ ⟨(Nat.le_of_ble_eq_true rfl), (Nat.le_of_ble_eq_true rfl)⟩ (g_K.no (fun _ h => h)) (fun r_ f2_ hp => ?_)
      obtain ⟨rfl, hf9_⟩ := hp
      have hf_ : f2_ = (m_th f bd 1 L nc n pz pm) := hf9_
      clear hf9_
      subst f2_
      refine g_st (st2 := [.int 0]) rfl ?_
      have hR2 := mo_th hR 1
      obtain ⟨hM2, k1, k2, k3, k4, k5, k6, k7, k8, k9, k10, k11, k12, k13, k14⟩ := id hR2
      refine g_if_eq X 37 d_MO_state_25 (by decide) (fun c25 => ?_) (fun c25 => ?_)
      · skip
        skip
        refine g_iconst (v := 0) X d_MO_state_37 (by decide) ?_
        exact g_iret X rfl (Or.inl ⟨hV, rfl, rfl⟩) (Nat.le_of_ble_eq_true rfl) (Nat.le_of_ble_eq_true rfl) d_MO_state_38
      · skip
        exact absurd rfl c25
    | true =>
      have hV := hb_.mp rfl
      obtain ⟨⟨k, hk, rfl⟩, ⟨dd, hd, rfl⟩⟩ := hV
      refine g_iconst (v := 1) X d_MO_state_21 (by decide) ?_
      refine g_callV (ci := 5) (As := [.int (bI true), .int 1]) (rest := []) X (z_ok eA eM) rfl rfl hM (c_MO_goes hR hB (b1 := true) (b2 := true)) v_MO_goes q_671 q_s19 q_669 rfl rfl (Nat.le_of_ble_eq_true rfl) d_MO_state_22 ⟨(Nat.le_of_ble_eq_true rfl), (Nat.le_of_ble_eq_true rfl)⟩ ⟨(Nat.le_of_ble_eq_true rfl), (Nat.le_of_ble_eq_true rfl)⟩ (g_K.no (fun _ h => h)) (fun r_ f2_ hp => ?_)
      obtain ⟨rfl, hf9_⟩ := hp
      have hf_ : f2_ = (m_th f bd 0 L nc n pz pm) := hf9_
      clear hf9_
      subst f2_
      refine g_st (st2 := [.int 1]) rfl ?_
      have hR2 := mo_th hR 0
      obtain ⟨hM2, k1, k2, k3, k4, k5, k6, k7, k8, k9, k10, k11, k12, k13, k14⟩ := id hR2
      refine g_if_eq X 37 d_MO_state_25 (by decide) (fun c25 => ?_) (fun c25 => ?_)
      · skip
        exact absurd c25 (by decide)
      · skip
        skip
        refine g_aload_n X d_MO_state_28 0 rfl ?_
        refine g_iload_n X d_MO_state_29 1 rfl ?_
        refine g_iload_n X d_MO_state_30 2 rfl ?_
        refine g_callV (ci := 5) (As := [.int (nI k), .int (nI dd)]) (rest := []) X (z_ok eA eM) rfl rfl hM2 (c_MO_stateOf hR2 hB (k := k) (dd := dd) (by omega) (by omega)) v_MO_stateOf q_707 q_s21 q_705 rfl rfl (Nat.le_of_ble_eq_true rfl) d_MO_state_31 ⟨(Nat.le_of_ble_eq_true rfl), (Nat.le_of_ble_eq_true rfl)⟩ ⟨(Nat.le_of_ble_eq_true rfl), (Nat.le_of_ble_eq_true rfl)⟩ (g_K.no (fun _ h => h)) (fun r_ f2_ hp => ?_)
        obtain ⟨rfl, hf_⟩ := hp
        subst f2_
        refine g_st (st2 := [.int (nI (mst L tw ct PF DF GF k dd))]) rfl ?_
        refine g_goto X 38 d_MO_state_34 (by decide) ?_
        exact g_iret X rfl (Or.inr ⟨k, dd, hk, hd, rfl, rfl, rfl, rfl⟩) (Nat.le_of_ble_eq_true rfl) (Nat.le_of_ble_eq_true rfl) d_MO_state_38
  refine g_aload_n X d_MO_state_0 0 rfl ?_
  refine g_aload_n X d_MO_state_1 0 rfl ?_
  refine g_iload_n X d_MO_state_2 1 rfl ?_
  refine g_callV (ci := 5) (As := [.int x]) (rest := [.ref (bd 0)]) X (z_ok eA eM) rfl rfl hM (c_MO_isCase hR hB (x := x)) v_MO_isCase q_683 q_s20 q_681 rfl rfl (Nat.le_of_ble_eq_true rfl) d_MO_state_3 ⟨(Nat.le_of_ble_eq_true rfl), (Nat.le_of_ble_eq_true rfl)⟩ ⟨(Nat.le_of_ble_eq_true rfl), (Nat.le_of_ble_eq_true rfl)⟩ (g_K.no (fun _ h => h)) (fun r_ f2_ hp => ?_)
  obtain ⟨⟨b6, hb6, rfl⟩, hf_⟩ := hp
  subst f2_
  refine g_st (st2 := [.int (bI b6), .ref (bd 0)]) rfl ?_
  refine g_if_eq X 20 d_MO_state_6 (by decide) (fun c6 => ?_) (fun c6 => ?_)
  · skip
    have hv6 : ¬ (inR x nc) := fun z => by rw [bI_z.mp c6] at hb6; exact Bool.noConfusion (hb6.mpr z)
    refine g_iconst (v := 0) X d_MO_state_20 (by decide) ?_
    exact kj false ⟨fun z => Bool.noConfusion z, fun z => absurd z.1 hv6⟩
  · skip
    have hv6 : inR x nc := hb6.mp (bt_nf (fun z => c6 (bI_z.mpr z)))
    refine g_iload_n X d_MO_state_9 2 rfl ?_
    refine g_callS (As := [.int y]) (rest := [.ref (bd 0)]) X (z_ok eA eM) (c_MO_isDay (f := f) (x := y)) v_MO_isDay q_694 q_693 rfl rfl (Nat.le_of_ble_eq_true rfl) d_MO_state_10 ⟨(Nat.le_of_ble_eq_true rfl), (Nat.le_of_ble_eq_true rfl)⟩ ⟨(Nat.le_of_ble_eq_true rfl), (Nat.le_of_ble_eq_true rfl)⟩ (g_K.no (fun _ h => h)) (fun r_ f2_ hp => ?_)
    obtain ⟨⟨b13, hb13, rfl⟩, hf_⟩ := hp
    subst f2_
    refine g_st (st2 := [.int (bI b13), .ref (bd 0)]) rfl ?_
    refine g_if_eq X 20 d_MO_state_13 (by decide) (fun c13 => ?_) (fun c13 => ?_)
    · skip
      have hv13 : ¬ (inR y 100001) := fun z => by rw [bI_z.mp c13] at hb13; exact Bool.noConfusion (hb13.mpr z)
      refine g_iconst (v := 0) X d_MO_state_20 (by decide) ?_
      exact kj false ⟨fun z => Bool.noConfusion z, fun z => absurd z.2 hv13⟩
    · skip
      have hv13 : inR y 100001 := hb13.mp (bt_nf (fun z => c13 (bI_z.mpr z)))
      refine g_iconst (v := 1) X d_MO_state_16 (by decide) ?_
      refine g_goto X 21 d_MO_state_17 (by decide) ?_
      exact kj true ⟨fun _ => ⟨hv6, hv13⟩, fun _ => rfl⟩
set_option maxHeartbeats 4000000 in
set_option maxRecDepth 100000 in
theorem c_MO_touched {l : Launch} {D : va_G} {cI cZ cO cJ : ClassId} {eA eM : Nat} {f : g_F} {bd : Nat → Nat} {th : Int32} {L nc : Nat} {pt ot : Nat → Int32} {n : Nat} {P Du S Wy tw ct PF DF : Nat → Nat} {GF : Nat → Bool} {pz pm : Nat} {O Le : Nat → Nat} {Sl : Nat → Bool} (hR : mo_R cI cZ f bd th L nc pt ot n P Du S Wy tw ct PF DF GF pz pm O Le Sl) (hB : mo_B L nc n P Du S Wy tw ct PF DF pz pm O Le) {x y : Int32} : g_C l y_MO_touched b_MO_touched 3 (some .int) { frames := 2, cells := 0, slots := 0, locals := 45 } D g_cl (g_tys cI cZ cO cJ) (z_Z eA eM) [.ref (bd 0), .int x, .int y] f (fun r f2 => (¬ (inR x nc ∧ inR y 100001) ∧ r = some (.int 0) ∧ f2 = (m_th f bd 1 L nc n pz pm)) ∨ (∃ k dd, k < nc ∧ dd < 100001 ∧ x = nI k ∧ y = nI dd ∧ r = some (.int (fI (lx (tb tw k) (min dd 100000 + 1)))) ∧ f2 = (m_th f bd 0 L nc n pz pm))) (fun _ => False) := by
  refine g_ofW [(0, .ref (bd 0)), (1, .int x), (2, .int y)] (by decide +kernel) (Nat.le_of_ble_eq_true rfl) rfl ?_
  intro p e s m args below meth c X ht hin
  obtain ⟨hM, h1, h2, h3, h4, h5, h6, h7, h8, h9, h10, h11, h12, h13, h14⟩ := id hR
  obtain ⟨⟨hL1, hL5⟩, hnc, hUB, htw, hct, hPF, hDF, ⟨hpz, hpm, hO8⟩, hLe⟩ := id hB
  obtain ⟨hn8, hP, hDu, hS, hWy⟩ := id hUB
  have kj : ∀ b_ : Bool, (b_ = true ↔ (inR x nc ∧ inR y 100001)) → g_W p l e { frames := 2, cells := 0, slots := 0, locals := 45 } s m args below meth c 3 D g_cl (g_A f s.heap.size) f 0 0 (g_End below D g_cl f (fun r f2 => (¬ (inR x nc ∧ inR y 100001) ∧ r = some (.int 0) ∧ f2 = (m_th f bd 1 L nc n pz pm)) ∨ (∃ k dd, k < nc ∧ dd < 100001 ∧ x = nI k ∧ y = nI dd ∧ r = some (.int (fI (lx (tb tw k) (min dd 100000 + 1)))) ∧ f2 = (m_th f bd 0 L nc n pz pm))) (fun _ => False) args s { frames := 2, cells := 0, slots := 0, locals := 45 }) 21 [(0, .ref (bd 0)), (1, .int x), (2, .int y)] [.int (bI b_), .ref (bd 0)] := by
    intro b_ hb_
    cases b_ with
    | false =>
      have hV : ¬ (inR x nc ∧ inR y 100001) := fun z => Bool.noConfusion (hb_.mpr z)
      refine g_iconst (v := 1) X d_MO_touched_21 (by decide) ?_
      refine g_callV (ci := 5) (As := [.int (bI false), .int 1]) (rest := []) X (z_ok eA eM) rfl rfl hM (c_MO_goes hR hB (b1 := false) (b2 := true)) v_MO_goes q_671 q_s19 q_669 rfl rfl (Nat.le_of_ble_eq_true rfl) d_MO_touched_22 ⟨(Nat.le_of_ble_eq_true rfl), (Nat.le_of_ble_eq_true rfl)⟩ ⟨(Nat.le_of_ble_eq_true rfl), (Nat.le_of_ble_eq_true rfl)⟩ (g_K.no (fun _ h => h)) (fun r_ f2_ hp => ?_)
      obtain ⟨rfl, hf9_⟩ := hp
      have hf_ : f2_ = (m_th f bd 1 L nc n pz pm) := hf9_
      clear hf9_
      subst f2_
      refine g_st (st2 := [.int 0]) rfl ?_
      have hR2 := mo_th hR 1
      obtain ⟨hM2, k1, k2, k3, k4, k5, k6, k7, k8, k9, k10, k11, k12, k13, k14⟩ := id hR2
      refine g_if_eq X 37 d_MO_touched_25 (by decide) (fun c25 => ?_) (fun c25 => ?_)
      · skip
        skip
        refine g_iconst (v := 0) X d_MO_touched_37 (by decide) ?_
        exact g_iret X rfl (Or.inl ⟨hV, rfl, rfl⟩) (Nat.le_of_ble_eq_true rfl) (Nat.le_of_ble_eq_true rfl) d_MO_touched_38
      · skip
        exact absurd rfl c25
    | true =>
      have hV := hb_.mp rfl
      obtain ⟨⟨k, hk, rfl⟩, ⟨dd, hd, rfl⟩⟩ := hV
      refine g_iconst (v := 1) X d_MO_touched_21 (by decide) ?_
      refine g_callV (ci := 5) (As := [.int (bI true), .int 1]) (rest := []) X (z_ok eA eM) rfl rfl hM (c_MO_goes hR hB (b1 := true) (b2 := true)) v_MO_goes q_671 q_s19 q_669 rfl rfl (Nat.le_of_ble_eq_true rfl) d_MO_touched_22 ⟨(Nat.le_of_ble_eq_true rfl), (Nat.le_of_ble_eq_true rfl)⟩ ⟨(Nat.le_of_ble_eq_true rfl), (Nat.le_of_ble_eq_true rfl)⟩ (g_K.no (fun _ h => h)) (fun r_ f2_ hp => ?_)
      obtain ⟨rfl, hf9_⟩ := hp
      have hf_ : f2_ = (m_th f bd 0 L nc n pz pm) := hf9_
      clear hf9_
      subst f2_
      refine g_st (st2 := [.int 1]) rfl ?_
      have hR2 := mo_th hR 0
      obtain ⟨hM2, k1, k2, k3, k4, k5, k6, k7, k8, k9, k10, k11, k12, k13, k14⟩ := id hR2
      refine g_if_eq X 37 d_MO_touched_25 (by decide) (fun c25 => ?_) (fun c25 => ?_)
      · skip
        exact absurd c25 (by decide)
      · skip
        skip
        refine g_aload_n X d_MO_touched_28 0 rfl ?_
        refine g_iload_n X d_MO_touched_29 1 rfl ?_
        refine g_iload_n X d_MO_touched_30 2 rfl ?_
        refine g_callV (ci := 5) (As := [.int (nI k), .int (nI dd)]) (rest := []) X (z_ok eA eM) rfl rfl hM2 (c_MO_lastTouch hR2 hB (k := k) (dd := dd) (by omega) (by omega)) v_MO_lastTouch q_711 q_s22 q_709 rfl rfl (Nat.le_of_ble_eq_true rfl) d_MO_touched_31 ⟨(Nat.le_of_ble_eq_true rfl), (Nat.le_of_ble_eq_true rfl)⟩ ⟨(Nat.le_of_ble_eq_true rfl), (Nat.le_of_ble_eq_true rfl)⟩ (g_K.no (fun _ h => h)) (fun r_ f2_ hp => ?_)
        obtain ⟨rfl, hf_⟩ := hp
        subst f2_
        refine g_st (st2 := [.int (fI (lx (tb tw k) (min dd 100000 + 1)))]) rfl ?_
        refine g_goto X 38 d_MO_touched_34 (by decide) ?_
        exact g_iret X rfl (Or.inr ⟨k, dd, hk, hd, rfl, rfl, rfl, rfl⟩) (Nat.le_of_ble_eq_true rfl) (Nat.le_of_ble_eq_true rfl) d_MO_touched_38
  refine g_aload_n X d_MO_touched_0 0 rfl ?_
  refine g_aload_n X d_MO_touched_1 0 rfl ?_
  refine g_iload_n X d_MO_touched_2 1 rfl ?_
  refine g_callV (ci := 5) (As := [.int x]) (rest := [.ref (bd 0)]) X (z_ok eA eM) rfl rfl hM (c_MO_isCase hR hB (x := x)) v_MO_isCase q_683 q_s20 q_681 rfl rfl (Nat.le_of_ble_eq_true rfl) d_MO_touched_3 ⟨(Nat.le_of_ble_eq_true rfl), (Nat.le_of_ble_eq_true rfl)⟩ ⟨(Nat.le_of_ble_eq_true rfl), (Nat.le_of_ble_eq_true rfl)⟩ (g_K.no (fun _ h => h)) (fun r_ f2_ hp => ?_)
  obtain ⟨⟨b6, hb6, rfl⟩, hf_⟩ := hp
  subst f2_
  refine g_st (st2 := [.int (bI b6), .ref (bd 0)]) rfl ?_
  refine g_if_eq X 20 d_MO_touched_6 (by decide) (fun c6 => ?_) (fun c6 => ?_)
  · skip
    have hv6 : ¬ (inR x nc) := fun z => by rw [bI_z.mp c6] at hb6; exact Bool.noConfusion (hb6.mpr z)
    refine g_iconst (v := 0) X d_MO_touched_20 (by decide) ?_
    exact kj false ⟨fun z => Bool.noConfusion z, fun z => absurd z.1 hv6⟩
  · skip
    have hv6 : inR x nc := hb6.mp (bt_nf (fun z => c6 (bI_z.mpr z)))
    refine g_iload_n X d_MO_touched_9 2 rfl ?_
    refine g_callS (As := [.int y]) (rest := [.ref (bd 0)]) X (z_ok eA eM) (c_MO_isDay (f := f) (x := y)) v_MO_isDay q_694 q_693 rfl rfl (Nat.le_of_ble_eq_true rfl) d_MO_touched_10 ⟨(Nat.le_of_ble_eq_true rfl), (Nat.le_of_ble_eq_true rfl)⟩ ⟨(Nat.le_of_ble_eq_true rfl), (Nat.le_of_ble_eq_true rfl)⟩ (g_K.no (fun _ h => h)) (fun r_ f2_ hp => ?_)
    obtain ⟨⟨b13, hb13, rfl⟩, hf_⟩ := hp
    subst f2_
    refine g_st (st2 := [.int (bI b13), .ref (bd 0)]) rfl ?_
    refine g_if_eq X 20 d_MO_touched_13 (by decide) (fun c13 => ?_) (fun c13 => ?_)
    · skip
      have hv13 : ¬ (inR y 100001) := fun z => by rw [bI_z.mp c13] at hb13; exact Bool.noConfusion (hb13.mpr z)
      refine g_iconst (v := 0) X d_MO_touched_20 (by decide) ?_
      exact kj false ⟨fun z => Bool.noConfusion z, fun z => absurd z.2 hv13⟩
    · skip
      have hv13 : inR y 100001 := hb13.mp (bt_nf (fun z => c13 (bI_z.mpr z)))
      refine g_iconst (v := 1) X d_MO_touched_16 (by decide) ?_
      refine g_goto X 21 d_MO_touched_17 (by decide) ?_
      exact kj true ⟨fun _ => ⟨hv6, hv13⟩, fun _ => rfl⟩
set_option maxHeartbeats 4000000 in
set_option maxRecDepth 100000 in
theorem c_MO_word {l : Launch} {D : va_G} {cI cZ cO cJ : ClassId} {eA eM : Nat} {f : g_F} {bd : Nat → Nat} {th : Int32} {L nc : Nat} {pt ot : Nat → Int32} {n : Nat} {P Du S Wy tw ct PF DF : Nat → Nat} {GF : Nat → Bool} {pz pm : Nat} {O Le : Nat → Nat} {Sl : Nat → Bool} (hR : mo_R cI cZ f bd th L nc pt ot n P Du S Wy tw ct PF DF GF pz pm O Le Sl) (hB : mo_B L nc n P Du S Wy tw ct PF DF pz pm O Le) {x y w : Int32} : g_C l y_MO_word b_MO_word 4 (some .int) { frames := 2, cells := 0, slots := 0, locals := 45 } D g_cl (g_tys cI cZ cO cJ) (z_Z eA eM) [.ref (bd 0), .int x, .int y, .int w] f (fun r f2 => (¬ (inR x nc ∧ inR y 10 ∧ inR w 100001) ∧ r = some (.int 0) ∧ f2 = (m_th f bd 1 L nc n pz pm)) ∨ (∃ k pe dd, k < nc ∧ pe < 10 ∧ dd < 100001 ∧ x = nI k ∧ y = nI pe ∧ w = nI dd ∧ r = some (.int (mwr L tw ct PF DF GF k dd pe)) ∧ f2 = (m_th f bd 0 L nc n pz pm))) (fun _ => False) := by
  refine g_ofW [(0, .ref (bd 0)), (1, .int x), (2, .int y), (3, .int w)] (by decide +kernel) (Nat.le_of_ble_eq_true rfl) rfl ?_
  intro p e s m args below meth c X ht hin
  obtain ⟨hM, h1, h2, h3, h4, h5, h6, h7, h8, h9, h10, h11, h12, h13, h14⟩ := id hR
  obtain ⟨⟨hL1, hL5⟩, hnc, hUB, htw, hct, hPF, hDF, ⟨hpz, hpm, hO8⟩, hLe⟩ := id hB
  obtain ⟨hn8, hP, hDu, hS, hWy⟩ := id hUB
  have kj : ∀ b_ : Bool, (b_ = true ↔ (inR x nc ∧ inR y 10 ∧ inR w 100001)) → g_W p l e { frames := 2, cells := 0, slots := 0, locals := 45 } s m args below meth c 4 D g_cl (g_A f s.heap.size) f 0 0 (g_End below D g_cl f (fun r f2 => (¬ (inR x nc ∧ inR y 10 ∧ inR w 100001) ∧ r = some (.int 0) ∧ f2 = (m_th f bd 1 L nc n pz pm)) ∨ (∃ k pe dd, k < nc ∧ pe < 10 ∧ dd < 100001 ∧ x = nI k ∧ y = nI pe ∧ w = nI dd ∧ r = some (.int (mwr L tw ct PF DF GF k dd pe)) ∧ f2 = (m_th f bd 0 L nc n pz pm))) (fun _ => False) args s { frames := 2, cells := 0, slots := 0, locals := 45 }) 31 [(0, .ref (bd 0)), (1, .int x), (2, .int y), (3, .int w)] [.int (bI b_), .ref (bd 0)] := by
    intro b_ hb_
    cases b_ with
    | false =>
      have hV : ¬ (inR x nc ∧ inR y 10 ∧ inR w 100001) := fun z => Bool.noConfusion (hb_.mpr z)
      refine g_iconst (v := 1) X d_MO_word_31 (by decide) ?_
      refine g_callV (ci := 5) (As := [.int (bI false), .int 1]) (rest := []) X (z_ok eA eM) rfl rfl hM (c_MO_goes hR hB (b1 := false) (b2 := true)) v_MO_goes q_671 q_s19 q_669 rfl rfl (Nat.le_of_ble_eq_true rfl) d_MO_word_32 ⟨(Nat.le_of_ble_eq_true rfl), (Nat.le_of_ble_eq_true rfl)⟩ ⟨(Nat.le_of_ble_eq_true rfl), (Nat.le_of_ble_eq_true rfl)⟩ (g_K.no (fun _ h => h)) (fun r_ f2_ hp => ?_)
      obtain ⟨rfl, hf9_⟩ := hp
      have hf_ : f2_ = (m_th f bd 1 L nc n pz pm) := hf9_
      clear hf9_
      subst f2_
      refine g_st (st2 := [.int 0]) rfl ?_
      have hR2 := mo_th hR 1
      obtain ⟨hM2, k1, k2, k3, k4, k5, k6, k7, k8, k9, k10, k11, k12, k13, k14⟩ := id hR2
      refine g_if_eq X 54 d_MO_word_35 (by decide) (fun c35 => ?_) (fun c35 => ?_)
      · skip
        skip
        refine g_iconst (v := 0) X d_MO_word_54 (by decide) ?_
        exact g_iret X rfl (Or.inl ⟨hV, rfl, rfl⟩) (Nat.le_of_ble_eq_true rfl) (Nat.le_of_ble_eq_true rfl) d_MO_word_55
      · skip
        exact absurd rfl c35
    | true =>
      have hV := hb_.mp rfl
      obtain ⟨⟨k, hk, rfl⟩, ⟨pe, hpe, rfl⟩, ⟨dd, hd, rfl⟩⟩ := hV
      have hlt9 : lx (tb tw k) (min dd 100000 + 1) < 2 ^ 30 := Nat.lt_of_le_of_lt (lx_le _ _) (by omega)
      refine g_iconst (v := 1) X d_MO_word_31 (by decide) ?_
      refine g_callV (ci := 5) (As := [.int (bI true), .int 1]) (rest := []) X (z_ok eA eM) rfl rfl hM (c_MO_goes hR hB (b1 := true) (b2 := true)) v_MO_goes q_671 q_s19 q_669 rfl rfl (Nat.le_of_ble_eq_true rfl) d_MO_word_32 ⟨(Nat.le_of_ble_eq_true rfl), (Nat.le_of_ble_eq_true rfl)⟩ ⟨(Nat.le_of_ble_eq_true rfl), (Nat.le_of_ble_eq_true rfl)⟩ (g_K.no (fun _ h => h)) (fun r_ f2_ hp => ?_)
      obtain ⟨rfl, hf9_⟩ := hp
      have hf_ : f2_ = (m_th f bd 0 L nc n pz pm) := hf9_
      clear hf9_
      subst f2_
      refine g_st (st2 := [.int 1]) rfl ?_
      have hR2 := mo_th hR 0
      obtain ⟨hM2, k1, k2, k3, k4, k5, k6, k7, k8, k9, k10, k11, k12, k13, k14⟩ := id hR2
      refine g_if_eq X 54 d_MO_word_35 (by decide) (fun c35 => ?_) (fun c35 => ?_)
      · skip
        exact absurd c35 (by decide)
      · skip
        skip
        refine g_aload_n X d_MO_word_38 0 rfl ?_
        refine g_iload_n X d_MO_word_39 1 rfl ?_
        refine g_iload_n X d_MO_word_40 2 rfl ?_
        refine g_iload_n X d_MO_word_41 3 rfl ?_
        refine g_aload_n X d_MO_word_42 0 rfl ?_
        refine g_iload_n X d_MO_word_43 1 rfl ?_
        refine g_iload_n X d_MO_word_44 3 rfl ?_
        refine g_callV (ci := 5) (As := [.int (nI k), .int (nI dd)]) (rest := [.int (nI dd), .int (nI pe), .int (nI k), .ref (bd 0)]) X (z_ok eA eM) rfl rfl hM2 (c_MO_lastTouch hR2 hB (k := k) (dd := dd) (by omega) (by omega)) v_MO_lastTouch q_711 q_s22 q_709 rfl rfl (Nat.le_of_ble_eq_true rfl) d_MO_word_45 ⟨(Nat.le_of_ble_eq_true rfl), (Nat.le_of_ble_eq_true rfl)⟩ ⟨(Nat.le_of_ble_eq_true rfl), (Nat.le_of_ble_eq_true rfl)⟩ (g_K.no (fun _ h => h)) (fun r_ f2_ hp => ?_)
        obtain ⟨rfl, hf_⟩ := hp
        subst f2_
        refine g_st (st2 := [.int (fI (lx (tb tw k) (min dd 100000 + 1))), .int (nI dd), .int (nI pe), .int (nI k), .ref (bd 0)]) rfl ?_
        refine g_callV (ci := 5) (As := [.int (nI k), .int (nI pe), .int (nI dd), .int (fI (lx (tb tw k) (min dd 100000 + 1)))]) (rest := []) X (z_ok eA eM) rfl rfl hM2 (c_MO_wordOf hR2 hB (k := k) (pe := pe) (dd := dd) (lt := lx (tb tw k) (min dd 100000 + 1)) (by omega) hpe (by omega) hlt9) v_MO_wordOf q_719 q_s24 q_717 rfl rfl (Nat.le_of_ble_eq_true rfl) d_MO_word_48 ⟨(Nat.le_of_ble_eq_true rfl), (Nat.le_of_ble_eq_true rfl)⟩ ⟨(Nat.le_of_ble_eq_true rfl), (Nat.le_of_ble_eq_true rfl)⟩ (g_K.no (fun _ h => h)) (fun r_ f2_ hp => ?_)
        obtain ⟨rfl, hf_⟩ := hp
        subst f2_
        refine g_st (st2 := [.int (mwr L tw ct PF DF GF k dd pe)]) rfl ?_
        refine g_goto X 55 d_MO_word_51 (by decide) ?_
        exact g_iret X rfl (Or.inr ⟨k, pe, dd, hk, hpe, hd, rfl, rfl, rfl, rfl, rfl⟩) (Nat.le_of_ble_eq_true rfl) (Nat.le_of_ble_eq_true rfl) d_MO_word_55
  refine g_aload_n X d_MO_word_0 0 rfl ?_
  refine g_aload_n X d_MO_word_1 0 rfl ?_
  refine g_iload_n X d_MO_word_2 1 rfl ?_
  refine g_callV (ci := 5) (As := [.int x]) (rest := [.ref (bd 0)]) X (z_ok eA eM) rfl rfl hM (c_MO_isCase hR hB (x := x)) v_MO_isCase q_683 q_s20 q_681 rfl rfl (Nat.le_of_ble_eq_true rfl) d_MO_word_3 ⟨(Nat.le_of_ble_eq_true rfl), (Nat.le_of_ble_eq_true rfl)⟩ ⟨(Nat.le_of_ble_eq_true rfl), (Nat.le_of_ble_eq_true rfl)⟩ (g_K.no (fun _ h => h)) (fun r_ f2_ hp => ?_)
  obtain ⟨⟨b6, hb6, rfl⟩, hf_⟩ := hp
  subst f2_
  refine g_st (st2 := [.int (bI b6), .ref (bd 0)]) rfl ?_
  refine g_if_eq X 30 d_MO_word_6 (by decide) (fun c6 => ?_) (fun c6 => ?_)
  · skip
    have hv6 : ¬ (inR x nc) := fun z => by rw [bI_z.mp c6] at hb6; exact Bool.noConfusion (hb6.mpr z)
    refine g_iconst (v := 0) X d_MO_word_30 (by decide) ?_
    exact kj false ⟨fun z => Bool.noConfusion z, fun z => absurd z.1 hv6⟩
  · skip
    have hv6 : inR x nc := hb6.mp (bt_nf (fun z => c6 (bI_z.mpr z)))
    refine g_iload_n X d_MO_word_9 2 rfl ?_
    refine g_iconst (v := 0) X d_MO_word_10 (by decide) ?_
    refine g_bipush (v := 9) X d_MO_word_11 (by decide) ?_
    refine g_callS (As := [.int y, .int 0, .int 9]) (rest := [.ref (bd 0)]) X (z_ok eA eM) (c_MO_in (f := f) (x := y) (a := 0) (b := 9)) v_MO_in q_667 q_666 rfl rfl (Nat.le_of_ble_eq_true rfl) d_MO_word_13 ⟨(Nat.le_of_ble_eq_true rfl), (Nat.le_of_ble_eq_true rfl)⟩ ⟨(Nat.le_of_ble_eq_true rfl), (Nat.le_of_ble_eq_true rfl)⟩ (g_K.no (fun _ h => h)) (fun r_ f2_ hp => ?_)
    obtain ⟨rfl, hf_⟩ := hp
    subst f2_
    refine g_st (st2 := [.int (bI (decide (¬ y < 0 ∧ y ≤ 9))), .ref (bd 0)]) rfl ?_
    refine g_if_eq X 30 d_MO_word_16 (by decide) (fun c16 => ?_) (fun c16 => ?_)
    · skip
      have hv16 : ¬ (inR y 10) := fun z => of_decide_eq_false (bI_z.mp c16) ((inR_iff (n := 10) (by decide)).mpr z)
      refine g_iconst (v := 0) X d_MO_word_30 (by decide) ?_
      exact kj false ⟨fun z => Bool.noConfusion z, fun z => absurd z.2.1 hv16⟩
    · skip
      have hv16 : inR y 10 := (inR_iff (n := 10) (by decide)).mp (of_decide_eq_true (bt_nf (fun z => c16 (bI_z.mpr z))))
      refine g_iload_n X d_MO_word_19 3 rfl ?_
      refine g_callS (As := [.int w]) (rest := [.ref (bd 0)]) X (z_ok eA eM) (c_MO_isDay (f := f) (x := w)) v_MO_isDay q_694 q_693 rfl rfl (Nat.le_of_ble_eq_true rfl) d_MO_word_20 ⟨(Nat.le_of_ble_eq_true rfl), (Nat.le_of_ble_eq_true rfl)⟩ ⟨(Nat.le_of_ble_eq_true rfl), (Nat.le_of_ble_eq_true rfl)⟩ (g_K.no (fun _ h => h)) (fun r_ f2_ hp => ?_)
      obtain ⟨⟨b23, hb23, rfl⟩, hf_⟩ := hp
      subst f2_
      refine g_st (st2 := [.int (bI b23), .ref (bd 0)]) rfl ?_
      refine g_if_eq X 30 d_MO_word_23 (by decide) (fun c23 => ?_) (fun c23 => ?_)
      · skip
        have hv23 : ¬ (inR w 100001) := fun z => by rw [bI_z.mp c23] at hb23; exact Bool.noConfusion (hb23.mpr z)
        refine g_iconst (v := 0) X d_MO_word_30 (by decide) ?_
        exact kj false ⟨fun z => Bool.noConfusion z, fun z => absurd z.2.2 hv23⟩
      · skip
        have hv23 : inR w 100001 := hb23.mp (bt_nf (fun z => c23 (bI_z.mpr z)))
        refine g_iconst (v := 1) X d_MO_word_26 (by decide) ?_
        refine g_goto X 31 d_MO_word_27 (by decide) ?_
        exact kj true ⟨fun _ => ⟨hv6, hv16, hv23⟩, fun _ => rfl⟩
set_option maxHeartbeats 4000000 in
set_option maxRecDepth 100000 in
theorem L_MO_listed {p : Program} {l : Launch} {e : Env} {s : State} {m : MethodId} {args : Array Value} {below : List Frame} {meth : Method} {c : Code} {Q : State → Prop} {A : Nat → Prop} {D : va_G} {cI cZ cO cJ : ClassId} {eA eM : Nat} {f : g_F} {bd : Nat → Nat} {th : Int32} {L nc : Nat} {pt ot : Nat → Int32} {n : Nat} {P Du S Wy tw ct PF DF : Nat → Nat} {GF : Nat → Bool} {pz pm : Nat} {O Le : Nat → Nat} {Sl : Nat → Bool} (hR : mo_R cI cZ f bd th L nc pt ot n P Du S Wy tw ct PF DF GF pz pm O Le Sl) (hB : mo_B L nc n P Du S Wy tw ct PF DF pz pm O Le) {dd v : Nat} {res : Int32} (hdd : dd < 2 ^ 30) (hv : v < 4) (X : g_X p s m args meth c b_MO_listed 6 (some .int) g_T y_MO_listed.cls D g_cl (g_tys cI cZ cO cJ) A (z_Z eA eM)) (k78 : res = -1 → g_W p l e { frames := 3, cells := 0, slots := 0, locals := 72 } s m args below meth c 6 D g_cl A f 0 0 Q 78 [(0, .ref (bd 0))] []) (k66 : ∀ i, res = nI i → g_W p l e { frames := 3, cells := 0, slots := 0, locals := 72 } s m args below meth c 6 D g_cl A f 0 0 Q 66 [(5, .int (nI i))] []) : ∀ (d : Nat) (i l_ : Nat), (i + d = nc) → (l_ < 2 ^ 31) → (nthc (fun k => decide (mst L tw ct PF DF GF k dd = v)) d i l_ = res) → g_W p l e { frames := 3, cells := 0, slots := 0, locals := 72 } s m args below meth c 6 D g_cl A f 0 0 Q 41 [(5, .int (nI i)), (4, .int (nI l_)), (0, .ref (bd 0)), (1, .int (nI v)), (2, .int (nI dd))] [] := by
  obtain ⟨hM, h1, h2, h3, h4, h5, h6, h7, h8, h9, h10, h11, h12, h13, h14⟩ := id hR
  obtain ⟨⟨hL1, hL5⟩, hnc, hUB, htw, hct, hPF, hDF, ⟨hpz, hpm, hO8⟩, hLe⟩ := id hB
  obtain ⟨hn8, hP, hDu, hS, hWy⟩ := id hUB
  intro d
  induction d using Nat.strongRecOn with
  | _ d ih =>
    intro i l_ hi hl_ hr
    refine g_iload X d_MO_listed_41 0 rfl ?_
    refine g_aload_n X d_MO_listed_43 2 rfl ?_
    refine g_get (ci := 5) (C := R_MO) (T := F_MO) (N := 20) (v := .int (nI nc)) X i_MO rfl hM 2 (by decide) q_599 (fun _ h9 => h9) rfl d_MO_listed_44 ?_
    refine g_icmp_ge X 78 d_MO_listed_47 (by decide) (fun c47 => ?_) (fun c47 => ?_)
    · skip
      have e : d = 0 := by have := (nI_leI (by omega) (by omega)).mp c47; omega
      subst e
      exact g_lv [2] rfl (k78 hr.symm)
    · skip
      have hlt : i < nc := Nat.lt_of_not_le (fun z => c47 ((nI_leI (by omega) (by omega)).mpr z))
      obtain ⟨d, rfl⟩ : ∃ d9, d = d9 + 1 := ⟨d - 1, by omega⟩
      rw [nthc_s] at hr
      refine g_aload_n X d_MO_listed_50 2 rfl ?_
      refine g_iload X d_MO_listed_51 0 rfl ?_
      refine g_iload_n X d_MO_listed_53 4 rfl ?_
      refine g_callV (ci := 5) (As := [.int (nI i), .int (nI dd)]) (rest := []) X (z_ok eA eM) rfl rfl hM (c_MO_stateOf hR hB (k := i) (dd := dd) (by omega) hdd) v_MO_stateOf q_707 q_s21 q_705 rfl rfl (Nat.le_of_ble_eq_true rfl) d_MO_listed_54 ⟨(Nat.le_of_ble_eq_true rfl), (Nat.le_of_ble_eq_true rfl)⟩ ⟨(Nat.le_of_ble_eq_true rfl), (Nat.le_of_ble_eq_true rfl)⟩ (g_K.no (fun _ h => h)) (fun r_ f2_ hp => ?_)
      obtain ⟨rfl, hf_⟩ := hp
      subst f2_
      refine g_st (st2 := [.int (nI (mst L tw ct PF DF GF i dd))]) rfl ?_
      refine g_iload_n X d_MO_listed_57 3 rfl ?_
      refine g_icmp_ne X 72 d_MO_listed_58 (by decide) (fun c58 => ?_) (fun c58 => ?_)
      · skip
        rw [if_neg (fun z => c58 (by rw [of_decide_eq_true (p := mst L tw ct PF DF GF i dd = v) z]))] at hr
        refine g_iinc (lv' := [(5, .int (nI (i + 1))), (4, .int (nI l_)), (0, .ref (bd 0)), (1, .int (nI v)), (2, .int (nI dd))]) X d_MO_listed_72 0 rfl (nI_1 i) (by decide) rfl ?_
        refine g_goto X 41 d_MO_listed_75 (by decide) ?_
        exact g_lv [0, 1, 2, 3, 4] rfl (ih d (by omega) (i + 1) (l_) (by omega) (by omega) hr)
      · skip
        rw [if_pos (decide_eq_true (p := mst L tw ct PF DF GF i dd = v) ((nI_eq (Nat.lt_trans (mst_lt L tw ct PF DF GF i dd) (by decide)) (by omega)).mp c58))] at hr
        refine g_iload X d_MO_listed_61 1 rfl ?_
        refine g_if_ne X 69 d_MO_listed_63 (by decide) (fun c63 => ?_) (fun c63 => ?_)
        · skip
          have hl0 : 0 < l_ := Nat.pos_of_ne_zero (fun z => c63 ((nI_z hl_).mpr z))
          rw [if_neg (by omega)] at hr
          refine g_iinc (lv' := [(4, .int (nI (l_ - 1))), (5, .int (nI i)), (0, .ref (bd 0)), (1, .int (nI v)), (2, .int (nI dd))]) X d_MO_listed_69 1 rfl (nI_dec hl0) (by decide) rfl ?_
          refine g_iinc (lv' := [(5, .int (nI (i + 1))), (4, .int (nI (l_ - 1))), (0, .ref (bd 0)), (1, .int (nI v)), (2, .int (nI dd))]) X d_MO_listed_72 1 rfl (nI_1 i) (by decide) rfl ?_
          refine g_goto X 41 d_MO_listed_75 (by decide) ?_
          exact g_lv [0, 1, 2, 3, 4] rfl (ih d (by omega) (i + 1) (l_ - 1) (by omega) (by omega) hr)
        · skip
          rw [if_pos ((nI_z hl_).mp c63)] at hr
          exact g_lv [0] rfl (k66 i hr.symm)
set_option maxHeartbeats 4000000 in
set_option maxRecDepth 100000 in
theorem c_MO_listed {l : Launch} {D : va_G} {cI cZ cO cJ : ClassId} {eA eM : Nat} {f : g_F} {bd : Nat → Nat} {th : Int32} {L nc : Nat} {pt ot : Nat → Int32} {n : Nat} {P Du S Wy tw ct PF DF : Nat → Nat} {GF : Nat → Bool} {pz pm : Nat} {O Le : Nat → Nat} {Sl : Nat → Bool} (hR : mo_R cI cZ f bd th L nc pt ot n P Du S Wy tw ct PF DF GF pz pm O Le Sl) (hB : mo_B L nc n P Du S Wy tw ct PF DF pz pm O Le) {x y w : Int32} : g_C l y_MO_listed b_MO_listed 6 (some .int) { frames := 3, cells := 0, slots := 0, locals := 72 } D g_cl (g_tys cI cZ cO cJ) (z_Z eA eM) [.ref (bd 0), .int x, .int y, .int w] f (fun r f2 => (¬ (inR x 4 ∧ inR y 100001 ∧ ¬ w < 0) ∧ r = some (.int 0) ∧ f2 = (m_th f bd 1 L nc n pz pm)) ∨ (∃ v dd kk, v < 4 ∧ dd < 100001 ∧ kk < 2 ^ 31 ∧ x = nI v ∧ y = nI dd ∧ w = nI kk ∧ r = some (.int (nthc (fun k => decide (mst L tw ct PF DF GF k dd = v)) nc 0 kk)) ∧ f2 = (m_th f bd 0 L nc n pz pm))) (fun _ => False) := by
  refine g_ofW [(0, .ref (bd 0)), (1, .int x), (2, .int y), (3, .int w)] (by decide +kernel) (Nat.le_of_ble_eq_true rfl) rfl ?_
  intro p e s m args below meth c X ht hin
  obtain ⟨hM, h1, h2, h3, h4, h5, h6, h7, h8, h9, h10, h11, h12, h13, h14⟩ := id hR
  obtain ⟨⟨hL1, hL5⟩, hnc, hUB, htw, hct, hPF, hDF, ⟨hpz, hpm, hO8⟩, hLe⟩ := id hB
  obtain ⟨hn8, hP, hDu, hS, hWy⟩ := id hUB
  have kj : ∀ b_ : Bool, (b_ = true ↔ (inR x 4 ∧ inR y 100001 ∧ ¬ w < 0)) → g_W p l e { frames := 3, cells := 0, slots := 0, locals := 72 } s m args below meth c 6 D g_cl (g_A f s.heap.size) f 0 0 (g_End below D g_cl f (fun r f2 => (¬ (inR x 4 ∧ inR y 100001 ∧ ¬ w < 0) ∧ r = some (.int 0) ∧ f2 = (m_th f bd 1 L nc n pz pm)) ∨ (∃ v dd kk, v < 4 ∧ dd < 100001 ∧ kk < 2 ^ 31 ∧ x = nI v ∧ y = nI dd ∧ w = nI kk ∧ r = some (.int (nthc (fun k => decide (mst L tw ct PF DF GF k dd = v)) nc 0 kk)) ∧ f2 = (m_th f bd 0 L nc n pz pm))) (fun _ => False) args s { frames := 3, cells := 0, slots := 0, locals := 72 }) 26 [(0, .ref (bd 0)), (1, .int x), (2, .int y), (3, .int w)] [.int (bI b_), .ref (bd 0)] := by
    intro b_ hb_
    cases b_ with
    | false =>
      have hV : ¬ (inR x 4 ∧ inR y 100001 ∧ ¬ w < 0) := fun z => Bool.noConfusion (hb_.mpr z)
      refine g_iconst (v := 1) X d_MO_listed_26 (by decide) ?_
      refine g_callV (ci := 5) (As := [.int (bI false), .int 1]) (rest := []) X (z_ok eA eM) rfl rfl hM (c_MO_goes hR hB (b1 := false) (b2 := true)) v_MO_goes q_671 q_s19 q_669 rfl rfl (Nat.le_of_ble_eq_true rfl) d_MO_listed_27 ⟨(Nat.le_of_ble_eq_true rfl), (Nat.le_of_ble_eq_true rfl)⟩ ⟨(Nat.le_of_ble_eq_true rfl), (Nat.le_of_ble_eq_true rfl)⟩ (g_K.no (fun _ h => h)) (fun r_ f2_ hp => ?_)
      obtain ⟨rfl, hf9_⟩ := hp
      have hf_ : f2_ = (m_th f bd 1 L nc n pz pm) := hf9_
      clear hf9_
      subst f2_
      refine g_st (st2 := [.int 0]) rfl ?_
      have hR2 := mo_th hR 1
      obtain ⟨hM2, k1, k2, k3, k4, k5, k6, k7, k8, k9, k10, k11, k12, k13, k14⟩ := id hR2
      refine g_if_ne X 35 d_MO_listed_30 (by decide) (fun c30 => ?_) (fun c30 => ?_)
      · skip
        exact absurd rfl c30
      · skip
        skip
        refine g_iconst (v := 0) X d_MO_listed_33 (by decide) ?_
        exact g_iret X rfl (Or.inl ⟨hV, rfl, rfl⟩) (Nat.le_of_ble_eq_true rfl) (Nat.le_of_ble_eq_true rfl) d_MO_listed_34
    | true =>
      have hV := hb_.mp rfl
      obtain ⟨⟨v, hv, rfl⟩, ⟨dd, hd, rfl⟩, hw⟩ := hV
      obtain ⟨kk, hkk, rfl⟩ := nI_of hw
      refine g_iconst (v := 1) X d_MO_listed_26 (by decide) ?_
      refine g_callV (ci := 5) (As := [.int (bI true), .int 1]) (rest := []) X (z_ok eA eM) rfl rfl hM (c_MO_goes hR hB (b1 := true) (b2 := true)) v_MO_goes q_671 q_s19 q_669 rfl rfl (Nat.le_of_ble_eq_true rfl) d_MO_listed_27 ⟨(Nat.le_of_ble_eq_true rfl), (Nat.le_of_ble_eq_true rfl)⟩ ⟨(Nat.le_of_ble_eq_true rfl), (Nat.le_of_ble_eq_true rfl)⟩ (g_K.no (fun _ h => h)) (fun r_ f2_ hp => ?_)
      obtain ⟨rfl, hf9_⟩ := hp
      have hf_ : f2_ = (m_th f bd 0 L nc n pz pm) := hf9_
      clear hf9_
      subst f2_
      refine g_st (st2 := [.int 1]) rfl ?_
      have hR2 := mo_th hR 0
      obtain ⟨hM2, k1, k2, k3, k4, k5, k6, k7, k8, k9, k10, k11, k12, k13, k14⟩ := id hR2
      refine g_if_ne X 35 d_MO_listed_30 (by decide) (fun c30 => ?_) (fun c30 => ?_)
      · skip
        skip
        refine g_iload_n X d_MO_listed_35 3 rfl ?_
        refine g_istore (lv' := [(4, .int (nI kk)), (0, .ref (bd 0)), (1, .int (nI v)), (2, .int (nI dd)), (3, .int (nI kk))]) X d_MO_listed_36 (by decide) rfl ?_
        refine g_iconst (v := 0) X d_MO_listed_38 (by decide) ?_
        refine g_istore (lv' := [(5, .int 0), (4, .int (nI kk)), (0, .ref (bd 0)), (1, .int (nI v)), (2, .int (nI dd)), (3, .int (nI kk))]) X d_MO_listed_39 (by decide) rfl ?_
        refine g_lv [0, 1, 2, 3, 4] rfl (L_MO_listed hR2 hB (dd := dd) (v := v) (by omega) hv X ?_ ?_ nc 0 kk (by omega) hkk rfl)
        · intro hr
          exact g_iconst (v := -1) X d_MO_listed_78 (by decide) (g_iret X rfl (Or.inr ⟨v, dd, kk, hv, hd, hkk, rfl, rfl, rfl, by rw [hr], rfl⟩) (Nat.le_of_ble_eq_true rfl) (Nat.le_of_ble_eq_true rfl) d_MO_listed_79)
        · intro i hr
          exact g_iload X d_MO_listed_66 0 rfl (g_iret X rfl (Or.inr ⟨v, dd, kk, hv, hd, hkk, rfl, rfl, rfl, by rw [hr], rfl⟩) (Nat.le_of_ble_eq_true rfl) (Nat.le_of_ble_eq_true rfl) d_MO_listed_68)
      · skip
        exact absurd c30 (by decide)
  refine g_aload_n X d_MO_listed_0 0 rfl ?_
  refine g_iload_n X d_MO_listed_1 1 rfl ?_
  refine g_iconst (v := 0) X d_MO_listed_2 (by decide) ?_
  refine g_iconst (v := 3) X d_MO_listed_3 (by decide) ?_
  refine g_callS (As := [.int x, .int 0, .int 3]) (rest := [.ref (bd 0)]) X (z_ok eA eM) (c_MO_in (f := f) (x := x) (a := 0) (b := 3)) v_MO_in q_667 q_666 rfl rfl (Nat.le_of_ble_eq_true rfl) d_MO_listed_4 ⟨(Nat.le_of_ble_eq_true rfl), (Nat.le_of_ble_eq_true rfl)⟩ ⟨(Nat.le_of_ble_eq_true rfl), (Nat.le_of_ble_eq_true rfl)⟩ (g_K.no (fun _ h => h)) (fun r_ f2_ hp => ?_)
  obtain ⟨rfl, hf_⟩ := hp
  subst f2_
  refine g_st (st2 := [.int (bI (decide (¬ x < 0 ∧ x ≤ 3))), .ref (bd 0)]) rfl ?_
  refine g_if_eq X 25 d_MO_listed_7 (by decide) (fun c7 => ?_) (fun c7 => ?_)
  · skip
    have hv7 : ¬ (inR x 4) := fun z => of_decide_eq_false (bI_z.mp c7) ((inR_iff (n := 4) (by decide)).mpr z)
    refine g_iconst (v := 0) X d_MO_listed_25 (by decide) ?_
    exact kj false ⟨fun z => Bool.noConfusion z, fun z => absurd z.1 hv7⟩
  · skip
    have hv7 : inR x 4 := (inR_iff (n := 4) (by decide)).mp (of_decide_eq_true (bt_nf (fun z => c7 (bI_z.mpr z))))
    refine g_iload_n X d_MO_listed_10 2 rfl ?_
    refine g_callS (As := [.int y]) (rest := [.ref (bd 0)]) X (z_ok eA eM) (c_MO_isDay (f := f) (x := y)) v_MO_isDay q_694 q_693 rfl rfl (Nat.le_of_ble_eq_true rfl) d_MO_listed_11 ⟨(Nat.le_of_ble_eq_true rfl), (Nat.le_of_ble_eq_true rfl)⟩ ⟨(Nat.le_of_ble_eq_true rfl), (Nat.le_of_ble_eq_true rfl)⟩ (g_K.no (fun _ h => h)) (fun r_ f2_ hp => ?_)
    obtain ⟨⟨b14, hb14, rfl⟩, hf_⟩ := hp
    subst f2_
    refine g_st (st2 := [.int (bI b14), .ref (bd 0)]) rfl ?_
    refine g_if_eq X 25 d_MO_listed_14 (by decide) (fun c14 => ?_) (fun c14 => ?_)
    · skip
      have hv14 : ¬ (inR y 100001) := fun z => by rw [bI_z.mp c14] at hb14; exact Bool.noConfusion (hb14.mpr z)
      refine g_iconst (v := 0) X d_MO_listed_25 (by decide) ?_
      exact kj false ⟨fun z => Bool.noConfusion z, fun z => absurd z.2.1 hv14⟩
    · skip
      have hv14 : inR y 100001 := hb14.mp (bt_nf (fun z => c14 (bI_z.mpr z)))
      refine g_iload_n X d_MO_listed_17 3 rfl ?_
      refine g_if_lt X 25 d_MO_listed_18 (by decide) (fun c18 => ?_) (fun c18 => ?_)
      · skip
        have hv18 : ¬ (¬ w < 0) := fun z => z c18
        refine g_iconst (v := 0) X d_MO_listed_25 (by decide) ?_
        exact kj false ⟨fun z => Bool.noConfusion z, fun z => absurd z.2.2 hv18⟩
      · skip
        have hv18 : ¬ w < 0 := c18
        refine g_iconst (v := 1) X d_MO_listed_21 (by decide) ?_
        refine g_goto X 26 d_MO_listed_22 (by decide) ?_
        exact kj true ⟨fun _ => ⟨hv7, hv14, hv18⟩, fun _ => rfl⟩
set_option maxHeartbeats 4000000 in
set_option maxRecDepth 100000 in
theorem L_MO_hidden {p : Program} {l : Launch} {e : Env} {s : State} {m : MethodId} {args : Array Value} {below : List Frame} {meth : Method} {c : Code} {Q : State → Prop} {A : Nat → Prop} {D : va_G} {cI cZ cO cJ : ClassId} {eA eM : Nat} {f : g_F} {bd : Nat → Nat} {th : Int32} {L nc : Nat} {pt ot : Nat → Int32} {n : Nat} {P Du S Wy tw ct PF DF : Nat → Nat} {GF : Nat → Bool} {pz pm : Nat} {O Le : Nat → Nat} {Sl : Nat → Bool} (hR : mo_R cI cZ f bd th L nc pt ot n P Du S Wy tw ct PF DF GF pz pm O Le Sl) (hB : mo_B L nc n P Du S Wy tw ct PF DF pz pm O Le) {res : Int32} (X : g_X p s m args meth c b_MO_hidden 4 (some .int) g_T y_MO_hidden.cls D g_cl (g_tys cI cZ cO cJ) A (z_Z eA eM)) (k57 : res = -1 → g_W p l e { frames := 1, cells := 0, slots := 0, locals := 22 } s m args below meth c 4 D g_cl A f 0 0 Q 57 [(0, .ref (bd 0))] []) (k46 : ∀ i, res = nI i → g_W p l e { frames := 1, cells := 0, slots := 0, locals := 22 } s m args below meth c 4 D g_cl A f 0 0 Q 46 [(3, .int (nI i))] []) : ∀ (d : Nat) (i l_ : Nat), (i + d = nc) → (l_ < 2 ^ 31) → (nthc (fun k => !(Nat.testBit (orA S n) k)) d i l_ = res) → g_W p l e { frames := 1, cells := 0, slots := 0, locals := 22 } s m args below meth c 4 D g_cl A f 0 0 Q 23 [(3, .int (nI i)), (2, .int (nI l_)), (0, .ref (bd 0))] [] := by
  obtain ⟨hM, h1, h2, h3, h4, h5, h6, h7, h8, h9, h10, h11, h12, h13, h14⟩ := id hR
  obtain ⟨⟨hL1, hL5⟩, hnc, hUB, htw, hct, hPF, hDF, ⟨hpz, hpm, hO8⟩, hLe⟩ := id hB
  obtain ⟨hn8, hP, hDu, hS, hWy⟩ := id hUB
  intro d
  induction d using Nat.strongRecOn with
  | _ d ih =>
    intro i l_ hi hl_ hr
    refine g_iload_n X d_MO_hidden_23 0 rfl ?_
    refine g_aload_n X d_MO_hidden_24 2 rfl ?_
    refine g_get (ci := 5) (C := R_MO) (T := F_MO) (N := 20) (v := .int (nI nc)) X i_MO rfl hM 2 (by decide) q_599 (fun _ h9 => h9) rfl d_MO_hidden_25 ?_
    refine g_icmp_ge X 57 d_MO_hidden_28 (by decide) (fun c28 => ?_) (fun c28 => ?_)
    · skip
      have e : d = 0 := by have := (nI_leI (by omega) (by omega)).mp c28; omega
      subst e
      exact g_lv [2] rfl (k57 hr.symm)
    · skip
      have hlt : i < nc := Nat.lt_of_not_le (fun z => c28 ((nI_leI (by omega) (by omega)).mpr z))
      obtain ⟨d, rfl⟩ : ∃ d9, d = d9 + 1 := ⟨d - 1, by omega⟩
      rw [nthc_s] at hr
      refine g_aload_n X d_MO_hidden_31 2 rfl ?_
      refine g_callV (ci := 5) (As := []) (rest := []) X (z_ok eA eM) rfl rfl hM (c_MO_allShown hR hB) v_MO_allShown q_735 q_s25 q_733 rfl rfl (Nat.le_of_ble_eq_true rfl) d_MO_hidden_32 ⟨(Nat.le_of_ble_eq_true rfl), (Nat.le_of_ble_eq_true rfl)⟩ ⟨(Nat.le_of_ble_eq_true rfl), (Nat.le_of_ble_eq_true rfl)⟩ (g_K.no (fun _ h => h)) (fun r_ f2_ hp => ?_)
      obtain ⟨rfl, hf_⟩ := hp
      subst f2_
      refine g_st (st2 := [.int (nI (orA S n))]) rfl ?_
      refine g_iload_n X d_MO_hidden_35 0 rfl ?_
      refine g_ishr X d_MO_hidden_36 ?_
      refine g_iconst (v := 1) X d_MO_hidden_37 (by decide) ?_
      refine g_iand X d_MO_hidden_38 ?_
      refine g_if_ne X 51 d_MO_hidden_39 (by decide) (fun c39 => ?_) (fun c39 => ?_)
      · skip
        have hb9 : Nat.testBit (orA S n) i = true := bt_nf (fun z => c39 ((sbit_z (Nat.lt_trans (orA_lt hS n) (by decide)) (by omega)).mpr z))
        rw [if_neg (by show ¬ (!(Nat.testBit (orA S n) i)) = true; rw [hb9]; decide)] at hr
        refine g_iinc (lv' := [(3, .int (nI (i + 1))), (2, .int (nI l_)), (0, .ref (bd 0))]) X d_MO_hidden_51 0 rfl (nI_1 i) (by decide) rfl ?_
        refine g_goto X 23 d_MO_hidden_54 (by decide) ?_
        exact g_lv [0, 1, 2] rfl (ih d (by omega) (i + 1) (l_) (by omega) (by omega) hr)
      · skip
        have hb9 : Nat.testBit (orA S n) i = false := (sbit_z (Nat.lt_trans (orA_lt hS n) (by decide)) (by omega)).mp c39
        rw [if_pos (by show (!(Nat.testBit (orA S n) i)) = true; rw [hb9]; rfl)] at hr
        refine g_iload_n X d_MO_hidden_42 1 rfl ?_
        refine g_if_ne X 48 d_MO_hidden_43 (by decide) (fun c43 => ?_) (fun c43 => ?_)
        · skip
          have hl0 : 0 < l_ := Nat.pos_of_ne_zero (fun z => c43 ((nI_z hl_).mpr z))
          rw [if_neg (by omega)] at hr
          refine g_iinc (lv' := [(2, .int (nI (l_ - 1))), (3, .int (nI i)), (0, .ref (bd 0))]) X d_MO_hidden_48 1 rfl (nI_dec hl0) (by decide) rfl ?_
          refine g_iinc (lv' := [(3, .int (nI (i + 1))), (2, .int (nI (l_ - 1))), (0, .ref (bd 0))]) X d_MO_hidden_51 1 rfl (nI_1 i) (by decide) rfl ?_
          refine g_goto X 23 d_MO_hidden_54 (by decide) ?_
          exact g_lv [0, 1, 2] rfl (ih d (by omega) (i + 1) (l_ - 1) (by omega) (by omega) hr)
        · skip
          rw [if_pos ((nI_z hl_).mp c43)] at hr
          exact g_lv [0] rfl (k46 i hr.symm)
set_option maxHeartbeats 4000000 in
set_option maxRecDepth 100000 in
theorem c_MO_hidden {l : Launch} {D : va_G} {cI cZ cO cJ : ClassId} {eA eM : Nat} {f : g_F} {bd : Nat → Nat} {th : Int32} {L nc : Nat} {pt ot : Nat → Int32} {n : Nat} {P Du S Wy tw ct PF DF : Nat → Nat} {GF : Nat → Bool} {pz pm : Nat} {O Le : Nat → Nat} {Sl : Nat → Bool} (hR : mo_R cI cZ f bd th L nc pt ot n P Du S Wy tw ct PF DF GF pz pm O Le Sl) (hB : mo_B L nc n P Du S Wy tw ct PF DF pz pm O Le) {w : Int32} : g_C l y_MO_hidden b_MO_hidden 4 (some .int) { frames := 1, cells := 0, slots := 0, locals := 22 } D g_cl (g_tys cI cZ cO cJ) (z_Z eA eM) [.ref (bd 0), .int w] f (fun r f2 => (¬ (¬ w < 0) ∧ r = some (.int 0) ∧ f2 = (m_th f bd 1 L nc n pz pm)) ∨ (∃ kk, kk < 2 ^ 31 ∧ w = nI kk ∧ r = some (.int (nthc (fun k => !(Nat.testBit (orA S n) k)) nc 0 kk)) ∧ f2 = (m_th f bd 0 L nc n pz pm))) (fun _ => False) := by
  refine g_ofW [(0, .ref (bd 0)), (1, .int w)] (by decide +kernel) (Nat.le_of_ble_eq_true rfl) rfl ?_
  intro p e s m args below meth c X ht hin
  obtain ⟨hM, h1, h2, h3, h4, h5, h6, h7, h8, h9, h10, h11, h12, h13, h14⟩ := id hR
  obtain ⟨⟨hL1, hL5⟩, hnc, hUB, htw, hct, hPF, hDF, ⟨hpz, hpm, hO8⟩, hLe⟩ := id hB
  obtain ⟨hn8, hP, hDu, hS, hWy⟩ := id hUB
  have kj : ∀ b_ : Bool, (b_ = true ↔ (¬ w < 0)) → g_W p l e { frames := 1, cells := 0, slots := 0, locals := 22 } s m args below meth c 4 D g_cl (g_A f s.heap.size) f 0 0 (g_End below D g_cl f (fun r f2 => (¬ (¬ w < 0) ∧ r = some (.int 0) ∧ f2 = (m_th f bd 1 L nc n pz pm)) ∨ (∃ kk, kk < 2 ^ 31 ∧ w = nI kk ∧ r = some (.int (nthc (fun k => !(Nat.testBit (orA S n) k)) nc 0 kk)) ∧ f2 = (m_th f bd 0 L nc n pz pm))) (fun _ => False) args s { frames := 1, cells := 0, slots := 0, locals := 22 }) 10 [(0, .ref (bd 0)), (1, .int w)] [.int (bI b_), .ref (bd 0)] := by
    intro b_ hb_
    cases b_ with
    | false =>
      have hV : ¬ (¬ w < 0) := fun z => Bool.noConfusion (hb_.mpr z)
      refine g_iconst (v := 1) X d_MO_hidden_10 (by decide) ?_
      refine g_callV (ci := 5) (As := [.int (bI false), .int 1]) (rest := []) X (z_ok eA eM) rfl rfl hM (c_MO_goes hR hB (b1 := false) (b2 := true)) v_MO_goes q_671 q_s19 q_669 rfl rfl (Nat.le_of_ble_eq_true rfl) d_MO_hidden_11 ⟨(Nat.le_of_ble_eq_true rfl), (Nat.le_of_ble_eq_true rfl)⟩ ⟨(Nat.le_of_ble_eq_true rfl), (Nat.le_of_ble_eq_true rfl)⟩ (g_K.no (fun _ h => h)) (fun r_ f2_ hp => ?_)
      obtain ⟨rfl, hf9_⟩ := hp
      have hf_ : f2_ = (m_th f bd 1 L nc n pz pm) := hf9_
      clear hf9_
      subst f2_
      refine g_st (st2 := [.int 0]) rfl ?_
      have hR2 := mo_th hR 1
      obtain ⟨hM2, k1, k2, k3, k4, k5, k6, k7, k8, k9, k10, k11, k12, k13, k14⟩ := id hR2
      refine g_if_ne X 19 d_MO_hidden_14 (by decide) (fun c14 => ?_) (fun c14 => ?_)
      · skip
        exact absurd rfl c14
      · skip
        skip
        refine g_iconst (v := 0) X d_MO_hidden_17 (by decide) ?_
        exact g_iret X rfl (Or.inl ⟨hV, rfl, rfl⟩) (Nat.le_of_ble_eq_true rfl) (Nat.le_of_ble_eq_true rfl) d_MO_hidden_18
    | true =>
      have hV := hb_.mp rfl
      obtain ⟨kk, hkk, rfl⟩ := nI_of hV
      refine g_iconst (v := 1) X d_MO_hidden_10 (by decide) ?_
      refine g_callV (ci := 5) (As := [.int (bI true), .int 1]) (rest := []) X (z_ok eA eM) rfl rfl hM (c_MO_goes hR hB (b1 := true) (b2 := true)) v_MO_goes q_671 q_s19 q_669 rfl rfl (Nat.le_of_ble_eq_true rfl) d_MO_hidden_11 ⟨(Nat.le_of_ble_eq_true rfl), (Nat.le_of_ble_eq_true rfl)⟩ ⟨(Nat.le_of_ble_eq_true rfl), (Nat.le_of_ble_eq_true rfl)⟩ (g_K.no (fun _ h => h)) (fun r_ f2_ hp => ?_)
      obtain ⟨rfl, hf9_⟩ := hp
      have hf_ : f2_ = (m_th f bd 0 L nc n pz pm) := hf9_
      clear hf9_
      subst f2_
      refine g_st (st2 := [.int 1]) rfl ?_
      have hR2 := mo_th hR 0
      obtain ⟨hM2, k1, k2, k3, k4, k5, k6, k7, k8, k9, k10, k11, k12, k13, k14⟩ := id hR2
      refine g_if_ne X 19 d_MO_hidden_14 (by decide) (fun c14 => ?_) (fun c14 => ?_)
      · skip
        skip
        refine g_iload_n X d_MO_hidden_19 1 rfl ?_
        refine g_istore_n (lv' := [(2, .int (nI kk)), (0, .ref (bd 0)), (1, .int (nI kk))]) X d_MO_hidden_20 rfl (by decide) rfl ?_
        refine g_iconst (v := 0) X d_MO_hidden_21 (by decide) ?_
        refine g_istore_n (lv' := [(3, .int 0), (2, .int (nI kk)), (0, .ref (bd 0)), (1, .int (nI kk))]) X d_MO_hidden_22 rfl (by decide) rfl ?_
        refine g_lv [0, 1, 2] rfl (L_MO_hidden hR2 hB X ?_ ?_ nc 0 kk (by omega) hkk rfl)
        · intro hr
          exact g_iconst (v := -1) X d_MO_hidden_57 (by decide) (g_iret X rfl (Or.inr ⟨kk, hkk, rfl, by rw [hr], rfl⟩) (Nat.le_of_ble_eq_true rfl) (Nat.le_of_ble_eq_true rfl) d_MO_hidden_58)
        · intro i hr
          exact g_iload_n X d_MO_hidden_46 0 rfl (g_iret X rfl (Or.inr ⟨kk, hkk, rfl, by rw [hr], rfl⟩) (Nat.le_of_ble_eq_true rfl) (Nat.le_of_ble_eq_true rfl) d_MO_hidden_47)
      · skip
        exact absurd c14 (by decide)
  refine g_aload_n X d_MO_hidden_0 0 rfl ?_
  refine g_iload_n X d_MO_hidden_1 1 rfl ?_
  refine g_if_lt X 9 d_MO_hidden_2 (by decide) (fun c2 => ?_) (fun c2 => ?_)
  · skip
    have hv2 : ¬ (¬ w < 0) := fun z => z c2
    refine g_iconst (v := 0) X d_MO_hidden_9 (by decide) ?_
    exact kj false ⟨fun z => Bool.noConfusion z, fun z => absurd z hv2⟩
  · skip
    have hv2 : ¬ w < 0 := c2
    refine g_iconst (v := 1) X d_MO_hidden_5 (by decide) ?_
    refine g_goto X 10 d_MO_hidden_6 (by decide) ?_
    exact kj true ⟨fun _ => hv2, fun _ => rfl⟩
set_option maxHeartbeats 4000000 in
set_option maxRecDepth 100000 in
theorem c_MO_planned {l : Launch} {D : va_G} {cI cZ cO cJ : ClassId} {eA eM : Nat} {f : g_F} {bd : Nat → Nat} {th : Int32} {L nc : Nat} {pt ot : Nat → Int32} {n : Nat} {P Du S Wy tw ct PF DF : Nat → Nat} {GF : Nat → Bool} {pz pm : Nat} {O Le : Nat → Nat} {Sl : Nat → Bool} (hR : mo_R cI cZ f bd th L nc pt ot n P Du S Wy tw ct PF DF GF pz pm O Le Sl) (hB : mo_B L nc n P Du S Wy tw ct PF DF pz pm O Le) (hp8 : pz ≤ 8) {x : Int32} : g_C l y_MO_planned b_MO_planned 2 (some .int) { frames := 1, cells := 0, slots := 0, locals := 22 } D g_cl (g_tys cI cZ cO cJ) (z_Z eA eM) [.ref (bd 0), .int x] f (fun r f2 => (¬ inR x pz ∧ r = some (.int 0) ∧ f2 = (m_th f bd 1 L nc n pz pm)) ∨ (∃ k, k < pz ∧ x = nI k ∧ r = some (.int (nI (O k))) ∧ f2 = (m_th f bd 0 L nc n pz pm))) (fun _ => False) := by
  refine g_ofW [(0, .ref (bd 0)), (1, .int x)] (by decide +kernel) (Nat.le_of_ble_eq_true rfl) rfl ?_
  intro p e s m args below meth c X ht hin
  obtain ⟨hM, h1, h2, h3, h4, h5, h6, h7, h8, h9, h10, h11, h12, h13, h14⟩ := id hR
  obtain ⟨⟨hL1, hL5⟩, hnc, hUB, htw, hct, hPF, hDF, ⟨hpz, hpm, hO8⟩, hLe⟩ := id hB
  obtain ⟨hn8, hP, hDu, hS, hWy⟩ := id hUB
  refine g_aload_n X d_MO_planned_0 0 rfl ?_
  refine g_iload_n X d_MO_planned_1 1 rfl ?_
  refine g_iconst (v := 0) X d_MO_planned_2 (by decide) ?_
  refine g_aload_n X d_MO_planned_3 0 rfl ?_
  refine g_get (ci := 5) (C := R_MO) (T := F_MO) (N := 20) (v := .int (nI pz)) X i_MO rfl hM 15 (by decide) q_612 (fun _ h9 => h9) rfl d_MO_planned_4 ?_
  refine g_iconst (v := 1) X d_MO_planned_7 (by decide) ?_
  refine g_isub X d_MO_planned_8 ?_
  refine g_callS (As := [.int x, .int 0, .int ((nI pz) - 1)]) (rest := [.ref (bd 0)]) X (z_ok eA eM) (c_MO_in (f := f) (x := x) (a := 0) (b := nI pz - 1)) v_MO_in q_667 q_666 rfl rfl (Nat.le_of_ble_eq_true rfl) d_MO_planned_9 ⟨(Nat.le_of_ble_eq_true rfl), (Nat.le_of_ble_eq_true rfl)⟩ ⟨(Nat.le_of_ble_eq_true rfl), (Nat.le_of_ble_eq_true rfl)⟩ (g_K.no (fun _ h => h)) (fun r_ f2_ hp => ?_)
  obtain ⟨rfl, hf_⟩ := hp
  subst f2_
  refine g_st (st2 := [.int (bI (decide (¬ x < 0 ∧ x ≤ (nI pz - 1)))), .ref (bd 0)]) rfl ?_
  cases hq : decide (¬ x < 0 ∧ x ≤ nI pz - 1) with
  | false =>
    refine g_iconst (v := 1) X d_MO_planned_12 (by decide) ?_
    refine g_callV (ci := 5) (As := [.int (bI false), .int 1]) (rest := []) X (z_ok eA eM) rfl rfl hM (c_MO_goes hR hB (b1 := false) (b2 := true)) v_MO_goes q_671 q_s19 q_669 rfl rfl (Nat.le_of_ble_eq_true rfl) d_MO_planned_13 ⟨(Nat.le_of_ble_eq_true rfl), (Nat.le_of_ble_eq_true rfl)⟩ ⟨(Nat.le_of_ble_eq_true rfl), (Nat.le_of_ble_eq_true rfl)⟩ (g_K.no (fun _ h => h)) (fun r_ f2_ hp => ?_)
    obtain ⟨rfl, hf9_⟩ := hp
    have hf_ : f2_ = (m_th f bd 1 L nc n pz pm) := hf9_
    clear hf9_
    subst f2_
    refine g_st (st2 := [.int 0]) rfl ?_
    have hR2 := mo_th hR 1
    obtain ⟨hM2, k1, k2, k3, k4, k5, k6, k7, k8, k9, k10, k11, k12, k13, k14⟩ := id hR2
    refine g_if_eq X 28 d_MO_planned_16 (by decide) (fun c16 => ?_) (fun c16 => ?_)
    · skip
      skip
      refine g_iconst (v := 0) X d_MO_planned_28 (by decide) ?_
      exact g_iret X rfl (Or.inl ⟨fun z => of_decide_eq_false hq ((inR_iff (by omega)).mpr z), rfl, rfl⟩) (Nat.le_of_ble_eq_true rfl) (Nat.le_of_ble_eq_true rfl) d_MO_planned_29
    · skip
      exact absurd rfl c16
  | true =>
    obtain ⟨k, hk, rfl⟩ := (inR_iff (n := pz) (by omega)).mp (of_decide_eq_true hq)
    refine g_iconst (v := 1) X d_MO_planned_12 (by decide) ?_
    refine g_callV (ci := 5) (As := [.int (bI true), .int 1]) (rest := []) X (z_ok eA eM) rfl rfl hM (c_MO_goes hR hB (b1 := true) (b2 := true)) v_MO_goes q_671 q_s19 q_669 rfl rfl (Nat.le_of_ble_eq_true rfl) d_MO_planned_13 ⟨(Nat.le_of_ble_eq_true rfl), (Nat.le_of_ble_eq_true rfl)⟩ ⟨(Nat.le_of_ble_eq_true rfl), (Nat.le_of_ble_eq_true rfl)⟩ (g_K.no (fun _ h => h)) (fun r_ f2_ hp => ?_)
    obtain ⟨rfl, hf9_⟩ := hp
    have hf_ : f2_ = (m_th f bd 0 L nc n pz pm) := hf9_
    clear hf9_
    subst f2_
    refine g_st (st2 := [.int 1]) rfl ?_
    have hR2 := mo_th hR 0
    obtain ⟨hM2, k1, k2, k3, k4, k5, k6, k7, k8, k9, k10, k11, k12, k13, k14⟩ := id hR2
    refine g_if_eq X 28 d_MO_planned_16 (by decide) (fun c16 => ?_) (fun c16 => ?_)
    · skip
      exact absurd c16 (by decide)
    · skip
      skip
      refine g_aload_n X d_MO_planned_19 0 rfl ?_
      refine g_get (ci := 5) (C := R_MO) (T := F_MO) (N := 20) (v := .ref (bd 12)) X i_MO rfl hM2 17 (by decide) q_614 (fun _ h9 => h9) rfl d_MO_planned_20 ?_
      refine g_iload_n X d_MO_planned_23 1 rfl ?_
      refine g_iald (t0 := 0) (v := nI (O k)) X k12 rfl (nI_ix ((by omega : k < 8)) (by decide)) (nI_cl (g := fun q9 => nI (O q9)) (Nat.lt_trans ((by omega : k < 8)) (by decide))) d_MO_planned_24 ?_
      refine g_goto X 29 d_MO_planned_25 (by decide) ?_
      exact g_iret X rfl (Or.inr ⟨k, hk, rfl, rfl, rfl⟩) (Nat.le_of_ble_eq_true rfl) (Nat.le_of_ble_eq_true rfl) d_MO_planned_29
set_option maxHeartbeats 4000000 in
set_option maxRecDepth 100000 in
theorem c_MO_seconds {l : Launch} {D : va_G} {cI cZ cO cJ : ClassId} {eA eM : Nat} {f : g_F} {bd : Nat → Nat} {th : Int32} {L nc : Nat} {pt ot : Nat → Int32} {n : Nat} {P Du S Wy tw ct PF DF : Nat → Nat} {GF : Nat → Bool} {pz pm : Nat} {O Le : Nat → Nat} {Sl : Nat → Bool} (hR : mo_R cI cZ f bd th L nc pt ot n P Du S Wy tw ct PF DF GF pz pm O Le Sl) (hB : mo_B L nc n P Du S Wy tw ct PF DF pz pm O Le) : g_C l y_MO_seconds b_MO_seconds 1 (some .int) { frames := 0, cells := 0, slots := 0, locals := 0 } D g_cl (g_tys cI cZ cO cJ) (z_Z eA eM) [.ref (bd 0)] f (fun r f2 => r = some (.int (nI pm)) ∧ f2 = (m_th f bd 0 L nc n pz pm)) (fun _ => False) := by
  refine g_ofW [(0, .ref (bd 0))] (by decide +kernel) (Nat.le_of_ble_eq_true rfl) rfl ?_
  intro p e s m args below meth c X ht hin
  obtain ⟨hM, h1, h2, h3, h4, h5, h6, h7, h8, h9, h10, h11, h12, h13, h14⟩ := id hR
  obtain ⟨⟨hL1, hL5⟩, hnc, hUB, htw, hct, hPF, hDF, ⟨hpz, hpm, hO8⟩, hLe⟩ := id hB
  obtain ⟨hn8, hP, hDu, hS, hWy⟩ := id hUB
  refine g_aload_n X d_MO_seconds_0 0 rfl ?_
  refine g_iconst (v := 0) X d_MO_seconds_1 (by decide) ?_
  refine g_put (ci := 5) (C := R_MO) (T := F_MO) (N := 20) (ty := .int) (fs2 := [.int 0, .int (nI L), .int (nI nc), .ref (bd 1), .ref (bd 2), .int (nI n), .ref (bd 3), .ref (bd 4), .ref (bd 5), .ref (bd 6), .ref (bd 7), .ref (bd 8), .ref (bd 9), .ref (bd 10), .ref (bd 11), .int (nI pz), .int (nI pm), .ref (bd 12), .ref (bd 13), .ref (bd 14)]) X i_MO t_MO t_MO_ok n_MO rfl hM 0 (by decide) q_597 (fun _ h9 => h9) rfl (by decide +kernel) rfl rfl (Nat.le_of_ble_eq_true rfl) rfl d_MO_seconds_2 ?_
  generalize ef_1 : g_u f (bd 0) (.inr (5, [.int 0, .int (nI L), .int (nI nc), .ref (bd 1), .ref (bd 2), .int (nI n), .ref (bd 3), .ref (bd 4), .ref (bd 5), .ref (bd 6), .ref (bd 7), .ref (bd 8), .ref (bd 9), .ref (bd 10), .ref (bd 11), .int (nI pz), .int (nI pm), .ref (bd 12), .ref (bd 13), .ref (bd 14)])) = f_1
  have h_2 : f_1 (bd 0) = some (.inr (5, [.int 0, .int (nI L), .int (nI nc), .ref (bd 1), .ref (bd 2), .int (nI n), .ref (bd 3), .ref (bd 4), .ref (bd 5), .ref (bd 6), .ref (bd 7), .ref (bd 8), .ref (bd 9), .ref (bd 10), .ref (bd 11), .int (nI pz), .int (nI pm), .ref (bd 12), .ref (bd 13), .ref (bd 14)])) := by rw [← ef_1]; exact g_u_s
  refine g_aload_n X d_MO_seconds_5 0 rfl ?_
  refine g_get (ci := 5) (C := R_MO) (T := F_MO) (N := 20) (v := .int (nI pm)) X i_MO rfl h_2 16 (by decide) q_613 (fun _ h9 => h9) rfl d_MO_seconds_6 ?_
  exact g_iret X rfl (⟨rfl, by rw [← ef_1]⟩) (Nat.le_of_ble_eq_true rfl) (Nat.le_of_ble_eq_true rfl) d_MO_seconds_9
