/-- only the reference's own cells have changed -/
abbrev m_fr (bd : Nat → Nat) (f f2 : g_F) : Prop := ∀ q, (∀ i, i < 15 → q ≠ bd i) → f2 q = f q
theorem m_th_fr {f : g_F} {bd : Nat → Nat} {v : Int32} {L nc n pz pm : Nat} : m_fr bd f (m_th f bd v L nc n pz pm) := fun _ h => g_u_n (h 0 (by decide))
theorem shx_eq {S : Nat → Nat} {i k : Nat} {b : Bool} : (if (S i).testBit k = b then S i else S i ^^^ 2 ^ k) = shw S i k b := by
  cases b with
  | false =>
    show _ = clr (S i) k
    unfold clr
    split
    · rename_i h
      apply Nat.eq_of_testBit_eq
      intro j
      rw [Nat.testBit_xor, Nat.testBit_and, Nat.testBit_two_pow]
      by_cases hj : k = j
      · subst hj; rw [h]; rfl
      · rw [decide_eq_false hj, Bool.and_false, Bool.xor_false]
    · rename_i h
      apply Nat.eq_of_testBit_eq
      intro j
      rw [Nat.testBit_xor, Nat.testBit_xor, Nat.testBit_and, Nat.testBit_two_pow]
      by_cases hj : k = j
      · subst hj; rw [bt_nf h]; rfl
      · rw [decide_eq_false hj, Bool.and_false]
  | true =>
    show _ = S i ||| 2 ^ k
    split
    · rename_i h
      apply Nat.eq_of_testBit_eq
      intro j
      rw [Nat.testBit_or, Nat.testBit_two_pow]
      by_cases hj : k = j
      · subst hj; rw [h]; rfl
      · rw [decide_eq_false hj, Bool.or_false]
    · rename_i h
      apply Nat.eq_of_testBit_eq
      intro j
      rw [Nat.testBit_xor, Nat.testBit_or, Nat.testBit_two_pow]
      by_cases hj : k = j
      · subst hj; rw [bt_nt h]; cases decide (k = k) <;> rfl
      · rw [decide_eq_false hj, Bool.or_false, Bool.xor_false]
set_option maxHeartbeats 4000000 in
set_option maxRecDepth 100000 in
theorem c_MO_act {l : Launch} {D : va_G} {cI cZ cO cJ : ClassId} {eA eM : Nat} {f : g_F} {bd : Nat → Nat} {th : Int32} {L nc : Nat} {pt ot : Nat → Int32} {n : Nat} {P Du S Wy tw ct PF DF : Nat → Nat} {GF : Nat → Bool} {pz pm : Nat} {O Le : Nat → Nat} {Sl : Nat → Bool} (hR : mo_R cI cZ f bd th L nc pt ot n P Du S Wy tw ct PF DF GF pz pm O Le Sl) (hB : mo_B L nc n P Du S Wy tw ct PF DF pz pm O Le) (hIn : ∀ i j, i < 15 → j < 15 → bd i = bd j → i = j) {x y : Int32} : g_C l y_MO_act b_MO_act 3 (some .int) { frames := 1, cells := 0, slots := 0, locals := 22 } D g_cl (g_tys cI cZ cO cJ) (z_Z eA eM) [.ref (bd 0), .int x, .int y] f (fun r f2 => (¬ (inR x 10 ∧ inW y 1 10000) ∧ r = some (.int 0) ∧ f2 = (m_th f bd 1 L nc n pz pm)) ∨ ((inR x 10 ∧ inW y 1 10000) ∧ ¬ n < 8 ∧ r = some (.int 0) ∧ f2 = (m_th f bd 2 L nc n pz pm)) ∨ (∃ p_ s_, p_ < 10 ∧ 1 ≤ s_ ∧ s_ ≤ 10000 ∧ x = nI p_ ∧ y = nI s_ ∧ n < 8 ∧ r = some (.int (nI n)) ∧ mo_R cI cZ f2 bd 0 L nc pt ot (n + 1) (va_up P n p_) (va_up Du n s_) S Wy tw ct PF DF GF pz pm O Le Sl ∧ m_fr bd f f2)) (fun _ => False) := by
  refine g_ofW [(0, .ref (bd 0)), (1, .int x), (2, .int y)] (by decide +kernel) (Nat.le_of_ble_eq_true rfl) rfl ?_
  intro p e s m args below meth c X ht hin
  obtain ⟨hM, h1, h2, h3, h4, h5, h6, h7, h8, h9, h10, h11, h12, h13, h14⟩ := id hR
  obtain ⟨⟨hL1, hL5⟩, hnc, hUB, htw, hct, hPF, hDF, ⟨hpz, hpm, hO8⟩, hLe⟩ := id hB
  obtain ⟨hn8, hP, hDu, hS, hWy⟩ := id hUB
  have kj : ∀ b_ : Bool, (b_ = true ↔ (inR x 10 ∧ inW y 1 10000)) → g_W p l e { frames := 1, cells := 0, slots := 0, locals := 22 } s m args below meth c 3 D g_cl (g_A f s.heap.size) f 0 0 (g_End below D g_cl f (fun r f2 => (¬ (inR x 10 ∧ inW y 1 10000) ∧ r = some (.int 0) ∧ f2 = (m_th f bd 1 L nc n pz pm)) ∨ ((inR x 10 ∧ inW y 1 10000) ∧ ¬ n < 8 ∧ r = some (.int 0) ∧ f2 = (m_th f bd 2 L nc n pz pm)) ∨ (∃ p_ s_, p_ < 10 ∧ 1 ≤ s_ ∧ s_ ≤ 10000 ∧ x = nI p_ ∧ y = nI s_ ∧ n < 8 ∧ r = some (.int (nI n)) ∧ mo_R cI cZ f2 bd 0 L nc pt ot (n + 1) (va_up P n p_) (va_up Du n s_) S Wy tw ct PF DF GF pz pm O Le Sl ∧ m_fr bd f f2)) (fun _ => False) args s { frames := 1, cells := 0, slots := 0, locals := 22 }) 27 [(0, .ref (bd 0)), (1, .int x), (2, .int y)] [.int (bI b_), .ref (bd 0)] := by
    intro b_ hb_
    cases b_ with
    | false =>
      have hV : ¬ (inR x 10 ∧ inW y 1 10000) := fun z => Bool.noConfusion (hb_.mpr z)
      refine g_aload_n X d_MO_act_27 0 rfl ?_
      refine g_get (ci := 5) (C := R_MO) (T := F_MO) (N := 20) (v := .int (nI n)) X i_MO rfl hM 5 (by decide) q_602 (fun _ h9 => h9) rfl d_MO_act_28 ?_
      refine g_bipush (v := 8) X d_MO_act_31 (by decide) ?_
      refine g_icmp_ge X 40 d_MO_act_33 (by decide) (fun c33 => ?_) (fun c33 => ?_)
      · skip
        refine g_iconst (v := 0) X d_MO_act_40 (by decide) ?_
        refine g_callV (ci := 5) (As := [.int (bI false), .int 0]) (rest := []) X (z_ok eA eM) rfl rfl hM (c_MO_goes hR hB (b1 := false) (b2 := false)) v_MO_goes q_671 q_s19 q_669 rfl rfl (Nat.le_of_ble_eq_true rfl) d_MO_act_41 ⟨(Nat.le_of_ble_eq_true rfl), (Nat.le_of_ble_eq_true rfl)⟩ ⟨(Nat.le_of_ble_eq_true rfl), (Nat.le_of_ble_eq_true rfl)⟩ (g_K.no (fun _ h => h)) (fun r_ f2_ hp => ?_)
        obtain ⟨rfl, hf9_⟩ := hp
        have hf_ : f2_ = (m_th f bd 1 L nc n pz pm) := hf9_
        clear hf9_
        subst f2_
        refine g_st (st2 := [.int 0]) rfl ?_
        have hR2 := mo_th hR 1
        obtain ⟨hM2, k1, k2, k3, k4, k5, k6, k7, k8, k9, k10, k11, k12, k13, k14⟩ := id hR2
        refine g_if_ne X 49 d_MO_act_44 (by decide) (fun c44 => ?_) (fun c44 => ?_)
        · skip
          exact absurd rfl c44
        · skip
          skip
          refine g_iconst (v := 0) X d_MO_act_47 (by decide) ?_
          exact g_iret X rfl (Or.inl ⟨hV, rfl, rfl⟩) (Nat.le_of_ble_eq_true rfl) (Nat.le_of_ble_eq_true rfl) d_MO_act_48
      · skip
        refine g_iconst (v := 1) X d_MO_act_36 (by decide) ?_
        refine g_goto X 41 d_MO_act_37 (by decide) ?_
        refine g_callV (ci := 5) (As := [.int (bI false), .int 1]) (rest := []) X (z_ok eA eM) rfl rfl hM (c_MO_goes hR hB (b1 := false) (b2 := true)) v_MO_goes q_671 q_s19 q_669 rfl rfl (Nat.le_of_ble_eq_true rfl) d_MO_act_41 ⟨(Nat.le_of_ble_eq_true rfl), (Nat.le_of_ble_eq_true rfl)⟩ ⟨(Nat.le_of_ble_eq_true rfl), (Nat.le_of_ble_eq_true rfl)⟩ (g_K.no (fun _ h => h)) (fun r_ f2_ hp => ?_)
        obtain ⟨rfl, hf9_⟩ := hp
        have hf_ : f2_ = (m_th f bd 1 L nc n pz pm) := hf9_
        clear hf9_
        subst f2_
        refine g_st (st2 := [.int 0]) rfl ?_
        have hR2 := mo_th hR 1
        obtain ⟨hM2, k1, k2, k3, k4, k5, k6, k7, k8, k9, k10, k11, k12, k13, k14⟩ := id hR2
        refine g_if_ne X 49 d_MO_act_44 (by decide) (fun c44 => ?_) (fun c44 => ?_)
        · skip
          exact absurd rfl c44
        · skip
          skip
          refine g_iconst (v := 0) X d_MO_act_47 (by decide) ?_
          exact g_iret X rfl (Or.inl ⟨hV, rfl, rfl⟩) (Nat.le_of_ble_eq_true rfl) (Nat.le_of_ble_eq_true rfl) d_MO_act_48
    | true =>
      have hV := hb_.mp rfl
      obtain ⟨⟨p_, hp_, rfl⟩, ⟨s_, hs_1, hs_2, rfl⟩⟩ := hV
      refine g_aload_n X d_MO_act_27 0 rfl ?_
      refine g_get (ci := 5) (C := R_MO) (T := F_MO) (N := 20) (v := .int (nI n)) X i_MO rfl hM 5 (by decide) q_602 (fun _ h9 => h9) rfl d_MO_act_28 ?_
      refine g_bipush (v := 8) X d_MO_act_31 (by decide) ?_
      refine g_icmp_ge X 40 d_MO_act_33 (by decide) (fun c33 => ?_) (fun c33 => ?_)
      · skip
        have hn9 : ¬ n < 8 := Nat.not_lt.mpr ((nI_leI (a := 8) (by decide) (by omega)).mp c33)
        refine g_iconst (v := 0) X d_MO_act_40 (by decide) ?_
        refine g_callV (ci := 5) (As := [.int (bI true), .int 0]) (rest := []) X (z_ok eA eM) rfl rfl hM (c_MO_goes hR hB (b1 := true) (b2 := false)) v_MO_goes q_671 q_s19 q_669 rfl rfl (Nat.le_of_ble_eq_true rfl) d_MO_act_41 ⟨(Nat.le_of_ble_eq_true rfl), (Nat.le_of_ble_eq_true rfl)⟩ ⟨(Nat.le_of_ble_eq_true rfl), (Nat.le_of_ble_eq_true rfl)⟩ (g_K.no (fun _ h => h)) (fun r_ f2_ hp => ?_)
        obtain ⟨rfl, hf9_⟩ := hp
        have hf_ : f2_ = (m_th f bd 2 L nc n pz pm) := hf9_
        clear hf9_
        subst f2_
        refine g_st (st2 := [.int 0]) rfl ?_
        have hR2 := mo_th hR 2
        obtain ⟨hM2, k1, k2, k3, k4, k5, k6, k7, k8, k9, k10, k11, k12, k13, k14⟩ := id hR2
        refine g_if_ne X 49 d_MO_act_44 (by decide) (fun c44 => ?_) (fun c44 => ?_)
        · skip
          exact absurd rfl c44
        · skip
          skip
          refine g_iconst (v := 0) X d_MO_act_47 (by decide) ?_
          exact g_iret X rfl (Or.inr (Or.inl ⟨⟨⟨p_, hp_, rfl⟩, ⟨s_, hs_1, hs_2, rfl⟩⟩, hn9, rfl, rfl⟩)) (Nat.le_of_ble_eq_true rfl) (Nat.le_of_ble_eq_true rfl) d_MO_act_48
      · skip
        have hn9 : n < 8 := Nat.lt_of_not_le (fun z => c33 ((nI_leI (a := 8) (by decide) (by omega)).mpr z))
        refine g_iconst (v := 1) X d_MO_act_36 (by decide) ?_
        refine g_goto X 41 d_MO_act_37 (by decide) ?_
        refine g_callV (ci := 5) (As := [.int (bI true), .int 1]) (rest := []) X (z_ok eA eM) rfl rfl hM (c_MO_goes hR hB (b1 := true) (b2 := true)) v_MO_goes q_671 q_s19 q_669 rfl rfl (Nat.le_of_ble_eq_true rfl) d_MO_act_41 ⟨(Nat.le_of_ble_eq_true rfl), (Nat.le_of_ble_eq_true rfl)⟩ ⟨(Nat.le_of_ble_eq_true rfl), (Nat.le_of_ble_eq_true rfl)⟩ (g_K.no (fun _ h => h)) (fun r_ f2_ hp => ?_)
        obtain ⟨rfl, hf9_⟩ := hp
        have hf_ : f2_ = (m_th f bd 0 L nc n pz pm) := hf9_
        clear hf9_
        subst f2_
        refine g_st (st2 := [.int 1]) rfl ?_
        have hR2 := mo_th hR 0
        obtain ⟨hM2, k1, k2, k3, k4, k5, k6, k7, k8, k9, k10, k11, k12, k13, k14⟩ := id hR2
        refine g_if_ne X 49 d_MO_act_44 (by decide) (fun c44 => ?_) (fun c44 => ?_)
        · skip
          skip
          refine g_aload_n X d_MO_act_49 0 rfl ?_
          refine g_get (ci := 5) (C := R_MO) (T := F_MO) (N := 20) (v := .ref (bd 3)) X i_MO rfl hM2 6 (by decide) q_603 (fun _ h9 => h9) rfl d_MO_act_50 ?_
          refine g_aload_n X d_MO_act_53 0 rfl ?_
          refine g_get (ci := 5) (C := R_MO) (T := F_MO) (N := 20) (v := .int (nI n)) X i_MO rfl hM2 5 (by decide) q_602 (fun _ h9 => h9) rfl d_MO_act_54 ?_
          refine g_iload_n X d_MO_act_57 1 rfl ?_
          refine g_iast (t0 := 0) (g2 := fun q9 => nI (va_up P n p_ q9)) X k3 rfl (nI_ix (hn9) (by decide)) (upd_nI (g := P) (Nat.lt_trans (hn9) (by decide))) d_MO_act_58 ?_
          generalize ef_1 : g_u (m_th f bd 0 L nc n pz pm) (bd 3) (.inl (cI, 8, .inl (fun q9 => nI (va_up P n p_ q9)))) = f_1
          have h_2 : f_1 (bd 0) = some (.inr (5, [.int 0, .int (nI L), .int (nI nc), .ref (bd 1), .ref (bd 2), .int (nI n), .ref (bd 3), .ref (bd 4), .ref (bd 5), .ref (bd 6), .ref (bd 7), .ref (bd 8), .ref (bd 9), .ref (bd 10), .ref (bd 11), .int (nI pz), .int (nI pm), .ref (bd 12), .ref (bd 13), .ref (bd 14)])) := by rw [← ef_1]; exact (g_u_n (tu_ne hM2 k3)).trans hM2
          have h_3 : f_1 (bd 1) = some (.inl (cI, 24, .inl pt)) := by rw [← ef_1]; exact (g_u_n (fun z => absurd (hIn 1 3 (by decide) (by decide) z) (by decide))).trans k1
          have h_4 : f_1 (bd 2) = some (.inl (cI, 24, .inl ot)) := by rw [← ef_1]; exact (g_u_n (fun z => absurd (hIn 2 3 (by decide) (by decide) z) (by decide))).trans k2
          have h_5 : f_1 (bd 3) = some (.inl (cI, 8, .inl (fun q9 => nI (va_up P n p_ q9)))) := by rw [← ef_1]; exact g_u_s
          have h_6 : f_1 (bd 4) = some (.inl (cI, 8, .inl (fun q9 => nI (Du q9)))) := by rw [← ef_1]; exact (g_u_n (fun z => absurd (hIn 4 3 (by decide) (by decide) z) (by decide))).trans k4
          have h_7 : f_1 (bd 5) = some (.inl (cI, 8, .inl (fun q9 => nI (S q9)))) := by rw [← ef_1]; exact (g_u_n (fun z => absurd (hIn 5 3 (by decide) (by decide) z) (by decide))).trans k5
          have h_8 : f_1 (bd 6) = some (.inl (cI, 100, .inl (fun q9 => nI (Wy q9)))) := by rw [← ef_1]; exact (g_u_n (fun z => absurd (hIn 6 3 (by decide) (by decide) z) (by decide))).trans k6
          have h_9 : f_1 (bd 7) = some (.inl (cI, 75024, .inl (fun q9 => nI (tw q9)))) := by rw [← ef_1]; exact (g_u_n (fun z => absurd (hIn 7 3 (by decide) (by decide) z) (by decide))).trans k7
          have h_10 : f_1 (bd 8) = some (.inl (cI, 24, .inl (fun q9 => nI (ct q9)))) := by rw [← ef_1]; exact (g_u_n (fun z => absurd (hIn 8 3 (by decide) (by decide) z) (by decide))).trans k8
          have h_11 : f_1 (bd 9) = some (.inl (cI, 768, .inl (fun q9 => nI (PF q9)))) := by rw [← ef_1]; exact (g_u_n (fun z => absurd (hIn 9 3 (by decide) (by decide) z) (by decide))).trans k9
          have h_12 : f_1 (bd 10) = some (.inl (cI, 768, .inl (fun q9 => nI (DF q9)))) := by rw [← ef_1]; exact (g_u_n (fun z => absurd (hIn 10 3 (by decide) (by decide) z) (by decide))).trans k10
          have h_13 : f_1 (bd 11) = some (.inl (cZ, 768, .inl (fun q9 => bI (GF q9)))) := by rw [← ef_1]; exact (g_u_n (fun z => absurd (hIn 11 3 (by decide) (by decide) z) (by decide))).trans k11
          have h_14 : f_1 (bd 12) = some (.inl (cI, 8, .inl (fun q9 => nI (O q9)))) := by rw [← ef_1]; exact (g_u_n (fun z => absurd (hIn 12 3 (by decide) (by decide) z) (by decide))).trans k12
          have h_15 : f_1 (bd 13) = some (.inl (cI, 2048, .inl (fun q9 => nI (Le q9)))) := by rw [← ef_1]; exact (g_u_n (fun z => absurd (hIn 13 3 (by decide) (by decide) z) (by decide))).trans k13
          have h_16 : f_1 (bd 14) = some (.inl (cZ, 256, .inl (fun q9 => bI (Sl q9)))) := by rw [← ef_1]; exact (g_u_n (fun z => absurd (hIn 14 3 (by decide) (by decide) z) (by decide))).trans k14
          refine g_aload_n X d_MO_act_59 0 rfl ?_
          refine g_get (ci := 5) (C := R_MO) (T := F_MO) (N := 20) (v := .ref (bd 4)) X i_MO rfl h_2 7 (by decide) q_604 (fun _ h9 => h9) rfl d_MO_act_60 ?_
          refine g_aload_n X d_MO_act_63 0 rfl ?_
          refine g_get (ci := 5) (C := R_MO) (T := F_MO) (N := 20) (v := .int (nI n)) X i_MO rfl h_2 5 (by decide) q_602 (fun _ h9 => h9) rfl d_MO_act_64 ?_
          refine g_iload_n X d_MO_act_67 2 rfl ?_
          refine g_iast (t0 := 0) (g2 := fun q9 => nI (va_up Du n s_ q9)) X h_6 rfl (nI_ix (hn9) (by decide)) (upd_nI (g := Du) (Nat.lt_trans (hn9) (by decide))) d_MO_act_68 ?_
          generalize ef_17 : g_u f_1 (bd 4) (.inl (cI, 8, .inl (fun q9 => nI (va_up Du n s_ q9)))) = f_17
          have h_18 : f_17 (bd 0) = some (.inr (5, [.int 0, .int (nI L), .int (nI nc), .ref (bd 1), .ref (bd 2), .int (nI n), .ref (bd 3), .ref (bd 4), .ref (bd 5), .ref (bd 6), .ref (bd 7), .ref (bd 8), .ref (bd 9), .ref (bd 10), .ref (bd 11), .int (nI pz), .int (nI pm), .ref (bd 12), .ref (bd 13), .ref (bd 14)])) := by rw [← ef_17]; exact (g_u_n (tu_ne h_2 h_6)).trans h_2
          have h_19 : f_17 (bd 1) = some (.inl (cI, 24, .inl pt)) := by rw [← ef_17]; exact (g_u_n (fun z => absurd (hIn 1 4 (by decide) (by decide) z) (by decide))).trans h_3
          have h_20 : f_17 (bd 2) = some (.inl (cI, 24, .inl ot)) := by rw [← ef_17]; exact (g_u_n (fun z => absurd (hIn 2 4 (by decide) (by decide) z) (by decide))).trans h_4
          have h_21 : f_17 (bd 3) = some (.inl (cI, 8, .inl (fun q9 => nI (va_up P n p_ q9)))) := by rw [← ef_17]; exact (g_u_n (fun z => absurd (hIn 3 4 (by decide) (by decide) z) (by decide))).trans h_5
          have h_22 : f_17 (bd 4) = some (.inl (cI, 8, .inl (fun q9 => nI (va_up Du n s_ q9)))) := by rw [← ef_17]; exact g_u_s
          have h_23 : f_17 (bd 5) = some (.inl (cI, 8, .inl (fun q9 => nI (S q9)))) := by rw [← ef_17]; exact (g_u_n (fun z => absurd (hIn 5 4 (by decide) (by decide) z) (by decide))).trans h_7
          have h_24 : f_17 (bd 6) = some (.inl (cI, 100, .inl (fun q9 => nI (Wy q9)))) := by rw [← ef_17]; exact (g_u_n (fun z => absurd (hIn 6 4 (by decide) (by decide) z) (by decide))).trans h_8
          have h_25 : f_17 (bd 7) = some (.inl (cI, 75024, .inl (fun q9 => nI (tw q9)))) := by rw [← ef_17]; exact (g_u_n (fun z => absurd (hIn 7 4 (by decide) (by decide) z) (by decide))).trans h_9
          have h_26 : f_17 (bd 8) = some (.inl (cI, 24, .inl (fun q9 => nI (ct q9)))) := by rw [← ef_17]; exact (g_u_n (fun z => absurd (hIn 8 4 (by decide) (by decide) z) (by decide))).trans h_10
          have h_27 : f_17 (bd 9) = some (.inl (cI, 768, .inl (fun q9 => nI (PF q9)))) := by rw [← ef_17]; exact (g_u_n (fun z => absurd (hIn 9 4 (by decide) (by decide) z) (by decide))).trans h_11
          have h_28 : f_17 (bd 10) = some (.inl (cI, 768, .inl (fun q9 => nI (DF q9)))) := by rw [← ef_17]; exact (g_u_n (fun z => absurd (hIn 10 4 (by decide) (by decide) z) (by decide))).trans h_12
          have h_29 : f_17 (bd 11) = some (.inl (cZ, 768, .inl (fun q9 => bI (GF q9)))) := by rw [← ef_17]; exact (g_u_n (fun z => absurd (hIn 11 4 (by decide) (by decide) z) (by decide))).trans h_13
          have h_30 : f_17 (bd 12) = some (.inl (cI, 8, .inl (fun q9 => nI (O q9)))) := by rw [← ef_17]; exact (g_u_n (fun z => absurd (hIn 12 4 (by decide) (by decide) z) (by decide))).trans h_14
          have h_31 : f_17 (bd 13) = some (.inl (cI, 2048, .inl (fun q9 => nI (Le q9)))) := by rw [← ef_17]; exact (g_u_n (fun z => absurd (hIn 13 4 (by decide) (by decide) z) (by decide))).trans h_15
          have h_32 : f_17 (bd 14) = some (.inl (cZ, 256, .inl (fun q9 => bI (Sl q9)))) := by rw [← ef_17]; exact (g_u_n (fun z => absurd (hIn 14 4 (by decide) (by decide) z) (by decide))).trans h_16
          refine g_aload_n X d_MO_act_69 0 rfl ?_
          refine g_dup X d_MO_act_70 rfl ?_
          refine g_get (ci := 5) (C := R_MO) (T := F_MO) (N := 20) (v := .int (nI n)) X i_MO rfl h_18 5 (by decide) q_602 (fun _ h9 => h9) rfl d_MO_act_71 ?_
          refine g_iconst (v := 1) X d_MO_act_74 (by decide) ?_
          refine g_iadd X d_MO_act_75 ?_
          refine g_eqi (y := nI (n + 1)) (nI_1 n) ?_
          refine g_put (ci := 5) (C := R_MO) (T := F_MO) (N := 20) (ty := .int) (fs2 := [.int 0, .int (nI L), .int (nI nc), .ref (bd 1), .ref (bd 2), .int (nI (n + 1)), .ref (bd 3), .ref (bd 4), .ref (bd 5), .ref (bd 6), .ref (bd 7), .ref (bd 8), .ref (bd 9), .ref (bd 10), .ref (bd 11), .int (nI pz), .int (nI pm), .ref (bd 12), .ref (bd 13), .ref (bd 14)]) X i_MO t_MO t_MO_ok n_MO rfl h_18 5 (by decide) q_602 (fun _ h9 => h9) rfl (by decide +kernel) rfl rfl (Nat.le_of_ble_eq_true rfl) rfl d_MO_act_76 ?_
          generalize ef_33 : g_u f_17 (bd 0) (.inr (5, [.int 0, .int (nI L), .int (nI nc), .ref (bd 1), .ref (bd 2), .int (nI (n + 1)), .ref (bd 3), .ref (bd 4), .ref (bd 5), .ref (bd 6), .ref (bd 7), .ref (bd 8), .ref (bd 9), .ref (bd 10), .ref (bd 11), .int (nI pz), .int (nI pm), .ref (bd 12), .ref (bd 13), .ref (bd 14)])) = f_33
          have h_34 : f_33 (bd 0) = some (.inr (5, [.int 0, .int (nI L), .int (nI nc), .ref (bd 1), .ref (bd 2), .int (nI (n + 1)), .ref (bd 3), .ref (bd 4), .ref (bd 5), .ref (bd 6), .ref (bd 7), .ref (bd 8), .ref (bd 9), .ref (bd 10), .ref (bd 11), .int (nI pz), .int (nI pm), .ref (bd 12), .ref (bd 13), .ref (bd 14)])) := by rw [← ef_33]; exact g_u_s
          have h_35 : f_33 (bd 1) = some (.inl (cI, 24, .inl pt)) := by rw [← ef_33]; exact (g_u_n (Ne.symm (tu_ne h_18 h_19))).trans h_19
          have h_36 : f_33 (bd 2) = some (.inl (cI, 24, .inl ot)) := by rw [← ef_33]; exact (g_u_n (Ne.symm (tu_ne h_18 h_20))).trans h_20
          have h_37 : f_33 (bd 3) = some (.inl (cI, 8, .inl (fun q9 => nI (va_up P n p_ q9)))) := by rw [← ef_33]; exact (g_u_n (Ne.symm (tu_ne h_18 h_21))).trans h_21
          have h_38 : f_33 (bd 4) = some (.inl (cI, 8, .inl (fun q9 => nI (va_up Du n s_ q9)))) := by rw [← ef_33]; exact (g_u_n (Ne.symm (tu_ne h_18 h_22))).trans h_22
          have h_39 : f_33 (bd 5) = some (.inl (cI, 8, .inl (fun q9 => nI (S q9)))) := by rw [← ef_33]; exact (g_u_n (Ne.symm (tu_ne h_18 h_23))).trans h_23
          have h_40 : f_33 (bd 6) = some (.inl (cI, 100, .inl (fun q9 => nI (Wy q9)))) := by rw [← ef_33]; exact (g_u_n (Ne.symm (tu_ne h_18 h_24))).trans h_24
          have h_41 : f_33 (bd 7) = some (.inl (cI, 75024, .inl (fun q9 => nI (tw q9)))) := by rw [← ef_33]; exact (g_u_n (Ne.symm (tu_ne h_18 h_25))).trans h_25
          have h_42 : f_33 (bd 8) = some (.inl (cI, 24, .inl (fun q9 => nI (ct q9)))) := by rw [← ef_33]; exact (g_u_n (Ne.symm (tu_ne h_18 h_26))).trans h_26
          have h_43 : f_33 (bd 9) = some (.inl (cI, 768, .inl (fun q9 => nI (PF q9)))) := by rw [← ef_33]; exact (g_u_n (Ne.symm (tu_ne h_18 h_27))).trans h_27
          have h_44 : f_33 (bd 10) = some (.inl (cI, 768, .inl (fun q9 => nI (DF q9)))) := by rw [← ef_33]; exact (g_u_n (Ne.symm (tu_ne h_18 h_28))).trans h_28
          have h_45 : f_33 (bd 11) = some (.inl (cZ, 768, .inl (fun q9 => bI (GF q9)))) := by rw [← ef_33]; exact (g_u_n (Ne.symm (tu_ne h_18 h_29))).trans h_29
          have h_46 : f_33 (bd 12) = some (.inl (cI, 8, .inl (fun q9 => nI (O q9)))) := by rw [← ef_33]; exact (g_u_n (Ne.symm (tu_ne h_18 h_30))).trans h_30
          have h_47 : f_33 (bd 13) = some (.inl (cI, 2048, .inl (fun q9 => nI (Le q9)))) := by rw [← ef_33]; exact (g_u_n (Ne.symm (tu_ne h_18 h_31))).trans h_31
          have h_48 : f_33 (bd 14) = some (.inl (cZ, 256, .inl (fun q9 => bI (Sl q9)))) := by rw [← ef_33]; exact (g_u_n (Ne.symm (tu_ne h_18 h_32))).trans h_32
          refine g_aload_n X d_MO_act_79 0 rfl ?_
          refine g_get (ci := 5) (C := R_MO) (T := F_MO) (N := 20) (v := .int (nI (n + 1))) X i_MO rfl h_34 5 (by decide) q_602 (fun _ h9 => h9) rfl d_MO_act_80 ?_
          refine g_iconst (v := 1) X d_MO_act_83 (by decide) ?_
          refine g_isub X d_MO_act_84 ?_
          refine g_eqi (y := nI n) ((nI_m1 (a := n + 1) (by omega)).trans (by rw [Nat.add_sub_cancel])) ?_
          exact g_iret X rfl (Or.inr (Or.inr ⟨p_, s_, hp_, hs_1, hs_2, rfl, rfl, hn9, rfl, ⟨h_34, h_35, h_36, h_37, h_38, h_39, h_40, h_41, h_42, h_43, h_44, h_45, h_46, h_47, h_48⟩, fun q hq => by rw [← ef_33, ← ef_17, ← ef_1]; exact (g_u_n (hq 0 (by decide))).trans ((g_u_n (hq 4 (by decide))).trans ((g_u_n (hq 3 (by decide))).trans ((g_u_n (hq 0 (by decide))))))⟩)) (Nat.le_of_ble_eq_true rfl) (Nat.le_of_ble_eq_true rfl) d_MO_act_85
        · skip
          exact absurd c44 (by decide)
  refine g_aload_n X d_MO_act_0 0 rfl ?_
  refine g_iload_n X d_MO_act_1 1 rfl ?_
  refine g_iconst (v := 0) X d_MO_act_2 (by decide) ?_
  refine g_bipush (v := 9) X d_MO_act_3 (by decide) ?_
  refine g_callS (As := [.int x, .int 0, .int 9]) (rest := [.ref (bd 0)]) X (z_ok eA eM) (c_MO_in (f := f) (x := x) (a := 0) (b := 9)) v_MO_in q_667 q_666 rfl rfl (Nat.le_of_ble_eq_true rfl) d_MO_act_5 ⟨(Nat.le_of_ble_eq_true rfl), (Nat.le_of_ble_eq_true rfl)⟩ ⟨(Nat.le_of_ble_eq_true rfl), (Nat.le_of_ble_eq_true rfl)⟩ (g_K.no (fun _ h => h)) (fun r_ f2_ hp => ?_)
  obtain ⟨rfl, hf_⟩ := hp
  subst f2_
  refine g_st (st2 := [.int (bI (decide (¬ x < 0 ∧ x ≤ 9))), .ref (bd 0)]) rfl ?_
  refine g_if_eq X 26 d_MO_act_8 (by decide) (fun c8 => ?_) (fun c8 => ?_)
  · skip
    have hv8 : ¬ (inR x 10) := fun z => of_decide_eq_false (bI_z.mp c8) ((inR_iff (n := 10) (by decide)).mpr z)
    refine g_iconst (v := 0) X d_MO_act_26 (by decide) ?_
    exact kj false ⟨fun z => Bool.noConfusion z, fun z => absurd z.1 hv8⟩
  · skip
    have hv8 : inR x 10 := (inR_iff (n := 10) (by decide)).mp (of_decide_eq_true (bt_nf (fun z => c8 (bI_z.mpr z))))
    refine g_iload_n X d_MO_act_11 2 rfl ?_
    refine g_iconst (v := 1) X d_MO_act_12 (by decide) ?_
    refine g_sipush (v := 10000) X d_MO_act_13 (by decide) ?_
    refine g_callS (As := [.int y, .int 1, .int 10000]) (rest := [.ref (bd 0)]) X (z_ok eA eM) (c_MO_in (f := f) (x := y) (a := 1) (b := 10000)) v_MO_in q_667 q_666 rfl rfl (Nat.le_of_ble_eq_true rfl) d_MO_act_16 ⟨(Nat.le_of_ble_eq_true rfl), (Nat.le_of_ble_eq_true rfl)⟩ ⟨(Nat.le_of_ble_eq_true rfl), (Nat.le_of_ble_eq_true rfl)⟩ (g_K.no (fun _ h => h)) (fun r_ f2_ hp => ?_)
    obtain ⟨rfl, hf_⟩ := hp
    subst f2_
    refine g_st (st2 := [.int (bI (decide (¬ y < 1 ∧ y ≤ 10000))), .ref (bd 0)]) rfl ?_
    refine g_if_eq X 26 d_MO_act_19 (by decide) (fun c19 => ?_) (fun c19 => ?_)
    · skip
      have hv19 : ¬ (inW y 1 10000) := fun z => of_decide_eq_false (bI_z.mp c19) ((inW_iff (lo := 1) (hi := 10000) (by decide) (by decide)).mpr z)
      refine g_iconst (v := 0) X d_MO_act_26 (by decide) ?_
      exact kj false ⟨fun z => Bool.noConfusion z, fun z => absurd z.2 hv19⟩
    · skip
      have hv19 : inW y 1 10000 := (inW_iff (lo := 1) (hi := 10000) (by decide) (by decide)).mp (of_decide_eq_true (bt_nf (fun z => c19 (bI_z.mpr z))))
      refine g_iconst (v := 1) X d_MO_act_22 (by decide) ?_
      refine g_goto X 27 d_MO_act_23 (by decide) ?_
      exact kj true ⟨fun _ => ⟨hv8, hv19⟩, fun _ => rfl⟩
theorem bI_inj {a b : Bool} (h : bI a = bI b) : a = b := by
  cases a <;> cases b <;> first | rfl | exact absurd h (by decide)
set_option maxHeartbeats 4000000 in
set_option maxRecDepth 100000 in
theorem c_MO_shows {l : Launch} {D : va_G} {cI cZ cO cJ : ClassId} {eA eM : Nat} {f : g_F} {bd : Nat → Nat} {th : Int32} {L nc : Nat} {pt ot : Nat → Int32} {n : Nat} {P Du S Wy tw ct PF DF : Nat → Nat} {GF : Nat → Bool} {pz pm : Nat} {O Le : Nat → Nat} {Sl : Nat → Bool} (hR : mo_R cI cZ f bd th L nc pt ot n P Du S Wy tw ct PF DF GF pz pm O Le Sl) (hB : mo_B L nc n P Du S Wy tw ct PF DF pz pm O Le) (hIn : ∀ i j, i < 15 → j < 15 → bd i = bd j → i = j) {x y : Int32} {b : Bool} : g_C l y_MO_shows b_MO_shows 5 (some .boolean) { frames := 2, cells := 0, slots := 0, locals := 43 } D g_cl (g_tys cI cZ cO cJ) (z_Z eA eM) [.ref (bd 0), .int x, .int y, .int (bI b)] f (fun r f2 => (¬ (inR x n ∧ inR y nc) ∧ r = some (.int 0) ∧ f2 = (m_th f bd 1 L nc n pz pm)) ∨ (∃ i k, i < n ∧ k < nc ∧ x = nI i ∧ y = nI k ∧ r = some (.int (bI ((S i).testBit k))) ∧ mo_R cI cZ f2 bd 0 L nc pt ot n P Du (va_up S i (shw S i k b)) Wy tw ct PF DF GF pz pm O Le Sl ∧ m_fr bd f f2)) (fun _ => False) := by
  refine g_ofW [(0, .ref (bd 0)), (1, .int x), (2, .int y), (3, .int (bI b))] (by decide +kernel) (Nat.le_of_ble_eq_true rfl) rfl ?_
  intro p e s m args below meth c X ht hin
  obtain ⟨hM, h1, h2, h3, h4, h5, h6, h7, h8, h9, h10, h11, h12, h13, h14⟩ := id hR
  obtain ⟨⟨hL1, hL5⟩, hnc, hUB, htw, hct, hPF, hDF, ⟨hpz, hpm, hO8⟩, hLe⟩ := id hB
  obtain ⟨hn8, hP, hDu, hS, hWy⟩ := id hUB
  have kj : ∀ b_ : Bool, (b_ = true ↔ (inR x n ∧ inR y nc)) → g_W p l e { frames := 2, cells := 0, slots := 0, locals := 43 } s m args below meth c 5 D g_cl (g_A f s.heap.size) f 0 0 (g_End below D g_cl f (fun r f2 => (¬ (inR x n ∧ inR y nc) ∧ r = some (.int 0) ∧ f2 = (m_th f bd 1 L nc n pz pm)) ∨ (∃ i k, i < n ∧ k < nc ∧ x = nI i ∧ y = nI k ∧ r = some (.int (bI ((S i).testBit k))) ∧ mo_R cI cZ f2 bd 0 L nc pt ot n P Du (va_up S i (shw S i k b)) Wy tw ct PF DF GF pz pm O Le Sl ∧ m_fr bd f f2)) (fun _ => False) args s { frames := 2, cells := 0, slots := 0, locals := 43 }) 28 [(0, .ref (bd 0)), (1, .int x), (2, .int y), (3, .int (bI b))] [.int (bI b_), .ref (bd 0)] := by
    intro b_ hb_
    cases b_ with
    | false =>
      have hV : ¬ (inR x n ∧ inR y nc) := fun z => Bool.noConfusion (hb_.mpr z)
      refine g_iconst (v := 1) X d_MO_shows_28 (by decide) ?_
      refine g_callV (ci := 5) (As := [.int (bI false), .int 1]) (rest := []) X (z_ok eA eM) rfl rfl hM (c_MO_goes hR hB (b1 := false) (b2 := true)) v_MO_goes q_671 q_s19 q_669 rfl rfl (Nat.le_of_ble_eq_true rfl) d_MO_shows_29 ⟨(Nat.le_of_ble_eq_true rfl), (Nat.le_of_ble_eq_true rfl)⟩ ⟨(Nat.le_of_ble_eq_true rfl), (Nat.le_of_ble_eq_true rfl)⟩ (g_K.no (fun _ h => h)) (fun r_ f2_ hp => ?_)
      obtain ⟨rfl, hf9_⟩ := hp
      have hf_ : f2_ = (m_th f bd 1 L nc n pz pm) := hf9_
      clear hf9_
      subst f2_
      refine g_st (st2 := [.int 0]) rfl ?_
      have hR2 := mo_th hR 1
      obtain ⟨hM2, k1, k2, k3, k4, k5, k6, k7, k8, k9, k10, k11, k12, k13, k14⟩ := id hR2
      refine g_if_ne X 37 d_MO_shows_32 (by decide) (fun c32 => ?_) (fun c32 => ?_)
      · skip
        exact absurd rfl c32
      · skip
        skip
        refine g_iconst (v := 0) X d_MO_shows_35 (by decide) ?_
        exact g_zret X rfl (by decide) (Or.inl ⟨hV, rfl, rfl⟩) (Nat.le_of_ble_eq_true rfl) (Nat.le_of_ble_eq_true rfl) d_MO_shows_36
    | true =>
      have hV := hb_.mp rfl
      obtain ⟨⟨i, hi, rfl⟩, ⟨k, hk, rfl⟩⟩ := hV
      refine g_iconst (v := 1) X d_MO_shows_28 (by decide) ?_
      refine g_callV (ci := 5) (As := [.int (bI true), .int 1]) (rest := []) X (z_ok eA eM) rfl rfl hM (c_MO_goes hR hB (b1 := true) (b2 := true)) v_MO_goes q_671 q_s19 q_669 rfl rfl (Nat.le_of_ble_eq_true rfl) d_MO_shows_29 ⟨(Nat.le_of_ble_eq_true rfl), (Nat.le_of_ble_eq_true rfl)⟩ ⟨(Nat.le_of_ble_eq_true rfl), (Nat.le_of_ble_eq_true rfl)⟩ (g_K.no (fun _ h => h)) (fun r_ f2_ hp => ?_)
      obtain ⟨rfl, hf9_⟩ := hp
      have hf_ : f2_ = (m_th f bd 0 L nc n pz pm) := hf9_
      clear hf9_
      subst f2_
      refine g_st (st2 := [.int 1]) rfl ?_
      have hR2 := mo_th hR 0
      obtain ⟨hM2, k1, k2, k3, k4, k5, k6, k7, k8, k9, k10, k11, k12, k13, k14⟩ := id hR2
      refine g_if_ne X 37 d_MO_shows_32 (by decide) (fun c32 => ?_) (fun c32 => ?_)
      · skip
        skip
        refine g_aload_n X d_MO_shows_37 0 rfl ?_
        refine g_get (ci := 5) (C := R_MO) (T := F_MO) (N := 20) (v := .ref (bd 5)) X i_MO rfl hM2 8 (by decide) q_605 (fun _ h9 => h9) rfl d_MO_shows_38 ?_
        refine g_iload_n X d_MO_shows_41 1 rfl ?_
        refine g_iald (t0 := 0) (v := nI (S i)) X k5 rfl (nI_ix ((by omega : i < 8)) (by decide)) (nI_cl (g := fun q9 => nI (S q9)) (Nat.lt_trans ((by omega : i < 8)) (by decide))) d_MO_shows_42 ?_
        refine g_iload_n X d_MO_shows_43 2 rfl ?_
        refine g_ishr X d_MO_shows_44 ?_
        refine g_iconst (v := 1) X d_MO_shows_45 (by decide) ?_
        refine g_iand X d_MO_shows_46 ?_
        refine g_iconst (v := 1) X d_MO_shows_47 (by decide) ?_
        refine g_icmp_ne X 55 d_MO_shows_48 (by decide) (fun c48 => ?_) (fun c48 => ?_)
        · skip
          refine g_iconst (v := 0) X d_MO_shows_55 (by decide) ?_
          refine g_eqi (y := bI ((S i).testBit k)) (by rw [bt_nt (fun z => c48 ((sbit_iff (Nat.lt_trans (hS i) (by decide)) (by omega)).mpr z))]; rfl) ?_
          refine g_istore (lv' := [(4, .int (bI ((S i).testBit k))), (0, .ref (bd 0)), (1, .int (nI i)), (2, .int (nI k)), (3, .int (bI b))]) X d_MO_shows_56 (by decide) rfl ?_
          refine g_aload_n X d_MO_shows_58 1 rfl ?_
          refine g_get (ci := 5) (C := R_MO) (T := F_MO) (N := 20) (v := .ref (bd 5)) X i_MO rfl hM2 8 (by decide) q_605 (fun _ h9 => h9) rfl d_MO_shows_59 ?_
          refine g_iload_n X d_MO_shows_62 2 rfl ?_
          refine g_iload X d_MO_shows_63 0 rfl ?_
          refine g_iload_n X d_MO_shows_65 4 rfl ?_
          refine g_icmp_ne X 78 d_MO_shows_66 (by decide) (fun c66 => ?_) (fun c66 => ?_)
          · skip
            refine g_aload_n X d_MO_shows_78 1 rfl ?_
            refine g_get (ci := 5) (C := R_MO) (T := F_MO) (N := 20) (v := .ref (bd 5)) X i_MO rfl hM2 8 (by decide) q_605 (fun _ h9 => h9) rfl d_MO_shows_79 ?_
            refine g_iload_n X d_MO_shows_82 2 rfl ?_
            refine g_iald (t0 := 0) (v := nI (S i)) X k5 rfl (nI_ix ((by omega : i < 8)) (by decide)) (nI_cl (g := fun q9 => nI (S q9)) (Nat.lt_trans ((by omega : i < 8)) (by decide))) d_MO_shows_83 ?_
            refine g_iconst (v := 1) X d_MO_shows_84 (by decide) ?_
            refine g_iload_n X d_MO_shows_85 3 rfl ?_
            refine g_ishl X d_MO_shows_86 ?_
            refine g_eqi (y := nI (2 ^ k)) (nI_bit (by omega)) ?_
            refine g_ixor X d_MO_shows_87 ?_
            refine g_eqi (y := nI (shw S i k b)) (by rw [← shx_eq, if_neg (fun z => c66 (by rw [z])), ← nI_xor]) ?_
            refine g_iast (t0 := 0) (g2 := fun q9 => nI (va_up S i (shw S i k b) q9)) X k5 rfl (nI_ix ((by omega : i < 8)) (by decide)) (upd_nI (g := S) (Nat.lt_trans ((by omega : i < 8)) (by decide))) d_MO_shows_88 ?_
            generalize ef_1 : g_u (m_th f bd 0 L nc n pz pm) (bd 5) (.inl (cI, 8, .inl (fun q9 => nI (va_up S i (shw S i k b) q9)))) = f_1
            have h_2 : f_1 (bd 0) = some (.inr (5, [.int 0, .int (nI L), .int (nI nc), .ref (bd 1), .ref (bd 2), .int (nI n), .ref (bd 3), .ref (bd 4), .ref (bd 5), .ref (bd 6), .ref (bd 7), .ref (bd 8), .ref (bd 9), .ref (bd 10), .ref (bd 11), .int (nI pz), .int (nI pm), .ref (bd 12), .ref (bd 13), .ref (bd 14)])) := by rw [← ef_1]; exact (g_u_n (tu_ne hM2 k5)).trans hM2
            have h_3 : f_1 (bd 1) = some (.inl (cI, 24, .inl pt)) := by rw [← ef_1]; exact (g_u_n (fun z => absurd (hIn 1 5 (by decide) (by decide) z) (by decide))).trans k1
            have h_4 : f_1 (bd 2) = some (.inl (cI, 24, .inl ot)) := by rw [← ef_1]; exact (g_u_n (fun z => absurd (hIn 2 5 (by decide) (by decide) z) (by decide))).trans k2
            have h_5 : f_1 (bd 3) = some (.inl (cI, 8, .inl (fun q9 => nI (P q9)))) := by rw [← ef_1]; exact (g_u_n (fun z => absurd (hIn 3 5 (by decide) (by decide) z) (by decide))).trans k3
            have h_6 : f_1 (bd 4) = some (.inl (cI, 8, .inl (fun q9 => nI (Du q9)))) := by rw [← ef_1]; exact (g_u_n (fun z => absurd (hIn 4 5 (by decide) (by decide) z) (by decide))).trans k4
            have h_7 : f_1 (bd 5) = some (.inl (cI, 8, .inl (fun q9 => nI (va_up S i (shw S i k b) q9)))) := by rw [← ef_1]; exact g_u_s
            have h_8 : f_1 (bd 6) = some (.inl (cI, 100, .inl (fun q9 => nI (Wy q9)))) := by rw [← ef_1]; exact (g_u_n (fun z => absurd (hIn 6 5 (by decide) (by decide) z) (by decide))).trans k6
            have h_9 : f_1 (bd 7) = some (.inl (cI, 75024, .inl (fun q9 => nI (tw q9)))) := by rw [← ef_1]; exact (g_u_n (fun z => absurd (hIn 7 5 (by decide) (by decide) z) (by decide))).trans k7
            have h_10 : f_1 (bd 8) = some (.inl (cI, 24, .inl (fun q9 => nI (ct q9)))) := by rw [← ef_1]; exact (g_u_n (fun z => absurd (hIn 8 5 (by decide) (by decide) z) (by decide))).trans k8
            have h_11 : f_1 (bd 9) = some (.inl (cI, 768, .inl (fun q9 => nI (PF q9)))) := by rw [← ef_1]; exact (g_u_n (fun z => absurd (hIn 9 5 (by decide) (by decide) z) (by decide))).trans k9
            have h_12 : f_1 (bd 10) = some (.inl (cI, 768, .inl (fun q9 => nI (DF q9)))) := by rw [← ef_1]; exact (g_u_n (fun z => absurd (hIn 10 5 (by decide) (by decide) z) (by decide))).trans k10
            have h_13 : f_1 (bd 11) = some (.inl (cZ, 768, .inl (fun q9 => bI (GF q9)))) := by rw [← ef_1]; exact (g_u_n (fun z => absurd (hIn 11 5 (by decide) (by decide) z) (by decide))).trans k11
            have h_14 : f_1 (bd 12) = some (.inl (cI, 8, .inl (fun q9 => nI (O q9)))) := by rw [← ef_1]; exact (g_u_n (fun z => absurd (hIn 12 5 (by decide) (by decide) z) (by decide))).trans k12
            have h_15 : f_1 (bd 13) = some (.inl (cI, 2048, .inl (fun q9 => nI (Le q9)))) := by rw [← ef_1]; exact (g_u_n (fun z => absurd (hIn 13 5 (by decide) (by decide) z) (by decide))).trans k13
            have h_16 : f_1 (bd 14) = some (.inl (cZ, 256, .inl (fun q9 => bI (Sl q9)))) := by rw [← ef_1]; exact (g_u_n (fun z => absurd (hIn 14 5 (by decide) (by decide) z) (by decide))).trans k14
            refine g_iload X d_MO_shows_89 0 rfl ?_
            exact g_zret X rfl (bI_nar _) (Or.inr ⟨i, k, hi, hk, rfl, rfl, rfl, ⟨h_2, h_3, h_4, h_5, h_6, h_7, h_8, h_9, h_10, h_11, h_12, h_13, h_14, h_15, h_16⟩, fun q hq => by rw [← ef_1]; exact (g_u_n (hq 5 (by decide))).trans ((g_u_n (hq 0 (by decide))))⟩) (Nat.le_of_ble_eq_true rfl) (Nat.le_of_ble_eq_true rfl) d_MO_shows_91
          · skip
            refine g_aload_n X d_MO_shows_69 1 rfl ?_
            refine g_get (ci := 5) (C := R_MO) (T := F_MO) (N := 20) (v := .ref (bd 5)) X i_MO rfl hM2 8 (by decide) q_605 (fun _ h9 => h9) rfl d_MO_shows_70 ?_
            refine g_iload_n X d_MO_shows_73 2 rfl ?_
            refine g_iald (t0 := 0) (v := nI (S i)) X k5 rfl (nI_ix ((by omega : i < 8)) (by decide)) (nI_cl (g := fun q9 => nI (S q9)) (Nat.lt_trans ((by omega : i < 8)) (by decide))) d_MO_shows_74 ?_
            refine g_goto X 88 d_MO_shows_75 (by decide) ?_
            refine g_eqi (y := nI (shw S i k b)) (by rw [← shx_eq, if_pos (bI_inj c66)]) ?_
            refine g_iast (t0 := 0) (g2 := fun q9 => nI (va_up S i (shw S i k b) q9)) X k5 rfl (nI_ix ((by omega : i < 8)) (by decide)) (upd_nI (g := S) (Nat.lt_trans ((by omega : i < 8)) (by decide))) d_MO_shows_88 ?_
            generalize ef_17 : g_u (m_th f bd 0 L nc n pz pm) (bd 5) (.inl (cI, 8, .inl (fun q9 => nI (va_up S i (shw S i k b) q9)))) = f_17
            have h_18 : f_17 (bd 0) = some (.inr (5, [.int 0, .int (nI L), .int (nI nc), .ref (bd 1), .ref (bd 2), .int (nI n), .ref (bd 3), .ref (bd 4), .ref (bd 5), .ref (bd 6), .ref (bd 7), .ref (bd 8), .ref (bd 9), .ref (bd 10), .ref (bd 11), .int (nI pz), .int (nI pm), .ref (bd 12), .ref (bd 13), .ref (bd 14)])) := by rw [← ef_17]; exact (g_u_n (tu_ne hM2 k5)).trans hM2
            have h_19 : f_17 (bd 1) = some (.inl (cI, 24, .inl pt)) := by rw [← ef_17]; exact (g_u_n (fun z => absurd (hIn 1 5 (by decide) (by decide) z) (by decide))).trans k1
            have h_20 : f_17 (bd 2) = some (.inl (cI, 24, .inl ot)) := by rw [← ef_17]; exact (g_u_n (fun z => absurd (hIn 2 5 (by decide) (by decide) z) (by decide))).trans k2
            have h_21 : f_17 (bd 3) = some (.inl (cI, 8, .inl (fun q9 => nI (P q9)))) := by rw [← ef_17]; exact (g_u_n (fun z => absurd (hIn 3 5 (by decide) (by decide) z) (by decide))).trans k3
            have h_22 : f_17 (bd 4) = some (.inl (cI, 8, .inl (fun q9 => nI (Du q9)))) := by rw [← ef_17]; exact (g_u_n (fun z => absurd (hIn 4 5 (by decide) (by decide) z) (by decide))).trans k4
            have h_23 : f_17 (bd 5) = some (.inl (cI, 8, .inl (fun q9 => nI (va_up S i (shw S i k b) q9)))) := by rw [← ef_17]; exact g_u_s
            have h_24 : f_17 (bd 6) = some (.inl (cI, 100, .inl (fun q9 => nI (Wy q9)))) := by rw [← ef_17]; exact (g_u_n (fun z => absurd (hIn 6 5 (by decide) (by decide) z) (by decide))).trans k6
            have h_25 : f_17 (bd 7) = some (.inl (cI, 75024, .inl (fun q9 => nI (tw q9)))) := by rw [← ef_17]; exact (g_u_n (fun z => absurd (hIn 7 5 (by decide) (by decide) z) (by decide))).trans k7
            have h_26 : f_17 (bd 8) = some (.inl (cI, 24, .inl (fun q9 => nI (ct q9)))) := by rw [← ef_17]; exact (g_u_n (fun z => absurd (hIn 8 5 (by decide) (by decide) z) (by decide))).trans k8
            have h_27 : f_17 (bd 9) = some (.inl (cI, 768, .inl (fun q9 => nI (PF q9)))) := by rw [← ef_17]; exact (g_u_n (fun z => absurd (hIn 9 5 (by decide) (by decide) z) (by decide))).trans k9
            have h_28 : f_17 (bd 10) = some (.inl (cI, 768, .inl (fun q9 => nI (DF q9)))) := by rw [← ef_17]; exact (g_u_n (fun z => absurd (hIn 10 5 (by decide) (by decide) z) (by decide))).trans k10
            have h_29 : f_17 (bd 11) = some (.inl (cZ, 768, .inl (fun q9 => bI (GF q9)))) := by rw [← ef_17]; exact (g_u_n (fun z => absurd (hIn 11 5 (by decide) (by decide) z) (by decide))).trans k11
            have h_30 : f_17 (bd 12) = some (.inl (cI, 8, .inl (fun q9 => nI (O q9)))) := by rw [← ef_17]; exact (g_u_n (fun z => absurd (hIn 12 5 (by decide) (by decide) z) (by decide))).trans k12
            have h_31 : f_17 (bd 13) = some (.inl (cI, 2048, .inl (fun q9 => nI (Le q9)))) := by rw [← ef_17]; exact (g_u_n (fun z => absurd (hIn 13 5 (by decide) (by decide) z) (by decide))).trans k13
            have h_32 : f_17 (bd 14) = some (.inl (cZ, 256, .inl (fun q9 => bI (Sl q9)))) := by rw [← ef_17]; exact (g_u_n (fun z => absurd (hIn 14 5 (by decide) (by decide) z) (by decide))).trans k14
            refine g_iload X d_MO_shows_89 0 rfl ?_
            exact g_zret X rfl (bI_nar _) (Or.inr ⟨i, k, hi, hk, rfl, rfl, rfl, ⟨h_18, h_19, h_20, h_21, h_22, h_23, h_24, h_25, h_26, h_27, h_28, h_29, h_30, h_31, h_32⟩, fun q hq => by rw [← ef_17]; exact (g_u_n (hq 5 (by decide))).trans ((g_u_n (hq 0 (by decide))))⟩) (Nat.le_of_ble_eq_true rfl) (Nat.le_of_ble_eq_true rfl) d_MO_shows_91
        · skip
          refine g_iconst (v := 1) X d_MO_shows_51 (by decide) ?_
          refine g_goto X 56 d_MO_shows_52 (by decide) ?_
          refine g_eqi (y := bI ((S i).testBit k)) (by rw [(sbit_iff (Nat.lt_trans (hS i) (by decide)) (by omega)).mp c48]; rfl) ?_
          refine g_istore (lv' := [(4, .int (bI ((S i).testBit k))), (0, .ref (bd 0)), (1, .int (nI i)), (2, .int (nI k)), (3, .int (bI b))]) X d_MO_shows_56 (by decide) rfl ?_
          refine g_aload_n X d_MO_shows_58 1 rfl ?_
          refine g_get (ci := 5) (C := R_MO) (T := F_MO) (N := 20) (v := .ref (bd 5)) X i_MO rfl hM2 8 (by decide) q_605 (fun _ h9 => h9) rfl d_MO_shows_59 ?_
          refine g_iload_n X d_MO_shows_62 2 rfl ?_
          refine g_iload X d_MO_shows_63 0 rfl ?_
          refine g_iload_n X d_MO_shows_65 4 rfl ?_
          refine g_icmp_ne X 78 d_MO_shows_66 (by decide) (fun c66 => ?_) (fun c66 => ?_)
          · skip
            refine g_aload_n X d_MO_shows_78 1 rfl ?_
            refine g_get (ci := 5) (C := R_MO) (T := F_MO) (N := 20) (v := .ref (bd 5)) X i_MO rfl hM2 8 (by decide) q_605 (fun _ h9 => h9) rfl d_MO_shows_79 ?_
            refine g_iload_n X d_MO_shows_82 2 rfl ?_
            refine g_iald (t0 := 0) (v := nI (S i)) X k5 rfl (nI_ix ((by omega : i < 8)) (by decide)) (nI_cl (g := fun q9 => nI (S q9)) (Nat.lt_trans ((by omega : i < 8)) (by decide))) d_MO_shows_83 ?_
            refine g_iconst (v := 1) X d_MO_shows_84 (by decide) ?_
            refine g_iload_n X d_MO_shows_85 3 rfl ?_
            refine g_ishl X d_MO_shows_86 ?_
            refine g_eqi (y := nI (2 ^ k)) (nI_bit (by omega)) ?_
            refine g_ixor X d_MO_shows_87 ?_
            refine g_eqi (y := nI (shw S i k b)) (by rw [← shx_eq, if_neg (fun z => c66 (by rw [z])), ← nI_xor]) ?_
            refine g_iast (t0 := 0) (g2 := fun q9 => nI (va_up S i (shw S i k b) q9)) X k5 rfl (nI_ix ((by omega : i < 8)) (by decide)) (upd_nI (g := S) (Nat.lt_trans ((by omega : i < 8)) (by decide))) d_MO_shows_88 ?_
            generalize ef_33 : g_u (m_th f bd 0 L nc n pz pm) (bd 5) (.inl (cI, 8, .inl (fun q9 => nI (va_up S i (shw S i k b) q9)))) = f_33
            have h_34 : f_33 (bd 0) = some (.inr (5, [.int 0, .int (nI L), .int (nI nc), .ref (bd 1), .ref (bd 2), .int (nI n), .ref (bd 3), .ref (bd 4), .ref (bd 5), .ref (bd 6), .ref (bd 7), .ref (bd 8), .ref (bd 9), .ref (bd 10), .ref (bd 11), .int (nI pz), .int (nI pm), .ref (bd 12), .ref (bd 13), .ref (bd 14)])) := by rw [← ef_33]; exact (g_u_n (tu_ne hM2 k5)).trans hM2
            have h_35 : f_33 (bd 1) = some (.inl (cI, 24, .inl pt)) := by rw [← ef_33]; exact (g_u_n (fun z => absurd (hIn 1 5 (by decide) (by decide) z) (by decide))).trans k1
            have h_36 : f_33 (bd 2) = some (.inl (cI, 24, .inl ot)) := by rw [← ef_33]; exact (g_u_n (fun z => absurd (hIn 2 5 (by decide) (by decide) z) (by decide))).trans k2
            have h_37 : f_33 (bd 3) = some (.inl (cI, 8, .inl (fun q9 => nI (P q9)))) := by rw [← ef_33]; exact (g_u_n (fun z => absurd (hIn 3 5 (by decide) (by decide) z) (by decide))).trans k3
            have h_38 : f_33 (bd 4) = some (.inl (cI, 8, .inl (fun q9 => nI (Du q9)))) := by rw [← ef_33]; exact (g_u_n (fun z => absurd (hIn 4 5 (by decide) (by decide) z) (by decide))).trans k4
            have h_39 : f_33 (bd 5) = some (.inl (cI, 8, .inl (fun q9 => nI (va_up S i (shw S i k b) q9)))) := by rw [← ef_33]; exact g_u_s
            have h_40 : f_33 (bd 6) = some (.inl (cI, 100, .inl (fun q9 => nI (Wy q9)))) := by rw [← ef_33]; exact (g_u_n (fun z => absurd (hIn 6 5 (by decide) (by decide) z) (by decide))).trans k6
            have h_41 : f_33 (bd 7) = some (.inl (cI, 75024, .inl (fun q9 => nI (tw q9)))) := by rw [← ef_33]; exact (g_u_n (fun z => absurd (hIn 7 5 (by decide) (by decide) z) (by decide))).trans k7
            have h_42 : f_33 (bd 8) = some (.inl (cI, 24, .inl (fun q9 => nI (ct q9)))) := by rw [← ef_33]; exact (g_u_n (fun z => absurd (hIn 8 5 (by decide) (by decide) z) (by decide))).trans k8
            have h_43 : f_33 (bd 9) = some (.inl (cI, 768, .inl (fun q9 => nI (PF q9)))) := by rw [← ef_33]; exact (g_u_n (fun z => absurd (hIn 9 5 (by decide) (by decide) z) (by decide))).trans k9
            have h_44 : f_33 (bd 10) = some (.inl (cI, 768, .inl (fun q9 => nI (DF q9)))) := by rw [← ef_33]; exact (g_u_n (fun z => absurd (hIn 10 5 (by decide) (by decide) z) (by decide))).trans k10
            have h_45 : f_33 (bd 11) = some (.inl (cZ, 768, .inl (fun q9 => bI (GF q9)))) := by rw [← ef_33]; exact (g_u_n (fun z => absurd (hIn 11 5 (by decide) (by decide) z) (by decide))).trans k11
            have h_46 : f_33 (bd 12) = some (.inl (cI, 8, .inl (fun q9 => nI (O q9)))) := by rw [← ef_33]; exact (g_u_n (fun z => absurd (hIn 12 5 (by decide) (by decide) z) (by decide))).trans k12
            have h_47 : f_33 (bd 13) = some (.inl (cI, 2048, .inl (fun q9 => nI (Le q9)))) := by rw [← ef_33]; exact (g_u_n (fun z => absurd (hIn 13 5 (by decide) (by decide) z) (by decide))).trans k13
            have h_48 : f_33 (bd 14) = some (.inl (cZ, 256, .inl (fun q9 => bI (Sl q9)))) := by rw [← ef_33]; exact (g_u_n (fun z => absurd (hIn 14 5 (by decide) (by decide) z) (by decide))).trans k14
            refine g_iload X d_MO_shows_89 0 rfl ?_
            exact g_zret X rfl (bI_nar _) (Or.inr ⟨i, k, hi, hk, rfl, rfl, rfl, ⟨h_34, h_35, h_36, h_37, h_38, h_39, h_40, h_41, h_42, h_43, h_44, h_45, h_46, h_47, h_48⟩, fun q hq => by rw [← ef_33]; exact (g_u_n (hq 5 (by decide))).trans ((g_u_n (hq 0 (by decide))))⟩) (Nat.le_of_ble_eq_true rfl) (Nat.le_of_ble_eq_true rfl) d_MO_shows_91
          · skip
            refine g_aload_n X d_MO_shows_69 1 rfl ?_
            refine g_get (ci := 5) (C := R_MO) (T := F_MO) (N := 20) (v := .ref (bd 5)) X i_MO rfl hM2 8 (by decide) q_605 (fun _ h9 => h9) rfl d_MO_shows_70 ?_
            refine g_iload_n X d_MO_shows_73 2 rfl ?_
            refine g_iald (t0 := 0) (v := nI (S i)) X k5 rfl (nI_ix ((by omega : i < 8)) (by decide)) (nI_cl (g := fun q9 => nI (S q9)) (Nat.lt_trans ((by omega : i < 8)) (by decide))) d_MO_shows_74 ?_
            refine g_goto X 88 d_MO_shows_75 (by decide) ?_
            refine g_eqi (y := nI (shw S i k b)) (by rw [← shx_eq, if_pos (bI_inj c66)]) ?_
            refine g_iast (t0 := 0) (g2 := fun q9 => nI (va_up S i (shw S i k b) q9)) X k5 rfl (nI_ix ((by omega : i < 8)) (by decide)) (upd_nI (g := S) (Nat.lt_trans ((by omega : i < 8)) (by decide))) d_MO_shows_88 ?_
            generalize ef_49 : g_u (m_th f bd 0 L nc n pz pm) (bd 5) (.inl (cI, 8, .inl (fun q9 => nI (va_up S i (shw S i k b) q9)))) = f_49
            have h_50 : f_49 (bd 0) = some (.inr (5, [.int 0, .int (nI L), .int (nI nc), .ref (bd 1), .ref (bd 2), .int (nI n), .ref (bd 3), .ref (bd 4), .ref (bd 5), .ref (bd 6), .ref (bd 7), .ref (bd 8), .ref (bd 9), .ref (bd 10), .ref (bd 11), .int (nI pz), .int (nI pm), .ref (bd 12), .ref (bd 13), .ref (bd 14)])) := by rw [← ef_49]; exact (g_u_n (tu_ne hM2 k5)).trans hM2
            have h_51 : f_49 (bd 1) = some (.inl (cI, 24, .inl pt)) := by rw [← ef_49]; exact (g_u_n (fun z => absurd (hIn 1 5 (by decide) (by decide) z) (by decide))).trans k1
            have h_52 : f_49 (bd 2) = some (.inl (cI, 24, .inl ot)) := by rw [← ef_49]; exact (g_u_n (fun z => absurd (hIn 2 5 (by decide) (by decide) z) (by decide))).trans k2
            have h_53 : f_49 (bd 3) = some (.inl (cI, 8, .inl (fun q9 => nI (P q9)))) := by rw [← ef_49]; exact (g_u_n (fun z => absurd (hIn 3 5 (by decide) (by decide) z) (by decide))).trans k3
            have h_54 : f_49 (bd 4) = some (.inl (cI, 8, .inl (fun q9 => nI (Du q9)))) := by rw [← ef_49]; exact (g_u_n (fun z => absurd (hIn 4 5 (by decide) (by decide) z) (by decide))).trans k4
            have h_55 : f_49 (bd 5) = some (.inl (cI, 8, .inl (fun q9 => nI (va_up S i (shw S i k b) q9)))) := by rw [← ef_49]; exact g_u_s
            have h_56 : f_49 (bd 6) = some (.inl (cI, 100, .inl (fun q9 => nI (Wy q9)))) := by rw [← ef_49]; exact (g_u_n (fun z => absurd (hIn 6 5 (by decide) (by decide) z) (by decide))).trans k6
            have h_57 : f_49 (bd 7) = some (.inl (cI, 75024, .inl (fun q9 => nI (tw q9)))) := by rw [← ef_49]; exact (g_u_n (fun z => absurd (hIn 7 5 (by decide) (by decide) z) (by decide))).trans k7
            have h_58 : f_49 (bd 8) = some (.inl (cI, 24, .inl (fun q9 => nI (ct q9)))) := by rw [← ef_49]; exact (g_u_n (fun z => absurd (hIn 8 5 (by decide) (by decide) z) (by decide))).trans k8
            have h_59 : f_49 (bd 9) = some (.inl (cI, 768, .inl (fun q9 => nI (PF q9)))) := by rw [← ef_49]; exact (g_u_n (fun z => absurd (hIn 9 5 (by decide) (by decide) z) (by decide))).trans k9
            have h_60 : f_49 (bd 10) = some (.inl (cI, 768, .inl (fun q9 => nI (DF q9)))) := by rw [← ef_49]; exact (g_u_n (fun z => absurd (hIn 10 5 (by decide) (by decide) z) (by decide))).trans k10
            have h_61 : f_49 (bd 11) = some (.inl (cZ, 768, .inl (fun q9 => bI (GF q9)))) := by rw [← ef_49]; exact (g_u_n (fun z => absurd (hIn 11 5 (by decide) (by decide) z) (by decide))).trans k11
            have h_62 : f_49 (bd 12) = some (.inl (cI, 8, .inl (fun q9 => nI (O q9)))) := by rw [← ef_49]; exact (g_u_n (fun z => absurd (hIn 12 5 (by decide) (by decide) z) (by decide))).trans k12
            have h_63 : f_49 (bd 13) = some (.inl (cI, 2048, .inl (fun q9 => nI (Le q9)))) := by rw [← ef_49]; exact (g_u_n (fun z => absurd (hIn 13 5 (by decide) (by decide) z) (by decide))).trans k13
            have h_64 : f_49 (bd 14) = some (.inl (cZ, 256, .inl (fun q9 => bI (Sl q9)))) := by rw [← ef_49]; exact (g_u_n (fun z => absurd (hIn 14 5 (by decide) (by decide) z) (by decide))).trans k14
            refine g_iload X d_MO_shows_89 0 rfl ?_
            exact g_zret X rfl (bI_nar _) (Or.inr ⟨i, k, hi, hk, rfl, rfl, rfl, ⟨h_50, h_51, h_52, h_53, h_54, h_55, h_56, h_57, h_58, h_59, h_60, h_61, h_62, h_63, h_64⟩, fun q hq => by rw [← ef_49]; exact (g_u_n (hq 5 (by decide))).trans ((g_u_n (hq 0 (by decide))))⟩) (Nat.le_of_ble_eq_true rfl) (Nat.le_of_ble_eq_true rfl) d_MO_shows_91
      · skip
        exact absurd c32 (by decide)
  refine g_aload_n X d_MO_shows_0 0 rfl ?_
  refine g_iload_n X d_MO_shows_1 1 rfl ?_
  refine g_iconst (v := 0) X d_MO_shows_2 (by decide) ?_
  refine g_aload_n X d_MO_shows_3 0 rfl ?_
  refine g_get (ci := 5) (C := R_MO) (T := F_MO) (N := 20) (v := .int (nI n)) X i_MO rfl hM 5 (by decide) q_602 (fun _ h9 => h9) rfl d_MO_shows_4 ?_
  refine g_iconst (v := 1) X d_MO_shows_7 (by decide) ?_
  refine g_isub X d_MO_shows_8 ?_
  refine g_callS (As := [.int x, .int 0, .int ((nI n) - 1)]) (rest := [.ref (bd 0)]) X (z_ok eA eM) (c_MO_in (f := f) (x := x) (a := 0) (b := nI n - 1)) v_MO_in q_667 q_666 rfl rfl (Nat.le_of_ble_eq_true rfl) d_MO_shows_9 ⟨(Nat.le_of_ble_eq_true rfl), (Nat.le_of_ble_eq_true rfl)⟩ ⟨(Nat.le_of_ble_eq_true rfl), (Nat.le_of_ble_eq_true rfl)⟩ (g_K.no (fun _ h => h)) (fun r_ f2_ hp => ?_)
  obtain ⟨rfl, hf_⟩ := hp
  subst f2_
  refine g_st (st2 := [.int (bI (decide (¬ x < 0 ∧ x ≤ (nI n - 1)))), .ref (bd 0)]) rfl ?_
  refine g_if_eq X 27 d_MO_shows_12 (by decide) (fun c12 => ?_) (fun c12 => ?_)
  · skip
    have hv12 : ¬ (inR x n) := fun z => of_decide_eq_false (bI_z.mp c12) ((inR_iff (n := n) (by omega)).mpr z)
    refine g_iconst (v := 0) X d_MO_shows_27 (by decide) ?_
    exact kj false ⟨fun z => Bool.noConfusion z, fun z => absurd z.1 hv12⟩
  · skip
    have hv12 : inR x n := (inR_iff (n := n) (by omega)).mp (of_decide_eq_true (bt_nf (fun z => c12 (bI_z.mpr z))))
    refine g_aload_n X d_MO_shows_15 0 rfl ?_
    refine g_iload_n X d_MO_shows_16 2 rfl ?_
    refine g_callV (ci := 5) (As := [.int y]) (rest := [.ref (bd 0)]) X (z_ok eA eM) rfl rfl hM (c_MO_isCase hR hB (x := y)) v_MO_isCase q_683 q_s20 q_681 rfl rfl (Nat.le_of_ble_eq_true rfl) d_MO_shows_17 ⟨(Nat.le_of_ble_eq_true rfl), (Nat.le_of_ble_eq_true rfl)⟩ ⟨(Nat.le_of_ble_eq_true rfl), (Nat.le_of_ble_eq_true rfl)⟩ (g_K.no (fun _ h => h)) (fun r_ f2_ hp => ?_)
    obtain ⟨⟨b20, hb20, rfl⟩, hf_⟩ := hp
    subst f2_
    refine g_st (st2 := [.int (bI b20), .ref (bd 0)]) rfl ?_
    refine g_if_eq X 27 d_MO_shows_20 (by decide) (fun c20 => ?_) (fun c20 => ?_)
    · skip
      have hv20 : ¬ (inR y nc) := fun z => by rw [bI_z.mp c20] at hb20; exact Bool.noConfusion (hb20.mpr z)
      refine g_iconst (v := 0) X d_MO_shows_27 (by decide) ?_
      exact kj false ⟨fun z => Bool.noConfusion z, fun z => absurd z.2 hv20⟩
    · skip
      have hv20 : inR y nc := hb20.mp (bt_nf (fun z => c20 (bI_z.mpr z)))
      refine g_iconst (v := 1) X d_MO_shows_23 (by decide) ?_
      refine g_goto X 28 d_MO_shows_24 (by decide) ?_
      exact kj true ⟨fun _ => ⟨hv12, hv20⟩, fun _ => rfl⟩
set_option maxHeartbeats 4000000 in
set_option maxRecDepth 100000 in
theorem c_MO_way {l : Launch} {D : va_G} {cI cZ cO cJ : ClassId} {eA eM : Nat} {f : g_F} {bd : Nat → Nat} {th : Int32} {L nc : Nat} {pt ot : Nat → Int32} {n : Nat} {P Du S Wy tw ct PF DF : Nat → Nat} {GF : Nat → Bool} {pz pm : Nat} {O Le : Nat → Nat} {Sl : Nat → Bool} (hR : mo_R cI cZ f bd th L nc pt ot n P Du S Wy tw ct PF DF GF pz pm O Le Sl) (hB : mo_B L nc n P Du S Wy tw ct PF DF pz pm O Le) (hIn : ∀ i j, i < 15 → j < 15 → bd i = bd j → i = j) {x y w : Int32} : g_C l y_MO_way b_MO_way 5 (some .int) { frames := 1, cells := 0, slots := 0, locals := 22 } D g_cl (g_tys cI cZ cO cJ) (z_Z eA eM) [.ref (bd 0), .int x, .int y, .int w] f (fun r f2 => (¬ (inR x 10 ∧ inR y 10 ∧ ¬ x = y ∧ inW w 0 10000) ∧ r = some (.int 0) ∧ f2 = (m_th f bd 1 L nc n pz pm)) ∨ (∃ i j s_, i < 10 ∧ j < 10 ∧ i ≠ j ∧ s_ ≤ 10000 ∧ x = nI i ∧ y = nI j ∧ w = nI s_ ∧ r = some (.int (nI (Wy (i * 10 + j)))) ∧ mo_R cI cZ f2 bd 0 L nc pt ot n P Du S (va_up (va_up Wy (i * 10 + j) s_) (j * 10 + i) s_) tw ct PF DF GF pz pm O Le Sl ∧ m_fr bd f f2)) (fun _ => False) := by
  refine g_ofW [(0, .ref (bd 0)), (1, .int x), (2, .int y), (3, .int w)] (by decide +kernel) (Nat.le_of_ble_eq_true rfl) rfl ?_
  intro p e s m args below meth c X ht hin
  obtain ⟨hM, h1, h2, h3, h4, h5, h6, h7, h8, h9, h10, h11, h12, h13, h14⟩ := id hR
  obtain ⟨⟨hL1, hL5⟩, hnc, hUB, htw, hct, hPF, hDF, ⟨hpz, hpm, hO8⟩, hLe⟩ := id hB
  obtain ⟨hn8, hP, hDu, hS, hWy⟩ := id hUB
  have kj : ∀ b_ : Bool, (b_ = true ↔ (inR x 10 ∧ inR y 10 ∧ ¬ x = y ∧ inW w 0 10000)) → g_W p l e { frames := 1, cells := 0, slots := 0, locals := 22 } s m args below meth c 5 D g_cl (g_A f s.heap.size) f 0 0 (g_End below D g_cl f (fun r f2 => (¬ (inR x 10 ∧ inR y 10 ∧ ¬ x = y ∧ inW w 0 10000) ∧ r = some (.int 0) ∧ f2 = (m_th f bd 1 L nc n pz pm)) ∨ (∃ i j s_, i < 10 ∧ j < 10 ∧ i ≠ j ∧ s_ ≤ 10000 ∧ x = nI i ∧ y = nI j ∧ w = nI s_ ∧ r = some (.int (nI (Wy (i * 10 + j)))) ∧ mo_R cI cZ f2 bd 0 L nc pt ot n P Du S (va_up (va_up Wy (i * 10 + j) s_) (j * 10 + i) s_) tw ct PF DF GF pz pm O Le Sl ∧ m_fr bd f f2)) (fun _ => False) args s { frames := 1, cells := 0, slots := 0, locals := 22 }) 42 [(0, .ref (bd 0)), (1, .int x), (2, .int y), (3, .int w)] [.int (bI b_), .ref (bd 0)] := by
    intro b_ hb_
    cases b_ with
    | false =>
      have hV : ¬ (inR x 10 ∧ inR y 10 ∧ ¬ x = y ∧ inW w 0 10000) := fun z => Bool.noConfusion (hb_.mpr z)
      refine g_iconst (v := 1) X d_MO_way_42 (by decide) ?_
      refine g_callV (ci := 5) (As := [.int (bI false), .int 1]) (rest := []) X (z_ok eA eM) rfl rfl hM (c_MO_goes hR hB (b1 := false) (b2 := true)) v_MO_goes q_671 q_s19 q_669 rfl rfl (Nat.le_of_ble_eq_true rfl) d_MO_way_43 ⟨(Nat.le_of_ble_eq_true rfl), (Nat.le_of_ble_eq_true rfl)⟩ ⟨(Nat.le_of_ble_eq_true rfl), (Nat.le_of_ble_eq_true rfl)⟩ (g_K.no (fun _ h => h)) (fun r_ f2_ hp => ?_)
      obtain ⟨rfl, hf9_⟩ := hp
      have hf_ : f2_ = (m_th f bd 1 L nc n pz pm) := hf9_
      clear hf9_
      subst f2_
      refine g_st (st2 := [.int 0]) rfl ?_
      have hR2 := mo_th hR 1
      obtain ⟨hM2, k1, k2, k3, k4, k5, k6, k7, k8, k9, k10, k11, k12, k13, k14⟩ := id hR2
      refine g_if_ne X 51 d_MO_way_46 (by decide) (fun c46 => ?_) (fun c46 => ?_)
      · skip
        exact absurd rfl c46
      · skip
        skip
        refine g_iconst (v := 0) X d_MO_way_49 (by decide) ?_
        exact g_iret X rfl (Or.inl ⟨hV, rfl, rfl⟩) (Nat.le_of_ble_eq_true rfl) (Nat.le_of_ble_eq_true rfl) d_MO_way_50
    | true =>
      have hV := hb_.mp rfl
      obtain ⟨⟨i, hi, rfl⟩, ⟨j, hj, rfl⟩, hne, ⟨s_, _, hs_2, rfl⟩⟩ := hV
      have hij : i ≠ j := fun z => hne (by rw [z])
      refine g_iconst (v := 1) X d_MO_way_42 (by decide) ?_
      refine g_callV (ci := 5) (As := [.int (bI true), .int 1]) (rest := []) X (z_ok eA eM) rfl rfl hM (c_MO_goes hR hB (b1 := true) (b2 := true)) v_MO_goes q_671 q_s19 q_669 rfl rfl (Nat.le_of_ble_eq_true rfl) d_MO_way_43 ⟨(Nat.le_of_ble_eq_true rfl), (Nat.le_of_ble_eq_true rfl)⟩ ⟨(Nat.le_of_ble_eq_true rfl), (Nat.le_of_ble_eq_true rfl)⟩ (g_K.no (fun _ h => h)) (fun r_ f2_ hp => ?_)
      obtain ⟨rfl, hf9_⟩ := hp
      have hf_ : f2_ = (m_th f bd 0 L nc n pz pm) := hf9_
      clear hf9_
      subst f2_
      refine g_st (st2 := [.int 1]) rfl ?_
      have hR2 := mo_th hR 0
      obtain ⟨hM2, k1, k2, k3, k4, k5, k6, k7, k8, k9, k10, k11, k12, k13, k14⟩ := id hR2
      refine g_if_ne X 51 d_MO_way_46 (by decide) (fun c46 => ?_) (fun c46 => ?_)
      · skip
        skip
        refine g_aload_n X d_MO_way_51 0 rfl ?_
        refine g_get (ci := 5) (C := R_MO) (T := F_MO) (N := 20) (v := .ref (bd 6)) X i_MO rfl hM2 9 (by decide) q_606 (fun _ h9 => h9) rfl d_MO_way_52 ?_
        refine g_bipush (v := 10) X d_MO_way_55 (by decide) ?_
        refine g_iload_n X d_MO_way_57 1 rfl ?_
        refine g_imul X d_MO_way_58 ?_
        refine g_eqi (y := nI (i * 10)) ((nI_mul 10 i).trans (by rw [Nat.mul_comm])) ?_
        refine g_iload_n X d_MO_way_59 2 rfl ?_
        refine g_iadd X d_MO_way_60 ?_
        refine g_eqi (y := nI (i * 10 + j)) (nI_add _ _) ?_
        refine g_iald (t0 := 0) (v := nI (Wy (i * 10 + j))) X k6 rfl (nI_ix ((by omega : i * 10 + j < 100)) (by decide)) (nI_cl (g := fun q9 => nI (Wy q9)) (Nat.lt_trans ((by omega : i * 10 + j < 100)) (by decide))) d_MO_way_61 ?_
        refine g_istore (lv' := [(4, .int (nI (Wy (i * 10 + j)))), (0, .ref (bd 0)), (1, .int (nI i)), (2, .int (nI j)), (3, .int (nI s_))]) X d_MO_way_62 (by decide) rfl ?_
        refine g_aload_n X d_MO_way_64 1 rfl ?_
        refine g_get (ci := 5) (C := R_MO) (T := F_MO) (N := 20) (v := .ref (bd 6)) X i_MO rfl hM2 9 (by decide) q_606 (fun _ h9 => h9) rfl d_MO_way_65 ?_
        refine g_bipush (v := 10) X d_MO_way_68 (by decide) ?_
        refine g_iload_n X d_MO_way_70 2 rfl ?_
        refine g_imul X d_MO_way_71 ?_
        refine g_eqi (y := nI (i * 10)) ((nI_mul 10 i).trans (by rw [Nat.mul_comm])) ?_
        refine g_iload_n X d_MO_way_72 3 rfl ?_
        refine g_iadd X d_MO_way_73 ?_
        refine g_eqi (y := nI (i * 10 + j)) (nI_add _ _) ?_
        refine g_iload_n X d_MO_way_74 4 rfl ?_
        refine g_iast (t0 := 0) (g2 := fun q9 => nI (va_up Wy (i * 10 + j) s_ q9)) X k6 rfl (nI_ix ((by omega : i * 10 + j < 100)) (by decide)) (upd_nI (g := Wy) (Nat.lt_trans ((by omega : i * 10 + j < 100)) (by decide))) d_MO_way_75 ?_
        generalize ef_1 : g_u (m_th f bd 0 L nc n pz pm) (bd 6) (.inl (cI, 100, .inl (fun q9 => nI (va_up Wy (i * 10 + j) s_ q9)))) = f_1
        have h_2 : f_1 (bd 0) = some (.inr (5, [.int 0, .int (nI L), .int (nI nc), .ref (bd 1), .ref (bd 2), .int (nI n), .ref (bd 3), .ref (bd 4), .ref (bd 5), .ref (bd 6), .ref (bd 7), .ref (bd 8), .ref (bd 9), .ref (bd 10), .ref (bd 11), .int (nI pz), .int (nI pm), .ref (bd 12), .ref (bd 13), .ref (bd 14)])) := by rw [← ef_1]; exact (g_u_n (tu_ne hM2 k6)).trans hM2
        have h_3 : f_1 (bd 1) = some (.inl (cI, 24, .inl pt)) := by rw [← ef_1]; exact (g_u_n (fun z => absurd (hIn 1 6 (by decide) (by decide) z) (by decide))).trans k1
        have h_4 : f_1 (bd 2) = some (.inl (cI, 24, .inl ot)) := by rw [← ef_1]; exact (g_u_n (fun z => absurd (hIn 2 6 (by decide) (by decide) z) (by decide))).trans k2
        have h_5 : f_1 (bd 3) = some (.inl (cI, 8, .inl (fun q9 => nI (P q9)))) := by rw [← ef_1]; exact (g_u_n (fun z => absurd (hIn 3 6 (by decide) (by decide) z) (by decide))).trans k3
        have h_6 : f_1 (bd 4) = some (.inl (cI, 8, .inl (fun q9 => nI (Du q9)))) := by rw [← ef_1]; exact (g_u_n (fun z => absurd (hIn 4 6 (by decide) (by decide) z) (by decide))).trans k4
        have h_7 : f_1 (bd 5) = some (.inl (cI, 8, .inl (fun q9 => nI (S q9)))) := by rw [← ef_1]; exact (g_u_n (fun z => absurd (hIn 5 6 (by decide) (by decide) z) (by decide))).trans k5
        have h_8 : f_1 (bd 6) = some (.inl (cI, 100, .inl (fun q9 => nI (va_up Wy (i * 10 + j) s_ q9)))) := by rw [← ef_1]; exact g_u_s
        have h_9 : f_1 (bd 7) = some (.inl (cI, 75024, .inl (fun q9 => nI (tw q9)))) := by rw [← ef_1]; exact (g_u_n (fun z => absurd (hIn 7 6 (by decide) (by decide) z) (by decide))).trans k7
        have h_10 : f_1 (bd 8) = some (.inl (cI, 24, .inl (fun q9 => nI (ct q9)))) := by rw [← ef_1]; exact (g_u_n (fun z => absurd (hIn 8 6 (by decide) (by decide) z) (by decide))).trans k8
        have h_11 : f_1 (bd 9) = some (.inl (cI, 768, .inl (fun q9 => nI (PF q9)))) := by rw [← ef_1]; exact (g_u_n (fun z => absurd (hIn 9 6 (by decide) (by decide) z) (by decide))).trans k9
        have h_12 : f_1 (bd 10) = some (.inl (cI, 768, .inl (fun q9 => nI (DF q9)))) := by rw [← ef_1]; exact (g_u_n (fun z => absurd (hIn 10 6 (by decide) (by decide) z) (by decide))).trans k10
        have h_13 : f_1 (bd 11) = some (.inl (cZ, 768, .inl (fun q9 => bI (GF q9)))) := by rw [← ef_1]; exact (g_u_n (fun z => absurd (hIn 11 6 (by decide) (by decide) z) (by decide))).trans k11
        have h_14 : f_1 (bd 12) = some (.inl (cI, 8, .inl (fun q9 => nI (O q9)))) := by rw [← ef_1]; exact (g_u_n (fun z => absurd (hIn 12 6 (by decide) (by decide) z) (by decide))).trans k12
        have h_15 : f_1 (bd 13) = some (.inl (cI, 2048, .inl (fun q9 => nI (Le q9)))) := by rw [← ef_1]; exact (g_u_n (fun z => absurd (hIn 13 6 (by decide) (by decide) z) (by decide))).trans k13
        have h_16 : f_1 (bd 14) = some (.inl (cZ, 256, .inl (fun q9 => bI (Sl q9)))) := by rw [← ef_1]; exact (g_u_n (fun z => absurd (hIn 14 6 (by decide) (by decide) z) (by decide))).trans k14
        refine g_aload_n X d_MO_way_76 1 rfl ?_
        refine g_get (ci := 5) (C := R_MO) (T := F_MO) (N := 20) (v := .ref (bd 6)) X i_MO rfl h_2 9 (by decide) q_606 (fun _ h9 => h9) rfl d_MO_way_77 ?_
        refine g_bipush (v := 10) X d_MO_way_80 (by decide) ?_
        refine g_iload_n X d_MO_way_82 3 rfl ?_
        refine g_imul X d_MO_way_83 ?_
        refine g_eqi (y := nI (j * 10)) ((nI_mul 10 j).trans (by rw [Nat.mul_comm])) ?_
        refine g_iload_n X d_MO_way_84 2 rfl ?_
        refine g_iadd X d_MO_way_85 ?_
        refine g_eqi (y := nI (j * 10 + i)) (nI_add _ _) ?_
        refine g_iload_n X d_MO_way_86 4 rfl ?_
        refine g_iast (t0 := 0) (g2 := fun q9 => nI (va_up (va_up Wy (i * 10 + j) s_) (j * 10 + i) s_ q9)) X h_8 rfl (nI_ix ((by omega : j * 10 + i < 100)) (by decide)) (upd_nI (g := (va_up Wy (i * 10 + j) s_)) (Nat.lt_trans ((by omega : j * 10 + i < 100)) (by decide))) d_MO_way_87 ?_
        generalize ef_17 : g_u f_1 (bd 6) (.inl (cI, 100, .inl (fun q9 => nI (va_up (va_up Wy (i * 10 + j) s_) (j * 10 + i) s_ q9)))) = f_17
        have h_18 : f_17 (bd 0) = some (.inr (5, [.int 0, .int (nI L), .int (nI nc), .ref (bd 1), .ref (bd 2), .int (nI n), .ref (bd 3), .ref (bd 4), .ref (bd 5), .ref (bd 6), .ref (bd 7), .ref (bd 8), .ref (bd 9), .ref (bd 10), .ref (bd 11), .int (nI pz), .int (nI pm), .ref (bd 12), .ref (bd 13), .ref (bd 14)])) := by rw [← ef_17]; exact (g_u_n (tu_ne h_2 h_8)).trans h_2
        have h_19 : f_17 (bd 1) = some (.inl (cI, 24, .inl pt)) := by rw [← ef_17]; exact (g_u_n (fun z => absurd (hIn 1 6 (by decide) (by decide) z) (by decide))).trans h_3
        have h_20 : f_17 (bd 2) = some (.inl (cI, 24, .inl ot)) := by rw [← ef_17]; exact (g_u_n (fun z => absurd (hIn 2 6 (by decide) (by decide) z) (by decide))).trans h_4
        have h_21 : f_17 (bd 3) = some (.inl (cI, 8, .inl (fun q9 => nI (P q9)))) := by rw [← ef_17]; exact (g_u_n (fun z => absurd (hIn 3 6 (by decide) (by decide) z) (by decide))).trans h_5
        have h_22 : f_17 (bd 4) = some (.inl (cI, 8, .inl (fun q9 => nI (Du q9)))) := by rw [← ef_17]; exact (g_u_n (fun z => absurd (hIn 4 6 (by decide) (by decide) z) (by decide))).trans h_6
        have h_23 : f_17 (bd 5) = some (.inl (cI, 8, .inl (fun q9 => nI (S q9)))) := by rw [← ef_17]; exact (g_u_n (fun z => absurd (hIn 5 6 (by decide) (by decide) z) (by decide))).trans h_7
        have h_24 : f_17 (bd 6) = some (.inl (cI, 100, .inl (fun q9 => nI (va_up (va_up Wy (i * 10 + j) s_) (j * 10 + i) s_ q9)))) := by rw [← ef_17]; exact g_u_s
        have h_25 : f_17 (bd 7) = some (.inl (cI, 75024, .inl (fun q9 => nI (tw q9)))) := by rw [← ef_17]; exact (g_u_n (fun z => absurd (hIn 7 6 (by decide) (by decide) z) (by decide))).trans h_9
        have h_26 : f_17 (bd 8) = some (.inl (cI, 24, .inl (fun q9 => nI (ct q9)))) := by rw [← ef_17]; exact (g_u_n (fun z => absurd (hIn 8 6 (by decide) (by decide) z) (by decide))).trans h_10
        have h_27 : f_17 (bd 9) = some (.inl (cI, 768, .inl (fun q9 => nI (PF q9)))) := by rw [← ef_17]; exact (g_u_n (fun z => absurd (hIn 9 6 (by decide) (by decide) z) (by decide))).trans h_11
        have h_28 : f_17 (bd 10) = some (.inl (cI, 768, .inl (fun q9 => nI (DF q9)))) := by rw [← ef_17]; exact (g_u_n (fun z => absurd (hIn 10 6 (by decide) (by decide) z) (by decide))).trans h_12
        have h_29 : f_17 (bd 11) = some (.inl (cZ, 768, .inl (fun q9 => bI (GF q9)))) := by rw [← ef_17]; exact (g_u_n (fun z => absurd (hIn 11 6 (by decide) (by decide) z) (by decide))).trans h_13
        have h_30 : f_17 (bd 12) = some (.inl (cI, 8, .inl (fun q9 => nI (O q9)))) := by rw [← ef_17]; exact (g_u_n (fun z => absurd (hIn 12 6 (by decide) (by decide) z) (by decide))).trans h_14
        have h_31 : f_17 (bd 13) = some (.inl (cI, 2048, .inl (fun q9 => nI (Le q9)))) := by rw [← ef_17]; exact (g_u_n (fun z => absurd (hIn 13 6 (by decide) (by decide) z) (by decide))).trans h_15
        have h_32 : f_17 (bd 14) = some (.inl (cZ, 256, .inl (fun q9 => bI (Sl q9)))) := by rw [← ef_17]; exact (g_u_n (fun z => absurd (hIn 14 6 (by decide) (by decide) z) (by decide))).trans h_16
        refine g_iload X d_MO_way_88 0 rfl ?_
        exact g_iret X rfl (Or.inr ⟨i, j, s_, hi, hj, hij, hs_2, rfl, rfl, rfl, rfl, ⟨h_18, h_19, h_20, h_21, h_22, h_23, h_24, h_25, h_26, h_27, h_28, h_29, h_30, h_31, h_32⟩, fun q hq => by rw [← ef_17, ← ef_1]; exact (g_u_n (hq 6 (by decide))).trans ((g_u_n (hq 6 (by decide))).trans ((g_u_n (hq 0 (by decide)))))⟩) (Nat.le_of_ble_eq_true rfl) (Nat.le_of_ble_eq_true rfl) d_MO_way_90
      · skip
        exact absurd c46 (by decide)
  refine g_aload_n X d_MO_way_0 0 rfl ?_
  refine g_iload_n X d_MO_way_1 1 rfl ?_
  refine g_iconst (v := 0) X d_MO_way_2 (by decide) ?_
  refine g_bipush (v := 9) X d_MO_way_3 (by decide) ?_
  refine g_callS (As := [.int x, .int 0, .int 9]) (rest := [.ref (bd 0)]) X (z_ok eA eM) (c_MO_in (f := f) (x := x) (a := 0) (b := 9)) v_MO_in q_667 q_666 rfl rfl (Nat.le_of_ble_eq_true rfl) d_MO_way_5 ⟨(Nat.le_of_ble_eq_true rfl), (Nat.le_of_ble_eq_true rfl)⟩ ⟨(Nat.le_of_ble_eq_true rfl), (Nat.le_of_ble_eq_true rfl)⟩ (g_K.no (fun _ h => h)) (fun r_ f2_ hp => ?_)
  obtain ⟨rfl, hf_⟩ := hp
  subst f2_
  refine g_st (st2 := [.int (bI (decide (¬ x < 0 ∧ x ≤ 9))), .ref (bd 0)]) rfl ?_
  refine g_if_eq X 41 d_MO_way_8 (by decide) (fun c8 => ?_) (fun c8 => ?_)
  · skip
    have hv8 : ¬ (inR x 10) := fun z => of_decide_eq_false (bI_z.mp c8) ((inR_iff (n := 10) (by decide)).mpr z)
    refine g_iconst (v := 0) X d_MO_way_41 (by decide) ?_
    exact kj false ⟨fun z => Bool.noConfusion z, fun z => absurd z.1 hv8⟩
  · skip
    have hv8 : inR x 10 := (inR_iff (n := 10) (by decide)).mp (of_decide_eq_true (bt_nf (fun z => c8 (bI_z.mpr z))))
    refine g_iload_n X d_MO_way_11 2 rfl ?_
    refine g_iconst (v := 0) X d_MO_way_12 (by decide) ?_
    refine g_bipush (v := 9) X d_MO_way_13 (by decide) ?_
    refine g_callS (As := [.int y, .int 0, .int 9]) (rest := [.ref (bd 0)]) X (z_ok eA eM) (c_MO_in (f := f) (x := y) (a := 0) (b := 9)) v_MO_in q_667 q_666 rfl rfl (Nat.le_of_ble_eq_true rfl) d_MO_way_15 ⟨(Nat.le_of_ble_eq_true rfl), (Nat.le_of_ble_eq_true rfl)⟩ ⟨(Nat.le_of_ble_eq_true rfl), (Nat.le_of_ble_eq_true rfl)⟩ (g_K.no (fun _ h => h)) (fun r_ f2_ hp => ?_)
    obtain ⟨rfl, hf_⟩ := hp
    subst f2_
    refine g_st (st2 := [.int (bI (decide (¬ y < 0 ∧ y ≤ 9))), .ref (bd 0)]) rfl ?_
    refine g_if_eq X 41 d_MO_way_18 (by decide) (fun c18 => ?_) (fun c18 => ?_)
    · skip
      have hv18 : ¬ (inR y 10) := fun z => of_decide_eq_false (bI_z.mp c18) ((inR_iff (n := 10) (by decide)).mpr z)
      refine g_iconst (v := 0) X d_MO_way_41 (by decide) ?_
      exact kj false ⟨fun z => Bool.noConfusion z, fun z => absurd z.2.1 hv18⟩
    · skip
      have hv18 : inR y 10 := (inR_iff (n := 10) (by decide)).mp (of_decide_eq_true (bt_nf (fun z => c18 (bI_z.mpr z))))
      refine g_iload_n X d_MO_way_21 1 rfl ?_
      refine g_iload_n X d_MO_way_22 2 rfl ?_
      refine g_icmp_eq X 41 d_MO_way_23 (by decide) (fun c23 => ?_) (fun c23 => ?_)
      · skip
        have hv23 : ¬ (¬ x = y) := fun z => z c23
        refine g_iconst (v := 0) X d_MO_way_41 (by decide) ?_
        exact kj false ⟨fun z => Bool.noConfusion z, fun z => absurd z.2.2.1 hv23⟩
      · skip
        have hv23 : ¬ x = y := c23
        refine g_iload_n X d_MO_way_26 3 rfl ?_
        refine g_iconst (v := 0) X d_MO_way_27 (by decide) ?_
        refine g_sipush (v := 10000) X d_MO_way_28 (by decide) ?_
        refine g_callS (As := [.int w, .int 0, .int 10000]) (rest := [.ref (bd 0)]) X (z_ok eA eM) (c_MO_in (f := f) (x := w) (a := 0) (b := 10000)) v_MO_in q_667 q_666 rfl rfl (Nat.le_of_ble_eq_true rfl) d_MO_way_31 ⟨(Nat.le_of_ble_eq_true rfl), (Nat.le_of_ble_eq_true rfl)⟩ ⟨(Nat.le_of_ble_eq_true rfl), (Nat.le_of_ble_eq_true rfl)⟩ (g_K.no (fun _ h => h)) (fun r_ f2_ hp => ?_)
        obtain ⟨rfl, hf_⟩ := hp
        subst f2_
        refine g_st (st2 := [.int (bI (decide (¬ w < 0 ∧ w ≤ 10000))), .ref (bd 0)]) rfl ?_
        refine g_if_eq X 41 d_MO_way_34 (by decide) (fun c34 => ?_) (fun c34 => ?_)
        · skip
          have hv34 : ¬ (inW w 0 10000) := fun z => of_decide_eq_false (bI_z.mp c34) ((inW_iff (lo := 0) (hi := 10000) (by decide) (by decide)).mpr z)
          refine g_iconst (v := 0) X d_MO_way_41 (by decide) ?_
          exact kj false ⟨fun z => Bool.noConfusion z, fun z => absurd z.2.2.2 hv34⟩
        · skip
          have hv34 : inW w 0 10000 := (inW_iff (lo := 0) (hi := 10000) (by decide) (by decide)).mp (of_decide_eq_true (bt_nf (fun z => c34 (bI_z.mpr z))))
          refine g_iconst (v := 1) X d_MO_way_37 (by decide) ?_
          refine g_goto X 42 d_MO_way_38 (by decide) ?_
          exact kj true ⟨fun _ => ⟨hv8, hv18, hv23, hv34⟩, fun _ => rfl⟩
