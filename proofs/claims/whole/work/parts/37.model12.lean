theorem mo_pz {cI cZ : ClassId} {f : g_F} {bd : Nat → Nat} {th : Int32} {L nc : Nat} {pt ot : Nat → Int32} {n : Nat} {P Du S Wy tw ct PF DF : Nat → Nat} {GF : Nat → Bool} {pz pm : Nat} {O Le : Nat → Nat} {Sl : Nat → Bool} (hR : mo_R cI cZ f bd th L nc pt ot n P Du S Wy tw ct PF DF GF pz pm O Le Sl) (v : Int32) (pz2 pm2 : Nat) : mo_R cI cZ (m_th f bd v L nc n pz2 pm2) bd v L nc pt ot n P Du S Wy tw ct PF DF GF pz2 pm2 O Le Sl := by
  obtain ⟨hM, h1, h2, h3, h4, h5, h6, h7, h8, h9, h10, h11, h12, h13, h14⟩ := hR
  exact ⟨g_u_s, (g_u_n (Ne.symm (tu_ne hM h1))).trans h1, (g_u_n (Ne.symm (tu_ne hM h2))).trans h2, (g_u_n (Ne.symm (tu_ne hM h3))).trans h3, (g_u_n (Ne.symm (tu_ne hM h4))).trans h4, (g_u_n (Ne.symm (tu_ne hM h5))).trans h5, (g_u_n (Ne.symm (tu_ne hM h6))).trans h6, (g_u_n (Ne.symm (tu_ne hM h7))).trans h7, (g_u_n (Ne.symm (tu_ne hM h8))).trans h8, (g_u_n (Ne.symm (tu_ne hM h9))).trans h9, (g_u_n (Ne.symm (tu_ne hM h10))).trans h10, (g_u_n (Ne.symm (tu_ne hM h11))).trans h11, (g_u_n (Ne.symm (tu_ne hM h12))).trans h12, (g_u_n (Ne.symm (tu_ne hM h13))).trans h13, (g_u_n (Ne.symm (tu_ne hM h14))).trans h14⟩
theorem orS_full {S : Nat → Nat} {n : Nat} : ∀ i, i ≤ n → orS S (2 ^ n - 1) i = orA S i
  | 0, _ => rfl
  | i + 1, h => by
    unfold orS orA
    rw [if_pos (by rw [Nat.testBit_two_pow_sub_one]; exact decide_eq_true (by omega)), orS_full i (by omega)]
theorem cov_full {S : Nat → Nat} {n B : Nat} : cov S n (B &&& orA S n) (2 ^ n - 1) = true := by
  unfold cov
  rw [orS_full n (Nat.le_refl _)]
  exact decide_eq_true (by rw [Nat.and_assoc, Nat.and_self])
theorem tmv_le (S Le : Nat → Nat) (n W i : Nat) : tmv S Le n W i ≤ 1000000000 := by
  unfold tmv
  split
  · exact lof_le _ _ _
  · exact Nat.le_refl _
set_option maxHeartbeats 4000000 in
set_option maxRecDepth 100000 in
theorem L_MO_planW {p : Program} {l : Launch} {e : Env} {s : State} {m : MethodId} {args : Array Value} {below : List Frame} {meth : Method} {c : Code} {Q : State → Prop} {A : Nat → Prop} {D : va_G} {cI cZ cO cJ : ClassId} {eA eM : Nat} {f : g_F} {bd : Nat → Nat} {th : Int32} {L nc : Nat} {pt ot : Nat → Int32} {n : Nat} {P Du S Wy tw ct PF DF : Nat → Nat} {GF : Nat → Bool} {pz pm : Nat} {O Le : Nat → Nat} {Sl : Nat → Bool} (hR : mo_R cI cZ f bd th L nc pt ot n P Du S Wy tw ct PF DF GF pz pm O Le Sl) (hB : mo_B L nc n P Du S Wy tw ct PF DF pz pm O Le) {dd : Nat} (hdd : dd < 2 ^ 30) (X : g_X p s m args meth c b_MO_plan 7 (some .int) g_T y_MO_plan.cls D g_cl (g_tys cI cZ cO cJ) A (z_Z eA eM)) (kk : g_W p l e { frames := 3, cells := 0, slots := 0, locals := 72 } s m args below meth c 7 D g_cl A f 0 0 Q 56 [(2, .int (nI (bset (fun k => decide (mst L tw ct PF DF GF k dd ≠ 3)) nc))), (0, .ref (bd 0)), (1, .int (nI dd))] []) : ∀ (d : Nat) (i : Nat), (i + d = nc) → g_W p l e { frames := 3, cells := 0, slots := 0, locals := 72 } s m args below meth c 7 D g_cl A f 0 0 Q 22 [(3, .int (nI i)), (2, .int (nI (bset (fun k => decide (mst L tw ct PF DF GF k dd ≠ 3)) i))), (0, .ref (bd 0)), (1, .int (nI dd))] [] := by
  obtain ⟨hM, h1, h2, h3, h4, h5, h6, h7, h8, h9, h10, h11, h12, h13, h14⟩ := id hR
  obtain ⟨⟨hL1, hL5⟩, hnc, hUB, htw, hct, hPF, hDF, ⟨hpz, hpm, hO8⟩, hLe⟩ := id hB
  obtain ⟨hn8, hP, hDu, hS, hWy⟩ := id hUB
  intro d
  induction d using Nat.strongRecOn with
  | _ d ih =>
    intro i hi
    refine g_iload_n X d_MO_plan_22 0 rfl ?_
    refine g_aload_n X d_MO_plan_23 2 rfl ?_
    refine g_get (ci := 5) (C := R_MO) (T := F_MO) (N := 20) (v := .int (nI nc)) X i_MO rfl hM 2 (by decide) q_599 (fun _ h9 => h9) rfl d_MO_plan_24 ?_
    refine g_icmp_ge X 56 d_MO_plan_27 (by decide) (fun c27 => ?_) (fun c27 => ?_)
    · skip
      have e : i = nc := by have := (nI_leI (by omega) (by omega)).mp c27; omega
      subst e
      exact g_lv [1, 2, 3] rfl kk
    · skip
      have hlt : i < nc := Nat.lt_of_not_le (fun z => c27 ((nI_leI (by omega) (by omega)).mpr z))
      refine g_aload_n X d_MO_plan_30 2 rfl ?_
      refine g_iload_n X d_MO_plan_31 0 rfl ?_
      refine g_iload_n X d_MO_plan_32 3 rfl ?_
      refine g_callV (ci := 5) (As := [.int (nI i), .int (nI dd)]) (rest := []) X (z_ok eA eM) rfl rfl hM (c_MO_stateOf hR hB (k := i) (dd := dd) (by omega) hdd) v_MO_stateOf q_707 q_s21 q_705 rfl rfl (Nat.le_of_ble_eq_true rfl) d_MO_plan_33 ⟨(Nat.le_of_ble_eq_true rfl), (Nat.le_of_ble_eq_true rfl)⟩ ⟨(Nat.le_of_ble_eq_true rfl), (Nat.le_of_ble_eq_true rfl)⟩ (g_K.no (fun _ h => h)) (fun r_ f2_ hp => ?_)
      obtain ⟨rfl, hf_⟩ := hp
      subst f2_
      refine g_st (st2 := [.int (nI (mst L tw ct PF DF GF i dd))]) rfl ?_
      refine g_iconst (v := 3) X d_MO_plan_36 (by decide) ?_
      refine g_icmp_eq X 48 d_MO_plan_37 (by decide) (fun c37 => ?_) (fun c37 => ?_)
      · skip
        refine g_iload_n X d_MO_plan_48 1 rfl ?_
        refine g_eqi (y := nI (bset (fun k => decide (mst L tw ct PF DF GF k dd ≠ 3)) (i + 1))) (by rw [show bset (fun k => decide (mst L tw ct PF DF GF k dd ≠ 3)) (i + 1) = bset (fun k => decide (mst L tw ct PF DF GF k dd ≠ 3)) i from if_neg (fun z => of_decide_eq_true (p := mst L tw ct PF DF GF i dd ≠ 3) z ((nI_eq (b := 3) (Nat.lt_trans (mst_lt _ _ _ _ _ _ _ _) (by decide)) (by decide)).mp c37))]) ?_
        refine g_istore_n (lv' := [(2, .int (nI (bset (fun k => decide (mst L tw ct PF DF GF k dd ≠ 3)) (i + 1)))), (3, .int (nI i)), (0, .ref (bd 0)), (1, .int (nI dd))]) X d_MO_plan_49 rfl (by decide) rfl ?_
        refine g_iinc (lv' := [(3, .int (nI (i + 1))), (2, .int (nI (bset (fun k => decide (mst L tw ct PF DF GF k dd ≠ 3)) (i + 1)))), (0, .ref (bd 0)), (1, .int (nI dd))]) X d_MO_plan_50 1 rfl (nI_1 i) (by decide) rfl ?_
        refine g_goto X 22 d_MO_plan_53 (by decide) ?_
        exact g_lv [0, 1, 2, 3] rfl (ih (d - 1) (by omega) (i + 1) (by omega))
      · skip
        refine g_iload_n X d_MO_plan_40 1 rfl ?_
        refine g_iconst (v := 1) X d_MO_plan_41 (by decide) ?_
        refine g_iload_n X d_MO_plan_42 0 rfl ?_
        refine g_ishl X d_MO_plan_43 ?_
        refine g_eqi (y := nI (2 ^ i)) (nI_bit (by omega)) ?_
        refine g_ior X d_MO_plan_44 ?_
        refine g_eqi (y := nI (bset (fun k => decide (mst L tw ct PF DF GF k dd ≠ 3)) i ||| 2 ^ i)) (nI_or _ _) ?_
        refine g_goto X 49 d_MO_plan_45 (by decide) ?_
        refine g_eqi (y := nI (bset (fun k => decide (mst L tw ct PF DF GF k dd ≠ 3)) (i + 1))) (by rw [show bset (fun k => decide (mst L tw ct PF DF GF k dd ≠ 3)) (i + 1) = bset (fun k => decide (mst L tw ct PF DF GF k dd ≠ 3)) i ||| 2 ^ i from if_pos (decide_eq_true (p := mst L tw ct PF DF GF i dd ≠ 3) (fun z => c37 (by rw [z]; rfl)))]) ?_
        refine g_istore_n (lv' := [(2, .int (nI (bset (fun k => decide (mst L tw ct PF DF GF k dd ≠ 3)) (i + 1)))), (3, .int (nI i)), (0, .ref (bd 0)), (1, .int (nI dd))]) X d_MO_plan_49 rfl (by decide) rfl ?_
        refine g_iinc (lv' := [(3, .int (nI (i + 1))), (2, .int (nI (bset (fun k => decide (mst L tw ct PF DF GF k dd ≠ 3)) (i + 1)))), (0, .ref (bd 0)), (1, .int (nI dd))]) X d_MO_plan_50 1 rfl (nI_1 i) (by decide) rfl ?_
        refine g_goto X 22 d_MO_plan_53 (by decide) ?_
        exact g_lv [0, 1, 2, 3] rfl (ih (d - 1) (by omega) (i + 1) (by omega))
set_option maxHeartbeats 4000000 in
set_option maxRecDepth 100000 in
theorem L_MO_planT {p : Program} {l : Launch} {e : Env} {s : State} {m : MethodId} {args : Array Value} {below : List Frame} {meth : Method} {c : Code} {Q : State → Prop} {A : Nat → Prop} {D : va_G} {cI cZ cO cJ : ClassId} {eA eM : Nat} {f : g_F} {bd : Nat → Nat} {th : Int32} {L nc : Nat} {pt ot : Nat → Int32} {n : Nat} {P Du S Wy tw ct PF DF : Nat → Nat} {GF : Nat → Bool} {pz pm : Nat} {O Le : Nat → Nat} {Sl : Nat → Bool} (hR : mo_R cI cZ f bd th L nc pt ot n P Du S Wy tw ct PF DF GF pz pm O Le Sl) (hB : mo_B L nc n P Du S Wy tw ct PF DF pz pm O Le) {W : Nat} (hW : W < 2 ^ 31) (X : g_X p s m args meth c b_MO_plan 7 (some .int) g_T y_MO_plan.cls D g_cl (g_tys cI cZ cO cJ) A (z_Z eA eM)) (kk : g_W p l e { frames := 3, cells := 0, slots := 0, locals := 72 } s m args below meth c 7 D g_cl A (m_th f bd 0 L nc n (tsz S Le n W (2 ^ n)).2 (tsz S Le n W (2 ^ n)).1) 0 0 Q 209 [(2, .int (nI W)), (0, .ref (bd 0))] []) : ∀ (d : Nat) (i : Nat), (i + d = 2 ^ n) → g_W p l e { frames := 3, cells := 0, slots := 0, locals := 72 } s m args below meth c 7 D g_cl A (m_th f bd 0 L nc n (tsz S Le n W i).2 (tsz S Le n W i).1) 0 0 Q 77 [(3, .int (nI i)), (2, .int (nI W)), (0, .ref (bd 0))] [] := by
  obtain ⟨hM, h1, h2, h3, h4, h5, h6, h7, h8, h9, h10, h11, h12, h13, h14⟩ := id hR
  obtain ⟨⟨hL1, hL5⟩, hnc, hUB, htw, hct, hPF, hDF, ⟨hpz, hpm, hO8⟩, hLe⟩ := id hB
  obtain ⟨hn8, hP, hDu, hS, hWy⟩ := id hUB
  have hp2 : 2 ^ n ≤ 256 := Nat.le_trans (Nat.pow_le_pow_right (by decide) hn8) (by decide)
  intro d
  induction d using Nat.strongRecOn with
  | _ d ih =>
    intro i hi
    have hti := tsz_le S Le n W i
    have hRi := mo_pz hR 0 (tsz S Le n W i).2 (tsz S Le n W i).1
    have hBi : mo_B L nc n P Du S Wy tw ct PF DF (tsz S Le n W i).2 (tsz S Le n W i).1 O Le := ⟨⟨hL1, hL5⟩, hnc, hUB, htw, hct, hPF, hDF, ⟨hti.2, hti.1, hO8⟩, hLe⟩
    have w0 := hRi.1
    refine g_iload_n X d_MO_plan_77 0 rfl ?_
    refine g_iconst (v := 1) X d_MO_plan_78 (by decide) ?_
    refine g_aload_n X d_MO_plan_79 2 rfl ?_
    refine g_get (ci := 5) (C := R_MO) (T := F_MO) (N := 20) (v := .int (nI n)) X i_MO rfl w0 5 (by decide) q_602 (fun _ h9 => h9) rfl d_MO_plan_80 ?_
    refine g_ishl X d_MO_plan_83 ?_
    refine g_eqi (y := nI (2 ^ n)) (nI_bit (by omega)) ?_
    refine g_icmp_ge X 209 d_MO_plan_84 (by decide) (fun c84 => ?_) (fun c84 => ?_)
    · skip
      have e : i = 2 ^ n := by have := (nI_leI (by omega) (by omega)).mp c84; omega
      subst e
      exact g_lv [1, 2] rfl kk
    · skip
      have hlt : i < 2 ^ n := Nat.lt_of_not_le (fun z => c84 ((nI_leI (by omega) (by omega)).mpr z))
      refine g_aload_n X d_MO_plan_87 2 rfl ?_
      refine g_iload_n X d_MO_plan_88 0 rfl ?_
      refine g_callV (ci := 5) (As := [.int (nI i)]) (rest := []) X (z_ok eA eM) rfl rfl w0 (c_MO_shownBy hRi hBi (acts := i) (by omega)) v_MO_shownBy q_767 q_s29 q_765 rfl rfl (Nat.le_of_ble_eq_true rfl) d_MO_plan_89 ⟨(Nat.le_of_ble_eq_true rfl), (Nat.le_of_ble_eq_true rfl)⟩ ⟨(Nat.le_of_ble_eq_true rfl), (Nat.le_of_ble_eq_true rfl)⟩ (g_K.no (fun _ h => h)) (fun r_ f2_ hp => ?_)
      obtain ⟨rfl, hf_⟩ := hp
      subst f2_
      refine g_st (st2 := [.int (nI (orS S i n))]) rfl ?_
      refine g_iload_n X d_MO_plan_92 1 rfl ?_
      refine g_iand X d_MO_plan_93 ?_
      refine g_eqi (y := nI (orS S i n &&& W)) (nI_and _ _) ?_
      refine g_iload_n X d_MO_plan_94 1 rfl ?_
      refine g_icmp_ne X 102 d_MO_plan_95 (by decide) (fun c95 => ?_) (fun c95 => ?_)
      · skip
        refine g_iconst (v := 0) X d_MO_plan_102 (by decide) ?_
        have hd9 : ¬ orS S i n &&& W = W := fun z => c95 (by rw [z])
        refine g_istore (lv' := [(4, .int 0), (3, .int (nI i)), (2, .int (nI W)), (0, .ref (bd 0))]) X d_MO_plan_103 (by decide) rfl ?_
        refine g_iload X d_MO_plan_105 0 rfl ?_
        refine g_if_eq X 118 d_MO_plan_107 (by decide) (fun c107 => ?_) (fun c107 => ?_)
        · skip
          skip
          refine g_ldc (v := 1000000000) X q_745 d_MO_plan_118 ?_
          refine g_eqi (y := nI (tmv S Le n W i)) (by rw [show tmv S Le n W i = 1000000000 from if_neg hd9]; rfl) ?_
          have htm := tmv_le S Le n W i
          have hts := tsz_le S Le n W i
          have hsz := szo_le i 8
          refine g_istore (lv' := [(5, .int (nI (tmv S Le n W i))), (4, .int 0), (3, .int (nI i)), (2, .int (nI W)), (0, .ref (bd 0))]) X d_MO_plan_120 (by decide) rfl ?_
          refine g_iload X d_MO_plan_122 0 rfl ?_
          refine g_aload_n X d_MO_plan_124 4 rfl ?_
          refine g_get (ci := 5) (C := R_MO) (T := F_MO) (N := 20) (v := .int (nI (tsz S Le n W i).1)) X i_MO rfl w0 16 (by decide) q_613 (fun _ h9 => h9) rfl d_MO_plan_125 ?_
          refine g_icmp_lt X 158 d_MO_plan_128 (by decide) (fun c128 => ?_) (fun c128 => ?_)
          · skip
            refine g_iconst (v := 1) X d_MO_plan_158 (by decide) ?_
            refine g_goto X 163 d_MO_plan_159 (by decide) ?_
            have hbt : (tmv S Le n W i < (tsz S Le n W i).1 ∨ (tmv S Le n W i = (tsz S Le n W i).1 ∧ tmv S Le n W i < 1000000000 ∧ szo i 8 < (tsz S Le n W i).2)) := by first | exact Or.inl ((nI_ltI (by omega) (by omega)).mp c128) | exact Or.inr ⟨(nI_eq (by omega) (by omega)).mp c137, Nat.lt_of_not_le (fun z => c144 ((nI_leI (a := 1000000000) (by decide) (by omega)).mpr z)), Nat.lt_of_not_le (fun z => c155 ((nI_leI (by omega) (by omega)).mpr z))⟩
            have htz : tsz S Le n W (i + 1) = (tmv S Le n W i, szo i 8) := if_pos hbt
            refine g_istore (lv' := [(6, .int 1), (5, .int (nI (tmv S Le n W i))), (4, .int 0), (3, .int (nI i)), (2, .int (nI W)), (0, .ref (bd 0))]) X d_MO_plan_163 (by decide) rfl ?_
            refine g_aload_n X d_MO_plan_165 5 rfl ?_
            refine g_iload X d_MO_plan_166 0 rfl ?_
            refine g_if_eq X 176 d_MO_plan_168 (by decide) (fun c168 => ?_) (fun c168 => ?_)
            · skip
              exact absurd c168 (by decide)
            · skip
              skip
              refine g_iload X d_MO_plan_171 1 rfl ?_
              refine g_goto X 180 d_MO_plan_173 (by decide) ?_
              refine g_put (ci := 5) (C := R_MO) (T := F_MO) (N := 20) (ty := .int) (fs2 := [.int 0, .int (nI L), .int (nI nc), .ref (bd 1), .ref (bd 2), .int (nI n), .ref (bd 3), .ref (bd 4), .ref (bd 5), .ref (bd 6), .ref (bd 7), .ref (bd 8), .ref (bd 9), .ref (bd 10), .ref (bd 11), .int (nI (tsz S Le n W i).2), .int (nI (tmv S Le n W i)), .ref (bd 12), .ref (bd 13), .ref (bd 14)]) X i_MO t_MO t_MO_ok n_MO rfl w0 16 (by decide) q_613 (fun _ h9 => h9) rfl (by decide +kernel) rfl rfl (Nat.le_of_ble_eq_true rfl) rfl d_MO_plan_180 ?_
              generalize ef_1 : g_u (m_th f bd 0 L nc n (tsz S Le n W i).2 (tsz S Le n W i).1) (bd 0) (.inr (5, [.int 0, .int (nI L), .int (nI nc), .ref (bd 1), .ref (bd 2), .int (nI n), .ref (bd 3), .ref (bd 4), .ref (bd 5), .ref (bd 6), .ref (bd 7), .ref (bd 8), .ref (bd 9), .ref (bd 10), .ref (bd 11), .int (nI (tsz S Le n W i).2), .int (nI (tmv S Le n W i)), .ref (bd 12), .ref (bd 13), .ref (bd 14)])) = f_1
              have h_2 : f_1 (bd 0) = some (.inr (5, [.int 0, .int (nI L), .int (nI nc), .ref (bd 1), .ref (bd 2), .int (nI n), .ref (bd 3), .ref (bd 4), .ref (bd 5), .ref (bd 6), .ref (bd 7), .ref (bd 8), .ref (bd 9), .ref (bd 10), .ref (bd 11), .int (nI (tsz S Le n W i).2), .int (nI (tmv S Le n W i)), .ref (bd 12), .ref (bd 13), .ref (bd 14)])) := by rw [← ef_1]; exact g_u_s
              refine g_aload_n X d_MO_plan_183 5 rfl ?_
              refine g_iload X d_MO_plan_184 0 rfl ?_
              refine g_if_eq X 196 d_MO_plan_186 (by decide) (fun c186 => ?_) (fun c186 => ?_)
              · skip
                exact absurd c186 (by decide)
              · skip
                skip
                refine g_iload_n X d_MO_plan_189 3 rfl ?_
                refine g_callS (As := [.int (nI i)]) (rest := [.ref (bd 0)]) X (z_ok eA eM) (c_MO_sizeOf (f := f_1) (acts := i) (by omega)) v_MO_sizeOf q_774 q_773 rfl rfl (Nat.le_of_ble_eq_true rfl) d_MO_plan_190 ⟨(Nat.le_of_ble_eq_true rfl), (Nat.le_of_ble_eq_true rfl)⟩ ⟨(Nat.le_of_ble_eq_true rfl), (Nat.le_of_ble_eq_true rfl)⟩ (g_K.no (fun _ h => h)) (fun r_ f2_ hp => ?_)
                obtain ⟨rfl, hf_⟩ := hp
                subst f2_
                refine g_st (st2 := [.int (nI (szo i 8)), .ref (bd 0)]) rfl ?_
                refine g_goto X 200 d_MO_plan_193 (by decide) ?_
                refine g_put (ci := 5) (C := R_MO) (T := F_MO) (N := 20) (ty := .int) (fs2 := [.int 0, .int (nI L), .int (nI nc), .ref (bd 1), .ref (bd 2), .int (nI n), .ref (bd 3), .ref (bd 4), .ref (bd 5), .ref (bd 6), .ref (bd 7), .ref (bd 8), .ref (bd 9), .ref (bd 10), .ref (bd 11), .int (nI (szo i 8)), .int (nI (tmv S Le n W i)), .ref (bd 12), .ref (bd 13), .ref (bd 14)]) X i_MO t_MO t_MO_ok n_MO rfl h_2 15 (by decide) q_612 (fun _ h9 => h9) rfl (by decide +kernel) rfl rfl (Nat.le_of_ble_eq_true rfl) rfl d_MO_plan_200 ?_
                generalize ef_3 : g_u f_1 (bd 0) (.inr (5, [.int 0, .int (nI L), .int (nI nc), .ref (bd 1), .ref (bd 2), .int (nI n), .ref (bd 3), .ref (bd 4), .ref (bd 5), .ref (bd 6), .ref (bd 7), .ref (bd 8), .ref (bd 9), .ref (bd 10), .ref (bd 11), .int (nI (szo i 8)), .int (nI (tmv S Le n W i)), .ref (bd 12), .ref (bd 13), .ref (bd 14)])) = f_3
                have h_4 : f_3 (bd 0) = some (.inr (5, [.int 0, .int (nI L), .int (nI nc), .ref (bd 1), .ref (bd 2), .int (nI n), .ref (bd 3), .ref (bd 4), .ref (bd 5), .ref (bd 6), .ref (bd 7), .ref (bd 8), .ref (bd 9), .ref (bd 10), .ref (bd 11), .int (nI (szo i 8)), .int (nI (tmv S Le n W i)), .ref (bd 12), .ref (bd 13), .ref (bd 14)])) := by rw [← ef_3]; exact g_u_s
                refine g_iinc (lv' := [(3, .int (nI (i + 1))), (6, .int 1), (5, .int (nI (tmv S Le n W i))), (4, .int 0), (2, .int (nI W)), (0, .ref (bd 0))]) X d_MO_plan_203 3 rfl (nI_1 i) (by decide) rfl ?_
                refine g_goto X 77 d_MO_plan_206 (by decide) ?_
                refine g_eqf (f2 := (m_th f bd 0 L nc n (tsz S Le n W (i + 1)).2 (tsz S Le n W (i + 1)).1)) (by rw [← ef_3, ← ef_1]; show g_u (g_u (g_u f (bd 0) _) (bd 0) _) (bd 0) _ = g_u f (bd 0) _; rw [g_u_u, g_u_u, htz]) ?_
                exact g_lv [0, 4, 5] rfl (ih (d - 1) (by omega) (i + 1) (by omega))
          · skip
            refine g_iload X d_MO_plan_131 0 rfl ?_
            refine g_aload_n X d_MO_plan_133 4 rfl ?_
            refine g_get (ci := 5) (C := R_MO) (T := F_MO) (N := 20) (v := .int (nI (tsz S Le n W i).1)) X i_MO rfl w0 16 (by decide) q_613 (fun _ h9 => h9) rfl d_MO_plan_134 ?_
            refine g_icmp_ne X 162 d_MO_plan_137 (by decide) (fun c137 => ?_) (fun c137 => ?_)
            · skip
              refine g_iconst (v := 0) X d_MO_plan_162 (by decide) ?_
              have hbt : ¬ (tmv S Le n W i < (tsz S Le n W i).1 ∨ (tmv S Le n W i = (tsz S Le n W i).1 ∧ tmv S Le n W i < 1000000000 ∧ szo i 8 < (tsz S Le n W i).2)) := by
                intro z
                rcases z with z | ⟨z1, z2, z3⟩
                · exact c128 ((nI_ltI (by omega) (by omega)).mpr z)
                · first | exact c137 (by rw [z1]) | exact absurd z2 (Nat.not_lt.mpr ((nI_leI (a := 1000000000) (by decide) (by omega)).mp c144)) | exact absurd z3 (Nat.not_lt.mpr ((nI_leI (by omega) (by omega)).mp c155))
              have htz : tsz S Le n W (i + 1) = tsz S Le n W i := if_neg hbt
              refine g_istore (lv' := [(6, .int 0), (5, .int (nI (tmv S Le n W i))), (4, .int 0), (3, .int (nI i)), (2, .int (nI W)), (0, .ref (bd 0))]) X d_MO_plan_163 (by decide) rfl ?_
              refine g_aload_n X d_MO_plan_165 5 rfl ?_
              refine g_iload X d_MO_plan_166 0 rfl ?_
              refine g_if_eq X 176 d_MO_plan_168 (by decide) (fun c168 => ?_) (fun c168 => ?_)
              · skip
                skip
                refine g_aload_n X d_MO_plan_176 5 rfl ?_
                refine g_get (ci := 5) (C := R_MO) (T := F_MO) (N := 20) (v := .int (nI (tsz S Le n W i).1)) X i_MO rfl w0 16 (by decide) q_613 (fun _ h9 => h9) rfl d_MO_plan_177 ?_
                refine g_put (ci := 5) (C := R_MO) (T := F_MO) (N := 20) (ty := .int) (fs2 := [.int 0, .int (nI L), .int (nI nc), .ref (bd 1), .ref (bd 2), .int (nI n), .ref (bd 3), .ref (bd 4), .ref (bd 5), .ref (bd 6), .ref (bd 7), .ref (bd 8), .ref (bd 9), .ref (bd 10), .ref (bd 11), .int (nI (tsz S Le n W i).2), .int (nI (tsz S Le n W i).1), .ref (bd 12), .ref (bd 13), .ref (bd 14)]) X i_MO t_MO t_MO_ok n_MO rfl w0 16 (by decide) q_613 (fun _ h9 => h9) rfl (by decide +kernel) rfl rfl (Nat.le_of_ble_eq_true rfl) rfl d_MO_plan_180 ?_
                generalize ef_5 : g_u (m_th f bd 0 L nc n (tsz S Le n W i).2 (tsz S Le n W i).1) (bd 0) (.inr (5, [.int 0, .int (nI L), .int (nI nc), .ref (bd 1), .ref (bd 2), .int (nI n), .ref (bd 3), .ref (bd 4), .ref (bd 5), .ref (bd 6), .ref (bd 7), .ref (bd 8), .ref (bd 9), .ref (bd 10), .ref (bd 11), .int (nI (tsz S Le n W i).2), .int (nI (tsz S Le n W i).1), .ref (bd 12), .ref (bd 13), .ref (bd 14)])) = f_5
                have h_6 : f_5 (bd 0) = some (.inr (5, [.int 0, .int (nI L), .int (nI nc), .ref (bd 1), .ref (bd 2), .int (nI n), .ref (bd 3), .ref (bd 4), .ref (bd 5), .ref (bd 6), .ref (bd 7), .ref (bd 8), .ref (bd 9), .ref (bd 10), .ref (bd 11), .int (nI (tsz S Le n W i).2), .int (nI (tsz S Le n W i).1), .ref (bd 12), .ref (bd 13), .ref (bd 14)])) := by rw [← ef_5]; exact g_u_s
                refine g_aload_n X d_MO_plan_183 5 rfl ?_
                refine g_iload X d_MO_plan_184 0 rfl ?_
                refine g_if_eq X 196 d_MO_plan_186 (by decide) (fun c186 => ?_) (fun c186 => ?_)
                · skip
                  skip
                  refine g_aload_n X d_MO_plan_196 5 rfl ?_
                  refine g_get (ci := 5) (C := R_MO) (T := F_MO) (N := 20) (v := .int (nI (tsz S Le n W i).2)) X i_MO rfl h_6 15 (by decide) q_612 (fun _ h9 => h9) rfl d_MO_plan_197 ?_
                  refine g_put (ci := 5) (C := R_MO) (T := F_MO) (N := 20) (ty := .int) (fs2 := [.int 0, .int (nI L), .int (nI nc), .ref (bd 1), .ref (bd 2), .int (nI n), .ref (bd 3), .ref (bd 4), .ref (bd 5), .ref (bd 6), .ref (bd 7), .ref (bd 8), .ref (bd 9), .ref (bd 10), .ref (bd 11), .int (nI (tsz S Le n W i).2), .int (nI (tsz S Le n W i).1), .ref (bd 12), .ref (bd 13), .ref (bd 14)]) X i_MO t_MO t_MO_ok n_MO rfl h_6 15 (by decide) q_612 (fun _ h9 => h9) rfl (by decide +kernel) rfl rfl (Nat.le_of_ble_eq_true rfl) rfl d_MO_plan_200 ?_
                  generalize ef_7 : g_u f_5 (bd 0) (.inr (5, [.int 0, .int (nI L), .int (nI nc), .ref (bd 1), .ref (bd 2), .int (nI n), .ref (bd 3), .ref (bd 4), .ref (bd 5), .ref (bd 6), .ref (bd 7), .ref (bd 8), .ref (bd 9), .ref (bd 10), .ref (bd 11), .int (nI (tsz S Le n W i).2), .int (nI (tsz S Le n W i).1), .ref (bd 12), .ref (bd 13), .ref (bd 14)])) = f_7
                  have h_8 : f_7 (bd 0) = some (.inr (5, [.int 0, .int (nI L), .int (nI nc), .ref (bd 1), .ref (bd 2), .int (nI n), .ref (bd 3), .ref (bd 4), .ref (bd 5), .ref (bd 6), .ref (bd 7), .ref (bd 8), .ref (bd 9), .ref (bd 10), .ref (bd 11), .int (nI (tsz S Le n W i).2), .int (nI (tsz S Le n W i).1), .ref (bd 12), .ref (bd 13), .ref (bd 14)])) := by rw [← ef_7]; exact g_u_s
                  refine g_iinc (lv' := [(3, .int (nI (i + 1))), (6, .int 0), (5, .int (nI (tmv S Le n W i))), (4, .int 0), (2, .int (nI W)), (0, .ref (bd 0))]) X d_MO_plan_203 3 rfl (nI_1 i) (by decide) rfl ?_
                  refine g_goto X 77 d_MO_plan_206 (by decide) ?_
                  refine g_eqf (f2 := (m_th f bd 0 L nc n (tsz S Le n W (i + 1)).2 (tsz S Le n W (i + 1)).1)) (by rw [← ef_7, ← ef_5]; show g_u (g_u (g_u f (bd 0) _) (bd 0) _) (bd 0) _ = g_u f (bd 0) _; rw [g_u_u, g_u_u, htz]) ?_
                  exact g_lv [0, 4, 5] rfl (ih (d - 1) (by omega) (i + 1) (by omega))
                · skip
                  exact absurd rfl c186
              · skip
                exact absurd rfl c168
            · skip
              refine g_iload X d_MO_plan_140 0 rfl ?_
              refine g_ldc (v := 1000000000) X q_745 d_MO_plan_142 ?_
              refine g_eqi (y := 1000000000) (rfl) ?_
              refine g_icmp_ge X 162 d_MO_plan_144 (by decide) (fun c144 => ?_) (fun c144 => ?_)
              · skip
                refine g_iconst (v := 0) X d_MO_plan_162 (by decide) ?_
                have hbt : ¬ (tmv S Le n W i < (tsz S Le n W i).1 ∨ (tmv S Le n W i = (tsz S Le n W i).1 ∧ tmv S Le n W i < 1000000000 ∧ szo i 8 < (tsz S Le n W i).2)) := by
                  intro z
                  rcases z with z | ⟨z1, z2, z3⟩
                  · exact c128 ((nI_ltI (by omega) (by omega)).mpr z)
                  · first | exact c137 (by rw [z1]) | exact absurd z2 (Nat.not_lt.mpr ((nI_leI (a := 1000000000) (by decide) (by omega)).mp c144)) | exact absurd z3 (Nat.not_lt.mpr ((nI_leI (by omega) (by omega)).mp c155))
                have htz : tsz S Le n W (i + 1) = tsz S Le n W i := if_neg hbt
                refine g_istore (lv' := [(6, .int 0), (5, .int (nI (tmv S Le n W i))), (4, .int 0), (3, .int (nI i)), (2, .int (nI W)), (0, .ref (bd 0))]) X d_MO_plan_163 (by decide) rfl ?_
                refine g_aload_n X d_MO_plan_165 5 rfl ?_
                refine g_iload X d_MO_plan_166 0 rfl ?_
                refine g_if_eq X 176 d_MO_plan_168 (by decide) (fun c168 => ?_) (fun c168 => ?_)
                · skip
                  skip
                  refine g_aload_n X d_MO_plan_176 5 rfl ?_
                  refine g_get (ci := 5) (C := R_MO) (T := F_MO) (N := 20) (v := .int (nI (tsz S Le n W i).1)) X i_MO rfl w0 16 (by decide) q_613 (fun _ h9 => h9) rfl d_MO_plan_177 ?_
                  refine g_put (ci := 5) (C := R_MO) (T := F_MO) (N := 20) (ty := .int) (fs2 := [.int 0, .int (nI L), .int (nI nc), .ref (bd 1), .ref (bd 2), .int (nI n), .ref (bd 3), .ref (bd 4), .ref (bd 5), .ref (bd 6), .ref (bd 7), .ref (bd 8), .ref (bd 9), .ref (bd 10), .ref (bd 11), .int (nI (tsz S Le n W i).2), .int (nI (tsz S Le n W i).1), .ref (bd 12), .ref (bd 13), .ref (bd 14)]) X i_MO t_MO t_MO_ok n_MO rfl w0 16 (by decide) q_613 (fun _ h9 => h9) rfl (by decide +kernel) rfl rfl (Nat.le_of_ble_eq_true rfl) rfl d_MO_plan_180 ?_
                  generalize ef_9 : g_u (m_th f bd 0 L nc n (tsz S Le n W i).2 (tsz S Le n W i).1) (bd 0) (.inr (5, [.int 0, .int (nI L), .int (nI nc), .ref (bd 1), .ref (bd 2), .int (nI n), .ref (bd 3), .ref (bd 4), .ref (bd 5), .ref (bd 6), .ref (bd 7), .ref (bd 8), .ref (bd 9), .ref (bd 10), .ref (bd 11), .int (nI (tsz S Le n W i).2), .int (nI (tsz S Le n W i).1), .ref (bd 12), .ref (bd 13), .ref (bd 14)])) = f_9
                  have h_10 : f_9 (bd 0) = some (.inr (5, [.int 0, .int (nI L), .int (nI nc), .ref (bd 1), .ref (bd 2), .int (nI n), .ref (bd 3), .ref (bd 4), .ref (bd 5), .ref (bd 6), .ref (bd 7), .ref (bd 8), .ref (bd 9), .ref (bd 10), .ref (bd 11), .int (nI (tsz S Le n W i).2), .int (nI (tsz S Le n W i).1), .ref (bd 12), .ref (bd 13), .ref (bd 14)])) := by rw [← ef_9]; exact g_u_s
                  refine g_aload_n X d_MO_plan_183 5 rfl ?_
                  refine g_iload X d_MO_plan_184 0 rfl ?_
                  refine g_if_eq X 196 d_MO_plan_186 (by decide) (fun c186 => ?_) (fun c186 => ?_)
                  · skip
                    skip
                    refine g_aload_n X d_MO_plan_196 5 rfl ?_
                    refine g_get (ci := 5) (C := R_MO) (T := F_MO) (N := 20) (v := .int (nI (tsz S Le n W i).2)) X i_MO rfl h_10 15 (by decide) q_612 (fun _ h9 => h9) rfl d_MO_plan_197 ?_
                    refine g_put (ci := 5) (C := R_MO) (T := F_MO) (N := 20) (ty := .int) (fs2 := [.int 0, .int (nI L), .int (nI nc), .ref (bd 1), .ref (bd 2), .int (nI n), .ref (bd 3), .ref (bd 4), .ref (bd 5), .ref (bd 6), .ref (bd 7), .ref (bd 8), .ref (bd 9), .ref (bd 10), .ref (bd 11), .int (nI (tsz S Le n W i).2), .int (nI (tsz S Le n W i).1), .ref (bd 12), .ref (bd 13), .ref (bd 14)]) X i_MO t_MO t_MO_ok n_MO rfl h_10 15 (by decide) q_612 (fun _ h9 => h9) rfl (by decide +kernel) rfl rfl (Nat.le_of_ble_eq_true rfl) rfl d_MO_plan_200 ?_
                    generalize ef_11 : g_u f_9 (bd 0) (.inr (5, [.int 0, .int (nI L), .int (nI nc), .ref (bd 1), .ref (bd 2), .int (nI n), .ref (bd 3), .ref (bd 4), .ref (bd 5), .ref (bd 6), .ref (bd 7), .ref (bd 8), .ref (bd 9), .ref (bd 10), .ref (bd 11), .int (nI (tsz S Le n W i).2), .int (nI (tsz S Le n W i).1), .ref (bd 12), .ref (bd 13), .ref (bd 14)])) = f_11
                    have h_12 : f_11 (bd 0) = some (.inr (5, [.int 0, .int (nI L), .int (nI nc), .ref (bd 1), .ref (bd 2), .int (nI n), .ref (bd 3), .ref (bd 4), .ref (bd 5), .ref (bd 6), .ref (bd 7), .ref (bd 8), .ref (bd 9), .ref (bd 10), .ref (bd 11), .int (nI (tsz S Le n W i).2), .int (nI (tsz S Le n W i).1), .ref (bd 12), .ref (bd 13), .ref (bd 14)])) := by rw [← ef_11]; exact g_u_s
                    refine g_iinc (lv' := [(3, .int (nI (i + 1))), (6, .int 0), (5, .int (nI (tmv S Le n W i))), (4, .int 0), (2, .int (nI W)), (0, .ref (bd 0))]) X d_MO_plan_203 3 rfl (nI_1 i) (by decide) rfl ?_
                    refine g_goto X 77 d_MO_plan_206 (by decide) ?_
                    refine g_eqf (f2 := (m_th f bd 0 L nc n (tsz S Le n W (i + 1)).2 (tsz S Le n W (i + 1)).1)) (by rw [← ef_11, ← ef_9]; show g_u (g_u (g_u f (bd 0) _) (bd 0) _) (bd 0) _ = g_u f (bd 0) _; rw [g_u_u, g_u_u, htz]) ?_
                    exact g_lv [0, 4, 5] rfl (ih (d - 1) (by omega) (i + 1) (by omega))
                  · skip
                    exact absurd rfl c186
                · skip
                  exact absurd rfl c168
              · skip
                refine g_iload_n X d_MO_plan_147 2 rfl ?_
                refine g_callS (As := [.int (nI i)]) (rest := []) X (z_ok eA eM) (c_MO_sizeOf (f := (m_th f bd 0 L nc n (tsz S Le n W i).2 (tsz S Le n W i).1)) (acts := i) (by omega)) v_MO_sizeOf q_774 q_773 rfl rfl (Nat.le_of_ble_eq_true rfl) d_MO_plan_148 ⟨(Nat.le_of_ble_eq_true rfl), (Nat.le_of_ble_eq_true rfl)⟩ ⟨(Nat.le_of_ble_eq_true rfl), (Nat.le_of_ble_eq_true rfl)⟩ (g_K.no (fun _ h => h)) (fun r_ f2_ hp => ?_)
                obtain ⟨rfl, hf_⟩ := hp
                subst f2_
                refine g_st (st2 := [.int (nI (szo i 8))]) rfl ?_
                refine g_aload_n X d_MO_plan_151 4 rfl ?_
                refine g_get (ci := 5) (C := R_MO) (T := F_MO) (N := 20) (v := .int (nI (tsz S Le n W i).2)) X i_MO rfl w0 15 (by decide) q_612 (fun _ h9 => h9) rfl d_MO_plan_152 ?_
                refine g_icmp_ge X 162 d_MO_plan_155 (by decide) (fun c155 => ?_) (fun c155 => ?_)
                · skip
                  refine g_iconst (v := 0) X d_MO_plan_162 (by decide) ?_
                  have hbt : ¬ (tmv S Le n W i < (tsz S Le n W i).1 ∨ (tmv S Le n W i = (tsz S Le n W i).1 ∧ tmv S Le n W i < 1000000000 ∧ szo i 8 < (tsz S Le n W i).2)) := by
                    intro z
                    rcases z with z | ⟨z1, z2, z3⟩
                    · exact c128 ((nI_ltI (by omega) (by omega)).mpr z)
                    · first | exact c137 (by rw [z1]) | exact absurd z2 (Nat.not_lt.mpr ((nI_leI (a := 1000000000) (by decide) (by omega)).mp c144)) | exact absurd z3 (Nat.not_lt.mpr ((nI_leI (by omega) (by omega)).mp c155))
                  have htz : tsz S Le n W (i + 1) = tsz S Le n W i := if_neg hbt
                  refine g_istore (lv' := [(6, .int 0), (5, .int (nI (tmv S Le n W i))), (4, .int 0), (3, .int (nI i)), (2, .int (nI W)), (0, .ref (bd 0))]) X d_MO_plan_163 (by decide) rfl ?_
                  refine g_aload_n X d_MO_plan_165 5 rfl ?_
                  refine g_iload X d_MO_plan_166 0 rfl ?_
                  refine g_if_eq X 176 d_MO_plan_168 (by decide) (fun c168 => ?_) (fun c168 => ?_)
                  · skip
                    skip
                    refine g_aload_n X d_MO_plan_176 5 rfl ?_
                    refine g_get (ci := 5) (C := R_MO) (T := F_MO) (N := 20) (v := .int (nI (tsz S Le n W i).1)) X i_MO rfl w0 16 (by decide) q_613 (fun _ h9 => h9) rfl d_MO_plan_177 ?_
                    refine g_put (ci := 5) (C := R_MO) (T := F_MO) (N := 20) (ty := .int) (fs2 := [.int 0, .int (nI L), .int (nI nc), .ref (bd 1), .ref (bd 2), .int (nI n), .ref (bd 3), .ref (bd 4), .ref (bd 5), .ref (bd 6), .ref (bd 7), .ref (bd 8), .ref (bd 9), .ref (bd 10), .ref (bd 11), .int (nI (tsz S Le n W i).2), .int (nI (tsz S Le n W i).1), .ref (bd 12), .ref (bd 13), .ref (bd 14)]) X i_MO t_MO t_MO_ok n_MO rfl w0 16 (by decide) q_613 (fun _ h9 => h9) rfl (by decide +kernel) rfl rfl (Nat.le_of_ble_eq_true rfl) rfl d_MO_plan_180 ?_
                    generalize ef_13 : g_u (m_th f bd 0 L nc n (tsz S Le n W i).2 (tsz S Le n W i).1) (bd 0) (.inr (5, [.int 0, .int (nI L), .int (nI nc), .ref (bd 1), .ref (bd 2), .int (nI n), .ref (bd 3), .ref (bd 4), .ref (bd 5), .ref (bd 6), .ref (bd 7), .ref (bd 8), .ref (bd 9), .ref (bd 10), .ref (bd 11), .int (nI (tsz S Le n W i).2), .int (nI (tsz S Le n W i).1), .ref (bd 12), .ref (bd 13), .ref (bd 14)])) = f_13
                    have h_14 : f_13 (bd 0) = some (.inr (5, [.int 0, .int (nI L), .int (nI nc), .ref (bd 1), .ref (bd 2), .int (nI n), .ref (bd 3), .ref (bd 4), .ref (bd 5), .ref (bd 6), .ref (bd 7), .ref (bd 8), .ref (bd 9), .ref (bd 10), .ref (bd 11), .int (nI (tsz S Le n W i).2), .int (nI (tsz S Le n W i).1), .ref (bd 12), .ref (bd 13), .ref (bd 14)])) := by rw [← ef_13]; exact g_u_s
                    refine g_aload_n X d_MO_plan_183 5 rfl ?_
                    refine g_iload X d_MO_plan_184 0 rfl ?_
                    refine g_if_eq X 196 d_MO_plan_186 (by decide) (fun c186 => ?_) (fun c186 => ?_)
                    · skip
                      skip
                      refine g_aload_n X d_MO_plan_196 5 rfl ?_
                      refine g_get (ci := 5) (C := R_MO) (T := F_MO) (N := 20) (v := .int (nI (tsz S Le n W i).2)) X i_MO rfl h_14 15 (by decide) q_612 (fun _ h9 => h9) rfl d_MO_plan_197 ?_
                      refine g_put (ci := 5) (C := R_MO) (T := F_MO) (N := 20) (ty := .int) (fs2 := [.int 0, .int (nI L), .int (nI nc), .ref (bd 1), .ref (bd 2), .int (nI n), .ref (bd 3), .ref (bd 4), .ref (bd 5), .ref (bd 6), .ref (bd 7), .ref (bd 8), .ref (bd 9), .ref (bd 10), .ref (bd 11), .int (nI (tsz S Le n W i).2), .int (nI (tsz S Le n W i).1), .ref (bd 12), .ref (bd 13), .ref (bd 14)]) X i_MO t_MO t_MO_ok n_MO rfl h_14 15 (by decide) q_612 (fun _ h9 => h9) rfl (by decide +kernel) rfl rfl (Nat.le_of_ble_eq_true rfl) rfl d_MO_plan_200 ?_
                      generalize ef_15 : g_u f_13 (bd 0) (.inr (5, [.int 0, .int (nI L), .int (nI nc), .ref (bd 1), .ref (bd 2), .int (nI n), .ref (bd 3), .ref (bd 4), .ref (bd 5), .ref (bd 6), .ref (bd 7), .ref (bd 8), .ref (bd 9), .ref (bd 10), .ref (bd 11), .int (nI (tsz S Le n W i).2), .int (nI (tsz S Le n W i).1), .ref (bd 12), .ref (bd 13), .ref (bd 14)])) = f_15
                      have h_16 : f_15 (bd 0) = some (.inr (5, [.int 0, .int (nI L), .int (nI nc), .ref (bd 1), .ref (bd 2), .int (nI n), .ref (bd 3), .ref (bd 4), .ref (bd 5), .ref (bd 6), .ref (bd 7), .ref (bd 8), .ref (bd 9), .ref (bd 10), .ref (bd 11), .int (nI (tsz S Le n W i).2), .int (nI (tsz S Le n W i).1), .ref (bd 12), .ref (bd 13), .ref (bd 14)])) := by rw [← ef_15]; exact g_u_s
                      refine g_iinc (lv' := [(3, .int (nI (i + 1))), (6, .int 0), (5, .int (nI (tmv S Le n W i))), (4, .int 0), (2, .int (nI W)), (0, .ref (bd 0))]) X d_MO_plan_203 3 rfl (nI_1 i) (by decide) rfl ?_
                      refine g_goto X 77 d_MO_plan_206 (by decide) ?_
                      refine g_eqf (f2 := (m_th f bd 0 L nc n (tsz S Le n W (i + 1)).2 (tsz S Le n W (i + 1)).1)) (by rw [← ef_15, ← ef_13]; show g_u (g_u (g_u f (bd 0) _) (bd 0) _) (bd 0) _ = g_u f (bd 0) _; rw [g_u_u, g_u_u, htz]) ?_
                      exact g_lv [0, 4, 5] rfl (ih (d - 1) (by omega) (i + 1) (by omega))
                    · skip
                      exact absurd rfl c186
                  · skip
                    exact absurd rfl c168
                · skip
                  refine g_iconst (v := 1) X d_MO_plan_158 (by decide) ?_
                  refine g_goto X 163 d_MO_plan_159 (by decide) ?_
                  have hbt : (tmv S Le n W i < (tsz S Le n W i).1 ∨ (tmv S Le n W i = (tsz S Le n W i).1 ∧ tmv S Le n W i < 1000000000 ∧ szo i 8 < (tsz S Le n W i).2)) := by first | exact Or.inl ((nI_ltI (by omega) (by omega)).mp c128) | exact Or.inr ⟨(nI_eq (by omega) (by omega)).mp c137, Nat.lt_of_not_le (fun z => c144 ((nI_leI (a := 1000000000) (by decide) (by omega)).mpr z)), Nat.lt_of_not_le (fun z => c155 ((nI_leI (by omega) (by omega)).mpr z))⟩
                  have htz : tsz S Le n W (i + 1) = (tmv S Le n W i, szo i 8) := if_pos hbt
                  refine g_istore (lv' := [(6, .int 1), (5, .int (nI (tmv S Le n W i))), (4, .int 0), (3, .int (nI i)), (2, .int (nI W)), (0, .ref (bd 0))]) X d_MO_plan_163 (by decide) rfl ?_
                  refine g_aload_n X d_MO_plan_165 5 rfl ?_
                  refine g_iload X d_MO_plan_166 0 rfl ?_
                  refine g_if_eq X 176 d_MO_plan_168 (by decide) (fun c168 => ?_) (fun c168 => ?_)
                  · skip
                    exact absurd c168 (by decide)
                  · skip
                    skip
                    refine g_iload X d_MO_plan_171 1 rfl ?_
                    refine g_goto X 180 d_MO_plan_173 (by decide) ?_
                    refine g_put (ci := 5) (C := R_MO) (T := F_MO) (N := 20) (ty := .int) (fs2 := [.int 0, .int (nI L), .int (nI nc), .ref (bd 1), .ref (bd 2), .int (nI n), .ref (bd 3), .ref (bd 4), .ref (bd 5), .ref (bd 6), .ref (bd 7), .ref (bd 8), .ref (bd 9), .ref (bd 10), .ref (bd 11), .int (nI (tsz S Le n W i).2), .int (nI (tmv S Le n W i)), .ref (bd 12), .ref (bd 13), .ref (bd 14)]) X i_MO t_MO t_MO_ok n_MO rfl w0 16 (by decide) q_613 (fun _ h9 => h9) rfl (by decide +kernel) rfl rfl (Nat.le_of_ble_eq_true rfl) rfl d_MO_plan_180 ?_
                    generalize ef_17 : g_u (m_th f bd 0 L nc n (tsz S Le n W i).2 (tsz S Le n W i).1) (bd 0) (.inr (5, [.int 0, .int (nI L), .int (nI nc), .ref (bd 1), .ref (bd 2), .int (nI n), .ref (bd 3), .ref (bd 4), .ref (bd 5), .ref (bd 6), .ref (bd 7), .ref (bd 8), .ref (bd 9), .ref (bd 10), .ref (bd 11), .int (nI (tsz S Le n W i).2), .int (nI (tmv S Le n W i)), .ref (bd 12), .ref (bd 13), .ref (bd 14)])) = f_17
                    have h_18 : f_17 (bd 0) = some (.inr (5, [.int 0, .int (nI L), .int (nI nc), .ref (bd 1), .ref (bd 2), .int (nI n), .ref (bd 3), .ref (bd 4), .ref (bd 5), .ref (bd 6), .ref (bd 7), .ref (bd 8), .ref (bd 9), .ref (bd 10), .ref (bd 11), .int (nI (tsz S Le n W i).2), .int (nI (tmv S Le n W i)), .ref (bd 12), .ref (bd 13), .ref (bd 14)])) := by rw [← ef_17]; exact g_u_s
                    refine g_aload_n X d_MO_plan_183 5 rfl ?_
                    refine g_iload X d_MO_plan_184 0 rfl ?_
                    refine g_if_eq X 196 d_MO_plan_186 (by decide) (fun c186 => ?_) (fun c186 => ?_)
                    · skip
                      exact absurd c186 (by decide)
                    · skip
                      skip
                      refine g_iload_n X d_MO_plan_189 3 rfl ?_
                      refine g_callS (As := [.int (nI i)]) (rest := [.ref (bd 0)]) X (z_ok eA eM) (c_MO_sizeOf (f := f_17) (acts := i) (by omega)) v_MO_sizeOf q_774 q_773 rfl rfl (Nat.le_of_ble_eq_true rfl) d_MO_plan_190 ⟨(Nat.le_of_ble_eq_true rfl), (Nat.le_of_ble_eq_true rfl)⟩ ⟨(Nat.le_of_ble_eq_true rfl), (Nat.le_of_ble_eq_true rfl)⟩ (g_K.no (fun _ h => h)) (fun r_ f2_ hp => ?_)
                      obtain ⟨rfl, hf_⟩ := hp
                      subst f2_
                      refine g_st (st2 := [.int (nI (szo i 8)), .ref (bd 0)]) rfl ?_
                      refine g_goto X 200 d_MO_plan_193 (by decide) ?_
                      refine g_put (ci := 5) (C := R_MO) (T := F_MO) (N := 20) (ty := .int) (fs2 := [.int 0, .int (nI L), .int (nI nc), .ref (bd 1), .ref (bd 2), .int (nI n), .ref (bd 3), .ref (bd 4), .ref (bd 5), .ref (bd 6), .ref (bd 7), .ref (bd 8), .ref (bd 9), .ref (bd 10), .ref (bd 11), .int (nI (szo i 8)), .int (nI (tmv S Le n W i)), .ref (bd 12), .ref (bd 13), .ref (bd 14)]) X i_MO t_MO t_MO_ok n_MO rfl h_18 15 (by decide) q_612 (fun _ h9 => h9) rfl (by decide +kernel) rfl rfl (Nat.le_of_ble_eq_true rfl) rfl d_MO_plan_200 ?_
                      generalize ef_19 : g_u f_17 (bd 0) (.inr (5, [.int 0, .int (nI L), .int (nI nc), .ref (bd 1), .ref (bd 2), .int (nI n), .ref (bd 3), .ref (bd 4), .ref (bd 5), .ref (bd 6), .ref (bd 7), .ref (bd 8), .ref (bd 9), .ref (bd 10), .ref (bd 11), .int (nI (szo i 8)), .int (nI (tmv S Le n W i)), .ref (bd 12), .ref (bd 13), .ref (bd 14)])) = f_19
                      have h_20 : f_19 (bd 0) = some (.inr (5, [.int 0, .int (nI L), .int (nI nc), .ref (bd 1), .ref (bd 2), .int (nI n), .ref (bd 3), .ref (bd 4), .ref (bd 5), .ref (bd 6), .ref (bd 7), .ref (bd 8), .ref (bd 9), .ref (bd 10), .ref (bd 11), .int (nI (szo i 8)), .int (nI (tmv S Le n W i)), .ref (bd 12), .ref (bd 13), .ref (bd 14)])) := by rw [← ef_19]; exact g_u_s
                      refine g_iinc (lv' := [(3, .int (nI (i + 1))), (6, .int 1), (5, .int (nI (tmv S Le n W i))), (4, .int 0), (2, .int (nI W)), (0, .ref (bd 0))]) X d_MO_plan_203 3 rfl (nI_1 i) (by decide) rfl ?_
                      refine g_goto X 77 d_MO_plan_206 (by decide) ?_
                      refine g_eqf (f2 := (m_th f bd 0 L nc n (tsz S Le n W (i + 1)).2 (tsz S Le n W (i + 1)).1)) (by rw [← ef_19, ← ef_17]; show g_u (g_u (g_u f (bd 0) _) (bd 0) _) (bd 0) _ = g_u f (bd 0) _; rw [g_u_u, g_u_u, htz]) ?_
                      exact g_lv [0, 4, 5] rfl (ih (d - 1) (by omega) (i + 1) (by omega))
        · skip
          exact absurd rfl c107
      · skip
        refine g_iconst (v := 1) X d_MO_plan_98 (by decide) ?_
        refine g_goto X 103 d_MO_plan_99 (by decide) ?_
        have hd9 : orS S i n &&& W = W := (nI_eq (Nat.lt_of_le_of_lt Nat.and_le_right hW) hW).mp c95
        refine g_istore (lv' := [(4, .int 1), (3, .int (nI i)), (2, .int (nI W)), (0, .ref (bd 0))]) X d_MO_plan_103 (by decide) rfl ?_
        refine g_iload X d_MO_plan_105 0 rfl ?_
        refine g_if_eq X 118 d_MO_plan_107 (by decide) (fun c107 => ?_) (fun c107 => ?_)
        · skip
          exact absurd c107 (by decide)
        · skip
          skip
          refine g_aload_n X d_MO_plan_110 3 rfl ?_
          refine g_iload_n X d_MO_plan_111 1 rfl ?_
          refine g_callV (ci := 5) (As := [.int (nI i)]) (rest := []) X (z_ok eA eM) rfl rfl w0 (c_MO_leastOf hRi hBi (acts := i) (by omega)) v_MO_leastOf q_771 q_s30 q_769 rfl rfl (Nat.le_of_ble_eq_true rfl) d_MO_plan_112 ⟨(Nat.le_of_ble_eq_true rfl), (Nat.le_of_ble_eq_true rfl)⟩ ⟨(Nat.le_of_ble_eq_true rfl), (Nat.le_of_ble_eq_true rfl)⟩ (g_K.no (fun _ h => h)) (fun r_ f2_ hp => ?_)
          obtain ⟨rfl, hf_⟩ := hp
          subst f2_
          refine g_st (st2 := [.int (nI (lof Le i n))]) rfl ?_
          refine g_goto X 120 d_MO_plan_115 (by decide) ?_
          refine g_eqi (y := nI (tmv S Le n W i)) (by rw [show tmv S Le n W i = lof Le i n from if_pos hd9]) ?_
          have htm := tmv_le S Le n W i
          have hts := tsz_le S Le n W i
          have hsz := szo_le i 8
          refine g_istore (lv' := [(5, .int (nI (tmv S Le n W i))), (4, .int 1), (3, .int (nI i)), (2, .int (nI W)), (0, .ref (bd 0))]) X d_MO_plan_120 (by decide) rfl ?_
          refine g_iload X d_MO_plan_122 0 rfl ?_
          refine g_aload_n X d_MO_plan_124 4 rfl ?_
          refine g_get (ci := 5) (C := R_MO) (T := F_MO) (N := 20) (v := .int (nI (tsz S Le n W i).1)) X i_MO rfl w0 16 (by decide) q_613 (fun _ h9 => h9) rfl d_MO_plan_125 ?_
          refine g_icmp_lt X 158 d_MO_plan_128 (by decide) (fun c128 => ?_) (fun c128 => ?_)
          · skip
            refine g_iconst (v := 1) X d_MO_plan_158 (by decide) ?_
            refine g_goto X 163 d_MO_plan_159 (by decide) ?_
            have hbt : (tmv S Le n W i < (tsz S Le n W i).1 ∨ (tmv S Le n W i = (tsz S Le n W i).1 ∧ tmv S Le n W i < 1000000000 ∧ szo i 8 < (tsz S Le n W i).2)) := by first | exact Or.inl ((nI_ltI (by omega) (by omega)).mp c128) | exact Or.inr ⟨(nI_eq (by omega) (by omega)).mp c137, Nat.lt_of_not_le (fun z => c144 ((nI_leI (a := 1000000000) (by decide) (by omega)).mpr z)), Nat.lt_of_not_le (fun z => c155 ((nI_leI (by omega) (by omega)).mpr z))⟩
            have htz : tsz S Le n W (i + 1) = (tmv S Le n W i, szo i 8) := if_pos hbt
            refine g_istore (lv' := [(6, .int 1), (5, .int (nI (tmv S Le n W i))), (4, .int 1), (3, .int (nI i)), (2, .int (nI W)), (0, .ref (bd 0))]) X d_MO_plan_163 (by decide) rfl ?_
            refine g_aload_n X d_MO_plan_165 5 rfl ?_
            refine g_iload X d_MO_plan_166 0 rfl ?_
            refine g_if_eq X 176 d_MO_plan_168 (by decide) (fun c168 => ?_) (fun c168 => ?_)
            · skip
              exact absurd c168 (by decide)
            · skip
              skip
              refine g_iload X d_MO_plan_171 1 rfl ?_
              refine g_goto X 180 d_MO_plan_173 (by decide) ?_
              refine g_put (ci := 5) (C := R_MO) (T := F_MO) (N := 20) (ty := .int) (fs2 := [.int 0, .int (nI L), .int (nI nc), .ref (bd 1), .ref (bd 2), .int (nI n), .ref (bd 3), .ref (bd 4), .ref (bd 5), .ref (bd 6), .ref (bd 7), .ref (bd 8), .ref (bd 9), .ref (bd 10), .ref (bd 11), .int (nI (tsz S Le n W i).2), .int (nI (tmv S Le n W i)), .ref (bd 12), .ref (bd 13), .ref (bd 14)]) X i_MO t_MO t_MO_ok n_MO rfl w0 16 (by decide) q_613 (fun _ h9 => h9) rfl (by decide +kernel) rfl rfl (Nat.le_of_ble_eq_true rfl) rfl d_MO_plan_180 ?_
              generalize ef_21 : g_u (m_th f bd 0 L nc n (tsz S Le n W i).2 (tsz S Le n W i).1) (bd 0) (.inr (5, [.int 0, .int (nI L), .int (nI nc), .ref (bd 1), .ref (bd 2), .int (nI n), .ref (bd 3), .ref (bd 4), .ref (bd 5), .ref (bd 6), .ref (bd 7), .ref (bd 8), .ref (bd 9), .ref (bd 10), .ref (bd 11), .int (nI (tsz S Le n W i).2), .int (nI (tmv S Le n W i)), .ref (bd 12), .ref (bd 13), .ref (bd 14)])) = f_21
              have h_22 : f_21 (bd 0) = some (.inr (5, [.int 0, .int (nI L), .int (nI nc), .ref (bd 1), .ref (bd 2), .int (nI n), .ref (bd 3), .ref (bd 4), .ref (bd 5), .ref (bd 6), .ref (bd 7), .ref (bd 8), .ref (bd 9), .ref (bd 10), .ref (bd 11), .int (nI (tsz S Le n W i).2), .int (nI (tmv S Le n W i)), .ref (bd 12), .ref (bd 13), .ref (bd 14)])) := by rw [← ef_21]; exact g_u_s
              refine g_aload_n X d_MO_plan_183 5 rfl ?_
              refine g_iload X d_MO_plan_184 0 rfl ?_
              refine g_if_eq X 196 d_MO_plan_186 (by decide) (fun c186 => ?_) (fun c186 => ?_)
              · skip
                exact absurd c186 (by decide)
              · skip
                skip
                refine g_iload_n X d_MO_plan_189 3 rfl ?_
                refine g_callS (As := [.int (nI i)]) (rest := [.ref (bd 0)]) X (z_ok eA eM) (c_MO_sizeOf (f := f_21) (acts := i) (by omega)) v_MO_sizeOf q_774 q_773 rfl rfl (Nat.le_of_ble_eq_true rfl) d_MO_plan_190 ⟨(Nat.le_of_ble_eq_true rfl), (Nat.le_of_ble_eq_true rfl)⟩ ⟨(Nat.le_of_ble_eq_true rfl), (Nat.le_of_ble_eq_true rfl)⟩ (g_K.no (fun _ h => h)) (fun r_ f2_ hp => ?_)
                obtain ⟨rfl, hf_⟩ := hp
                subst f2_
                refine g_st (st2 := [.int (nI (szo i 8)), .ref (bd 0)]) rfl ?_
                refine g_goto X 200 d_MO_plan_193 (by decide) ?_
                refine g_put (ci := 5) (C := R_MO) (T := F_MO) (N := 20) (ty := .int) (fs2 := [.int 0, .int (nI L), .int (nI nc), .ref (bd 1), .ref (bd 2), .int (nI n), .ref (bd 3), .ref (bd 4), .ref (bd 5), .ref (bd 6), .ref (bd 7), .ref (bd 8), .ref (bd 9), .ref (bd 10), .ref (bd 11), .int (nI (szo i 8)), .int (nI (tmv S Le n W i)), .ref (bd 12), .ref (bd 13), .ref (bd 14)]) X i_MO t_MO t_MO_ok n_MO rfl h_22 15 (by decide) q_612 (fun _ h9 => h9) rfl (by decide +kernel) rfl rfl (Nat.le_of_ble_eq_true rfl) rfl d_MO_plan_200 ?_
                generalize ef_23 : g_u f_21 (bd 0) (.inr (5, [.int 0, .int (nI L), .int (nI nc), .ref (bd 1), .ref (bd 2), .int (nI n), .ref (bd 3), .ref (bd 4), .ref (bd 5), .ref (bd 6), .ref (bd 7), .ref (bd 8), .ref (bd 9), .ref (bd 10), .ref (bd 11), .int (nI (szo i 8)), .int (nI (tmv S Le n W i)), .ref (bd 12), .ref (bd 13), .ref (bd 14)])) = f_23
                have h_24 : f_23 (bd 0) = some (.inr (5, [.int 0, .int (nI L), .int (nI nc), .ref (bd 1), .ref (bd 2), .int (nI n), .ref (bd 3), .ref (bd 4), .ref (bd 5), .ref (bd 6), .ref (bd 7), .ref (bd 8), .ref (bd 9), .ref (bd 10), .ref (bd 11), .int (nI (szo i 8)), .int (nI (tmv S Le n W i)), .ref (bd 12), .ref (bd 13), .ref (bd 14)])) := by rw [← ef_23]; exact g_u_s
                refine g_iinc (lv' := [(3, .int (nI (i + 1))), (6, .int 1), (5, .int (nI (tmv S Le n W i))), (4, .int 1), (2, .int (nI W)), (0, .ref (bd 0))]) X d_MO_plan_203 3 rfl (nI_1 i) (by decide) rfl ?_
                refine g_goto X 77 d_MO_plan_206 (by decide) ?_
                refine g_eqf (f2 := (m_th f bd 0 L nc n (tsz S Le n W (i + 1)).2 (tsz S Le n W (i + 1)).1)) (by rw [← ef_23, ← ef_21]; show g_u (g_u (g_u f (bd 0) _) (bd 0) _) (bd 0) _ = g_u f (bd 0) _; rw [g_u_u, g_u_u, htz]) ?_
                exact g_lv [0, 4, 5] rfl (ih (d - 1) (by omega) (i + 1) (by omega))
          · skip
            refine g_iload X d_MO_plan_131 0 rfl ?_
            refine g_aload_n X d_MO_plan_133 4 rfl ?_
            refine g_get (ci := 5) (C := R_MO) (T := F_MO) (N := 20) (v := .int (nI (tsz S Le n W i).1)) X i_MO rfl w0 16 (by decide) q_613 (fun _ h9 => h9) rfl d_MO_plan_134 ?_
            refine g_icmp_ne X 162 d_MO_plan_137 (by decide) (fun c137 => ?_) (fun c137 => ?_)
            · skip
              refine g_iconst (v := 0) X d_MO_plan_162 (by decide) ?_
              have hbt : ¬ (tmv S Le n W i < (tsz S Le n W i).1 ∨ (tmv S Le n W i = (tsz S Le n W i).1 ∧ tmv S Le n W i < 1000000000 ∧ szo i 8 < (tsz S Le n W i).2)) := by
                intro z
                rcases z with z | ⟨z1, z2, z3⟩
                · exact c128 ((nI_ltI (by omega) (by omega)).mpr z)
                · first | exact c137 (by rw [z1]) | exact absurd z2 (Nat.not_lt.mpr ((nI_leI (a := 1000000000) (by decide) (by omega)).mp c144)) | exact absurd z3 (Nat.not_lt.mpr ((nI_leI (by omega) (by omega)).mp c155))
              have htz : tsz S Le n W (i + 1) = tsz S Le n W i := if_neg hbt
              refine g_istore (lv' := [(6, .int 0), (5, .int (nI (tmv S Le n W i))), (4, .int 1), (3, .int (nI i)), (2, .int (nI W)), (0, .ref (bd 0))]) X d_MO_plan_163 (by decide) rfl ?_
              refine g_aload_n X d_MO_plan_165 5 rfl ?_
              refine g_iload X d_MO_plan_166 0 rfl ?_
              refine g_if_eq X 176 d_MO_plan_168 (by decide) (fun c168 => ?_) (fun c168 => ?_)
              · skip
                skip
                refine g_aload_n X d_MO_plan_176 5 rfl ?_
                refine g_get (ci := 5) (C := R_MO) (T := F_MO) (N := 20) (v := .int (nI (tsz S Le n W i).1)) X i_MO rfl w0 16 (by decide) q_613 (fun _ h9 => h9) rfl d_MO_plan_177 ?_
                refine g_put (ci := 5) (C := R_MO) (T := F_MO) (N := 20) (ty := .int) (fs2 := [.int 0, .int (nI L), .int (nI nc), .ref (bd 1), .ref (bd 2), .int (nI n), .ref (bd 3), .ref (bd 4), .ref (bd 5), .ref (bd 6), .ref (bd 7), .ref (bd 8), .ref (bd 9), .ref (bd 10), .ref (bd 11), .int (nI (tsz S Le n W i).2), .int (nI (tsz S Le n W i).1), .ref (bd 12), .ref (bd 13), .ref (bd 14)]) X i_MO t_MO t_MO_ok n_MO rfl w0 16 (by decide) q_613 (fun _ h9 => h9) rfl (by decide +kernel) rfl rfl (Nat.le_of_ble_eq_true rfl) rfl d_MO_plan_180 ?_
                generalize ef_25 : g_u (m_th f bd 0 L nc n (tsz S Le n W i).2 (tsz S Le n W i).1) (bd 0) (.inr (5, [.int 0, .int (nI L), .int (nI nc), .ref (bd 1), .ref (bd 2), .int (nI n), .ref (bd 3), .ref (bd 4), .ref (bd 5), .ref (bd 6), .ref (bd 7), .ref (bd 8), .ref (bd 9), .ref (bd 10), .ref (bd 11), .int (nI (tsz S Le n W i).2), .int (nI (tsz S Le n W i).1), .ref (bd 12), .ref (bd 13), .ref (bd 14)])) = f_25
                have h_26 : f_25 (bd 0) = some (.inr (5, [.int 0, .int (nI L), .int (nI nc), .ref (bd 1), .ref (bd 2), .int (nI n), .ref (bd 3), .ref (bd 4), .ref (bd 5), .ref (bd 6), .ref (bd 7), .ref (bd 8), .ref (bd 9), .ref (bd 10), .ref (bd 11), .int (nI (tsz S Le n W i).2), .int (nI (tsz S Le n W i).1), .ref (bd 12), .ref (bd 13), .ref (bd 14)])) := by rw [← ef_25]; exact g_u_s
                refine g_aload_n X d_MO_plan_183 5 rfl ?_
                refine g_iload X d_MO_plan_184 0 rfl ?_
                refine g_if_eq X 196 d_MO_plan_186 (by decide) (fun c186 => ?_) (fun c186 => ?_)
                · skip
                  skip
                  refine g_aload_n X d_MO_plan_196 5 rfl ?_
                  refine g_get (ci := 5) (C := R_MO) (T := F_MO) (N := 20) (v := .int (nI (tsz S Le n W i).2)) X i_MO rfl h_26 15 (by decide) q_612 (fun _ h9 => h9) rfl d_MO_plan_197 ?_
                  refine g_put (ci := 5) (C := R_MO) (T := F_MO) (N := 20) (ty := .int) (fs2 := [.int 0, .int (nI L), .int (nI nc), .ref (bd 1), .ref (bd 2), .int (nI n), .ref (bd 3), .ref (bd 4), .ref (bd 5), .ref (bd 6), .ref (bd 7), .ref (bd 8), .ref (bd 9), .ref (bd 10), .ref (bd 11), .int (nI (tsz S Le n W i).2), .int (nI (tsz S Le n W i).1), .ref (bd 12), .ref (bd 13), .ref (bd 14)]) X i_MO t_MO t_MO_ok n_MO rfl h_26 15 (by decide) q_612 (fun _ h9 => h9) rfl (by decide +kernel) rfl rfl (Nat.le_of_ble_eq_true rfl) rfl d_MO_plan_200 ?_
                  generalize ef_27 : g_u f_25 (bd 0) (.inr (5, [.int 0, .int (nI L), .int (nI nc), .ref (bd 1), .ref (bd 2), .int (nI n), .ref (bd 3), .ref (bd 4), .ref (bd 5), .ref (bd 6), .ref (bd 7), .ref (bd 8), .ref (bd 9), .ref (bd 10), .ref (bd 11), .int (nI (tsz S Le n W i).2), .int (nI (tsz S Le n W i).1), .ref (bd 12), .ref (bd 13), .ref (bd 14)])) = f_27
                  have h_28 : f_27 (bd 0) = some (.inr (5, [.int 0, .int (nI L), .int (nI nc), .ref (bd 1), .ref (bd 2), .int (nI n), .ref (bd 3), .ref (bd 4), .ref (bd 5), .ref (bd 6), .ref (bd 7), .ref (bd 8), .ref (bd 9), .ref (bd 10), .ref (bd 11), .int (nI (tsz S Le n W i).2), .int (nI (tsz S Le n W i).1), .ref (bd 12), .ref (bd 13), .ref (bd 14)])) := by rw [← ef_27]; exact g_u_s
                  refine g_iinc (lv' := [(3, .int (nI (i + 1))), (6, .int 0), (5, .int (nI (tmv S Le n W i))), (4, .int 1), (2, .int (nI W)), (0, .ref (bd 0))]) X d_MO_plan_203 3 rfl (nI_1 i) (by decide) rfl ?_
                  refine g_goto X 77 d_MO_plan_206 (by decide) ?_
                  refine g_eqf (f2 := (m_th f bd 0 L nc n (tsz S Le n W (i + 1)).2 (tsz S Le n W (i + 1)).1)) (by rw [← ef_27, ← ef_25]; show g_u (g_u (g_u f (bd 0) _) (bd 0) _) (bd 0) _ = g_u f (bd 0) _; rw [g_u_u, g_u_u, htz]) ?_
                  exact g_lv [0, 4, 5] rfl (ih (d - 1) (by omega) (i + 1) (by omega))
                · skip
                  exact absurd rfl c186
              · skip
                exact absurd rfl c168
            · skip
              refine g_iload X d_MO_plan_140 0 rfl ?_
              refine g_ldc (v := 1000000000) X q_745 d_MO_plan_142 ?_
              refine g_eqi (y := 1000000000) (rfl) ?_
              refine g_icmp_ge X 162 d_MO_plan_144 (by decide) (fun c144 => ?_) (fun c144 => ?_)
              · skip
                refine g_iconst (v := 0) X d_MO_plan_162 (by decide) ?_
                have hbt : ¬ (tmv S Le n W i < (tsz S Le n W i).1 ∨ (tmv S Le n W i = (tsz S Le n W i).1 ∧ tmv S Le n W i < 1000000000 ∧ szo i 8 < (tsz S Le n W i).2)) := by
                  intro z
                  rcases z with z | ⟨z1, z2, z3⟩
                  · exact c128 ((nI_ltI (by omega) (by omega)).mpr z)
                  · first | exact c137 (by rw [z1]) | exact absurd z2 (Nat.not_lt.mpr ((nI_leI (a := 1000000000) (by decide) (by omega)).mp c144)) | exact absurd z3 (Nat.not_lt.mpr ((nI_leI (by omega) (by omega)).mp c155))
                have htz : tsz S Le n W (i + 1) = tsz S Le n W i := if_neg hbt
                refine g_istore (lv' := [(6, .int 0), (5, .int (nI (tmv S Le n W i))), (4, .int 1), (3, .int (nI i)), (2, .int (nI W)), (0, .ref (bd 0))]) X d_MO_plan_163 (by decide) rfl ?_
                refine g_aload_n X d_MO_plan_165 5 rfl ?_
                refine g_iload X d_MO_plan_166 0 rfl ?_
                refine g_if_eq X 176 d_MO_plan_168 (by decide) (fun c168 => ?_) (fun c168 => ?_)
                · skip
                  skip
                  refine g_aload_n X d_MO_plan_176 5 rfl ?_
                  refine g_get (ci := 5) (C := R_MO) (T := F_MO) (N := 20) (v := .int (nI (tsz S Le n W i).1)) X i_MO rfl w0 16 (by decide) q_613 (fun _ h9 => h9) rfl d_MO_plan_177 ?_
                  refine g_put (ci := 5) (C := R_MO) (T := F_MO) (N := 20) (ty := .int) (fs2 := [.int 0, .int (nI L), .int (nI nc), .ref (bd 1), .ref (bd 2), .int (nI n), .ref (bd 3), .ref (bd 4), .ref (bd 5), .ref (bd 6), .ref (bd 7), .ref (bd 8), .ref (bd 9), .ref (bd 10), .ref (bd 11), .int (nI (tsz S Le n W i).2), .int (nI (tsz S Le n W i).1), .ref (bd 12), .ref (bd 13), .ref (bd 14)]) X i_MO t_MO t_MO_ok n_MO rfl w0 16 (by decide) q_613 (fun _ h9 => h9) rfl (by decide +kernel) rfl rfl (Nat.le_of_ble_eq_true rfl) rfl d_MO_plan_180 ?_
                  generalize ef_29 : g_u (m_th f bd 0 L nc n (tsz S Le n W i).2 (tsz S Le n W i).1) (bd 0) (.inr (5, [.int 0, .int (nI L), .int (nI nc), .ref (bd 1), .ref (bd 2), .int (nI n), .ref (bd 3), .ref (bd 4), .ref (bd 5), .ref (bd 6), .ref (bd 7), .ref (bd 8), .ref (bd 9), .ref (bd 10), .ref (bd 11), .int (nI (tsz S Le n W i).2), .int (nI (tsz S Le n W i).1), .ref (bd 12), .ref (bd 13), .ref (bd 14)])) = f_29
                  have h_30 : f_29 (bd 0) = some (.inr (5, [.int 0, .int (nI L), .int (nI nc), .ref (bd 1), .ref (bd 2), .int (nI n), .ref (bd 3), .ref (bd 4), .ref (bd 5), .ref (bd 6), .ref (bd 7), .ref (bd 8), .ref (bd 9), .ref (bd 10), .ref (bd 11), .int (nI (tsz S Le n W i).2), .int (nI (tsz S Le n W i).1), .ref (bd 12), .ref (bd 13), .ref (bd 14)])) := by rw [← ef_29]; exact g_u_s
                  refine g_aload_n X d_MO_plan_183 5 rfl ?_
                  refine g_iload X d_MO_plan_184 0 rfl ?_
                  refine g_if_eq X 196 d_MO_plan_186 (by decide) (fun c186 => ?_) (fun c186 => ?_)
                  · skip
                    skip
                    refine g_aload_n X d_MO_plan_196 5 rfl ?_
                    refine g_get (ci := 5) (C := R_MO) (T := F_MO) (N := 20) (v := .int (nI (tsz S Le n W i).2)) X i_MO rfl h_30 15 (by decide) q_612 (fun _ h9 => h9) rfl d_MO_plan_197 ?_
                    refine g_put (ci := 5) (C := R_MO) (T := F_MO) (N := 20) (ty := .int) (fs2 := [.int 0, .int (nI L), .int (nI nc), .ref (bd 1), .ref (bd 2), .int (nI n), .ref (bd 3), .ref (bd 4), .ref (bd 5), .ref (bd 6), .ref (bd 7), .ref (bd 8), .ref (bd 9), .ref (bd 10), .ref (bd 11), .int (nI (tsz S Le n W i).2), .int (nI (tsz S Le n W i).1), .ref (bd 12), .ref (bd 13), .ref (bd 14)]) X i_MO t_MO t_MO_ok n_MO rfl h_30 15 (by decide) q_612 (fun _ h9 => h9) rfl (by decide +kernel) rfl rfl (Nat.le_of_ble_eq_true rfl) rfl d_MO_plan_200 ?_
                    generalize ef_31 : g_u f_29 (bd 0) (.inr (5, [.int 0, .int (nI L), .int (nI nc), .ref (bd 1), .ref (bd 2), .int (nI n), .ref (bd 3), .ref (bd 4), .ref (bd 5), .ref (bd 6), .ref (bd 7), .ref (bd 8), .ref (bd 9), .ref (bd 10), .ref (bd 11), .int (nI (tsz S Le n W i).2), .int (nI (tsz S Le n W i).1), .ref (bd 12), .ref (bd 13), .ref (bd 14)])) = f_31
                    have h_32 : f_31 (bd 0) = some (.inr (5, [.int 0, .int (nI L), .int (nI nc), .ref (bd 1), .ref (bd 2), .int (nI n), .ref (bd 3), .ref (bd 4), .ref (bd 5), .ref (bd 6), .ref (bd 7), .ref (bd 8), .ref (bd 9), .ref (bd 10), .ref (bd 11), .int (nI (tsz S Le n W i).2), .int (nI (tsz S Le n W i).1), .ref (bd 12), .ref (bd 13), .ref (bd 14)])) := by rw [← ef_31]; exact g_u_s
                    refine g_iinc (lv' := [(3, .int (nI (i + 1))), (6, .int 0), (5, .int (nI (tmv S Le n W i))), (4, .int 1), (2, .int (nI W)), (0, .ref (bd 0))]) X d_MO_plan_203 3 rfl (nI_1 i) (by decide) rfl ?_
                    refine g_goto X 77 d_MO_plan_206 (by decide) ?_
                    refine g_eqf (f2 := (m_th f bd 0 L nc n (tsz S Le n W (i + 1)).2 (tsz S Le n W (i + 1)).1)) (by rw [← ef_31, ← ef_29]; show g_u (g_u (g_u f (bd 0) _) (bd 0) _) (bd 0) _ = g_u f (bd 0) _; rw [g_u_u, g_u_u, htz]) ?_
                    exact g_lv [0, 4, 5] rfl (ih (d - 1) (by omega) (i + 1) (by omega))
                  · skip
                    exact absurd rfl c186
                · skip
                  exact absurd rfl c168
              · skip
                refine g_iload_n X d_MO_plan_147 2 rfl ?_
                refine g_callS (As := [.int (nI i)]) (rest := []) X (z_ok eA eM) (c_MO_sizeOf (f := (m_th f bd 0 L nc n (tsz S Le n W i).2 (tsz S Le n W i).1)) (acts := i) (by omega)) v_MO_sizeOf q_774 q_773 rfl rfl (Nat.le_of_ble_eq_true rfl) d_MO_plan_148 ⟨(Nat.le_of_ble_eq_true rfl), (Nat.le_of_ble_eq_true rfl)⟩ ⟨(Nat.le_of_ble_eq_true rfl), (Nat.le_of_ble_eq_true rfl)⟩ (g_K.no (fun _ h => h)) (fun r_ f2_ hp => ?_)
                obtain ⟨rfl, hf_⟩ := hp
                subst f2_
                refine g_st (st2 := [.int (nI (szo i 8))]) rfl ?_
                refine g_aload_n X d_MO_plan_151 4 rfl ?_
                refine g_get (ci := 5) (C := R_MO) (T := F_MO) (N := 20) (v := .int (nI (tsz S Le n W i).2)) X i_MO rfl w0 15 (by decide) q_612 (fun _ h9 => h9) rfl d_MO_plan_152 ?_
                refine g_icmp_ge X 162 d_MO_plan_155 (by decide) (fun c155 => ?_) (fun c155 => ?_)
                · skip
                  refine g_iconst (v := 0) X d_MO_plan_162 (by decide) ?_
                  have hbt : ¬ (tmv S Le n W i < (tsz S Le n W i).1 ∨ (tmv S Le n W i = (tsz S Le n W i).1 ∧ tmv S Le n W i < 1000000000 ∧ szo i 8 < (tsz S Le n W i).2)) := by
                    intro z
                    rcases z with z | ⟨z1, z2, z3⟩
                    · exact c128 ((nI_ltI (by omega) (by omega)).mpr z)
                    · first | exact c137 (by rw [z1]) | exact absurd z2 (Nat.not_lt.mpr ((nI_leI (a := 1000000000) (by decide) (by omega)).mp c144)) | exact absurd z3 (Nat.not_lt.mpr ((nI_leI (by omega) (by omega)).mp c155))
                  have htz : tsz S Le n W (i + 1) = tsz S Le n W i := if_neg hbt
                  refine g_istore (lv' := [(6, .int 0), (5, .int (nI (tmv S Le n W i))), (4, .int 1), (3, .int (nI i)), (2, .int (nI W)), (0, .ref (bd 0))]) X d_MO_plan_163 (by decide) rfl ?_
                  refine g_aload_n X d_MO_plan_165 5 rfl ?_
                  refine g_iload X d_MO_plan_166 0 rfl ?_
                  refine g_if_eq X 176 d_MO_plan_168 (by decide) (fun c168 => ?_) (fun c168 => ?_)
                  · skip
                    skip
                    refine g_aload_n X d_MO_plan_176 5 rfl ?_
                    refine g_get (ci := 5) (C := R_MO) (T := F_MO) (N := 20) (v := .int (nI (tsz S Le n W i).1)) X i_MO rfl w0 16 (by decide) q_613 (fun _ h9 => h9) rfl d_MO_plan_177 ?_
                    refine g_put (ci := 5) (C := R_MO) (T := F_MO) (N := 20) (ty := .int) (fs2 := [.int 0, .int (nI L), .int (nI nc), .ref (bd 1), .ref (bd 2), .int (nI n), .ref (bd 3), .ref (bd 4), .ref (bd 5), .ref (bd 6), .ref (bd 7), .ref (bd 8), .ref (bd 9), .ref (bd 10), .ref (bd 11), .int (nI (tsz S Le n W i).2), .int (nI (tsz S Le n W i).1), .ref (bd 12), .ref (bd 13), .ref (bd 14)]) X i_MO t_MO t_MO_ok n_MO rfl w0 16 (by decide) q_613 (fun _ h9 => h9) rfl (by decide +kernel) rfl rfl (Nat.le_of_ble_eq_true rfl) rfl d_MO_plan_180 ?_
                    generalize ef_33 : g_u (m_th f bd 0 L nc n (tsz S Le n W i).2 (tsz S Le n W i).1) (bd 0) (.inr (5, [.int 0, .int (nI L), .int (nI nc), .ref (bd 1), .ref (bd 2), .int (nI n), .ref (bd 3), .ref (bd 4), .ref (bd 5), .ref (bd 6), .ref (bd 7), .ref (bd 8), .ref (bd 9), .ref (bd 10), .ref (bd 11), .int (nI (tsz S Le n W i).2), .int (nI (tsz S Le n W i).1), .ref (bd 12), .ref (bd 13), .ref (bd 14)])) = f_33
                    have h_34 : f_33 (bd 0) = some (.inr (5, [.int 0, .int (nI L), .int (nI nc), .ref (bd 1), .ref (bd 2), .int (nI n), .ref (bd 3), .ref (bd 4), .ref (bd 5), .ref (bd 6), .ref (bd 7), .ref (bd 8), .ref (bd 9), .ref (bd 10), .ref (bd 11), .int (nI (tsz S Le n W i).2), .int (nI (tsz S Le n W i).1), .ref (bd 12), .ref (bd 13), .ref (bd 14)])) := by rw [← ef_33]; exact g_u_s
                    refine g_aload_n X d_MO_plan_183 5 rfl ?_
                    refine g_iload X d_MO_plan_184 0 rfl ?_
                    refine g_if_eq X 196 d_MO_plan_186 (by decide) (fun c186 => ?_) (fun c186 => ?_)
                    · skip
                      skip
                      refine g_aload_n X d_MO_plan_196 5 rfl ?_
                      refine g_get (ci := 5) (C := R_MO) (T := F_MO) (N := 20) (v := .int (nI (tsz S Le n W i).2)) X i_MO rfl h_34 15 (by decide) q_612 (fun _ h9 => h9) rfl d_MO_plan_197 ?_
                      refine g_put (ci := 5) (C := R_MO) (T := F_MO) (N := 20) (ty := .int) (fs2 := [.int 0, .int (nI L), .int (nI nc), .ref (bd 1), .ref (bd 2), .int (nI n), .ref (bd 3), .ref (bd 4), .ref (bd 5), .ref (bd 6), .ref (bd 7), .ref (bd 8), .ref (bd 9), .ref (bd 10), .ref (bd 11), .int (nI (tsz S Le n W i).2), .int (nI (tsz S Le n W i).1), .ref (bd 12), .ref (bd 13), .ref (bd 14)]) X i_MO t_MO t_MO_ok n_MO rfl h_34 15 (by decide) q_612 (fun _ h9 => h9) rfl (by decide +kernel) rfl rfl (Nat.le_of_ble_eq_true rfl) rfl d_MO_plan_200 ?_
                      generalize ef_35 : g_u f_33 (bd 0) (.inr (5, [.int 0, .int (nI L), .int (nI nc), .ref (bd 1), .ref (bd 2), .int (nI n), .ref (bd 3), .ref (bd 4), .ref (bd 5), .ref (bd 6), .ref (bd 7), .ref (bd 8), .ref (bd 9), .ref (bd 10), .ref (bd 11), .int (nI (tsz S Le n W i).2), .int (nI (tsz S Le n W i).1), .ref (bd 12), .ref (bd 13), .ref (bd 14)])) = f_35
                      have h_36 : f_35 (bd 0) = some (.inr (5, [.int 0, .int (nI L), .int (nI nc), .ref (bd 1), .ref (bd 2), .int (nI n), .ref (bd 3), .ref (bd 4), .ref (bd 5), .ref (bd 6), .ref (bd 7), .ref (bd 8), .ref (bd 9), .ref (bd 10), .ref (bd 11), .int (nI (tsz S Le n W i).2), .int (nI (tsz S Le n W i).1), .ref (bd 12), .ref (bd 13), .ref (bd 14)])) := by rw [← ef_35]; exact g_u_s
                      refine g_iinc (lv' := [(3, .int (nI (i + 1))), (6, .int 0), (5, .int (nI (tmv S Le n W i))), (4, .int 1), (2, .int (nI W)), (0, .ref (bd 0))]) X d_MO_plan_203 3 rfl (nI_1 i) (by decide) rfl ?_
                      refine g_goto X 77 d_MO_plan_206 (by decide) ?_
                      refine g_eqf (f2 := (m_th f bd 0 L nc n (tsz S Le n W (i + 1)).2 (tsz S Le n W (i + 1)).1)) (by rw [← ef_35, ← ef_33]; show g_u (g_u (g_u f (bd 0) _) (bd 0) _) (bd 0) _ = g_u f (bd 0) _; rw [g_u_u, g_u_u, htz]) ?_
                      exact g_lv [0, 4, 5] rfl (ih (d - 1) (by omega) (i + 1) (by omega))
                    · skip
                      exact absurd rfl c186
                  · skip
                    exact absurd rfl c168
                · skip
                  refine g_iconst (v := 1) X d_MO_plan_158 (by decide) ?_
                  refine g_goto X 163 d_MO_plan_159 (by decide) ?_
                  have hbt : (tmv S Le n W i < (tsz S Le n W i).1 ∨ (tmv S Le n W i = (tsz S Le n W i).1 ∧ tmv S Le n W i < 1000000000 ∧ szo i 8 < (tsz S Le n W i).2)) := by first | exact Or.inl ((nI_ltI (by omega) (by omega)).mp c128) | exact Or.inr ⟨(nI_eq (by omega) (by omega)).mp c137, Nat.lt_of_not_le (fun z => c144 ((nI_leI (a := 1000000000) (by decide) (by omega)).mpr z)), Nat.lt_of_not_le (fun z => c155 ((nI_leI (by omega) (by omega)).mpr z))⟩
                  have htz : tsz S Le n W (i + 1) = (tmv S Le n W i, szo i 8) := if_pos hbt
                  refine g_istore (lv' := [(6, .int 1), (5, .int (nI (tmv S Le n W i))), (4, .int 1), (3, .int (nI i)), (2, .int (nI W)), (0, .ref (bd 0))]) X d_MO_plan_163 (by decide) rfl ?_
                  refine g_aload_n X d_MO_plan_165 5 rfl ?_
                  refine g_iload X d_MO_plan_166 0 rfl ?_
                  refine g_if_eq X 176 d_MO_plan_168 (by decide) (fun c168 => ?_) (fun c168 => ?_)
                  · skip
                    exact absurd c168 (by decide)
                  · skip
                    skip
                    refine g_iload X d_MO_plan_171 1 rfl ?_
                    refine g_goto X 180 d_MO_plan_173 (by decide) ?_
                    refine g_put (ci := 5) (C := R_MO) (T := F_MO) (N := 20) (ty := .int) (fs2 := [.int 0, .int (nI L), .int (nI nc), .ref (bd 1), .ref (bd 2), .int (nI n), .ref (bd 3), .ref (bd 4), .ref (bd 5), .ref (bd 6), .ref (bd 7), .ref (bd 8), .ref (bd 9), .ref (bd 10), .ref (bd 11), .int (nI (tsz S Le n W i).2), .int (nI (tmv S Le n W i)), .ref (bd 12), .ref (bd 13), .ref (bd 14)]) X i_MO t_MO t_MO_ok n_MO rfl w0 16 (by decide) q_613 (fun _ h9 => h9) rfl (by decide +kernel) rfl rfl (Nat.le_of_ble_eq_true rfl) rfl d_MO_plan_180 ?_
                    generalize ef_37 : g_u (m_th f bd 0 L nc n (tsz S Le n W i).2 (tsz S Le n W i).1) (bd 0) (.inr (5, [.int 0, .int (nI L), .int (nI nc), .ref (bd 1), .ref (bd 2), .int (nI n), .ref (bd 3), .ref (bd 4), .ref (bd 5), .ref (bd 6), .ref (bd 7), .ref (bd 8), .ref (bd 9), .ref (bd 10), .ref (bd 11), .int (nI (tsz S Le n W i).2), .int (nI (tmv S Le n W i)), .ref (bd 12), .ref (bd 13), .ref (bd 14)])) = f_37
                    have h_38 : f_37 (bd 0) = some (.inr (5, [.int 0, .int (nI L), .int (nI nc), .ref (bd 1), .ref (bd 2), .int (nI n), .ref (bd 3), .ref (bd 4), .ref (bd 5), .ref (bd 6), .ref (bd 7), .ref (bd 8), .ref (bd 9), .ref (bd 10), .ref (bd 11), .int (nI (tsz S Le n W i).2), .int (nI (tmv S Le n W i)), .ref (bd 12), .ref (bd 13), .ref (bd 14)])) := by rw [← ef_37]; exact g_u_s
                    refine g_aload_n X d_MO_plan_183 5 rfl ?_
                    refine g_iload X d_MO_plan_184 0 rfl ?_
                    refine g_if_eq X 196 d_MO_plan_186 (by decide) (fun c186 => ?_) (fun c186 => ?_)
                    · skip
                      exact absurd c186 (by decide)
                    · skip
                      skip
                      refine g_iload_n X d_MO_plan_189 3 rfl ?_
                      refine g_callS (As := [.int (nI i)]) (rest := [.ref (bd 0)]) X (z_ok eA eM) (c_MO_sizeOf (f := f_37) (acts := i) (by omega)) v_MO_sizeOf q_774 q_773 rfl rfl (Nat.le_of_ble_eq_true rfl) d_MO_plan_190 ⟨(Nat.le_of_ble_eq_true rfl), (Nat.le_of_ble_eq_true rfl)⟩ ⟨(Nat.le_of_ble_eq_true rfl), (Nat.le_of_ble_eq_true rfl)⟩ (g_K.no (fun _ h => h)) (fun r_ f2_ hp => ?_)
                      obtain ⟨rfl, hf_⟩ := hp
                      subst f2_
                      refine g_st (st2 := [.int (nI (szo i 8)), .ref (bd 0)]) rfl ?_
                      refine g_goto X 200 d_MO_plan_193 (by decide) ?_
                      refine g_put (ci := 5) (C := R_MO) (T := F_MO) (N := 20) (ty := .int) (fs2 := [.int 0, .int (nI L), .int (nI nc), .ref (bd 1), .ref (bd 2), .int (nI n), .ref (bd 3), .ref (bd 4), .ref (bd 5), .ref (bd 6), .ref (bd 7), .ref (bd 8), .ref (bd 9), .ref (bd 10), .ref (bd 11), .int (nI (szo i 8)), .int (nI (tmv S Le n W i)), .ref (bd 12), .ref (bd 13), .ref (bd 14)]) X i_MO t_MO t_MO_ok n_MO rfl h_38 15 (by decide) q_612 (fun _ h9 => h9) rfl (by decide +kernel) rfl rfl (Nat.le_of_ble_eq_true rfl) rfl d_MO_plan_200 ?_
                      generalize ef_39 : g_u f_37 (bd 0) (.inr (5, [.int 0, .int (nI L), .int (nI nc), .ref (bd 1), .ref (bd 2), .int (nI n), .ref (bd 3), .ref (bd 4), .ref (bd 5), .ref (bd 6), .ref (bd 7), .ref (bd 8), .ref (bd 9), .ref (bd 10), .ref (bd 11), .int (nI (szo i 8)), .int (nI (tmv S Le n W i)), .ref (bd 12), .ref (bd 13), .ref (bd 14)])) = f_39
                      have h_40 : f_39 (bd 0) = some (.inr (5, [.int 0, .int (nI L), .int (nI nc), .ref (bd 1), .ref (bd 2), .int (nI n), .ref (bd 3), .ref (bd 4), .ref (bd 5), .ref (bd 6), .ref (bd 7), .ref (bd 8), .ref (bd 9), .ref (bd 10), .ref (bd 11), .int (nI (szo i 8)), .int (nI (tmv S Le n W i)), .ref (bd 12), .ref (bd 13), .ref (bd 14)])) := by rw [← ef_39]; exact g_u_s
                      refine g_iinc (lv' := [(3, .int (nI (i + 1))), (6, .int 1), (5, .int (nI (tmv S Le n W i))), (4, .int 1), (2, .int (nI W)), (0, .ref (bd 0))]) X d_MO_plan_203 3 rfl (nI_1 i) (by decide) rfl ?_
                      refine g_goto X 77 d_MO_plan_206 (by decide) ?_
                      refine g_eqf (f2 := (m_th f bd 0 L nc n (tsz S Le n W (i + 1)).2 (tsz S Le n W (i + 1)).1)) (by rw [← ef_39, ← ef_37]; show g_u (g_u (g_u f (bd 0) _) (bd 0) _) (bd 0) _ = g_u f (bd 0) _; rw [g_u_u, g_u_u, htz]) ?_
                      exact g_lv [0, 4, 5] rfl (ih (d - 1) (by omega) (i + 1) (by omega))
set_option maxHeartbeats 4000000 in
set_option maxRecDepth 100000 in
theorem L_MO_planS {p : Program} {l : Launch} {e : Env} {s : State} {m : MethodId} {args : Array Value} {below : List Frame} {meth : Method} {c : Code} {Q : State → Prop} {A : Nat → Prop} {D : va_G} {cI cZ cO cJ : ClassId} {eA eM : Nat} {f : g_F} {bd : Nat → Nat} {th : Int32} {L nc : Nat} {pt ot : Nat → Int32} {n : Nat} {P Du S Wy tw ct PF DF : Nat → Nat} {GF : Nat → Bool} {pz pm : Nat} {O Le : Nat → Nat} {Sl : Nat → Bool} (hR : mo_R cI cZ f bd th L nc pt ot n P Du S Wy tw ct PF DF GF pz pm O Le Sl) (hB : mo_B L nc n P Du S Wy tw ct PF DF pz pm O Le) (hIn : ∀ i j, i < 15 → j < 15 → bd i = bd j → i = j) {W : Nat} (hW : W < 2 ^ 31) (X : g_X p s m args meth c b_MO_plan 7 (some .int) g_T y_MO_plan.cls D g_cl (g_tys cI cZ cO cJ) A (z_Z eA eM)) (kk : g_W p l e { frames := 3, cells := 0, slots := 0, locals := 72 } s m args below meth c 7 D g_cl A (mo_s cZ f bd (slf (fun T => decide (szo T 8 = pz ∧ orS S T n &&& W = W ∧ lof Le T n = pm)) Sl (2 ^ n))) 0 0 Q 272 [(0, .ref (bd 0))] []) : ∀ (d : Nat) (i : Nat), (i + d = 2 ^ n) → g_W p l e { frames := 3, cells := 0, slots := 0, locals := 72 } s m args below meth c 7 D g_cl A (mo_s cZ f bd (slf (fun T => decide (szo T 8 = pz ∧ orS S T n &&& W = W ∧ lof Le T n = pm)) Sl i)) 0 0 Q 211 [(3, .int (nI i)), (2, .int (nI W)), (0, .ref (bd 0))] [] := by
  obtain ⟨hM, h1, h2, h3, h4, h5, h6, h7, h8, h9, h10, h11, h12, h13, h14⟩ := id hR
  obtain ⟨⟨hL1, hL5⟩, hnc, hUB, htw, hct, hPF, hDF, ⟨hpz, hpm, hO8⟩, hLe⟩ := id hB
  obtain ⟨hn8, hP, hDu, hS, hWy⟩ := id hUB
  have hp2 : 2 ^ n ≤ 256 := Nat.le_trans (Nat.pow_le_pow_right (by decide) hn8) (by decide)
  intro d
  induction d using Nat.strongRecOn with
  | _ d ih =>
    intro i hi
    have hRi := mo_s_R hR hIn (slf (fun T => decide (szo T 8 = pz ∧ orS S T n &&& W = W ∧ lof Le T n = pm)) Sl i)
    obtain ⟨w0, w1, w2, w3, w4, w5, w6, w7, w8, w9, w10, w11, w12, w13, w14⟩ := id hRi
    have hsz := szo_le i 8
    have hlf := lof_le Le i n
    refine g_iload_n X d_MO_plan_211 0 rfl ?_
    refine g_iconst (v := 1) X d_MO_plan_212 (by decide) ?_
    refine g_aload_n X d_MO_plan_213 2 rfl ?_
    refine g_get (ci := 5) (C := R_MO) (T := F_MO) (N := 20) (v := .int (nI n)) X i_MO rfl w0 5 (by decide) q_602 (fun _ h9 => h9) rfl d_MO_plan_214 ?_
    refine g_ishl X d_MO_plan_217 ?_
    refine g_eqi (y := nI (2 ^ n)) (nI_bit (by omega)) ?_
    refine g_icmp_ge X 272 d_MO_plan_218 (by decide) (fun c218 => ?_) (fun c218 => ?_)
    · skip
      have e : i = 2 ^ n := by have := (nI_leI (by omega) (by omega)).mp c218; omega
      subst e
      exact g_lv [2] rfl kk
    · skip
      have hlt : i < 2 ^ n := Nat.lt_of_not_le (fun z => c218 ((nI_leI (by omega) (by omega)).mpr z))
      refine g_aload_n X d_MO_plan_221 2 rfl ?_
      refine g_get (ci := 5) (C := R_MO) (T := F_MO) (N := 20) (v := .ref (bd 14)) X i_MO rfl w0 19 (by decide) q_616 (fun _ h9 => h9) rfl d_MO_plan_222 ?_
      refine g_iload_n X d_MO_plan_225 0 rfl ?_
      refine g_iload_n X d_MO_plan_226 0 rfl ?_
      refine g_callS (As := [.int (nI i)]) (rest := [.int (nI i), .ref (bd 14)]) X (z_ok eA eM) (c_MO_sizeOf (f := (mo_s cZ f bd (slf (fun T => decide (szo T 8 = pz ∧ orS S T n &&& W = W ∧ lof Le T n = pm)) Sl i))) (acts := i) (by omega)) v_MO_sizeOf q_774 q_773 rfl rfl (Nat.le_of_ble_eq_true rfl) d_MO_plan_227 ⟨(Nat.le_of_ble_eq_true rfl), (Nat.le_of_ble_eq_true rfl)⟩ ⟨(Nat.le_of_ble_eq_true rfl), (Nat.le_of_ble_eq_true rfl)⟩ (g_K.no (fun _ h => h)) (fun r_ f2_ hp => ?_)
      obtain ⟨rfl, hf_⟩ := hp
      subst f2_
      refine g_st (st2 := [.int (nI (szo i 8)), .int (nI i), .ref (bd 14)]) rfl ?_
      refine g_aload_n X d_MO_plan_230 2 rfl ?_
      refine g_get (ci := 5) (C := R_MO) (T := F_MO) (N := 20) (v := .int (nI pz)) X i_MO rfl w0 15 (by decide) q_612 (fun _ h9 => h9) rfl d_MO_plan_231 ?_
      refine g_icmp_ne X 264 d_MO_plan_234 (by decide) (fun c234 => ?_) (fun c234 => ?_)
      · skip
        refine g_iconst (v := 0) X d_MO_plan_264 (by decide) ?_
        refine g_eqi (y := bI ((fun T => decide (szo T 8 = pz ∧ orS S T n &&& W = W ∧ lof Le T n = pm)) i)) (by rw [show (fun T => decide (szo T 8 = pz ∧ orS S T n &&& W = W ∧ lof Le T n = pm)) i = false from decide_eq_false (fun z => by first | exact c234 (by rw [z.1]) | exact c245 (by rw [z.2.1]) | exact c257 (by rw [z.2.2]))]; rfl) ?_
        refine g_zast (t0 := 1) (g2 := fun q9 => bI (slf (fun T => decide (szo T 8 = pz ∧ orS S T n &&& W = W ∧ lof Le T n = pm)) Sl (i + 1) q9)) X w14 rfl (nI_ix (by omega : i < 256) (by decide)) (by rw [← slf_s]; exact upd_bI (by omega)) d_MO_plan_265 ?_
        refine g_eqf (f2 := (mo_s cZ f bd (slf (fun T => decide (szo T 8 = pz ∧ orS S T n &&& W = W ∧ lof Le T n = pm)) Sl (i + 1)))) (g_u_u) ?_
        refine g_iinc (lv' := [(3, .int (nI (i + 1))), (2, .int (nI W)), (0, .ref (bd 0))]) X d_MO_plan_266 0 rfl (nI_1 i) (by decide) rfl ?_
        refine g_goto X 211 d_MO_plan_269 (by decide) ?_
        exact g_lv [0, 1, 2] rfl (ih (d - 1) (by omega) (i + 1) (by omega))
      · skip
        refine g_aload_n X d_MO_plan_237 2 rfl ?_
        refine g_iload_n X d_MO_plan_238 0 rfl ?_
        refine g_callV (ci := 5) (As := [.int (nI i)]) (rest := [.int (nI i), .ref (bd 14)]) X (z_ok eA eM) rfl rfl w0 (c_MO_shownBy hRi hB (acts := i) (by omega)) v_MO_shownBy q_767 q_s29 q_765 rfl rfl (Nat.le_of_ble_eq_true rfl) d_MO_plan_239 ⟨(Nat.le_of_ble_eq_true rfl), (Nat.le_of_ble_eq_true rfl)⟩ ⟨(Nat.le_of_ble_eq_true rfl), (Nat.le_of_ble_eq_true rfl)⟩ (g_K.no (fun _ h => h)) (fun r_ f2_ hp => ?_)
        obtain ⟨rfl, hf_⟩ := hp
        subst f2_
        refine g_st (st2 := [.int (nI (orS S i n)), .int (nI i), .ref (bd 14)]) rfl ?_
        refine g_iload_n X d_MO_plan_242 1 rfl ?_
        refine g_iand X d_MO_plan_243 ?_
        refine g_eqi (y := nI (orS S i n &&& W)) (nI_and _ _) ?_
        refine g_iload_n X d_MO_plan_244 1 rfl ?_
        refine g_icmp_ne X 264 d_MO_plan_245 (by decide) (fun c245 => ?_) (fun c245 => ?_)
        · skip
          refine g_iconst (v := 0) X d_MO_plan_264 (by decide) ?_
          refine g_eqi (y := bI ((fun T => decide (szo T 8 = pz ∧ orS S T n &&& W = W ∧ lof Le T n = pm)) i)) (by rw [show (fun T => decide (szo T 8 = pz ∧ orS S T n &&& W = W ∧ lof Le T n = pm)) i = false from decide_eq_false (fun z => by first | exact c234 (by rw [z.1]) | exact c245 (by rw [z.2.1]) | exact c257 (by rw [z.2.2]))]; rfl) ?_
          refine g_zast (t0 := 1) (g2 := fun q9 => bI (slf (fun T => decide (szo T 8 = pz ∧ orS S T n &&& W = W ∧ lof Le T n = pm)) Sl (i + 1) q9)) X w14 rfl (nI_ix (by omega : i < 256) (by decide)) (by rw [← slf_s]; exact upd_bI (by omega)) d_MO_plan_265 ?_
          refine g_eqf (f2 := (mo_s cZ f bd (slf (fun T => decide (szo T 8 = pz ∧ orS S T n &&& W = W ∧ lof Le T n = pm)) Sl (i + 1)))) (g_u_u) ?_
          refine g_iinc (lv' := [(3, .int (nI (i + 1))), (2, .int (nI W)), (0, .ref (bd 0))]) X d_MO_plan_266 0 rfl (nI_1 i) (by decide) rfl ?_
          refine g_goto X 211 d_MO_plan_269 (by decide) ?_
          exact g_lv [0, 1, 2] rfl (ih (d - 1) (by omega) (i + 1) (by omega))
        · skip
          refine g_aload_n X d_MO_plan_248 2 rfl ?_
          refine g_iload_n X d_MO_plan_249 0 rfl ?_
          refine g_callV (ci := 5) (As := [.int (nI i)]) (rest := [.int (nI i), .ref (bd 14)]) X (z_ok eA eM) rfl rfl w0 (c_MO_leastOf hRi hB (acts := i) (by omega)) v_MO_leastOf q_771 q_s30 q_769 rfl rfl (Nat.le_of_ble_eq_true rfl) d_MO_plan_250 ⟨(Nat.le_of_ble_eq_true rfl), (Nat.le_of_ble_eq_true rfl)⟩ ⟨(Nat.le_of_ble_eq_true rfl), (Nat.le_of_ble_eq_true rfl)⟩ (g_K.no (fun _ h => h)) (fun r_ f2_ hp => ?_)
          obtain ⟨rfl, hf_⟩ := hp
          subst f2_
          refine g_st (st2 := [.int (nI (lof Le i n)), .int (nI i), .ref (bd 14)]) rfl ?_
          refine g_aload_n X d_MO_plan_253 2 rfl ?_
          refine g_get (ci := 5) (C := R_MO) (T := F_MO) (N := 20) (v := .int (nI pm)) X i_MO rfl w0 16 (by decide) q_613 (fun _ h9 => h9) rfl d_MO_plan_254 ?_
          refine g_icmp_ne X 264 d_MO_plan_257 (by decide) (fun c257 => ?_) (fun c257 => ?_)
          · skip
            refine g_iconst (v := 0) X d_MO_plan_264 (by decide) ?_
            refine g_eqi (y := bI ((fun T => decide (szo T 8 = pz ∧ orS S T n &&& W = W ∧ lof Le T n = pm)) i)) (by rw [show (fun T => decide (szo T 8 = pz ∧ orS S T n &&& W = W ∧ lof Le T n = pm)) i = false from decide_eq_false (fun z => by first | exact c234 (by rw [z.1]) | exact c245 (by rw [z.2.1]) | exact c257 (by rw [z.2.2]))]; rfl) ?_
            refine g_zast (t0 := 1) (g2 := fun q9 => bI (slf (fun T => decide (szo T 8 = pz ∧ orS S T n &&& W = W ∧ lof Le T n = pm)) Sl (i + 1) q9)) X w14 rfl (nI_ix (by omega : i < 256) (by decide)) (by rw [← slf_s]; exact upd_bI (by omega)) d_MO_plan_265 ?_
            refine g_eqf (f2 := (mo_s cZ f bd (slf (fun T => decide (szo T 8 = pz ∧ orS S T n &&& W = W ∧ lof Le T n = pm)) Sl (i + 1)))) (g_u_u) ?_
            refine g_iinc (lv' := [(3, .int (nI (i + 1))), (2, .int (nI W)), (0, .ref (bd 0))]) X d_MO_plan_266 0 rfl (nI_1 i) (by decide) rfl ?_
            refine g_goto X 211 d_MO_plan_269 (by decide) ?_
            exact g_lv [0, 1, 2] rfl (ih (d - 1) (by omega) (i + 1) (by omega))
          · skip
            refine g_iconst (v := 1) X d_MO_plan_260 (by decide) ?_
            refine g_goto X 265 d_MO_plan_261 (by decide) ?_
            refine g_eqi (y := bI ((fun T => decide (szo T 8 = pz ∧ orS S T n &&& W = W ∧ lof Le T n = pm)) i)) (by rw [show (fun T => decide (szo T 8 = pz ∧ orS S T n &&& W = W ∧ lof Le T n = pm)) i = true from decide_eq_true ⟨(nI_eq (by omega) (by omega)).mp c234, (nI_eq (Nat.lt_of_le_of_lt Nat.and_le_right hW) hW).mp c245, (nI_eq (by omega) (by omega)).mp c257⟩]; rfl) ?_
            refine g_zast (t0 := 1) (g2 := fun q9 => bI (slf (fun T => decide (szo T 8 = pz ∧ orS S T n &&& W = W ∧ lof Le T n = pm)) Sl (i + 1) q9)) X w14 rfl (nI_ix (by omega : i < 256) (by decide)) (by rw [← slf_s]; exact upd_bI (by omega)) d_MO_plan_265 ?_
            refine g_eqf (f2 := (mo_s cZ f bd (slf (fun T => decide (szo T 8 = pz ∧ orS S T n &&& W = W ∧ lof Le T n = pm)) Sl (i + 1)))) (g_u_u) ?_
            refine g_iinc (lv' := [(3, .int (nI (i + 1))), (2, .int (nI W)), (0, .ref (bd 0))]) X d_MO_plan_266 0 rfl (nI_1 i) (by decide) rfl ?_
            refine g_goto X 211 d_MO_plan_269 (by decide) ?_
            exact g_lv [0, 1, 2] rfl (ih (d - 1) (by omega) (i + 1) (by omega))
set_option maxHeartbeats 4000000 in
set_option maxRecDepth 100000 in
theorem c_MO_plan {l : Launch} {D : va_G} {cI cZ cO cJ : ClassId} {eA eM : Nat} {f : g_F} {bd : Nat → Nat} {th : Int32} {L nc : Nat} {pt ot : Nat → Int32} {n : Nat} {P Du S Wy tw ct PF DF : Nat → Nat} {GF : Nat → Bool} {pz pm : Nat} {O Le : Nat → Nat} {Sl : Nat → Bool} (hR : mo_R cI cZ f bd th L nc pt ot n P Du S Wy tw ct PF DF GF pz pm O Le Sl) (hB : mo_B L nc n P Du S Wy tw ct PF DF pz pm O Le) (hIn : ∀ i j, i < 15 → j < 15 → bd i = bd j → i = j) {y : Int32} {Re : Nat → Nat} (hA : ∀ dd, dd < 100001 → y = nI dd → bellA P Du S Wy n (bset (fun k => decide (mst L tw ct PF DF GF k dd ≠ 3)) nc &&& orA S n) Re 0) : g_C l y_MO_plan b_MO_plan 7 (some .int) { frames := 3, cells := 0, slots := 0, locals := 72 } D g_cl (g_tys cI cZ cO cJ) (z_Z eA eM) [.ref (bd 0), .int y] f (fun r f2 => (¬ inR y 100001 ∧ r = some (.int 0) ∧ f2 = (m_th f bd 1 L nc n pz pm)) ∨ (∃ (dd pz2 : Nat) (O2 Le2 : Nat → Nat) (Sl2 : Nat → Bool), dd < 100001 ∧ y = nI dd ∧ fo P Du S Wy Re n (bset (fun k => decide (mst L tw ct PF DF GF k dd ≠ 3)) nc &&& orA S n) n 0 O 0 = (O2, pz2) ∧ pz2 ≤ 8 ∧ (∀ i, O2 i < 8) ∧ (∀ i, Le2 i ≤ 1000010000) ∧ r = some (.int (nI pz2)) ∧ mo_R cI cZ f2 bd 0 L nc pt ot n P Du S Wy tw ct PF DF GF pz2 (secs P Du Wy O2 pz2) O2 Le2 Sl2 ∧ m_fr bd f f2)) (fun _ => False) := by
  refine g_ofW [(0, .ref (bd 0)), (1, .int y)] (by decide +kernel) (Nat.le_of_ble_eq_true rfl) rfl ?_
  intro p e s m args below meth c X ht hin
  obtain ⟨hM, h1, h2, h3, h4, h5, h6, h7, h8, h9, h10, h11, h12, h13, h14⟩ := id hR
  obtain ⟨⟨hL1, hL5⟩, hnc, hUB, htw, hct, hPF, hDF, ⟨hpz, hpm, hO8⟩, hLe⟩ := id hB
  obtain ⟨hn8, hP, hDu, hS, hWy⟩ := id hUB
  refine g_aload_n X d_MO_plan_0 0 rfl ?_
  refine g_iload_n X d_MO_plan_1 1 rfl ?_
  refine g_callS (As := [.int y]) (rest := [.ref (bd 0)]) X (z_ok eA eM) (c_MO_isDay (f := f) (x := y)) v_MO_isDay q_694 q_693 rfl rfl (Nat.le_of_ble_eq_true rfl) d_MO_plan_2 ⟨(Nat.le_of_ble_eq_true rfl), (Nat.le_of_ble_eq_true rfl)⟩ ⟨(Nat.le_of_ble_eq_true rfl), (Nat.le_of_ble_eq_true rfl)⟩ (g_K.no (fun _ h => h)) (fun r_ f2_ hp => ?_)
  obtain ⟨⟨b5, hb5, rfl⟩, hf_⟩ := hp
  subst f2_
  refine g_st (st2 := [.int (bI b5), .ref (bd 0)]) rfl ?_
  cases b5 with
  | false =>
    refine g_iconst (v := 1) X d_MO_plan_5 (by decide) ?_
    refine g_callV (ci := 5) (As := [.int (bI false), .int 1]) (rest := []) X (z_ok eA eM) rfl rfl hM (c_MO_goes hR hB (b1 := false) (b2 := true)) v_MO_goes q_671 q_s19 q_669 rfl rfl (Nat.le_of_ble_eq_true rfl) d_MO_plan_6 ⟨(Nat.le_of_ble_eq_true rfl), (Nat.le_of_ble_eq_true rfl)⟩ ⟨(Nat.le_of_ble_eq_true rfl), (Nat.le_of_ble_eq_true rfl)⟩ (g_K.no (fun _ h => h)) (fun r_ f2_ hp => ?_)
    obtain ⟨rfl, hf9_⟩ := hp
    have hf_ : f2_ = (m_th f bd 1 L nc n pz pm) := hf9_
    clear hf9_
    subst f2_
    refine g_st (st2 := [.int 0]) rfl ?_
    have hR2 := mo_th hR 1
    obtain ⟨hM2, k1, k2, k3, k4, k5, k6, k7, k8, k9, k10, k11, k12, k13, k14⟩ := id hR2
    refine g_if_ne X 14 d_MO_plan_9 (by decide) (fun c9 => ?_) (fun c9 => ?_)
    · skip
      exact absurd rfl c9
    · skip
      skip
      refine g_iconst (v := 0) X d_MO_plan_12 (by decide) ?_
      exact g_iret X rfl (Or.inl ⟨fun z => Bool.noConfusion (hb5.mpr z), rfl, rfl⟩) (Nat.le_of_ble_eq_true rfl) (Nat.le_of_ble_eq_true rfl) d_MO_plan_13
  | true =>
    obtain ⟨dd, hd, rfl⟩ := hb5.mp rfl
    refine g_iconst (v := 1) X d_MO_plan_5 (by decide) ?_
    refine g_callV (ci := 5) (As := [.int (bI true), .int 1]) (rest := []) X (z_ok eA eM) rfl rfl hM (c_MO_goes hR hB (b1 := true) (b2 := true)) v_MO_goes q_671 q_s19 q_669 rfl rfl (Nat.le_of_ble_eq_true rfl) d_MO_plan_6 ⟨(Nat.le_of_ble_eq_true rfl), (Nat.le_of_ble_eq_true rfl)⟩ ⟨(Nat.le_of_ble_eq_true rfl), (Nat.le_of_ble_eq_true rfl)⟩ (g_K.no (fun _ h => h)) (fun r_ f2_ hp => ?_)
    obtain ⟨rfl, hf9_⟩ := hp
    have hf_ : f2_ = (m_th f bd 0 L nc n pz pm) := hf9_
    clear hf9_
    subst f2_
    refine g_st (st2 := [.int 1]) rfl ?_
    have hR2 := mo_th hR 0
    obtain ⟨hM2, k1, k2, k3, k4, k5, k6, k7, k8, k9, k10, k11, k12, k13, k14⟩ := id hR2
    refine g_if_ne X 14 d_MO_plan_9 (by decide) (fun c9 => ?_) (fun c9 => ?_)
    · skip
      skip
      refine g_aload_n X d_MO_plan_14 0 rfl ?_
      refine g_callV (ci := 5) (As := []) (rest := []) X (z_ok eA eM) rfl rfl hM2 (c_MO_reckon hR2 hB hIn) v_MO_reckon q_756 q_s27 q_754 rfl rfl (Nat.le_of_ble_eq_true rfl) d_MO_plan_15 ⟨(Nat.le_of_ble_eq_true rfl), (Nat.le_of_ble_eq_true rfl)⟩ ⟨(Nat.le_of_ble_eq_true rfl), (Nat.le_of_ble_eq_true rfl)⟩ (g_K.no (fun _ h => h)) (fun r_ f2_ hp => ?_)
      obtain ⟨rfl, Le2, hb, hbl, rfl⟩ := hp
      refine g_st (st2 := []) rfl ?_
      have hRl := mo_l_R hR2 hIn Le2
      have hBl : mo_B L nc n P Du S Wy tw ct PF DF pz pm O Le2 := ⟨⟨hL1, hL5⟩, hnc, hUB, htw, hct, hPF, hDF, ⟨hpz, hpm, hO8⟩, hb⟩
      obtain ⟨w0, w1, w2, w3, w4, w5, w6, w7, w8, w9, w10, w11, w12, w13, w14⟩ := id hRl
      refine g_iconst (v := 0) X d_MO_plan_18 (by decide) ?_
      refine g_istore_n (lv' := [(2, .int 0), (0, .ref (bd 0)), (1, .int (nI dd))]) X d_MO_plan_19 rfl (by decide) rfl ?_
      refine g_iconst (v := 0) X d_MO_plan_20 (by decide) ?_
      refine g_istore_n (lv' := [(3, .int 0), (2, .int 0), (0, .ref (bd 0)), (1, .int (nI dd))]) X d_MO_plan_21 rfl (by decide) rfl ?_
      refine g_lv [0, 1, 2, 3] rfl (L_MO_planW hRl hBl (dd := dd) (by omega) X ?_ nc 0 (by omega))
      refine g_iload_n X d_MO_plan_56 0 rfl ?_
      refine g_aload_n X d_MO_plan_57 1 rfl ?_
      refine g_callV (ci := 5) (As := []) (rest := [.int (nI (bset (fun k => decide (mst L tw ct PF DF GF k dd ≠ 3)) nc))]) X (z_ok eA eM) rfl rfl w0 (c_MO_allShown hRl hBl) v_MO_allShown q_735 q_s25 q_733 rfl rfl (Nat.le_of_ble_eq_true rfl) d_MO_plan_58 ⟨(Nat.le_of_ble_eq_true rfl), (Nat.le_of_ble_eq_true rfl)⟩ ⟨(Nat.le_of_ble_eq_true rfl), (Nat.le_of_ble_eq_true rfl)⟩ (g_K.no (fun _ h => h)) (fun r_ f2_ hp => ?_)
      obtain ⟨rfl, hf_⟩ := hp
      subst f2_
      refine g_st (st2 := [.int (nI (orA S n)), .int (nI (bset (fun k => decide (mst L tw ct PF DF GF k dd ≠ 3)) nc))]) rfl ?_
      refine g_iand X d_MO_plan_61 ?_
      refine g_eqi (y := nI (bset (fun k => decide (mst L tw ct PF DF GF k dd ≠ 3)) nc &&& orA S n)) (nI_and _ _) ?_
      have hWb : (bset (fun k => decide (mst L tw ct PF DF GF k dd ≠ 3)) nc &&& orA S n) < 2 ^ 31 := Nat.lt_of_le_of_lt Nat.and_le_right (Nat.lt_trans (orA_lt hS n) (by decide))
      refine g_istore_n (lv' := [(2, .int (nI (bset (fun k => decide (mst L tw ct PF DF GF k dd ≠ 3)) nc &&& orA S n))), (0, .ref (bd 0)), (1, .int (nI dd))]) X d_MO_plan_62 rfl (by decide) rfl ?_
      refine g_aload_n X d_MO_plan_63 1 rfl ?_
      refine g_ldc (v := 1000000000) X q_745 d_MO_plan_64 ?_
      refine g_eqi (y := nI 1000000000) (rfl) ?_
      refine g_put (ci := 5) (C := R_MO) (T := F_MO) (N := 20) (ty := .int) (fs2 := [.int 0, .int (nI L), .int (nI nc), .ref (bd 1), .ref (bd 2), .int (nI n), .ref (bd 3), .ref (bd 4), .ref (bd 5), .ref (bd 6), .ref (bd 7), .ref (bd 8), .ref (bd 9), .ref (bd 10), .ref (bd 11), .int (nI pz), .int (nI 1000000000), .ref (bd 12), .ref (bd 13), .ref (bd 14)]) X i_MO t_MO t_MO_ok n_MO rfl w0 16 (by decide) q_613 (fun _ h9 => h9) rfl (by decide +kernel) rfl rfl (Nat.le_of_ble_eq_true rfl) rfl d_MO_plan_66 ?_
      generalize ef_1 : g_u (mo_l cI (m_th f bd 0 L nc n pz pm) bd Le2) (bd 0) (.inr (5, [.int 0, .int (nI L), .int (nI nc), .ref (bd 1), .ref (bd 2), .int (nI n), .ref (bd 3), .ref (bd 4), .ref (bd 5), .ref (bd 6), .ref (bd 7), .ref (bd 8), .ref (bd 9), .ref (bd 10), .ref (bd 11), .int (nI pz), .int (nI 1000000000), .ref (bd 12), .ref (bd 13), .ref (bd 14)])) = f_1
      have h_2 : f_1 (bd 0) = some (.inr (5, [.int 0, .int (nI L), .int (nI nc), .ref (bd 1), .ref (bd 2), .int (nI n), .ref (bd 3), .ref (bd 4), .ref (bd 5), .ref (bd 6), .ref (bd 7), .ref (bd 8), .ref (bd 9), .ref (bd 10), .ref (bd 11), .int (nI pz), .int (nI 1000000000), .ref (bd 12), .ref (bd 13), .ref (bd 14)])) := by rw [← ef_1]; exact g_u_s
      refine g_aload_n X d_MO_plan_69 1 rfl ?_
      refine g_ldc (v := 1000000000) X q_745 d_MO_plan_70 ?_
      refine g_eqi (y := nI 1000000000) (rfl) ?_
      refine g_put (ci := 5) (C := R_MO) (T := F_MO) (N := 20) (ty := .int) (fs2 := [.int 0, .int (nI L), .int (nI nc), .ref (bd 1), .ref (bd 2), .int (nI n), .ref (bd 3), .ref (bd 4), .ref (bd 5), .ref (bd 6), .ref (bd 7), .ref (bd 8), .ref (bd 9), .ref (bd 10), .ref (bd 11), .int (nI 1000000000), .int (nI 1000000000), .ref (bd 12), .ref (bd 13), .ref (bd 14)]) X i_MO t_MO t_MO_ok n_MO rfl h_2 15 (by decide) q_612 (fun _ h9 => h9) rfl (by decide +kernel) rfl rfl (Nat.le_of_ble_eq_true rfl) rfl d_MO_plan_72 ?_
      generalize ef_3 : g_u f_1 (bd 0) (.inr (5, [.int 0, .int (nI L), .int (nI nc), .ref (bd 1), .ref (bd 2), .int (nI n), .ref (bd 3), .ref (bd 4), .ref (bd 5), .ref (bd 6), .ref (bd 7), .ref (bd 8), .ref (bd 9), .ref (bd 10), .ref (bd 11), .int (nI 1000000000), .int (nI 1000000000), .ref (bd 12), .ref (bd 13), .ref (bd 14)])) = f_3
      have h_4 : f_3 (bd 0) = some (.inr (5, [.int 0, .int (nI L), .int (nI nc), .ref (bd 1), .ref (bd 2), .int (nI n), .ref (bd 3), .ref (bd 4), .ref (bd 5), .ref (bd 6), .ref (bd 7), .ref (bd 8), .ref (bd 9), .ref (bd 10), .ref (bd 11), .int (nI 1000000000), .int (nI 1000000000), .ref (bd 12), .ref (bd 13), .ref (bd 14)])) := by rw [← ef_3]; exact g_u_s
      refine g_iconst (v := 0) X d_MO_plan_75 (by decide) ?_
      refine g_istore_n (lv' := [(3, .int 0), (2, .int (nI (bset (fun k => decide (mst L tw ct PF DF GF k dd ≠ 3)) nc &&& orA S n))), (0, .ref (bd 0)), (1, .int (nI dd))]) X d_MO_plan_76 rfl (by decide) rfl ?_
      refine g_eqf (f2 := m_th (mo_l cI (m_th f bd 0 L nc n pz pm) bd Le2) bd 0 L nc n (tsz S Le2 n (bset (fun k => decide (mst L tw ct PF DF GF k dd ≠ 3)) nc &&& orA S n) 0).2 (tsz S Le2 n (bset (fun k => decide (mst L tw ct PF DF GF k dd ≠ 3)) nc &&& orA S n) 0).1) (by rw [← ef_3, ← ef_1]; show g_u (g_u (mo_l cI (m_th f bd 0 L nc n pz pm) bd Le2) (bd 0) _) (bd 0) _ = g_u (mo_l cI (m_th f bd 0 L nc n pz pm) bd Le2) (bd 0) _; rw [g_u_u]; rfl) ?_
      refine g_lv [0, 1, 2] rfl (L_MO_planT hRl hBl (W := (bset (fun k => decide (mst L tw ct PF DF GF k dd ≠ 3)) nc &&& orA S n)) hWb X ?_ (2 ^ n) 0 (by omega))
      refine g_iconst (v := 0) X d_MO_plan_209 (by decide) ?_
      refine g_istore_n (lv' := [(3, .int 0), (2, .int (nI (bset (fun k => decide (mst L tw ct PF DF GF k dd ≠ 3)) nc &&& orA S n))), (0, .ref (bd 0))]) X d_MO_plan_210 rfl (by decide) rfl ?_
      have hti := tsz_le S Le2 n (bset (fun k => decide (mst L tw ct PF DF GF k dd ≠ 3)) nc &&& orA S n) (2 ^ n)
      have hB2 : mo_B L nc n P Du S Wy tw ct PF DF (tsz S Le2 n (bset (fun k => decide (mst L tw ct PF DF GF k dd ≠ 3)) nc &&& orA S n) (2 ^ n)).2 (tsz S Le2 n (bset (fun k => decide (mst L tw ct PF DF GF k dd ≠ 3)) nc &&& orA S n) (2 ^ n)).1 O Le2 := ⟨⟨hL1, hL5⟩, hnc, hUB, htw, hct, hPF, hDF, ⟨hti.2, hti.1, hO8⟩, hb⟩
      have hRt := mo_pz hRl 0 (tsz S Le2 n (bset (fun k => decide (mst L tw ct PF DF GF k dd ≠ 3)) nc &&& orA S n) (2 ^ n)).2 (tsz S Le2 n (bset (fun k => decide (mst L tw ct PF DF GF k dd ≠ 3)) nc &&& orA S n) (2 ^ n)).1
      refine g_eqf (f2 := mo_s cZ (m_th (mo_l cI (m_th f bd 0 L nc n pz pm) bd Le2) bd 0 L nc n (tsz S Le2 n (bset (fun k => decide (mst L tw ct PF DF GF k dd ≠ 3)) nc &&& orA S n) (2 ^ n)).2 (tsz S Le2 n (bset (fun k => decide (mst L tw ct PF DF GF k dd ≠ 3)) nc &&& orA S n) (2 ^ n)).1) bd (slf (fun T => decide (szo T 8 = (tsz S Le2 n (bset (fun k => decide (mst L tw ct PF DF GF k dd ≠ 3)) nc &&& orA S n) (2 ^ n)).2 ∧ orS S T n &&& (bset (fun k => decide (mst L tw ct PF DF GF k dd ≠ 3)) nc &&& orA S n) = (bset (fun k => decide (mst L tw ct PF DF GF k dd ≠ 3)) nc &&& orA S n) ∧ lof Le2 T n = (tsz S Le2 n (bset (fun k => decide (mst L tw ct PF DF GF k dd ≠ 3)) nc &&& orA S n) (2 ^ n)).1)) Sl 0)) (by rw [slf_0]; exact g_u_same hRt.2.2.2.2.2.2.2.2.2.2.2.2.2.2) ?_
      refine g_lv [0, 1, 2] rfl (L_MO_planS hRt hB2 hIn (W := (bset (fun k => decide (mst L tw ct PF DF GF k dd ≠ 3)) nc &&& orA S n)) hWb X ?_ (2 ^ n) 0 (by omega))
      refine g_aload_n X d_MO_plan_272 0 rfl ?_
      obtain ⟨hz8, hz9, hpv⟩ := st_begin (P := P) (Du := Du) (Wy := Wy) (O := O) (Sl := slf (fun T => decide (szo T 8 = (tsz S Le2 n (bset (fun k => decide (mst L tw ct PF DF GF k dd ≠ 3)) nc &&& orA S n) (2 ^ n)).2 ∧ orS S T n &&& (bset (fun k => decide (mst L tw ct PF DF GF k dd ≠ 3)) nc &&& orA S n) = (bset (fun k => decide (mst L tw ct PF DF GF k dd ≠ 3)) nc &&& orA S n) ∧ lof Le2 T n = (tsz S Le2 n (bset (fun k => decide (mst L tw ct PF DF GF k dd ≠ 3)) nc &&& orA S n) (2 ^ n)).1)) Sl (2 ^ n)) hn8 hDu hWy hbl cov_full (fun T hT => by rw [show slf (fun T => decide (szo T 8 = (tsz S Le2 n (bset (fun k => decide (mst L tw ct PF DF GF k dd ≠ 3)) nc &&& orA S n) (2 ^ n)).2 ∧ orS S T n &&& (bset (fun k => decide (mst L tw ct PF DF GF k dd ≠ 3)) nc &&& orA S n) = (bset (fun k => decide (mst L tw ct PF DF GF k dd ≠ 3)) nc &&& orA S n) ∧ lof Le2 T n = (tsz S Le2 n (bset (fun k => decide (mst L tw ct PF DF GF k dd ≠ 3)) nc &&& orA S n) (2 ^ n)).1)) Sl (2 ^ n) T = _ from if_pos hT, decide_eq_true_iff])
      have hB3 : mo_B L nc n P Du S Wy tw ct PF DF (tsz S Le2 n (bset (fun k => decide (mst L tw ct PF DF GF k dd ≠ 3)) nc &&& orA S n) (2 ^ n)).2 (tsz S Le2 n (bset (fun k => decide (mst L tw ct PF DF GF k dd ≠ 3)) nc &&& orA S n) (2 ^ n)).1 O Le2 := ⟨⟨hL1, hL5⟩, hnc, hUB, htw, hct, hPF, hDF, ⟨by omega, hz9, hO8⟩, hb⟩
      have hR3 := mo_s_R (mo_pz hRl 0 (tsz S Le2 n (bset (fun k => decide (mst L tw ct PF DF GF k dd ≠ 3)) nc &&& orA S n) (2 ^ n)).2 (tsz S Le2 n (bset (fun k => decide (mst L tw ct PF DF GF k dd ≠ 3)) nc &&& orA S n) (2 ^ n)).1) hIn (slf (fun T => decide (szo T 8 = (tsz S Le2 n (bset (fun k => decide (mst L tw ct PF DF GF k dd ≠ 3)) nc &&& orA S n) (2 ^ n)).2 ∧ orS S T n &&& (bset (fun k => decide (mst L tw ct PF DF GF k dd ≠ 3)) nc &&& orA S n) = (bset (fun k => decide (mst L tw ct PF DF GF k dd ≠ 3)) nc &&& orA S n) ∧ lof Le2 T n = (tsz S Le2 n (bset (fun k => decide (mst L tw ct PF DF GF k dd ≠ 3)) nc &&& orA S n) (2 ^ n)).1)) Sl (2 ^ n))
      have z0 := hR3.1
      refine g_callV (ci := 5) (As := []) (rest := []) X (z_ok eA eM) rfl rfl z0 (c_MO_order hR3 hB3 hIn (W := (bset (fun k => decide (mst L tw ct PF DF GF k dd ≠ 3)) nc &&& orA S n)) (Re := Re) hz8 hbl (hA dd hd rfl) cov_full hpv) v_MO_order q_778 q_s31 q_776 rfl rfl (Nat.le_of_ble_eq_true rfl) d_MO_plan_273 ⟨(Nat.le_of_ble_eq_true rfl), (Nat.le_of_ble_eq_true rfl)⟩ ⟨(Nat.le_of_ble_eq_true rfl), (Nat.le_of_ble_eq_true rfl)⟩ (g_K.no (fun _ h => h)) (fun r_ f2_ hp => ?_)
      obtain ⟨rfl, O2, Sl2, hfo, hsc, hO2, rfl⟩ := hp
      refine g_st (st2 := []) rfl ?_
      have hR4 := mo_q_R (mo_s_R hR3 hIn Sl2) hIn O2
      have y0 := hR4.1
      refine g_aload_n X d_MO_plan_276 0 rfl ?_
      refine g_get (ci := 5) (C := R_MO) (T := F_MO) (N := 20) (v := .int (nI (tsz S Le2 n (bset (fun k => decide (mst L tw ct PF DF GF k dd ≠ 3)) nc &&& orA S n) (2 ^ n)).2)) X i_MO rfl y0 15 (by decide) q_612 (fun _ h9 => h9) rfl d_MO_plan_277 ?_
      exact g_iret X rfl (Or.inr ⟨dd, (tsz S Le2 n (bset (fun k => decide (mst L tw ct PF DF GF k dd ≠ 3)) nc &&& orA S n) (2 ^ n)).2, O2, Le2, Sl2, hd, rfl, hfo, hz8, hO2, hb, rfl, by rw [hsc]; exact hR4, fun q hq => (g_u_n (hq 12 (by decide))).trans ((g_u_n (hq 14 (by decide))).trans ((g_u_n (hq 14 (by decide))).trans ((g_u_n (hq 0 (by decide))).trans ((g_u_n (hq 13 (by decide))).trans (g_u_n (hq 0 (by decide)))))))⟩) (Nat.le_of_ble_eq_true rfl) (Nat.le_of_ble_eq_true rfl) d_MO_plan_280
    · skip
      exact absurd c9 (by decide)
