abbrev mwr (L : Nat) (tw ct PF DF : Nat → Nat) (GF : Nat → Bool) (k dd pe : Nat) : Int32 := bwv GF (bw L PF DF k pe dd (lx (tb tw k) (min dd 100000 + 1)) (ct k))
def mst (L : Nat) (tw ct PF DF : Nat → Nat) (GF : Nat → Bool) (k dd : Nat) : Nat := stv (cnw (mwr L tw ct PF DF GF k dd) 1 10) (cnw (mwr L tw ct PF DF GF k dd) 0 10)
theorem stv_2 {g b : Nat} (hg : 0 < g) (hb : 0 < b) : stv g b = 2 := (if_pos hb).trans (if_pos hg)
theorem stv_1 {g b : Nat} (hb : 0 < b) (hg : g ≤ 0 ∨ b ≤ 0) : stv g b = 1 := (if_pos hb).trans (if_neg (by omega))
theorem stv_3 {g b : Nat} (hb : b ≤ 0) (hg : 1 < g) : stv g b = 3 := (if_neg (by omega)).trans (if_pos hg)
theorem stv_0 {g b : Nat} (hb : b ≤ 0) (hg : g ≤ 1) : stv g b = 0 := (if_neg (by omega)).trans (if_neg (by omega))
theorem mst_lt (L : Nat) (tw ct PF DF : Nat → Nat) (GF : Nat → Bool) (k dd : Nat) : mst L tw ct PF DF GF k dd < 4 := stv_lt _ _
set_option maxHeartbeats 4000000 in
set_option maxRecDepth 100000 in
theorem L_MO_stateOf {p : Program} {l : Launch} {e : Env} {s : State} {m : MethodId} {args : Array Value} {below : List Frame} {meth : Method} {c : Code} {Q : State → Prop} {A : Nat → Prop} {D : va_G} {cI cZ cO cJ : ClassId} {eA eM : Nat} {f : g_F} {bd : Nat → Nat} {th : Int32} {L nc : Nat} {pt ot : Nat → Int32} {n : Nat} {P Du S Wy tw ct PF DF : Nat → Nat} {GF : Nat → Bool} {pz pm : Nat} {O Le : Nat → Nat} {Sl : Nat → Bool} (hR : mo_R cI cZ f bd th L nc pt ot n P Du S Wy tw ct PF DF GF pz pm O Le Sl) (hB : mo_B L nc n P Du S Wy tw ct PF DF pz pm O Le) {k dd : Nat} (hk : k < 24) (hdd : dd < 2 ^ 30) (X : g_X p s m args meth c b_MO_stateOf 8 (some .int) g_T y_MO_stateOf.cls D g_cl (g_tys cI cZ cO cJ) A (z_Z eA eM)) (kk : g_W p l e { frames := 2, cells := 0, slots := 0, locals := 45 } s m args below meth c 8 D g_cl A f 0 0 Q 73 [(6, .int (nI 10)), (5, .int (nI (cnw (mwr L tw ct PF DF GF k dd) 0 10))), (4, .int (nI (cnw (mwr L tw ct PF DF GF k dd) 1 10))), (3, .int (fI (lx (tb tw k) (min dd 100000 + 1)))), (0, .ref (bd 0)), (1, .int (nI k)), (2, .int (nI dd))] []) : ∀ (d : Nat) (i : Nat), (i + d = 10) → g_W p l e { frames := 2, cells := 0, slots := 0, locals := 45 } s m args below meth c 8 D g_cl A f 0 0 Q 16 [(6, .int (nI i)), (5, .int (nI (cnw (mwr L tw ct PF DF GF k dd) 0 i))), (4, .int (nI (cnw (mwr L tw ct PF DF GF k dd) 1 i))), (3, .int (fI (lx (tb tw k) (min dd 100000 + 1)))), (0, .ref (bd 0)), (1, .int (nI k)), (2, .int (nI dd))] [] := by
  obtain ⟨hM, h1, h2, h3, h4, h5, h6, h7, h8, h9, h10, h11, h12, h13, h14⟩ := id hR
  obtain ⟨⟨hL1, hL5⟩, hnc, hUB, htw, hct, hPF, hDF, ⟨hpz, hpm, hO8⟩, hLe⟩ := id hB
  obtain ⟨hn8, hP, hDu, hS, hWy⟩ := id hUB
  have hlt9 : lx (tb tw k) (min dd 100000 + 1) < 2 ^ 30 := Nat.lt_of_le_of_lt (lx_le _ _) (by omega)
  intro d
  induction d using Nat.strongRecOn with
  | _ d ih =>
    intro i hi
    refine g_iload X d_MO_stateOf_16 0 rfl ?_
    refine g_bipush (v := 10) X d_MO_stateOf_18 (by decide) ?_
    refine g_icmp_ge X 73 d_MO_stateOf_20 (by decide) (fun c20 => ?_) (fun c20 => ?_)
    · skip
      have e : i = 10 := by have := (nI_leI (a := 10) (b := i) (by decide) (by omega)).mp c20; omega
      subst e
      exact kk
    · skip
      have hlt : i < 10 := Nat.lt_of_not_le (fun z => c20 ((nI_leI (a := 10) (b := i) (by decide) (by omega)).mpr z))
      refine g_aload_n X d_MO_stateOf_23 4 rfl ?_
      refine g_iload_n X d_MO_stateOf_24 5 rfl ?_
      refine g_iload X d_MO_stateOf_25 0 rfl ?_
      refine g_iload_n X d_MO_stateOf_27 6 rfl ?_
      refine g_iload_n X d_MO_stateOf_28 3 rfl ?_
      refine g_callV (ci := 5) (As := [.int (nI k), .int (nI i), .int (nI dd), .int (fI (lx (tb tw k) (min dd 100000 + 1)))]) (rest := []) X (z_ok eA eM) rfl rfl hM (c_MO_wordOf hR hB (k := k) (pe := i) (dd := dd) (lt := lx (tb tw k) (min dd 100000 + 1)) hk (by omega) hdd hlt9) v_MO_wordOf q_719 q_s24 q_717 rfl rfl (Nat.le_of_ble_eq_true rfl) d_MO_stateOf_29 ⟨(Nat.le_of_ble_eq_true rfl), (Nat.le_of_ble_eq_true rfl)⟩ ⟨(Nat.le_of_ble_eq_true rfl), (Nat.le_of_ble_eq_true rfl)⟩ (g_K.no (fun _ h => h)) (fun r_ f2_ hp => ?_)
      obtain ⟨rfl, hf_⟩ := hp
      subst f2_
      refine g_st (st2 := [.int (mwr L tw ct PF DF GF k dd i)]) rfl ?_
      refine g_istore (lv' := [(7, .int (mwr L tw ct PF DF GF k dd i)), (6, .int (nI i)), (5, .int (nI (cnw (mwr L tw ct PF DF GF k dd) 0 i))), (4, .int (nI (cnw (mwr L tw ct PF DF GF k dd) 1 i))), (3, .int (fI (lx (tb tw k) (min dd 100000 + 1)))), (0, .ref (bd 0)), (1, .int (nI k)), (2, .int (nI dd))]) X d_MO_stateOf_32 (by decide) rfl ?_
      refine g_iload X d_MO_stateOf_34 0 rfl ?_
      refine g_iconst (v := 1) X d_MO_stateOf_36 (by decide) ?_
      refine g_icmp_ne X 47 d_MO_stateOf_37 (by decide) (fun c37 => ?_) (fun c37 => ?_)
      · skip
        have e1 : cnw (mwr L tw ct PF DF GF k dd) 1 (i + 1) = cnw (mwr L tw ct PF DF GF k dd) 1 i := if_neg c37
        refine g_iload X d_MO_stateOf_47 3 rfl ?_
        refine g_istore (lv' := [(4, .int (nI (cnw (mwr L tw ct PF DF GF k dd) 1 i))), (7, .int (mwr L tw ct PF DF GF k dd i)), (6, .int (nI i)), (5, .int (nI (cnw (mwr L tw ct PF DF GF k dd) 0 i))), (3, .int (fI (lx (tb tw k) (min dd 100000 + 1)))), (0, .ref (bd 0)), (1, .int (nI k)), (2, .int (nI dd))]) X d_MO_stateOf_49 (by decide) rfl ?_
        refine g_iload X d_MO_stateOf_51 1 rfl ?_
        refine g_if_ne X 63 d_MO_stateOf_53 (by decide) (fun c53 => ?_) (fun c53 => ?_)
        · skip
          have e0 : cnw (mwr L tw ct PF DF GF k dd) 0 (i + 1) = cnw (mwr L tw ct PF DF GF k dd) 0 i := if_neg c53
          refine g_iload X d_MO_stateOf_63 3 rfl ?_
          refine g_istore (lv' := [(5, .int (nI (cnw (mwr L tw ct PF DF GF k dd) 0 i))), (4, .int (nI (cnw (mwr L tw ct PF DF GF k dd) 1 i))), (7, .int (mwr L tw ct PF DF GF k dd i)), (6, .int (nI i)), (3, .int (fI (lx (tb tw k) (min dd 100000 + 1)))), (0, .ref (bd 0)), (1, .int (nI k)), (2, .int (nI dd))]) X d_MO_stateOf_65 (by decide) rfl ?_
          refine g_iinc (lv' := [(6, .int (nI (i + 1))), (5, .int (nI (cnw (mwr L tw ct PF DF GF k dd) 0 i))), (4, .int (nI (cnw (mwr L tw ct PF DF GF k dd) 1 i))), (7, .int (mwr L tw ct PF DF GF k dd i)), (3, .int (fI (lx (tb tw k) (min dd 100000 + 1)))), (0, .ref (bd 0)), (1, .int (nI k)), (2, .int (nI dd))]) X d_MO_stateOf_67 3 rfl (nI_1 i) (by decide) rfl ?_
          refine g_goto X 16 d_MO_stateOf_70 (by decide) ?_
          refine g_lv (lv' := [(6, .int (nI (i + 1))), (5, .int (nI (cnw (mwr L tw ct PF DF GF k dd) 0 (i + 1)))), (4, .int (nI (cnw (mwr L tw ct PF DF GF k dd) 1 (i + 1)))), (3, .int (fI (lx (tb tw k) (min dd 100000 + 1)))), (0, .ref (bd 0)), (1, .int (nI k)), (2, .int (nI dd))]) [0, 1, 2, 4, 5, 6, 7] (by rw [e0, e1]; rfl) (ih (d - 1) (by omega) (i + 1) (by omega))
        · skip
          have e0 : cnw (mwr L tw ct PF DF GF k dd) 0 (i + 1) = cnw (mwr L tw ct PF DF GF k dd) 0 i + 1 := if_pos c53
          refine g_iload X d_MO_stateOf_56 3 rfl ?_
          refine g_iconst (v := 1) X d_MO_stateOf_58 (by decide) ?_
          refine g_iadd X d_MO_stateOf_59 ?_
          refine g_eqi (y := nI (cnw (mwr L tw ct PF DF GF k dd) 0 i + 1)) (nI_1 _) ?_
          refine g_goto X 65 d_MO_stateOf_60 (by decide) ?_
          refine g_istore (lv' := [(5, .int (nI (cnw (mwr L tw ct PF DF GF k dd) 0 i + 1))), (4, .int (nI (cnw (mwr L tw ct PF DF GF k dd) 1 i))), (7, .int (mwr L tw ct PF DF GF k dd i)), (6, .int (nI i)), (3, .int (fI (lx (tb tw k) (min dd 100000 + 1)))), (0, .ref (bd 0)), (1, .int (nI k)), (2, .int (nI dd))]) X d_MO_stateOf_65 (by decide) rfl ?_
          refine g_iinc (lv' := [(6, .int (nI (i + 1))), (5, .int (nI (cnw (mwr L tw ct PF DF GF k dd) 0 i + 1))), (4, .int (nI (cnw (mwr L tw ct PF DF GF k dd) 1 i))), (7, .int (mwr L tw ct PF DF GF k dd i)), (3, .int (fI (lx (tb tw k) (min dd 100000 + 1)))), (0, .ref (bd 0)), (1, .int (nI k)), (2, .int (nI dd))]) X d_MO_stateOf_67 3 rfl (nI_1 i) (by decide) rfl ?_
          refine g_goto X 16 d_MO_stateOf_70 (by decide) ?_
          refine g_lv (lv' := [(6, .int (nI (i + 1))), (5, .int (nI (cnw (mwr L tw ct PF DF GF k dd) 0 (i + 1)))), (4, .int (nI (cnw (mwr L tw ct PF DF GF k dd) 1 (i + 1)))), (3, .int (fI (lx (tb tw k) (min dd 100000 + 1)))), (0, .ref (bd 0)), (1, .int (nI k)), (2, .int (nI dd))]) [0, 1, 2, 4, 5, 6, 7] (by rw [e0, e1]; rfl) (ih (d - 1) (by omega) (i + 1) (by omega))
      · skip
        have e1 : cnw (mwr L tw ct PF DF GF k dd) 1 (i + 1) = cnw (mwr L tw ct PF DF GF k dd) 1 i + 1 := if_pos c37
        refine g_iload X d_MO_stateOf_40 3 rfl ?_
        refine g_iconst (v := 1) X d_MO_stateOf_42 (by decide) ?_
        refine g_iadd X d_MO_stateOf_43 ?_
        refine g_eqi (y := nI (cnw (mwr L tw ct PF DF GF k dd) 1 i + 1)) (nI_1 _) ?_
        refine g_goto X 49 d_MO_stateOf_44 (by decide) ?_
        refine g_istore (lv' := [(4, .int (nI (cnw (mwr L tw ct PF DF GF k dd) 1 i + 1))), (7, .int (mwr L tw ct PF DF GF k dd i)), (6, .int (nI i)), (5, .int (nI (cnw (mwr L tw ct PF DF GF k dd) 0 i))), (3, .int (fI (lx (tb tw k) (min dd 100000 + 1)))), (0, .ref (bd 0)), (1, .int (nI k)), (2, .int (nI dd))]) X d_MO_stateOf_49 (by decide) rfl ?_
        refine g_iload X d_MO_stateOf_51 1 rfl ?_
        refine g_if_ne X 63 d_MO_stateOf_53 (by decide) (fun c53 => ?_) (fun c53 => ?_)
        · skip
          have e0 : cnw (mwr L tw ct PF DF GF k dd) 0 (i + 1) = cnw (mwr L tw ct PF DF GF k dd) 0 i := if_neg c53
          refine g_iload X d_MO_stateOf_63 3 rfl ?_
          refine g_istore (lv' := [(5, .int (nI (cnw (mwr L tw ct PF DF GF k dd) 0 i))), (4, .int (nI (cnw (mwr L tw ct PF DF GF k dd) 1 i + 1))), (7, .int (mwr L tw ct PF DF GF k dd i)), (6, .int (nI i)), (3, .int (fI (lx (tb tw k) (min dd 100000 + 1)))), (0, .ref (bd 0)), (1, .int (nI k)), (2, .int (nI dd))]) X d_MO_stateOf_65 (by decide) rfl ?_
          refine g_iinc (lv' := [(6, .int (nI (i + 1))), (5, .int (nI (cnw (mwr L tw ct PF DF GF k dd) 0 i))), (4, .int (nI (cnw (mwr L tw ct PF DF GF k dd) 1 i + 1))), (7, .int (mwr L tw ct PF DF GF k dd i)), (3, .int (fI (lx (tb tw k) (min dd 100000 + 1)))), (0, .ref (bd 0)), (1, .int (nI k)), (2, .int (nI dd))]) X d_MO_stateOf_67 3 rfl (nI_1 i) (by decide) rfl ?_
          refine g_goto X 16 d_MO_stateOf_70 (by decide) ?_
          refine g_lv (lv' := [(6, .int (nI (i + 1))), (5, .int (nI (cnw (mwr L tw ct PF DF GF k dd) 0 (i + 1)))), (4, .int (nI (cnw (mwr L tw ct PF DF GF k dd) 1 (i + 1)))), (3, .int (fI (lx (tb tw k) (min dd 100000 + 1)))), (0, .ref (bd 0)), (1, .int (nI k)), (2, .int (nI dd))]) [0, 1, 2, 4, 5, 6, 7] (by rw [e0, e1]; rfl) (ih (d - 1) (by omega) (i + 1) (by omega))
        · skip
          have e0 : cnw (mwr L tw ct PF DF GF k dd) 0 (i + 1) = cnw (mwr L tw ct PF DF GF k dd) 0 i + 1 := if_pos c53
          refine g_iload X d_MO_stateOf_56 3 rfl ?_
          refine g_iconst (v := 1) X d_MO_stateOf_58 (by decide) ?_
          refine g_iadd X d_MO_stateOf_59 ?_
          refine g_eqi (y := nI (cnw (mwr L tw ct PF DF GF k dd) 0 i + 1)) (nI_1 _) ?_
          refine g_goto X 65 d_MO_stateOf_60 (by decide) ?_
          refine g_istore (lv' := [(5, .int (nI (cnw (mwr L tw ct PF DF GF k dd) 0 i + 1))), (4, .int (nI (cnw (mwr L tw ct PF DF GF k dd) 1 i + 1))), (7, .int (mwr L tw ct PF DF GF k dd i)), (6, .int (nI i)), (3, .int (fI (lx (tb tw k) (min dd 100000 + 1)))), (0, .ref (bd 0)), (1, .int (nI k)), (2, .int (nI dd))]) X d_MO_stateOf_65 (by decide) rfl ?_
          refine g_iinc (lv' := [(6, .int (nI (i + 1))), (5, .int (nI (cnw (mwr L tw ct PF DF GF k dd) 0 i + 1))), (4, .int (nI (cnw (mwr L tw ct PF DF GF k dd) 1 i + 1))), (7, .int (mwr L tw ct PF DF GF k dd i)), (3, .int (fI (lx (tb tw k) (min dd 100000 + 1)))), (0, .ref (bd 0)), (1, .int (nI k)), (2, .int (nI dd))]) X d_MO_stateOf_67 3 rfl (nI_1 i) (by decide) rfl ?_
          refine g_goto X 16 d_MO_stateOf_70 (by decide) ?_
          refine g_lv (lv' := [(6, .int (nI (i + 1))), (5, .int (nI (cnw (mwr L tw ct PF DF GF k dd) 0 (i + 1)))), (4, .int (nI (cnw (mwr L tw ct PF DF GF k dd) 1 (i + 1)))), (3, .int (fI (lx (tb tw k) (min dd 100000 + 1)))), (0, .ref (bd 0)), (1, .int (nI k)), (2, .int (nI dd))]) [0, 1, 2, 4, 5, 6, 7] (by rw [e0, e1]; rfl) (ih (d - 1) (by omega) (i + 1) (by omega))
set_option maxHeartbeats 4000000 in
set_option maxRecDepth 100000 in
theorem c_MO_stateOf {l : Launch} {D : va_G} {cI cZ cO cJ : ClassId} {eA eM : Nat} {f : g_F} {bd : Nat → Nat} {th : Int32} {L nc : Nat} {pt ot : Nat → Int32} {n : Nat} {P Du S Wy tw ct PF DF : Nat → Nat} {GF : Nat → Bool} {pz pm : Nat} {O Le : Nat → Nat} {Sl : Nat → Bool} (hR : mo_R cI cZ f bd th L nc pt ot n P Du S Wy tw ct PF DF GF pz pm O Le Sl) (hB : mo_B L nc n P Du S Wy tw ct PF DF pz pm O Le) {k dd : Nat} (hk : k < 24) (hdd : dd < 2 ^ 30) : g_C l y_MO_stateOf b_MO_stateOf 8 (some .int) { frames := 2, cells := 0, slots := 0, locals := 45 } D g_cl (g_tys cI cZ cO cJ) (z_Z eA eM) [.ref (bd 0), .int (nI k), .int (nI dd)] f (fun r f2 => r = some (.int (nI (mst L tw ct PF DF GF k dd))) ∧ f2 = f) (fun _ => False) := by
  refine g_ofW [(0, .ref (bd 0)), (1, .int (nI k)), (2, .int (nI dd))] (by decide +kernel) (Nat.le_of_ble_eq_true rfl) rfl ?_
  intro p e s m args below meth c X ht hin
  obtain ⟨hM, h1, h2, h3, h4, h5, h6, h7, h8, h9, h10, h11, h12, h13, h14⟩ := id hR
  obtain ⟨⟨hL1, hL5⟩, hnc, hUB, htw, hct, hPF, hDF, ⟨hpz, hpm, hO8⟩, hLe⟩ := id hB
  obtain ⟨hn8, hP, hDu, hS, hWy⟩ := id hUB
  refine g_aload_n X d_MO_stateOf_0 0 rfl ?_
  refine g_iload_n X d_MO_stateOf_1 1 rfl ?_
  refine g_iload_n X d_MO_stateOf_2 2 rfl ?_
  refine g_callV (ci := 5) (As := [.int (nI k), .int (nI dd)]) (rest := []) X (z_ok eA eM) rfl rfl hM (c_MO_lastTouch hR hB (k := k) (dd := dd) hk hdd) v_MO_lastTouch q_711 q_s22 q_709 rfl rfl (Nat.le_of_ble_eq_true rfl) d_MO_stateOf_3 ⟨(Nat.le_of_ble_eq_true rfl), (Nat.le_of_ble_eq_true rfl)⟩ ⟨(Nat.le_of_ble_eq_true rfl), (Nat.le_of_ble_eq_true rfl)⟩ (g_K.no (fun _ h => h)) (fun r_ f2_ hp => ?_)
  obtain ⟨rfl, hf_⟩ := hp
  subst f2_
  refine g_st (st2 := [.int (fI (lx (tb tw k) (min dd 100000 + 1)))]) rfl ?_
  refine g_istore_n (lv' := [(3, .int (fI (lx (tb tw k) (min dd 100000 + 1)))), (0, .ref (bd 0)), (1, .int (nI k)), (2, .int (nI dd))]) X d_MO_stateOf_6 rfl (by decide) rfl ?_
  refine g_iconst (v := 0) X d_MO_stateOf_7 (by decide) ?_
  refine g_istore (lv' := [(4, .int 0), (3, .int (fI (lx (tb tw k) (min dd 100000 + 1)))), (0, .ref (bd 0)), (1, .int (nI k)), (2, .int (nI dd))]) X d_MO_stateOf_8 (by decide) rfl ?_
  refine g_iconst (v := 0) X d_MO_stateOf_10 (by decide) ?_
  refine g_istore (lv' := [(5, .int 0), (4, .int 0), (3, .int (fI (lx (tb tw k) (min dd 100000 + 1)))), (0, .ref (bd 0)), (1, .int (nI k)), (2, .int (nI dd))]) X d_MO_stateOf_11 (by decide) rfl ?_
  refine g_iconst (v := 0) X d_MO_stateOf_13 (by decide) ?_
  refine g_istore (lv' := [(6, .int 0), (5, .int 0), (4, .int 0), (3, .int (fI (lx (tb tw k) (min dd 100000 + 1)))), (0, .ref (bd 0)), (1, .int (nI k)), (2, .int (nI dd))]) X d_MO_stateOf_14 (by decide) rfl ?_
  refine g_lv [0, 1, 2, 3, 4, 5, 6] rfl (L_MO_stateOf hR hB hk hdd X ?_ 10 0 (by omega))
  refine g_iload X d_MO_stateOf_73 2 rfl ?_
  refine g_if_le X 87 d_MO_stateOf_75 (by decide) (fun c75 => ?_) (fun c75 => ?_)
  · skip
    refine g_iload X d_MO_stateOf_87 1 rfl ?_
    refine g_if_le X 96 d_MO_stateOf_89 (by decide) (fun c89 => ?_) (fun c89 => ?_)
    · skip
      refine g_iload X d_MO_stateOf_96 2 rfl ?_
      refine g_iconst (v := 1) X d_MO_stateOf_98 (by decide) ?_
      refine g_icmp_le X 106 d_MO_stateOf_99 (by decide) (fun c99 => ?_) (fun c99 => ?_)
      · skip
        refine g_iconst (v := 0) X d_MO_stateOf_106 (by decide) ?_
        exact g_iret X rfl (⟨by have hb := ((nI_leI (a := cnw (mwr L tw ct PF DF GF k dd) 0 10) (b := 0) (by have := cnw_le (mwr L tw ct PF DF GF k dd) 0 10; have := cnw_le (mwr L tw ct PF DF GF k dd) 1 10; omega) (by decide)).mp c89); have hg : cnw (mwr L tw ct PF DF GF k dd) 1 10 ≤ 1 := (nI_leI (b := 1) (by have := cnw_le (mwr L tw ct PF DF GF k dd) 0 10; have := cnw_le (mwr L tw ct PF DF GF k dd) 1 10; omega) (by decide)).mp c99; rw [show mst L tw ct PF DF GF k dd = 0 from stv_0 hb hg]; rfl, rfl⟩) (Nat.le_of_ble_eq_true rfl) (Nat.le_of_ble_eq_true rfl) d_MO_stateOf_107
      · skip
        refine g_iconst (v := 3) X d_MO_stateOf_102 (by decide) ?_
        refine g_goto X 107 d_MO_stateOf_103 (by decide) ?_
        exact g_iret X rfl (⟨by have hb := ((nI_leI (a := cnw (mwr L tw ct PF DF GF k dd) 0 10) (b := 0) (by have := cnw_le (mwr L tw ct PF DF GF k dd) 0 10; have := cnw_le (mwr L tw ct PF DF GF k dd) 1 10; omega) (by decide)).mp c89); have hg : 1 < cnw (mwr L tw ct PF DF GF k dd) 1 10 := Nat.lt_of_not_le (fun z => c99 ((nI_leI (b := 1) (by have := cnw_le (mwr L tw ct PF DF GF k dd) 0 10; have := cnw_le (mwr L tw ct PF DF GF k dd) 1 10; omega) (by decide)).mpr z)); rw [show mst L tw ct PF DF GF k dd = 3 from stv_3 hb hg]; rfl, rfl⟩) (Nat.le_of_ble_eq_true rfl) (Nat.le_of_ble_eq_true rfl) d_MO_stateOf_107
    · skip
      refine g_iconst (v := 1) X d_MO_stateOf_92 (by decide) ?_
      refine g_goto X 107 d_MO_stateOf_93 (by decide) ?_
      exact g_iret X rfl (⟨by have hb := (Nat.lt_of_not_le (fun z => c89 ((nI_leI (a := cnw (mwr L tw ct PF DF GF k dd) 0 10) (b := 0) (by have := cnw_le (mwr L tw ct PF DF GF k dd) 0 10; have := cnw_le (mwr L tw ct PF DF GF k dd) 1 10; omega) (by decide)).mpr z))); have hg : cnw (mwr L tw ct PF DF GF k dd) 1 10 ≤ 0 ∨ cnw (mwr L tw ct PF DF GF k dd) 0 10 ≤ 0 := (by first | exact Or.inl ((nI_leI (a := cnw (mwr L tw ct PF DF GF k dd) 1 10) (b := 0) (by have := cnw_le (mwr L tw ct PF DF GF k dd) 0 10; have := cnw_le (mwr L tw ct PF DF GF k dd) 1 10; omega) (by decide)).mp c75) | exact Or.inr ((nI_leI (a := cnw (mwr L tw ct PF DF GF k dd) 0 10) (b := 0) (by have := cnw_le (mwr L tw ct PF DF GF k dd) 0 10; have := cnw_le (mwr L tw ct PF DF GF k dd) 1 10; omega) (by decide)).mp c80)); rw [show mst L tw ct PF DF GF k dd = 1 from stv_1 hb hg]; rfl, rfl⟩) (Nat.le_of_ble_eq_true rfl) (Nat.le_of_ble_eq_true rfl) d_MO_stateOf_107
  · skip
    refine g_iload X d_MO_stateOf_78 1 rfl ?_
    refine g_if_le X 87 d_MO_stateOf_80 (by decide) (fun c80 => ?_) (fun c80 => ?_)
    · skip
      refine g_iload X d_MO_stateOf_87 1 rfl ?_
      refine g_if_le X 96 d_MO_stateOf_89 (by decide) (fun c89 => ?_) (fun c89 => ?_)
      · skip
        refine g_iload X d_MO_stateOf_96 2 rfl ?_
        refine g_iconst (v := 1) X d_MO_stateOf_98 (by decide) ?_
        refine g_icmp_le X 106 d_MO_stateOf_99 (by decide) (fun c99 => ?_) (fun c99 => ?_)
        · skip
          refine g_iconst (v := 0) X d_MO_stateOf_106 (by decide) ?_
          exact g_iret X rfl (⟨by have hb := ((nI_leI (a := cnw (mwr L tw ct PF DF GF k dd) 0 10) (b := 0) (by have := cnw_le (mwr L tw ct PF DF GF k dd) 0 10; have := cnw_le (mwr L tw ct PF DF GF k dd) 1 10; omega) (by decide)).mp c89); have hg : cnw (mwr L tw ct PF DF GF k dd) 1 10 ≤ 1 := (nI_leI (b := 1) (by have := cnw_le (mwr L tw ct PF DF GF k dd) 0 10; have := cnw_le (mwr L tw ct PF DF GF k dd) 1 10; omega) (by decide)).mp c99; rw [show mst L tw ct PF DF GF k dd = 0 from stv_0 hb hg]; rfl, rfl⟩) (Nat.le_of_ble_eq_true rfl) (Nat.le_of_ble_eq_true rfl) d_MO_stateOf_107
        · skip
          refine g_iconst (v := 3) X d_MO_stateOf_102 (by decide) ?_
          refine g_goto X 107 d_MO_stateOf_103 (by decide) ?_
          exact g_iret X rfl (⟨by have hb := ((nI_leI (a := cnw (mwr L tw ct PF DF GF k dd) 0 10) (b := 0) (by have := cnw_le (mwr L tw ct PF DF GF k dd) 0 10; have := cnw_le (mwr L tw ct PF DF GF k dd) 1 10; omega) (by decide)).mp c89); have hg : 1 < cnw (mwr L tw ct PF DF GF k dd) 1 10 := Nat.lt_of_not_le (fun z => c99 ((nI_leI (b := 1) (by have := cnw_le (mwr L tw ct PF DF GF k dd) 0 10; have := cnw_le (mwr L tw ct PF DF GF k dd) 1 10; omega) (by decide)).mpr z)); rw [show mst L tw ct PF DF GF k dd = 3 from stv_3 hb hg]; rfl, rfl⟩) (Nat.le_of_ble_eq_true rfl) (Nat.le_of_ble_eq_true rfl) d_MO_stateOf_107
      · skip
        refine g_iconst (v := 1) X d_MO_stateOf_92 (by decide) ?_
        refine g_goto X 107 d_MO_stateOf_93 (by decide) ?_
        exact g_iret X rfl (⟨by have hb := (Nat.lt_of_not_le (fun z => c89 ((nI_leI (a := cnw (mwr L tw ct PF DF GF k dd) 0 10) (b := 0) (by have := cnw_le (mwr L tw ct PF DF GF k dd) 0 10; have := cnw_le (mwr L tw ct PF DF GF k dd) 1 10; omega) (by decide)).mpr z))); have hg : cnw (mwr L tw ct PF DF GF k dd) 1 10 ≤ 0 ∨ cnw (mwr L tw ct PF DF GF k dd) 0 10 ≤ 0 := (by first | exact Or.inl ((nI_leI (a := cnw (mwr L tw ct PF DF GF k dd) 1 10) (b := 0) (by have := cnw_le (mwr L tw ct PF DF GF k dd) 0 10; have := cnw_le (mwr L tw ct PF DF GF k dd) 1 10; omega) (by decide)).mp c75) | exact Or.inr ((nI_leI (a := cnw (mwr L tw ct PF DF GF k dd) 0 10) (b := 0) (by have := cnw_le (mwr L tw ct PF DF GF k dd) 0 10; have := cnw_le (mwr L tw ct PF DF GF k dd) 1 10; omega) (by decide)).mp c80)); rw [show mst L tw ct PF DF GF k dd = 1 from stv_1 hb hg]; rfl, rfl⟩) (Nat.le_of_ble_eq_true rfl) (Nat.le_of_ble_eq_true rfl) d_MO_stateOf_107
    · skip
      refine g_iconst (v := 2) X d_MO_stateOf_83 (by decide) ?_
      refine g_goto X 107 d_MO_stateOf_84 (by decide) ?_
      exact g_iret X rfl (⟨by have hg := (Nat.lt_of_not_le (fun z => c75 ((nI_leI (a := cnw (mwr L tw ct PF DF GF k dd) 1 10) (b := 0) (by have := cnw_le (mwr L tw ct PF DF GF k dd) 0 10; have := cnw_le (mwr L tw ct PF DF GF k dd) 1 10; omega) (by decide)).mpr z))); have hb := (Nat.lt_of_not_le (fun z => c80 ((nI_leI (a := cnw (mwr L tw ct PF DF GF k dd) 0 10) (b := 0) (by have := cnw_le (mwr L tw ct PF DF GF k dd) 0 10; have := cnw_le (mwr L tw ct PF DF GF k dd) 1 10; omega) (by decide)).mpr z))); rw [show mst L tw ct PF DF GF k dd = 2 from stv_2 hg hb]; rfl, rfl⟩) (Nat.le_of_ble_eq_true rfl) (Nat.le_of_ble_eq_true rfl) d_MO_stateOf_107
/-- the next day on which a result begins or ceases to count, by the reference -/
def nd1 (x dd d : Nat) : Nat := if dd < d ∧ d < x then d else x
def ndn (L : Nat) (DF : Nat → Nat) (k dd : Nat) : Nat → Nat
  | 0 => 1000000000
  | i + 1 => nd1 (nd1 (ndn L DF k dd i) dd (DF (32 * k + i))) dd (DF (32 * k + i) + L + 1)
theorem nd1_le (x dd d : Nat) : nd1 x dd d ≤ x := by
  unfold nd1
  split
  · rename_i h; omega
  · exact Nat.le_refl _
theorem ndn_le (L : Nat) (DF : Nat → Nat) (k dd : Nat) : ∀ i, ndn L DF k dd i ≤ 1000000000
  | 0 => Nat.le_refl _
  | i + 1 => Nat.le_trans (nd1_le _ _ _) (Nat.le_trans (nd1_le _ _ _) (ndn_le L DF k dd i))
/-- the first day behind a day with a property, below a bound: as it is found -/
def ndf (p : Nat → Bool) (dd nx r : Nat) : Prop := (dd < r ∧ r ≤ 100000 ∧ r < nx ∧ p r = true ∧ ∀ e, dd < e → e < r → p e = false) ∨ (r = nx ∧ ∀ e, dd < e → e ≤ 100000 → e < nx → p e = false)
set_option maxHeartbeats 4000000 in
set_option maxRecDepth 100000 in
theorem L_MO_nextDay {p : Program} {l : Launch} {e : Env} {s : State} {m : MethodId} {args : Array Value} {below : List Frame} {meth : Method} {c : Code} {Q : State → Prop} {A : Nat → Prop} {D : va_G} {cI cZ cO cJ : ClassId} {eA eM : Nat} {f : g_F} {bd : Nat → Nat} {th : Int32} {L nc : Nat} {pt ot : Nat → Int32} {n : Nat} {P Du S Wy tw ct PF DF : Nat → Nat} {GF : Nat → Bool} {pz pm : Nat} {O Le : Nat → Nat} {Sl : Nat → Bool} (hR : mo_R cI cZ f bd th L nc pt ot n P Du S Wy tw ct PF DF GF pz pm O Le Sl) (hB : mo_B L nc n P Du S Wy tw ct PF DF pz pm O Le) {k dd : Nat} (hk : k < 24) (hdd : dd < 2 ^ 30) (X : g_X p s m args meth c b_MO_nextDay 6 (some .int) g_T y_MO_nextDay.cls D g_cl (g_tys cI cZ cO cJ) A (z_Z eA eM)) (kk : g_W p l e { frames := 1, cells := 0, slots := 0, locals := 22 } s m args below meth c 6 D g_cl A f 0 0 Q 96 [(4, .int (nI (ct k))), (3, .int (nI (ndn L DF k dd (ct k)))), (0, .ref (bd 0)), (1, .int (nI k)), (2, .int (nI dd))] []) : ∀ (d : Nat) (i : Nat), (i + d = ct k) → g_W p l e { frames := 1, cells := 0, slots := 0, locals := 22 } s m args below meth c 6 D g_cl A f 0 0 Q 6 [(4, .int (nI i)), (3, .int (nI (ndn L DF k dd i))), (0, .ref (bd 0)), (1, .int (nI k)), (2, .int (nI dd))] [] := by
  obtain ⟨hM, h1, h2, h3, h4, h5, h6, h7, h8, h9, h10, h11, h12, h13, h14⟩ := id hR
  obtain ⟨⟨hL1, hL5⟩, hnc, hUB, htw, hct, hPF, hDF, ⟨hpz, hpm, hO8⟩, hLe⟩ := id hB
  obtain ⟨hn8, hP, hDu, hS, hWy⟩ := id hUB
  intro d
  induction d using Nat.strongRecOn with
  | _ d ih =>
    intro i hi
    refine g_iload X d_MO_nextDay_6 0 rfl ?_
    refine g_aload_n X d_MO_nextDay_8 2 rfl ?_
    refine g_get (ci := 5) (C := R_MO) (T := F_MO) (N := 20) (v := .ref (bd 8)) X i_MO rfl hM 11 (by decide) q_608 (fun _ h9 => h9) rfl d_MO_nextDay_9 ?_
    refine g_iload_n X d_MO_nextDay_12 3 rfl ?_
    refine g_iald (t0 := 0) (v := nI (ct k)) X h8 rfl (nI_ix ((by omega : k < 24)) (by decide)) (nI_cl (g := fun q9 => nI (ct q9)) (Nat.lt_trans ((by omega : k < 24)) (by decide))) d_MO_nextDay_13 ?_
    refine g_icmp_ge X 96 d_MO_nextDay_14 (by decide) (fun c14 => ?_) (fun c14 => ?_)
    · skip
      have e : i = ct k := by have := hct k; have := (nI_leI (by omega) (by omega)).mp c14; omega
      subst e
      exact kk
    · skip
      have hctk := hct k
      have hlt2 : i < ct k := Nat.lt_of_not_le (fun z => c14 ((nI_leI (by omega) (by omega)).mpr z))
      have hnn := ndn_le L DF k dd i
      have hdf := hDF (32 * k + i)
      refine g_aload_n X d_MO_nextDay_17 2 rfl ?_
      refine g_get (ci := 5) (C := R_MO) (T := F_MO) (N := 20) (v := .ref (bd 10)) X i_MO rfl hM 13 (by decide) q_610 (fun _ h9 => h9) rfl d_MO_nextDay_18 ?_
      refine g_bipush (v := 32) X d_MO_nextDay_21 (by decide) ?_
      refine g_iload_n X d_MO_nextDay_23 3 rfl ?_
      refine g_imul X d_MO_nextDay_24 ?_
      refine g_eqi (y := nI (32 * k)) (nI_mul 32 k) ?_
      refine g_iload X d_MO_nextDay_25 0 rfl ?_
      refine g_iadd X d_MO_nextDay_27 ?_
      refine g_eqi (y := nI (32 * k + i)) (nI_add _ _) ?_
      refine g_iald (t0 := 0) (v := nI (DF (32 * k + i))) X h10 rfl (nI_ix ((by omega : 32 * k + i < 768)) (by decide)) (nI_cl (g := fun q9 => nI (DF q9)) (Nat.lt_trans ((by omega : 32 * k + i < 768)) (by decide))) d_MO_nextDay_28 ?_
      refine g_istore (lv' := [(5, .int (nI (DF (32 * k + i)))), (4, .int (nI i)), (3, .int (nI (ndn L DF k dd i))), (0, .ref (bd 0)), (1, .int (nI k)), (2, .int (nI dd))]) X d_MO_nextDay_29 (by decide) rfl ?_
      refine g_iload X d_MO_nextDay_31 0 rfl ?_
      refine g_iload_n X d_MO_nextDay_33 5 rfl ?_
      refine g_icmp_le X 48 d_MO_nextDay_34 (by decide) (fun c34 => ?_) (fun c34 => ?_)
      · skip
        refine g_iload_n X d_MO_nextDay_48 2 rfl ?_
        refine g_eqi (y := nI (nd1 (ndn L DF k dd i) dd (DF (32 * k + i)))) (by rw [show nd1 (ndn L DF k dd i) dd (DF (32 * k + i)) = ndn L DF k dd i from if_neg (fun z => by first | exact absurd z.1 (Nat.not_lt.mpr ((nI_leI (by omega) (by omega)).mp c34)) | exact absurd z.2 (Nat.not_lt.mpr ((nI_leI (by omega) (by omega)).mp c40)))]) ?_
        have ha1 := nd1_le (ndn L DF k dd i) dd (DF (32 * k + i))
        refine g_istore_n (lv' := [(3, .int (nI (nd1 (ndn L DF k dd i) dd (DF (32 * k + i))))), (5, .int (nI (DF (32 * k + i)))), (4, .int (nI i)), (0, .ref (bd 0)), (1, .int (nI k)), (2, .int (nI dd))]) X d_MO_nextDay_49 rfl (by decide) rfl ?_
        refine g_iload X d_MO_nextDay_50 1 rfl ?_
        refine g_aload_n X d_MO_nextDay_52 3 rfl ?_
        refine g_get (ci := 5) (C := R_MO) (T := F_MO) (N := 20) (v := .int (nI L)) X i_MO rfl hM 1 (by decide) q_598 (fun _ h9 => h9) rfl d_MO_nextDay_53 ?_
        refine g_iadd X d_MO_nextDay_56 ?_
        refine g_eqi (y := nI (DF (32 * k + i) + L)) (nI_add _ _) ?_
        refine g_iconst (v := 1) X d_MO_nextDay_57 (by decide) ?_
        refine g_iadd X d_MO_nextDay_58 ?_
        refine g_eqi (y := nI (DF (32 * k + i) + L + 1)) (nI_1 _) ?_
        refine g_iload_n X d_MO_nextDay_59 5 rfl ?_
        refine g_icmp_le X 88 d_MO_nextDay_60 (by decide) (fun c60 => ?_) (fun c60 => ?_)
        · skip
          refine g_iload_n X d_MO_nextDay_88 0 rfl ?_
          refine g_eqi (y := nI (ndn L DF k dd (i + 1))) (by rw [show ndn L DF k dd (i + 1) = nd1 (ndn L DF k dd i) dd (DF (32 * k + i)) from if_neg (fun z => by first | exact absurd z.1 (Nat.not_lt.mpr ((nI_leI (by omega) (by omega)).mp c60)) | exact absurd z.2 (Nat.not_lt.mpr ((nI_leI (by omega) (by omega)).mp c73)))]) ?_
          refine g_istore_n (lv' := [(3, .int (nI (ndn L DF k dd (i + 1)))), (5, .int (nI (DF (32 * k + i)))), (4, .int (nI i)), (0, .ref (bd 0)), (1, .int (nI k)), (2, .int (nI dd))]) X d_MO_nextDay_89 rfl (by decide) rfl ?_
          refine g_iinc (lv' := [(4, .int (nI (i + 1))), (3, .int (nI (ndn L DF k dd (i + 1)))), (5, .int (nI (DF (32 * k + i)))), (0, .ref (bd 0)), (1, .int (nI k)), (2, .int (nI dd))]) X d_MO_nextDay_90 2 rfl (nI_1 i) (by decide) rfl ?_
          refine g_goto X 6 d_MO_nextDay_93 (by decide) ?_
          exact g_lv [0, 1, 3, 4, 5] rfl (ih (d - 1) (by omega) (i + 1) (by omega))
        · skip
          refine g_iload X d_MO_nextDay_63 1 rfl ?_
          refine g_aload_n X d_MO_nextDay_65 3 rfl ?_
          refine g_get (ci := 5) (C := R_MO) (T := F_MO) (N := 20) (v := .int (nI L)) X i_MO rfl hM 1 (by decide) q_598 (fun _ h9 => h9) rfl d_MO_nextDay_66 ?_
          refine g_iadd X d_MO_nextDay_69 ?_
          refine g_eqi (y := nI (DF (32 * k + i) + L)) (nI_add _ _) ?_
          refine g_iconst (v := 1) X d_MO_nextDay_70 (by decide) ?_
          refine g_iadd X d_MO_nextDay_71 ?_
          refine g_eqi (y := nI (DF (32 * k + i) + L + 1)) (nI_1 _) ?_
          refine g_iload_n X d_MO_nextDay_72 0 rfl ?_
          refine g_icmp_ge X 88 d_MO_nextDay_73 (by decide) (fun c73 => ?_) (fun c73 => ?_)
          · skip
            refine g_iload_n X d_MO_nextDay_88 0 rfl ?_
            refine g_eqi (y := nI (ndn L DF k dd (i + 1))) (by rw [show ndn L DF k dd (i + 1) = nd1 (ndn L DF k dd i) dd (DF (32 * k + i)) from if_neg (fun z => by first | exact absurd z.1 (Nat.not_lt.mpr ((nI_leI (by omega) (by omega)).mp c60)) | exact absurd z.2 (Nat.not_lt.mpr ((nI_leI (by omega) (by omega)).mp c73)))]) ?_
            refine g_istore_n (lv' := [(3, .int (nI (ndn L DF k dd (i + 1)))), (5, .int (nI (DF (32 * k + i)))), (4, .int (nI i)), (0, .ref (bd 0)), (1, .int (nI k)), (2, .int (nI dd))]) X d_MO_nextDay_89 rfl (by decide) rfl ?_
            refine g_iinc (lv' := [(4, .int (nI (i + 1))), (3, .int (nI (ndn L DF k dd (i + 1)))), (5, .int (nI (DF (32 * k + i)))), (0, .ref (bd 0)), (1, .int (nI k)), (2, .int (nI dd))]) X d_MO_nextDay_90 2 rfl (nI_1 i) (by decide) rfl ?_
            refine g_goto X 6 d_MO_nextDay_93 (by decide) ?_
            exact g_lv [0, 1, 3, 4, 5] rfl (ih (d - 1) (by omega) (i + 1) (by omega))
          · skip
            refine g_iload X d_MO_nextDay_76 1 rfl ?_
            refine g_aload_n X d_MO_nextDay_78 3 rfl ?_
            refine g_get (ci := 5) (C := R_MO) (T := F_MO) (N := 20) (v := .int (nI L)) X i_MO rfl hM 1 (by decide) q_598 (fun _ h9 => h9) rfl d_MO_nextDay_79 ?_
            refine g_iadd X d_MO_nextDay_82 ?_
            refine g_eqi (y := nI (DF (32 * k + i) + L)) (nI_add _ _) ?_
            refine g_iconst (v := 1) X d_MO_nextDay_83 (by decide) ?_
            refine g_iadd X d_MO_nextDay_84 ?_
            refine g_eqi (y := nI (DF (32 * k + i) + L + 1)) (nI_1 _) ?_
            refine g_goto X 89 d_MO_nextDay_85 (by decide) ?_
            refine g_eqi (y := nI (ndn L DF k dd (i + 1))) (by rw [show ndn L DF k dd (i + 1) = DF (32 * k + i) + L + 1 from if_pos ⟨Nat.lt_of_not_le (fun z => c60 ((nI_leI (by omega) (by omega)).mpr z)), Nat.lt_of_not_le (fun z => c73 ((nI_leI (by omega) (by omega)).mpr z))⟩]) ?_
            refine g_istore_n (lv' := [(3, .int (nI (ndn L DF k dd (i + 1)))), (5, .int (nI (DF (32 * k + i)))), (4, .int (nI i)), (0, .ref (bd 0)), (1, .int (nI k)), (2, .int (nI dd))]) X d_MO_nextDay_89 rfl (by decide) rfl ?_
            refine g_iinc (lv' := [(4, .int (nI (i + 1))), (3, .int (nI (ndn L DF k dd (i + 1)))), (5, .int (nI (DF (32 * k + i)))), (0, .ref (bd 0)), (1, .int (nI k)), (2, .int (nI dd))]) X d_MO_nextDay_90 2 rfl (nI_1 i) (by decide) rfl ?_
            refine g_goto X 6 d_MO_nextDay_93 (by decide) ?_
            exact g_lv [0, 1, 3, 4, 5] rfl (ih (d - 1) (by omega) (i + 1) (by omega))
      · skip
        refine g_iload X d_MO_nextDay_37 0 rfl ?_
        refine g_iload_n X d_MO_nextDay_39 2 rfl ?_
        refine g_icmp_ge X 48 d_MO_nextDay_40 (by decide) (fun c40 => ?_) (fun c40 => ?_)
        · skip
          refine g_iload_n X d_MO_nextDay_48 2 rfl ?_
          refine g_eqi (y := nI (nd1 (ndn L DF k dd i) dd (DF (32 * k + i)))) (by rw [show nd1 (ndn L DF k dd i) dd (DF (32 * k + i)) = ndn L DF k dd i from if_neg (fun z => by first | exact absurd z.1 (Nat.not_lt.mpr ((nI_leI (by omega) (by omega)).mp c34)) | exact absurd z.2 (Nat.not_lt.mpr ((nI_leI (by omega) (by omega)).mp c40)))]) ?_
          have ha1 := nd1_le (ndn L DF k dd i) dd (DF (32 * k + i))
          refine g_istore_n (lv' := [(3, .int (nI (nd1 (ndn L DF k dd i) dd (DF (32 * k + i))))), (5, .int (nI (DF (32 * k + i)))), (4, .int (nI i)), (0, .ref (bd 0)), (1, .int (nI k)), (2, .int (nI dd))]) X d_MO_nextDay_49 rfl (by decide) rfl ?_
          refine g_iload X d_MO_nextDay_50 1 rfl ?_
          refine g_aload_n X d_MO_nextDay_52 3 rfl ?_
          refine g_get (ci := 5) (C := R_MO) (T := F_MO) (N := 20) (v := .int (nI L)) X i_MO rfl hM 1 (by decide) q_598 (fun _ h9 => h9) rfl d_MO_nextDay_53 ?_
          refine g_iadd X d_MO_nextDay_56 ?_
          refine g_eqi (y := nI (DF (32 * k + i) + L)) (nI_add _ _) ?_
          refine g_iconst (v := 1) X d_MO_nextDay_57 (by decide) ?_
          refine g_iadd X d_MO_nextDay_58 ?_
          refine g_eqi (y := nI (DF (32 * k + i) + L + 1)) (nI_1 _) ?_
          refine g_iload_n X d_MO_nextDay_59 5 rfl ?_
          refine g_icmp_le X 88 d_MO_nextDay_60 (by decide) (fun c60 => ?_) (fun c60 => ?_)
          · skip
            refine g_iload_n X d_MO_nextDay_88 0 rfl ?_
            refine g_eqi (y := nI (ndn L DF k dd (i + 1))) (by rw [show ndn L DF k dd (i + 1) = nd1 (ndn L DF k dd i) dd (DF (32 * k + i)) from if_neg (fun z => by first | exact absurd z.1 (Nat.not_lt.mpr ((nI_leI (by omega) (by omega)).mp c60)) | exact absurd z.2 (Nat.not_lt.mpr ((nI_leI (by omega) (by omega)).mp c73)))]) ?_
            refine g_istore_n (lv' := [(3, .int (nI (ndn L DF k dd (i + 1)))), (5, .int (nI (DF (32 * k + i)))), (4, .int (nI i)), (0, .ref (bd 0)), (1, .int (nI k)), (2, .int (nI dd))]) X d_MO_nextDay_89 rfl (by decide) rfl ?_
            refine g_iinc (lv' := [(4, .int (nI (i + 1))), (3, .int (nI (ndn L DF k dd (i + 1)))), (5, .int (nI (DF (32 * k + i)))), (0, .ref (bd 0)), (1, .int (nI k)), (2, .int (nI dd))]) X d_MO_nextDay_90 2 rfl (nI_1 i) (by decide) rfl ?_
            refine g_goto X 6 d_MO_nextDay_93 (by decide) ?_
            exact g_lv [0, 1, 3, 4, 5] rfl (ih (d - 1) (by omega) (i + 1) (by omega))
          · skip
            refine g_iload X d_MO_nextDay_63 1 rfl ?_
            refine g_aload_n X d_MO_nextDay_65 3 rfl ?_
            refine g_get (ci := 5) (C := R_MO) (T := F_MO) (N := 20) (v := .int (nI L)) X i_MO rfl hM 1 (by decide) q_598 (fun _ h9 => h9) rfl d_MO_nextDay_66 ?_
            refine g_iadd X d_MO_nextDay_69 ?_
            refine g_eqi (y := nI (DF (32 * k + i) + L)) (nI_add _ _) ?_
            refine g_iconst (v := 1) X d_MO_nextDay_70 (by decide) ?_
            refine g_iadd X d_MO_nextDay_71 ?_
            refine g_eqi (y := nI (DF (32 * k + i) + L + 1)) (nI_1 _) ?_
            refine g_iload_n X d_MO_nextDay_72 0 rfl ?_
            refine g_icmp_ge X 88 d_MO_nextDay_73 (by decide) (fun c73 => ?_) (fun c73 => ?_)
            · skip
              refine g_iload_n X d_MO_nextDay_88 0 rfl ?_
              refine g_eqi (y := nI (ndn L DF k dd (i + 1))) (by rw [show ndn L DF k dd (i + 1) = nd1 (ndn L DF k dd i) dd (DF (32 * k + i)) from if_neg (fun z => by first | exact absurd z.1 (Nat.not_lt.mpr ((nI_leI (by omega) (by omega)).mp c60)) | exact absurd z.2 (Nat.not_lt.mpr ((nI_leI (by omega) (by omega)).mp c73)))]) ?_
              refine g_istore_n (lv' := [(3, .int (nI (ndn L DF k dd (i + 1)))), (5, .int (nI (DF (32 * k + i)))), (4, .int (nI i)), (0, .ref (bd 0)), (1, .int (nI k)), (2, .int (nI dd))]) X d_MO_nextDay_89 rfl (by decide) rfl ?_
              refine g_iinc (lv' := [(4, .int (nI (i + 1))), (3, .int (nI (ndn L DF k dd (i + 1)))), (5, .int (nI (DF (32 * k + i)))), (0, .ref (bd 0)), (1, .int (nI k)), (2, .int (nI dd))]) X d_MO_nextDay_90 2 rfl (nI_1 i) (by decide) rfl ?_
              refine g_goto X 6 d_MO_nextDay_93 (by decide) ?_
              exact g_lv [0, 1, 3, 4, 5] rfl (ih (d - 1) (by omega) (i + 1) (by omega))
            · skip
              refine g_iload X d_MO_nextDay_76 1 rfl ?_
              refine g_aload_n X d_MO_nextDay_78 3 rfl ?_
              refine g_get (ci := 5) (C := R_MO) (T := F_MO) (N := 20) (v := .int (nI L)) X i_MO rfl hM 1 (by decide) q_598 (fun _ h9 => h9) rfl d_MO_nextDay_79 ?_
              refine g_iadd X d_MO_nextDay_82 ?_
              refine g_eqi (y := nI (DF (32 * k + i) + L)) (nI_add _ _) ?_
              refine g_iconst (v := 1) X d_MO_nextDay_83 (by decide) ?_
              refine g_iadd X d_MO_nextDay_84 ?_
              refine g_eqi (y := nI (DF (32 * k + i) + L + 1)) (nI_1 _) ?_
              refine g_goto X 89 d_MO_nextDay_85 (by decide) ?_
              refine g_eqi (y := nI (ndn L DF k dd (i + 1))) (by rw [show ndn L DF k dd (i + 1) = DF (32 * k + i) + L + 1 from if_pos ⟨Nat.lt_of_not_le (fun z => c60 ((nI_leI (by omega) (by omega)).mpr z)), Nat.lt_of_not_le (fun z => c73 ((nI_leI (by omega) (by omega)).mpr z))⟩]) ?_
              refine g_istore_n (lv' := [(3, .int (nI (ndn L DF k dd (i + 1)))), (5, .int (nI (DF (32 * k + i)))), (4, .int (nI i)), (0, .ref (bd 0)), (1, .int (nI k)), (2, .int (nI dd))]) X d_MO_nextDay_89 rfl (by decide) rfl ?_
              refine g_iinc (lv' := [(4, .int (nI (i + 1))), (3, .int (nI (ndn L DF k dd (i + 1)))), (5, .int (nI (DF (32 * k + i)))), (0, .ref (bd 0)), (1, .int (nI k)), (2, .int (nI dd))]) X d_MO_nextDay_90 2 rfl (nI_1 i) (by decide) rfl ?_
              refine g_goto X 6 d_MO_nextDay_93 (by decide) ?_
              exact g_lv [0, 1, 3, 4, 5] rfl (ih (d - 1) (by omega) (i + 1) (by omega))
        · skip
          refine g_iload X d_MO_nextDay_43 0 rfl ?_
          refine g_goto X 49 d_MO_nextDay_45 (by decide) ?_
          refine g_eqi (y := nI (nd1 (ndn L DF k dd i) dd (DF (32 * k + i)))) (by rw [show nd1 (ndn L DF k dd i) dd (DF (32 * k + i)) = DF (32 * k + i) from if_pos ⟨Nat.lt_of_not_le (fun z => c34 ((nI_leI (by omega) (by omega)).mpr z)), Nat.lt_of_not_le (fun z => c40 ((nI_leI (by omega) (by omega)).mpr z))⟩]) ?_
          have ha1 := nd1_le (ndn L DF k dd i) dd (DF (32 * k + i))
          refine g_istore_n (lv' := [(3, .int (nI (nd1 (ndn L DF k dd i) dd (DF (32 * k + i))))), (5, .int (nI (DF (32 * k + i)))), (4, .int (nI i)), (0, .ref (bd 0)), (1, .int (nI k)), (2, .int (nI dd))]) X d_MO_nextDay_49 rfl (by decide) rfl ?_
          refine g_iload X d_MO_nextDay_50 1 rfl ?_
          refine g_aload_n X d_MO_nextDay_52 3 rfl ?_
          refine g_get (ci := 5) (C := R_MO) (T := F_MO) (N := 20) (v := .int (nI L)) X i_MO rfl hM 1 (by decide) q_598 (fun _ h9 => h9) rfl d_MO_nextDay_53 ?_
          refine g_iadd X d_MO_nextDay_56 ?_
          refine g_eqi (y := nI (DF (32 * k + i) + L)) (nI_add _ _) ?_
          refine g_iconst (v := 1) X d_MO_nextDay_57 (by decide) ?_
          refine g_iadd X d_MO_nextDay_58 ?_
          refine g_eqi (y := nI (DF (32 * k + i) + L + 1)) (nI_1 _) ?_
          refine g_iload_n X d_MO_nextDay_59 5 rfl ?_
          refine g_icmp_le X 88 d_MO_nextDay_60 (by decide) (fun c60 => ?_) (fun c60 => ?_)
          · skip
            refine g_iload_n X d_MO_nextDay_88 0 rfl ?_
            refine g_eqi (y := nI (ndn L DF k dd (i + 1))) (by rw [show ndn L DF k dd (i + 1) = nd1 (ndn L DF k dd i) dd (DF (32 * k + i)) from if_neg (fun z => by first | exact absurd z.1 (Nat.not_lt.mpr ((nI_leI (by omega) (by omega)).mp c60)) | exact absurd z.2 (Nat.not_lt.mpr ((nI_leI (by omega) (by omega)).mp c73)))]) ?_
            refine g_istore_n (lv' := [(3, .int (nI (ndn L DF k dd (i + 1)))), (5, .int (nI (DF (32 * k + i)))), (4, .int (nI i)), (0, .ref (bd 0)), (1, .int (nI k)), (2, .int (nI dd))]) X d_MO_nextDay_89 rfl (by decide) rfl ?_
            refine g_iinc (lv' := [(4, .int (nI (i + 1))), (3, .int (nI (ndn L DF k dd (i + 1)))), (5, .int (nI (DF (32 * k + i)))), (0, .ref (bd 0)), (1, .int (nI k)), (2, .int (nI dd))]) X d_MO_nextDay_90 2 rfl (nI_1 i) (by decide) rfl ?_
            refine g_goto X 6 d_MO_nextDay_93 (by decide) ?_
            exact g_lv [0, 1, 3, 4, 5] rfl (ih (d - 1) (by omega) (i + 1) (by omega))
          · skip
            refine g_iload X d_MO_nextDay_63 1 rfl ?_
            refine g_aload_n X d_MO_nextDay_65 3 rfl ?_
            refine g_get (ci := 5) (C := R_MO) (T := F_MO) (N := 20) (v := .int (nI L)) X i_MO rfl hM 1 (by decide) q_598 (fun _ h9 => h9) rfl d_MO_nextDay_66 ?_
            refine g_iadd X d_MO_nextDay_69 ?_
            refine g_eqi (y := nI (DF (32 * k + i) + L)) (nI_add _ _) ?_
            refine g_iconst (v := 1) X d_MO_nextDay_70 (by decide) ?_
            refine g_iadd X d_MO_nextDay_71 ?_
            refine g_eqi (y := nI (DF (32 * k + i) + L + 1)) (nI_1 _) ?_
            refine g_iload_n X d_MO_nextDay_72 0 rfl ?_
            refine g_icmp_ge X 88 d_MO_nextDay_73 (by decide) (fun c73 => ?_) (fun c73 => ?_)
            · skip
              refine g_iload_n X d_MO_nextDay_88 0 rfl ?_
              refine g_eqi (y := nI (ndn L DF k dd (i + 1))) (by rw [show ndn L DF k dd (i + 1) = nd1 (ndn L DF k dd i) dd (DF (32 * k + i)) from if_neg (fun z => by first | exact absurd z.1 (Nat.not_lt.mpr ((nI_leI (by omega) (by omega)).mp c60)) | exact absurd z.2 (Nat.not_lt.mpr ((nI_leI (by omega) (by omega)).mp c73)))]) ?_
              refine g_istore_n (lv' := [(3, .int (nI (ndn L DF k dd (i + 1)))), (5, .int (nI (DF (32 * k + i)))), (4, .int (nI i)), (0, .ref (bd 0)), (1, .int (nI k)), (2, .int (nI dd))]) X d_MO_nextDay_89 rfl (by decide) rfl ?_
              refine g_iinc (lv' := [(4, .int (nI (i + 1))), (3, .int (nI (ndn L DF k dd (i + 1)))), (5, .int (nI (DF (32 * k + i)))), (0, .ref (bd 0)), (1, .int (nI k)), (2, .int (nI dd))]) X d_MO_nextDay_90 2 rfl (nI_1 i) (by decide) rfl ?_
              refine g_goto X 6 d_MO_nextDay_93 (by decide) ?_
              exact g_lv [0, 1, 3, 4, 5] rfl (ih (d - 1) (by omega) (i + 1) (by omega))
            · skip
              refine g_iload X d_MO_nextDay_76 1 rfl ?_
              refine g_aload_n X d_MO_nextDay_78 3 rfl ?_
              refine g_get (ci := 5) (C := R_MO) (T := F_MO) (N := 20) (v := .int (nI L)) X i_MO rfl hM 1 (by decide) q_598 (fun _ h9 => h9) rfl d_MO_nextDay_79 ?_
              refine g_iadd X d_MO_nextDay_82 ?_
              refine g_eqi (y := nI (DF (32 * k + i) + L)) (nI_add _ _) ?_
              refine g_iconst (v := 1) X d_MO_nextDay_83 (by decide) ?_
              refine g_iadd X d_MO_nextDay_84 ?_
              refine g_eqi (y := nI (DF (32 * k + i) + L + 1)) (nI_1 _) ?_
              refine g_goto X 89 d_MO_nextDay_85 (by decide) ?_
              refine g_eqi (y := nI (ndn L DF k dd (i + 1))) (by rw [show ndn L DF k dd (i + 1) = DF (32 * k + i) + L + 1 from if_pos ⟨Nat.lt_of_not_le (fun z => c60 ((nI_leI (by omega) (by omega)).mpr z)), Nat.lt_of_not_le (fun z => c73 ((nI_leI (by omega) (by omega)).mpr z))⟩]) ?_
              refine g_istore_n (lv' := [(3, .int (nI (ndn L DF k dd (i + 1)))), (5, .int (nI (DF (32 * k + i)))), (4, .int (nI i)), (0, .ref (bd 0)), (1, .int (nI k)), (2, .int (nI dd))]) X d_MO_nextDay_89 rfl (by decide) rfl ?_
              refine g_iinc (lv' := [(4, .int (nI (i + 1))), (3, .int (nI (ndn L DF k dd (i + 1)))), (5, .int (nI (DF (32 * k + i)))), (0, .ref (bd 0)), (1, .int (nI k)), (2, .int (nI dd))]) X d_MO_nextDay_90 2 rfl (nI_1 i) (by decide) rfl ?_
              refine g_goto X 6 d_MO_nextDay_93 (by decide) ?_
              exact g_lv [0, 1, 3, 4, 5] rfl (ih (d - 1) (by omega) (i + 1) (by omega))
set_option maxHeartbeats 4000000 in
set_option maxRecDepth 100000 in
theorem L_MO_nextDayT {p : Program} {l : Launch} {e : Env} {s : State} {m : MethodId} {args : Array Value} {below : List Frame} {meth : Method} {c : Code} {Q : State → Prop} {A : Nat → Prop} {D : va_G} {cI cZ cO cJ : ClassId} {eA eM : Nat} {f : g_F} {bd : Nat → Nat} {th : Int32} {L nc : Nat} {pt ot : Nat → Int32} {n : Nat} {P Du S Wy tw ct PF DF : Nat → Nat} {GF : Nat → Bool} {pz pm : Nat} {O Le : Nat → Nat} {Sl : Nat → Bool} (hR : mo_R cI cZ f bd th L nc pt ot n P Du S Wy tw ct PF DF GF pz pm O Le Sl) (hB : mo_B L nc n P Du S Wy tw ct PF DF pz pm O Le) {k dd nx : Nat} (hk : k < 24) (hdd : dd < 2 ^ 30) (hnx : nx < 2 ^ 31) (X : g_X p s m args meth c b_MO_nextDay 6 (some .int) g_T y_MO_nextDay.cls D g_cl (g_tys cI cZ cO cJ) A (z_Z eA eM)) (kk : ∀ x_ : Nat, x_ < 2 ^ 31 → dd < x_ → (∀ e, dd < e → e < x_ → tb tw k e = false) → (¬ x_ ≤ 100000 ∨ ¬ x_ < nx ∨ tb tw k x_ = true) → g_W p l e { frames := 1, cells := 0, slots := 0, locals := 22 } s m args below meth c 6 D g_cl A f 0 0 Q 168 [(4, .int (nI x_)), (3, .int (nI nx)), (0, .ref (bd 0)), (1, .int (nI k))] []) : ∀ (d : Nat) (x_ : Nat), (d = 100040 - x_) → (dd < x_ ∧ x_ ≤ 2 ^ 30) → (∀ e, dd < e → e < x_ → tb tw k e = false) → g_W p l e { frames := 1, cells := 0, slots := 0, locals := 22 } s m args below meth c 6 D g_cl A f 0 0 Q 101 [(4, .int (nI x_)), (3, .int (nI nx)), (0, .ref (bd 0)), (1, .int (nI k))] [] := by
  obtain ⟨hM, h1, h2, h3, h4, h5, h6, h7, h8, h9, h10, h11, h12, h13, h14⟩ := id hR
  obtain ⟨⟨hL1, hL5⟩, hnc, hUB, htw, hct, hPF, hDF, ⟨hpz, hpm, hO8⟩, hLe⟩ := id hB
  obtain ⟨hn8, hP, hDu, hS, hWy⟩ := id hUB
  intro d
  induction d using Nat.strongRecOn with
  | _ d ih =>
    intro x_ hd hx hj
    refine g_iload X d_MO_nextDay_101 0 rfl ?_
    refine g_ldc (v := 100000) X q_696 d_MO_nextDay_103 ?_
    refine g_icmp_gt X 168 d_MO_nextDay_105 (by decide) (fun c105 => ?_) (fun c105 => ?_)
    · skip
      have hw9 : ¬ x_ ≤ 100000 := Nat.not_le.mpr ((nI_ltI (a := 100000) (by decide) (by omega)).mp c105)
      have hw : ¬ x_ ≤ 100000 ∨ ¬ x_ < nx ∨ tb tw k x_ = true := Or.inl hw9
      exact g_lv [0, 1, 2, 3] rfl (kk x_ (by omega) hx.1 hj hw)
    · skip
      have h105 : x_ ≤ 100000 := Nat.le_of_not_lt (fun z => c105 ((nI_ltI (a := 100000) (by decide) (by omega)).mpr z))
      refine g_iload X d_MO_nextDay_108 0 rfl ?_
      refine g_iload_n X d_MO_nextDay_110 1 rfl ?_
      refine g_icmp_ge X 168 d_MO_nextDay_111 (by decide) (fun c111 => ?_) (fun c111 => ?_)
      · skip
        have hw : ¬ x_ ≤ 100000 ∨ ¬ x_ < nx ∨ tb tw k x_ = true := Or.inr (Or.inl (Nat.not_lt.mpr ((nI_leI (by omega) (by omega)).mp c111)))
        exact g_lv [0, 1, 2, 3] rfl (kk x_ (by omega) hx.1 hj hw)
      · skip
        refine g_aload_n X d_MO_nextDay_114 2 rfl ?_
        refine g_iload_n X d_MO_nextDay_115 3 rfl ?_
        refine g_iload X d_MO_nextDay_116 0 rfl ?_
        refine g_callV (ci := 5) (As := [.int (nI k), .int (nI x_)]) (rest := []) X (z_ok eA eM) rfl rfl hM (c_MO_isTouched hR hB (k := k) (dd := x_) hk (by omega)) v_MO_isTouched q_715 q_s23 q_713 rfl rfl (Nat.le_of_ble_eq_true rfl) d_MO_nextDay_118 ⟨(Nat.le_of_ble_eq_true rfl), (Nat.le_of_ble_eq_true rfl)⟩ ⟨(Nat.le_of_ble_eq_true rfl), (Nat.le_of_ble_eq_true rfl)⟩ (g_K.no (fun _ h => h)) (fun r_ f2_ hp => ?_)
        obtain ⟨rfl, hf_⟩ := hp
        subst f2_
        refine g_st (st2 := [.int (bI (tb tw k x_))]) rfl ?_
        refine g_if_ne X 168 d_MO_nextDay_121 (by decide) (fun c121 => ?_) (fun c121 => ?_)
        · skip
          have hw : ¬ x_ ≤ 100000 ∨ ¬ x_ < nx ∨ tb tw k x_ = true := Or.inr (Or.inr (bt_nf (fun z => c121 (bI_z.mpr z))))
          exact g_lv [0, 1, 2, 3] rfl (kk x_ (by omega) hx.1 hj hw)
        · skip
          have hb9 : tb tw k x_ = false := bI_z.mp c121
          refine g_iload X d_MO_nextDay_124 0 rfl ?_
          refine g_bipush (v := 32) X d_MO_nextDay_126 (by decide) ?_
          refine g_irem X d_MO_nextDay_128 (by decide) ?_
          refine g_eqi (y := nI (x_ % 32)) (nI_rem32 (by omega)) ?_
          refine g_if_ne X 159 d_MO_nextDay_129 (by decide) (fun c129 => ?_) (fun c129 => ?_)
          · skip
            refine g_iload X d_MO_nextDay_159 0 rfl ?_
            refine g_iconst (v := 1) X d_MO_nextDay_161 (by decide) ?_
            refine g_iadd X d_MO_nextDay_162 ?_
            refine g_eqi (y := nI (x_ + 1)) (nI_1 x_) ?_
            refine g_istore (lv' := [(4, .int (nI (x_ + 1))), (3, .int (nI nx)), (0, .ref (bd 0)), (1, .int (nI k))]) X d_MO_nextDay_163 (by decide) rfl ?_
            refine g_goto X 101 d_MO_nextDay_165 (by decide) ?_
            exact g_lv [0, 1, 2, 3] rfl (ih (100040 - (x_ + 1)) (by omega) (x_ + 1) (by omega) (by omega) (fun e h1 h2 => by
              by_cases he : e < x_
              · exact hj e h1 he
              · rw [show e = x_ by omega]; exact hb9))
          · skip
            have h32 : x_ % 32 = 0 := (nI_z (by omega)).mp c129
            refine g_aload_n X d_MO_nextDay_132 2 rfl ?_
            refine g_get (ci := 5) (C := R_MO) (T := F_MO) (N := 20) (v := .ref (bd 7)) X i_MO rfl hM 10 (by decide) q_607 (fun _ h9 => h9) rfl d_MO_nextDay_133 ?_
            refine g_sipush (v := 3126) X d_MO_nextDay_136 (by decide) ?_
            refine g_iload_n X d_MO_nextDay_139 3 rfl ?_
            refine g_imul X d_MO_nextDay_140 ?_
            refine g_eqi (y := nI (3126 * k)) (nI_mul 3126 k) ?_
            refine g_iload X d_MO_nextDay_141 0 rfl ?_
            refine g_bipush (v := 32) X d_MO_nextDay_143 (by decide) ?_
            refine g_idiv X d_MO_nextDay_145 (by decide) ?_
            refine g_eqi (y := nI (x_ / 32)) (nI_div32 (by omega)) ?_
            refine g_iadd X d_MO_nextDay_146 ?_
            refine g_eqi (y := nI (3126 * k + x_ / 32)) (nI_add _ _) ?_
            refine g_iald (t0 := 0) (v := nI (tw (3126 * k + x_ / 32))) X h7 rfl (nI_ix ((by omega : 3126 * k + x_ / 32 < 75024)) (by decide)) (nI_cl (g := fun q9 => nI (tw q9)) (Nat.lt_trans ((by omega : 3126 * k + x_ / 32 < 75024)) (by decide))) d_MO_nextDay_147 ?_
            refine g_if_ne X 159 d_MO_nextDay_148 (by decide) (fun c148 => ?_) (fun c148 => ?_)
            · skip
              refine g_iload X d_MO_nextDay_159 0 rfl ?_
              refine g_iconst (v := 1) X d_MO_nextDay_161 (by decide) ?_
              refine g_iadd X d_MO_nextDay_162 ?_
              refine g_eqi (y := nI (x_ + 1)) (nI_1 x_) ?_
              refine g_istore (lv' := [(4, .int (nI (x_ + 1))), (3, .int (nI nx)), (0, .ref (bd 0)), (1, .int (nI k))]) X d_MO_nextDay_163 (by decide) rfl ?_
              refine g_goto X 101 d_MO_nextDay_165 (by decide) ?_
              exact g_lv [0, 1, 2, 3] rfl (ih (100040 - (x_ + 1)) (by omega) (x_ + 1) (by omega) (by omega) (fun e h1 h2 => by
                by_cases he : e < x_
                · exact hj e h1 he
                · rw [show e = x_ by omega]; exact hb9))
            · skip
              have hz9 : tw (3126 * k + x_ / 32) = 0 := (nI_zW (htw _)).mp c148
              refine g_iload X d_MO_nextDay_151 0 rfl ?_
              refine g_bipush (v := 32) X d_MO_nextDay_153 (by decide) ?_
              refine g_iadd X d_MO_nextDay_155 ?_
              refine g_eqi (y := nI (x_ + 32)) (nI_add x_ 32) ?_
              refine g_goto X 163 d_MO_nextDay_156 (by decide) ?_
              refine g_istore (lv' := [(4, .int (nI (x_ + 32))), (3, .int (nI nx)), (0, .ref (bd 0)), (1, .int (nI k))]) X d_MO_nextDay_163 (by decide) rfl ?_
              refine g_goto X 101 d_MO_nextDay_165 (by decide) ?_
              exact g_lv [0, 1, 2, 3] rfl (ih (100040 - (x_ + 32)) (by omega) (x_ + 32) (by omega) (by omega) (fun e h1 h2 => by
                by_cases he : e < x_
                · exact hj e h1 he
                · show (tw (3126 * k + e / 32)).testBit (e % 32) = false
                  rw [show e / 32 = x_ / 32 by omega, hz9]; exact Nat.zero_testBit _))
set_option maxHeartbeats 4000000 in
set_option maxRecDepth 100000 in
theorem c_MO_nextDay {l : Launch} {D : va_G} {cI cZ cO cJ : ClassId} {eA eM : Nat} {f : g_F} {bd : Nat → Nat} {th : Int32} {L nc : Nat} {pt ot : Nat → Int32} {n : Nat} {P Du S Wy tw ct PF DF : Nat → Nat} {GF : Nat → Bool} {pz pm : Nat} {O Le : Nat → Nat} {Sl : Nat → Bool} (hR : mo_R cI cZ f bd th L nc pt ot n P Du S Wy tw ct PF DF GF pz pm O Le Sl) (hB : mo_B L nc n P Du S Wy tw ct PF DF pz pm O Le) {k dd : Nat} (hk : k < 24) (hdd : dd < 2 ^ 30) : g_C l y_MO_nextDay b_MO_nextDay 6 (some .int) { frames := 1, cells := 0, slots := 0, locals := 22 } D g_cl (g_tys cI cZ cO cJ) (z_Z eA eM) [.ref (bd 0), .int (nI k), .int (nI dd)] f (fun r f2 => (∃ x_, ndf (tb tw k) dd (ndn L DF k dd (ct k)) x_ ∧ r = some (.int (nI x_))) ∧ f2 = f) (fun _ => False) := by
  refine g_ofW [(0, .ref (bd 0)), (1, .int (nI k)), (2, .int (nI dd))] (by decide +kernel) (Nat.le_of_ble_eq_true rfl) rfl ?_
  intro p e s m args below meth c X ht hin
  obtain ⟨hM, h1, h2, h3, h4, h5, h6, h7, h8, h9, h10, h11, h12, h13, h14⟩ := id hR
  obtain ⟨⟨hL1, hL5⟩, hnc, hUB, htw, hct, hPF, hDF, ⟨hpz, hpm, hO8⟩, hLe⟩ := id hB
  obtain ⟨hn8, hP, hDu, hS, hWy⟩ := id hUB
  refine g_ldc (v := 1000000000) X q_745 d_MO_nextDay_0 ?_
  refine g_istore_n (lv' := [(3, .int 1000000000), (0, .ref (bd 0)), (1, .int (nI k)), (2, .int (nI dd))]) X d_MO_nextDay_2 rfl (by decide) rfl ?_
  refine g_iconst (v := 0) X d_MO_nextDay_3 (by decide) ?_
  refine g_istore (lv' := [(4, .int 0), (3, .int 1000000000), (0, .ref (bd 0)), (1, .int (nI k)), (2, .int (nI dd))]) X d_MO_nextDay_4 (by decide) rfl ?_
  refine g_lv [0, 1, 2, 3, 4] rfl (L_MO_nextDay hR hB hk hdd X ?_ (ct k) 0 (by omega))
  have hnn := ndn_le L DF k dd (ct k)
  refine g_iload_n X d_MO_nextDay_96 4 rfl ?_
  refine g_iconst (v := 1) X d_MO_nextDay_97 (by decide) ?_
  refine g_iadd X d_MO_nextDay_98 ?_
  refine g_eqi (y := nI (dd + 1)) (nI_1 dd) ?_
  refine g_istore (lv' := [(4, .int (nI (dd + 1))), (3, .int (nI (ndn L DF k dd (ct k)))), (0, .ref (bd 0)), (1, .int (nI k)), (2, .int (nI dd))]) X d_MO_nextDay_99 (by decide) rfl ?_
  refine g_lv (lv' := [(4, .int (nI (dd + 1))), (3, .int (nI (ndn L DF k dd (ct k)))), (0, .ref (bd 0)), (1, .int (nI k))]) [0, 1, 2, 3] rfl (L_MO_nextDayT hR hB (k := k) (dd := dd) (nx := ndn L DF k dd (ct k)) hk hdd (by omega) X ?_ _ (dd + 1) rfl (by omega) (fun e h1 h2 => absurd h2 (by omega)))
  intro x_ hx1 hx2 hj hw
  refine g_iload X d_MO_nextDay_168 0 rfl ?_
  refine g_ldc (v := 100000) X q_696 d_MO_nextDay_170 ?_
  refine g_icmp_gt X 186 d_MO_nextDay_172 (by decide) (fun c172 => ?_) (fun c172 => ?_)
  · skip
    refine g_iload_n X d_MO_nextDay_186 1 rfl ?_
    exact g_iret X rfl (⟨⟨ndn L DF k dd (ct k), Or.inr ⟨rfl, fun e h1 h2 h3 => hj e h1 (by first | exact Nat.lt_of_le_of_lt h2 ((nI_ltI (a := 100000) (by decide) hx1).mp c172) | exact Nat.lt_of_lt_of_le h3 ((nI_leI (by omega) hx1).mp c178))⟩, rfl⟩, rfl⟩) (Nat.le_of_ble_eq_true rfl) (Nat.le_of_ble_eq_true rfl) d_MO_nextDay_187
  · skip
    refine g_iload X d_MO_nextDay_175 0 rfl ?_
    refine g_iload_n X d_MO_nextDay_177 1 rfl ?_
    refine g_icmp_ge X 186 d_MO_nextDay_178 (by decide) (fun c178 => ?_) (fun c178 => ?_)
    · skip
      refine g_iload_n X d_MO_nextDay_186 1 rfl ?_
      exact g_iret X rfl (⟨⟨ndn L DF k dd (ct k), Or.inr ⟨rfl, fun e h1 h2 h3 => hj e h1 (by first | exact Nat.lt_of_le_of_lt h2 ((nI_ltI (a := 100000) (by decide) hx1).mp c172) | exact Nat.lt_of_lt_of_le h3 ((nI_leI (by omega) hx1).mp c178))⟩, rfl⟩, rfl⟩) (Nat.le_of_ble_eq_true rfl) (Nat.le_of_ble_eq_true rfl) d_MO_nextDay_187
    · skip
      refine g_iload X d_MO_nextDay_181 0 rfl ?_
      refine g_goto X 187 d_MO_nextDay_183 (by decide) ?_
      exact g_iret X rfl (⟨⟨x_, Or.inl ⟨hx2, Nat.le_of_not_lt (fun z => c172 ((nI_ltI (a := 100000) (by decide) hx1).mpr z)), Nat.lt_of_not_le (fun z => c178 ((nI_leI (by omega) hx1).mpr z)), hw.elim (fun z => absurd (Nat.le_of_not_lt (fun z2 => c172 ((nI_ltI (a := 100000) (by decide) hx1).mpr z2))) z) (fun z => z.elim (fun z => absurd (Nat.lt_of_not_le (fun z2 => c178 ((nI_leI (by omega) hx1).mpr z2))) z) (fun z => z)), hj⟩, rfl⟩, rfl⟩) (Nat.le_of_ble_eq_true rfl) (Nat.le_of_ble_eq_true rfl) d_MO_nextDay_187
