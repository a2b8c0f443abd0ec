/-- the statics, and the script -/
def z_X (eA eM b L : Nat) (xs : Nat → Int32) (A : Nat → Prop) (U : State) (H : Heap) : Prop := z_Z eA eM A U H ∧ va_X b L xs U H ∧ ¬ A b
theorem z_Xok {eA eM b L : Nat} {xs : Nat → Int32} : g_ZC (z_X eA eM b L xs) := by
  refine ⟨fun A u U H hW h => ⟨(z_ok eA eM).1 A u U H hW h.1, va_X.moved hW.alike h.2.1, h.2.2⟩, fun A U H H1 h hq => ⟨(z_ok eA eM).2.1 A U H H1 h.1 hq, va_X.kept h.2.1 (hq b ?_ h.2.2), h.2.2⟩, fun A B U H h hAB => ⟨(z_ok eA eM).2.2 A B U H h.1 hAB, h.2.1, fun hB => h.2.2 (hAB b hB)⟩⟩
  obtain ⟨scr, h1, -⟩ := h.2.1
  exact (Array.getElem?_eq_some_iff.mp h1).1
/-- the script's first int, or nothing -/
def cel (L : Nat) (xs : Nat → Int32) : Int32 := if 0 < L then xs 0 else 0
set_option maxHeartbeats 4000000 in
set_option maxRecDepth 100000 in
theorem c_LW_cell {l : Launch} {D : va_G} {cI cZ cO cJ : ClassId} {eA eM : Nat} {b L : Nat} {xs : Nat → Int32} {f : g_F} (hL : L < 2 ^ 30) : g_C l y_LW_cell b_LW_cell 2 (some .int) { frames := 0, cells := 0, slots := 0, locals := 0 } D g_cl (g_tys cI cZ cO cJ) (z_X eA eM b L xs) [.ref b, .int 0] f (fun r f2 => r = some (.int (cel L xs)) ∧ f2 = f) (fun _ => False) := by
  refine g_ofW [(0, .ref b), (1, .int 0)] (by decide +kernel) (Nat.le_of_ble_eq_true rfl) rfl ?_
  intro p e s m args below meth c X ht hin
  refine g_iload_n X d_LW_cell_0 1 rfl ?_
  refine g_aload_n X d_LW_cell_1 0 rfl ?_
  refine g_slen X X.2.2.2.2.2.2.1 X.2.2.2.2.2.2.2 d_LW_cell_2 ?_
  refine g_icmp_ge X 12 d_LW_cell_3 (by decide) (fun c3 => ?_) (fun c3 => ?_)
  · skip
    have h0 : ¬ 0 < L := fun z => nI_ge (a := 0) z (by omega) c3
    refine g_iconst (v := 0) X d_LW_cell_12 (by decide) ?_
    exact g_iret X rfl (by rw [show cel L xs = 0 from if_neg h0]; exact ⟨rfl, rfl⟩) (Nat.le_of_ble_eq_true rfl) (Nat.le_of_ble_eq_true rfl) d_LW_cell_13
  · skip
    have h0 : 0 < L := Nat.pos_of_ne_zero (fun z => c3 (by rw [z]; decide))
    refine g_aload_n X d_LW_cell_6 0 rfl ?_
    refine g_iload_n X d_LW_cell_7 1 rfl ?_
    refine g_sld (v := xs 0) X X.2.2.2.2.2.2.1 X.2.2.2.2.2.2.2 (nI_ix (j := 0) (by omega) (by omega)) rfl d_LW_cell_8 ?_
    refine g_goto X 13 d_LW_cell_9 (by decide) ?_
    exact g_iret X rfl (by rw [show cel L xs = xs 0 from if_pos h0]; exact ⟨rfl, rfl⟩) (Nat.le_of_ble_eq_true rfl) (Nat.le_of_ble_eq_true rfl) d_LW_cell_13
set_option maxHeartbeats 4000000 in
set_option maxRecDepth 100000 in
theorem sim_start {cI cZ cO cJ : ClassId} {eA : Nat} {fa fc : g_F} {x : Int32} {ad bd : Nat → Nat} {q2 q3 : Nat} (hR : cl_R cI cZ cO fa ad (lif x) 0 (fun _ => 0) (fun _ => 0) (fun _ _ => 0) (fun _ _ => 0) (fun _ _ => false) (fun _ => 0) (fun _ => 0) (fun _ => 0) 0 (fun _ => 0) (fun _ => 0) (fun _ => 0) (fun _ => 0) (fun _ => 0) 0 (fun _ => 0) 0 0 0 0) (hIn : ∀ i j, i < 13 → j < 13 → ad i = ad j → i = j) (ea2 : ad 2 = eA) (hq2 : fa q2 = none) (eb0 : bd 0 = q2) (hM : mo_R cI cZ fc bd 0 (lif x) 0 (fun _ => 0) (fun _ => 0) 0 (fun _ => 0) (fun _ => 0) (fun _ => 0) (fun _ => 0) (fun _ => 0) (fun _ => 0) (fun _ => 0) (fun _ => 0) (fun _ => false) 0 0 (fun _ => 0) (fun _ => 0) (fun _ => false)) (hInM : ∀ i j, i < 15 → j < 15 → bd i = bd j → i = j) (hnn : ∀ i, i < 15 → 0 < i → g_u fa q2 (.inr (5, [.int 0, .int 0, .int 0, .null, .null, .int 0, .null, .null, .null, .null, .null, .null, .null, .null, .null, .int 0, .int 0, .null, .null, .null])) (bd i) = none) (hfr : ∀ q x, g_u fa q2 (.inr (5, [.int 0, .int 0, .int 0, .null, .null, .int 0, .null, .null, .null, .null, .null, .null, .null, .null, .null, .int 0, .int 0, .null, .null, .null])) q = some x → q ≠ q2 → fc q = some x) (hq3 : fc q3 = none) (hE : g_u fc q3 (.inl (cJ, 1, .inr (.inl (fun _ => 0)))) eA = none) : SIM cI cZ cO cJ eA (g_u fc q3 (.inl (cJ, 1, .inr (.inl (fun _ => 0))))) (ad 0) (bd 0) q3 0 (fun _ => 0) 0 := by
  have so : ∀ i, i < 13 → i ≠ 2 → ∃ z, fa (ad i) = some z := by
    obtain ⟨hO0, hAL, hTL, hTU, hPL, -⟩ := id hR
    intro i hi h2
    match i, hi, h2 with
    | 0, _, _ => exact ⟨_, hO0⟩ | 1, _, _ => exact ⟨_, hAL.1⟩ | 2, _, h2 => exact absurd rfl h2 | 3, _, _ => exact ⟨_, hTL.1⟩ | 4, _, _ => exact ⟨_, hTL.2.1⟩ | 5, _, _ => exact ⟨_, hTL.2.2⟩ | 6, _, _ => exact ⟨_, hTU.1⟩ | 7, _, _ => exact ⟨_, hTU.2.1⟩ | 8, _, _ => exact ⟨_, hTU.2.2.1⟩ | 9, _, _ => exact ⟨_, hTU.2.2.2.1⟩ | 10, _, _ => exact ⟨_, hTU.2.2.2.2.1⟩ | 11, _, _ => exact ⟨_, hTU.2.2.2.2.2⟩ | 12, _, _ => exact ⟨_, hPL⟩
  have mo : ∀ i, i < 15 → ∃ z, fc (bd i) = some z := by
    obtain ⟨h0, h1, h2, h3, h4, h5, h6, h7, h8, h9, h10, h11, h12, h13, h14⟩ := id hM
    intro i hi
    match i, hi with
    | 0, _ => exact ⟨_, h0⟩ | 1, _ => exact ⟨_, h1⟩ | 2, _ => exact ⟨_, h2⟩ | 3, _ => exact ⟨_, h3⟩ | 4, _ => exact ⟨_, h4⟩ | 5, _ => exact ⟨_, h5⟩ | 6, _ => exact ⟨_, h6⟩ | 7, _ => exact ⟨_, h7⟩ | 8, _ => exact ⟨_, h8⟩ | 9, _ => exact ⟨_, h9⟩ | 10, _ => exact ⟨_, h10⟩ | 11, _ => exact ⟨_, h11⟩ | 12, _ => exact ⟨_, h12⟩ | 13, _ => exact ⟨_, h13⟩ | 14, _ => exact ⟨_, h14⟩
  have mv : ∀ i z, fa (ad i) = some z → fc (ad i) = some z := fun i z hz => hfr _ _ ((g_u_n (g_nf hz hq2)).trans hz) (g_nf hz hq2)
  have ne3 : ∀ j, j < 15 → bd j ≠ q3 := fun j hj => by obtain ⟨z, hz⟩ := mo j hj; exact g_nf hz hq3
  have hb := lif_b x
  have z10 : (0 : Nat) < 10 := by decide
  have z8 : (0 : Nat) < 8 := by decide
  have z24 : (0 : Nat) < 2 ^ 24 := by decide
  have z32 : (0 : Nat) < 2 ^ 32 := by decide
  refine ⟨ad, bd, lif x, 0, fun _ => 0, fun _ => 0, fun _ _ => 0, fun _ _ => 0, fun _ _ => false, fun _ => 0, fun _ => 0, fun _ => 0, 0, fun _ => 0, fun _ => 0, fun _ => 0, fun _ => 0, fun _ => 0, 0, fun _ => 0, 0, 0, 0, 0, fun _ => 0, fun _ => 0, fun _ => 0, fun _ => false, fun _ => 0, fun _ => false, ⟨rfl, rfl, Nat.le_refl _⟩, cl_move hR (fun i hi z hz => (g_u_n (g_nf (mv i z hz) hq3)).trans (mv i z hz)), mo_move hM (fun i hi z hz => (g_u_n (ne3 i hi)).trans hz), g_u_s, ⟨hb, Nat.zero_le _, fun _ => ⟨Nat.zero_le _, fun _ => z10, fun _ => Nat.zero_le _⟩, ⟨Nat.zero_le _, fun _ => Nat.zero_le _, fun _ => z24⟩, ⟨Nat.zero_le _, fun _ => z10, fun _ => Nat.zero_le _, fun _ => z24, fun _ => Nat.zero_le _⟩, fun _ => Nat.zero_le _, Nat.zero_le _, fun _ => z8, Nat.zero_le _⟩, ⟨hb, Nat.zero_le _, ⟨Nat.zero_le _, fun _ => z10, fun _ => Nat.zero_le _, fun _ => z24, fun _ => Nat.zero_le _⟩, fun _ => z32, fun _ => Nat.zero_le _, fun _ => z10, fun _ => Nat.zero_le _, ⟨Nat.zero_le _, Nat.zero_le _, fun _ => z8⟩, fun _ => Nat.zero_le _⟩, fun i j hi hj => hIn i j hi hj, hInM, fun _ => ⟨ea2, rfl⟩, ⟨?_, ?_, ne3⟩, ?_, fun k hk => absurd hk (by omega), fun k hk => absurd hk (by omega), fun i j hi => absurd hi (by omega)⟩
  · intro i j hi hj z
    by_cases h2 : i = 2
    · subst h2
      obtain ⟨y, hy⟩ := mo j hj
      rw [← ea2, z, g_u_n (ne3 j hj), hy] at hE
      cases hE
    · obtain ⟨y, hy⟩ := so i hi h2
      by_cases hj0 : j = 0
      · subst hj0
        exact g_nf hy hq2 (z.trans eb0)
      · have h9 := hnn j hj (by omega)
        rw [← z, g_u_n (g_nf hy hq2), hy] at h9
        cases h9
  · intro i hi z
    by_cases h2 : i = 2
    · subst h2
      rw [← ea2, z, g_u_s] at hE
      cases hE
    · obtain ⟨y, hy⟩ := so i hi h2
      exact g_nf (mv i y hy) hq3 z
  · intro k _ d _
    constructor
    · intro h9; simp [tb] at h9
    · rintro ⟨i, hi, -⟩; omega
set_option maxHeartbeats 4000000 in
set_option maxRecDepth 100000 in
theorem law_main {p : Program} {l : Launch} {e : Env} {s : State} {m : MethodId} {args : Array Value} {below : List Frame} {meth : Method} {c : Code} {Q : State → Prop} {A : Nat → Prop} {D : va_G} {cI cZ cO cJ : ClassId} {eA eM : Nat} {b L : Nat} {xs : Nat → Int32} (X : g_X p s m args meth c code 7 (some .boolean) g_T "CaseListsLaw" D g_cl (g_tys cI cZ cO cJ) A (z_Z eA eM)) (hX : va_X b L xs s s.heap) (hbA : ¬ A b) (hl : l.stackTraces = false) (hL : L ≤ 2561) (kend : ∀ f : g_F, g_W p l e { frames := 12, cells := 601024, slots := 7293000, locals := 440 } s m args below meth c 7 D g_cl A f 601024 7293000 Q 1230 [] []) : g_W p l e { frames := 12, cells := 601024, slots := 7293000, locals := 440 } s m args below meth c 7 D g_cl A (fun _ => none) 0 0 Q 0 [(0, .ref b)] [] := by
  have X2 : g_X p s m args meth c code 7 (some .boolean) g_T "CaseListsLaw" D g_cl (g_tys cI cZ cO cJ) A (z_X eA eM b L xs) := ⟨X.1, X.2.1, X.2.2.1, X.2.2.2.1, X.2.2.2.2.1, X.2.2.2.2.2, hX, hbA⟩
  refine g_new (ci := 3) (C := R_CL) (T := F_CL) (N := 7) (fs := [.int 0, .null, .null, .null, .null, .int 0, .int 0]) X i_CL t_CL t_CL_ok q_21 q_22 q_1 rfl (fun j hj => match j, hj with | 0, _ => rfl | 1, _ => rfl | 2, _ => rfl | 3, _ => rfl | 4, _ => rfl | 5, _ => rfl | 6, _ => rfl | j + 7, hj => absurd hj (by omega)) (Nat.le_of_ble_eq_true rfl) (Nat.le_of_ble_eq_true rfl) d_LW_law_0 (fun q1 hq1 => ?_)
  refine g_dup X d_LW_law_3 rfl ?_
  refine g_aload_n X d_LW_law_4 0 rfl ?_
  refine g_iconst (v := 0) X d_LW_law_5 (by decide) ?_
  refine g_callS (As := [.ref b, .int 0]) (rest := [.ref q1, .ref q1]) X2 z_Xok (c_LW_cell (by omega)) v_LW_cell q_130 q_129 rfl rfl (Nat.le_of_ble_eq_true rfl) d_LW_law_6 ⟨(Nat.le_of_ble_eq_true rfl), (Nat.le_of_ble_eq_true rfl)⟩ ⟨(Nat.le_of_ble_eq_true rfl), (Nat.le_of_ble_eq_true rfl)⟩ (g_K.no (fun _ h => h)) (fun r_ f9 hp => ?_)
  obtain ⟨rfl, hf9⟩ := hp
  subst hf9
  refine g_st (st2 := [.int (cel L xs), .ref q1, .ref q1]) rfl ?_
  refine g_callI (ret2 := none) (As := [.int (cel L xs)]) (rest := [.ref q1]) X (z_ok eA eM) (c_CL_init g_u_s) v_CL_init q_24 rfl q_23 (fun _ h => h) rfl rfl (Nat.le_of_ble_eq_true rfl) d_LW_law_9 ⟨(Nat.le_of_ble_eq_true rfl), (Nat.le_of_ble_eq_true rfl)⟩ ⟨(Nat.le_of_ble_eq_true rfl), (Nat.le_of_ble_eq_true rfl)⟩ (fun r_ fa hp => ?_)
  obtain ⟨rfl, ad, ea0, ea2, hR, hIn, hna, hfa⟩ := hp
  refine g_st (st2 := [.ref q1]) rfl ?_
  refine g_astore_n (lv' := [(1, .ref q1), (0, .ref b)]) X d_LW_law_12 rfl (by decide) rfl ?_
  refine g_new (ci := 5) (C := R_MO) (T := F_MO) (N := 20) (fs := [.int 0, .int 0, .int 0, .null, .null, .int 0, .null, .null, .null, .null, .null, .null, .null, .null, .null, .int 0, .int 0, .null, .null, .null]) X i_MO t_MO t_MO_ok q_590 q_591 q_8 rfl (fun j hj => match j, hj with | 0, _ => rfl | 1, _ => rfl | 2, _ => rfl | 3, _ => rfl | 4, _ => rfl | 5, _ => rfl | 6, _ => rfl | 7, _ => rfl | 8, _ => rfl | 9, _ => rfl | 10, _ => rfl | 11, _ => rfl | 12, _ => rfl | 13, _ => rfl | 14, _ => rfl | 15, _ => rfl | 16, _ => rfl | 17, _ => rfl | 18, _ => rfl | 19, _ => rfl | j + 20, hj => absurd hj (by omega)) (Nat.le_of_ble_eq_true rfl) (Nat.le_of_ble_eq_true rfl) d_LW_law_13 (fun q2 hq2 => ?_)
  refine g_dup X d_LW_law_16 rfl ?_
  refine g_aload_n X d_LW_law_17 1 rfl ?_
  refine g_iconst (v := 0) X d_LW_law_18 (by decide) ?_
  refine g_callS (As := [.ref b, .int 0]) (rest := [.ref q2, .ref q2]) X2 z_Xok (c_LW_cell (by omega)) v_LW_cell q_130 q_129 rfl rfl (Nat.le_of_ble_eq_true rfl) d_LW_law_19 ⟨(Nat.le_of_ble_eq_true rfl), (Nat.le_of_ble_eq_true rfl)⟩ ⟨(Nat.le_of_ble_eq_true rfl), (Nat.le_of_ble_eq_true rfl)⟩ (g_K.no (fun _ h => h)) (fun r_ f9 hp => ?_)
  obtain ⟨rfl, hf9⟩ := hp
  subst hf9
  refine g_st (st2 := [.int (cel L xs), .ref q2, .ref q2]) rfl ?_
  refine g_callI (ret2 := none) (As := [.int (cel L xs)]) (rest := [.ref q2]) X (z_ok eA eM) (c_MO_init g_u_s) v_MO_init q_593 rfl q_592 (fun _ h => h) rfl rfl (Nat.le_of_ble_eq_true rfl) d_LW_law_22 ⟨(Nat.le_of_ble_eq_true rfl), (Nat.le_of_ble_eq_true rfl)⟩ ⟨(Nat.le_of_ble_eq_true rfl), (Nat.le_of_ble_eq_true rfl)⟩ (fun r_ fc hp => ?_)
  obtain ⟨rfl, bd, eb0, hM, hInM, hnn, hfr⟩ := hp
  refine g_st (st2 := [.ref q2]) rfl ?_
  refine g_astore_n (lv' := [(2, .ref q2), (1, .ref q1), (0, .ref b)]) X d_LW_law_25 rfl (by decide) rfl ?_
  refine g_iconst (v := 1) X d_LW_law_26 (by decide) ?_
  refine g_newl (N := 1) X q_792 (by decide) rfl (by decide) (Nat.le_of_ble_eq_true rfl) (Nat.le_of_ble_eq_true rfl) d_LW_law_27 (fun q3 hq3 => ?_)
  refine g_astore_n (lv' := [(3, .ref q3), (2, .ref q2), (1, .ref q1), (0, .ref b)]) X d_LW_law_29 rfl (by decide) rfl ?_
  refine g_iconst (v := nI (1 + 5 * 0)) X d_LW_law_30 (by decide) ?_
  refine g_istore (lv' := [(4, .int (nI (1 + 5 * 0))), (3, .ref q3), (2, .ref q2), (1, .ref q1), (0, .ref b)]) X d_LW_law_31 (by decide) rfl ?_
  refine g_knowE X (fun hE => ?_)
  have h0 := sim_start (cJ := cJ) hR hIn ea2 hq2 eb0 hM hInM hnn hfr hq3 hE
  rw [ea0, eb0] at h0
  exact g_wid (k := 28 + 9 * 0) (n := 83080 + 166 * 0) (Nat.le_of_ble_eq_true rfl) (Nat.le_of_ble_eq_true rfl) (law_loop X hX hbA hl hL (by decide) (by decide) kend (L + 5) 0 _ _ 0 ⟨by omega, by omega⟩ h0)
