/-- the least time of a tour that begins with k and shows all, over the sets 1 .. i -/
def frb (S Le : Nat → Nat) (n k : Nat) : Nat → Nat
  | 0 => 1000000000
  | i + 1 => if ((i + 1).testBit k = true ∧ orS S (i + 1) n = orA S n) ∧ Le ((i + 1) * 8 + k) < frb S Le n k i then Le ((i + 1) * 8 + k) else frb S Le n k i
theorem frb_le (S Le : Nat → Nat) (n k : Nat) : ∀ i, frb S Le n k i ≤ 1000000000
  | 0 => Nat.le_refl _
  | i + 1 => by
    have := frb_le S Le n k i
    unfold frb
    split
    · rename_i h; exact Nat.le_trans (Nat.le_of_lt h.2) this
    · exact this
set_option maxHeartbeats 4000000 in
set_option maxRecDepth 100000 in
theorem L_MO_from {p : Program} {l : Launch} {e : Env} {s : State} {m : MethodId} {args : Array Value} {below : List Frame} {meth : Method} {c : Code} {Q : State → Prop} {A : Nat → Prop} {D : va_G} {cI cZ cO cJ : ClassId} {eA eM : Nat} {f : g_F} {bd : Nat → Nat} {th : Int32} {L nc : Nat} {pt ot : Nat → Int32} {n : Nat} {P Du S Wy tw ct PF DF : Nat → Nat} {GF : Nat → Bool} {pz pm : Nat} {O Le : Nat → Nat} {Sl : Nat → Bool} (hR : mo_R cI cZ f bd th L nc pt ot n P Du S Wy tw ct PF DF GF pz pm O Le Sl) (hB : mo_B L nc n P Du S Wy tw ct PF DF pz pm O Le) {k : Nat} (hk : k < n) (X : g_X p s m args meth c b_MO_from 5 (some .int) g_T y_MO_from.cls D g_cl (g_tys cI cZ cO cJ) A (z_Z eA eM)) (kk : g_W p l e { frames := 2, cells := 0, slots := 0, locals := 48 } s m args below meth c 5 D g_cl A f 0 0 Q 120 [(2, .int (nI (frb S Le n k (2 ^ n - 1))))] []) : ∀ (d : Nat) (i : Nat), (i + 1 + d = 2 ^ n) → g_W p l e { frames := 2, cells := 0, slots := 0, locals := 48 } s m args below meth c 5 D g_cl A f 0 0 Q 41 [(3, .int (nI (i + 1))), (2, .int (nI (frb S Le n k i))), (0, .ref (bd 0)), (1, .int (nI k))] [] := by
  obtain ⟨hM, h1, h2, h3, h4, h5, h6, h7, h8, h9, h10, h11, h12, h13, h14⟩ := id hR
  obtain ⟨⟨hL1, hL5⟩, hnc, hUB, htw, hct, hPF, hDF, ⟨hpz, hpm, hO8⟩, hLe⟩ := id hB
  obtain ⟨hn8, hP, hDu, hS, hWy⟩ := id hUB
  have hp2 : 2 ^ n ≤ 256 := Nat.le_trans (Nat.pow_le_pow_right (by decide) hn8) (by decide)
  intro d
  induction d using Nat.strongRecOn with
  | _ d ih =>
    intro i hi
    refine g_iload_n X d_MO_from_41 0 rfl ?_
    refine g_iconst (v := 1) X d_MO_from_42 (by decide) ?_
    refine g_aload_n X d_MO_from_43 2 rfl ?_
    refine g_get (ci := 5) (C := R_MO) (T := F_MO) (N := 20) (v := .int (nI n)) X i_MO rfl hM 5 (by decide) q_602 (fun _ h9 => h9) rfl d_MO_from_44 ?_
    refine g_ishl X d_MO_from_47 ?_
    refine g_eqi (y := nI (2 ^ n)) (nI_bit (by omega)) ?_
    refine g_icmp_ge X 120 d_MO_from_48 (by decide) (fun c48 => ?_) (fun c48 => ?_)
    · skip
      have e : i = 2 ^ n - 1 := by have := (nI_leI (by omega) (by omega)).mp c48; omega
      subst e
      exact g_lv [1] rfl kk
    · skip
      have hlt : i + 1 < 2 ^ n := Nat.lt_of_not_le (fun z => c48 ((nI_leI (by omega) (by omega)).mpr z))
      have hle := hLe ((i + 1) * 8 + k)
      have hfr := frb_le S Le n k i
      refine g_iload_n X d_MO_from_51 0 rfl ?_
      refine g_iload_n X d_MO_from_52 3 rfl ?_
      refine g_callS (As := [.int (nI (i + 1)), .int (nI k)]) (rest := []) X (z_ok eA eM) (c_MO_has (f := f) (a := (i + 1)) (k := k) (by omega) (by omega)) v_MO_has q_759 q_758 rfl rfl (Nat.le_of_ble_eq_true rfl) d_MO_from_53 ⟨(Nat.le_of_ble_eq_true rfl), (Nat.le_of_ble_eq_true rfl)⟩ ⟨(Nat.le_of_ble_eq_true rfl), (Nat.le_of_ble_eq_true rfl)⟩ (g_K.no (fun _ h => h)) (fun r_ f2_ hp => ?_)
      obtain ⟨rfl, hf_⟩ := hp
      subst f2_
      refine g_st (st2 := [.int (bI (Nat.testBit (i + 1) k))]) rfl ?_
      refine g_if_eq X 75 d_MO_from_56 (by decide) (fun c56 => ?_) (fun c56 => ?_)
      · skip
        refine g_iconst (v := 0) X d_MO_from_75 (by decide) ?_
        have hd9 : ¬ ((i + 1).testBit k = true ∧ orS S (i + 1) n = orA S n) := fun z => by first | (exact absurd z.1 (by rw [bI_z.mp c56]; decide)) | exact c68 (by rw [z.2])
        refine g_istore (lv' := [(4, .int 0), (3, .int (nI (i + 1))), (2, .int (nI (frb S Le n k i))), (0, .ref (bd 0)), (1, .int (nI k))]) X d_MO_from_76 (by decide) rfl ?_
        refine g_iload X d_MO_from_78 0 rfl ?_
        refine g_if_eq X 112 d_MO_from_80 (by decide) (fun c80 => ?_) (fun c80 => ?_)
        · skip
          skip
          refine g_iload_n X d_MO_from_112 2 rfl ?_
          refine g_eqi (y := nI (frb S Le n k (i + 1))) (by rw [show frb S Le n k (i + 1) = frb S Le n k i from if_neg (fun z => by first | exact hd9 z.1 | exact absurd z.2 (Nat.not_lt.mpr ((nI_leI (by omega) (by omega)).mp c95)))]) ?_
          refine g_istore_n (lv' := [(2, .int (nI (frb S Le n k (i + 1)))), (4, .int 0), (3, .int (nI (i + 1))), (0, .ref (bd 0)), (1, .int (nI k))]) X d_MO_from_113 rfl (by decide) rfl ?_
          refine g_iinc (lv' := [(3, .int (nI (i + 1 + 1))), (2, .int (nI (frb S Le n k (i + 1)))), (4, .int 0), (0, .ref (bd 0)), (1, .int (nI k))]) X d_MO_from_114 2 rfl (nI_1 (i + 1)) (by decide) rfl ?_
          refine g_goto X 41 d_MO_from_117 (by decide) ?_
          exact g_lv [0, 1, 3, 4] rfl (ih (d - 1) (by omega) (i + 1) (by omega))
        · skip
          exact absurd rfl c80
      · skip
        refine g_aload_n X d_MO_from_59 2 rfl ?_
        refine g_iload_n X d_MO_from_60 0 rfl ?_
        refine g_callV (ci := 5) (As := [.int (nI (i + 1))]) (rest := []) X (z_ok eA eM) rfl rfl hM (c_MO_shownBy hR hB (acts := i + 1) (by omega)) v_MO_shownBy q_767 q_s29 q_765 rfl rfl (Nat.le_of_ble_eq_true rfl) d_MO_from_61 ⟨(Nat.le_of_ble_eq_true rfl), (Nat.le_of_ble_eq_true rfl)⟩ ⟨(Nat.le_of_ble_eq_true rfl), (Nat.le_of_ble_eq_true rfl)⟩ (g_K.no (fun _ h => h)) (fun r_ f2_ hp => ?_)
        obtain ⟨rfl, hf_⟩ := hp
        subst f2_
        refine g_st (st2 := [.int (nI (orS S (i + 1) n))]) rfl ?_
        refine g_aload_n X d_MO_from_64 2 rfl ?_
        refine g_callV (ci := 5) (As := []) (rest := [.int (nI (orS S (i + 1) n))]) X (z_ok eA eM) rfl rfl hM (c_MO_allShown hR hB) v_MO_allShown q_735 q_s25 q_733 rfl rfl (Nat.le_of_ble_eq_true rfl) d_MO_from_65 ⟨(Nat.le_of_ble_eq_true rfl), (Nat.le_of_ble_eq_true rfl)⟩ ⟨(Nat.le_of_ble_eq_true rfl), (Nat.le_of_ble_eq_true rfl)⟩ (g_K.no (fun _ h => h)) (fun r_ f2_ hp => ?_)
        obtain ⟨rfl, hf_⟩ := hp
        subst f2_
        refine g_st (st2 := [.int (nI (orA S n)), .int (nI (orS S (i + 1) n))]) rfl ?_
        refine g_icmp_ne X 75 d_MO_from_68 (by decide) (fun c68 => ?_) (fun c68 => ?_)
        · skip
          refine g_iconst (v := 0) X d_MO_from_75 (by decide) ?_
          have hd9 : ¬ ((i + 1).testBit k = true ∧ orS S (i + 1) n = orA S n) := fun z => by first | (exact absurd z.1 (by rw [bI_z.mp c56]; decide)) | exact c68 (by rw [z.2])
          refine g_istore (lv' := [(4, .int 0), (3, .int (nI (i + 1))), (2, .int (nI (frb S Le n k i))), (0, .ref (bd 0)), (1, .int (nI k))]) X d_MO_from_76 (by decide) rfl ?_
          refine g_iload X d_MO_from_78 0 rfl ?_
          refine g_if_eq X 112 d_MO_from_80 (by decide) (fun c80 => ?_) (fun c80 => ?_)
          · skip
            skip
            refine g_iload_n X d_MO_from_112 2 rfl ?_
            refine g_eqi (y := nI (frb S Le n k (i + 1))) (by rw [show frb S Le n k (i + 1) = frb S Le n k i from if_neg (fun z => by first | exact hd9 z.1 | exact absurd z.2 (Nat.not_lt.mpr ((nI_leI (by omega) (by omega)).mp c95)))]) ?_
            refine g_istore_n (lv' := [(2, .int (nI (frb S Le n k (i + 1)))), (4, .int 0), (3, .int (nI (i + 1))), (0, .ref (bd 0)), (1, .int (nI k))]) X d_MO_from_113 rfl (by decide) rfl ?_
            refine g_iinc (lv' := [(3, .int (nI (i + 1 + 1))), (2, .int (nI (frb S Le n k (i + 1)))), (4, .int 0), (0, .ref (bd 0)), (1, .int (nI k))]) X d_MO_from_114 2 rfl (nI_1 (i + 1)) (by decide) rfl ?_
            refine g_goto X 41 d_MO_from_117 (by decide) ?_
            exact g_lv [0, 1, 3, 4] rfl (ih (d - 1) (by omega) (i + 1) (by omega))
          · skip
            exact absurd rfl c80
        · skip
          refine g_iconst (v := 1) X d_MO_from_71 (by decide) ?_
          refine g_goto X 76 d_MO_from_72 (by decide) ?_
          have hd9 : (i + 1).testBit k = true ∧ orS S (i + 1) n = orA S n := ⟨bt_nf (fun z => c56 (bI_z.mpr z)), (nI_eq (Nat.lt_trans (orS_lt hS _ n) (by decide)) (Nat.lt_trans (orA_lt hS n) (by decide))).mp c68⟩
          refine g_istore (lv' := [(4, .int 1), (3, .int (nI (i + 1))), (2, .int (nI (frb S Le n k i))), (0, .ref (bd 0)), (1, .int (nI k))]) X d_MO_from_76 (by decide) rfl ?_
          refine g_iload X d_MO_from_78 0 rfl ?_
          refine g_if_eq X 112 d_MO_from_80 (by decide) (fun c80 => ?_) (fun c80 => ?_)
          · skip
            exact absurd c80 (by decide)
          · skip
            skip
            refine g_aload_n X d_MO_from_83 3 rfl ?_
            refine g_get (ci := 5) (C := R_MO) (T := F_MO) (N := 20) (v := .ref (bd 13)) X i_MO rfl hM 18 (by decide) q_615 (fun _ h9 => h9) rfl d_MO_from_84 ?_
            refine g_bipush (v := 8) X d_MO_from_87 (by decide) ?_
            refine g_iload_n X d_MO_from_89 1 rfl ?_
            refine g_imul X d_MO_from_90 ?_
            refine g_eqi (y := nI ((i + 1) * 8)) ((nI_mul 8 (i + 1)).trans (by rw [Nat.mul_comm])) ?_
            refine g_iload_n X d_MO_from_91 4 rfl ?_
            refine g_iadd X d_MO_from_92 ?_
            refine g_eqi (y := nI ((i + 1) * 8 + k)) (nI_add _ _) ?_
            refine g_iald (t0 := 0) (v := nI (Le ((i + 1) * 8 + k))) X h13 rfl (nI_ix ((by omega : (i + 1) * 8 + k < 2048)) (by decide)) (nI_cl (g := fun q9 => nI (Le q9)) (Nat.lt_trans ((by omega : (i + 1) * 8 + k < 2048)) (by decide))) d_MO_from_93 ?_
            refine g_iload_n X d_MO_from_94 2 rfl ?_
            refine g_icmp_ge X 112 d_MO_from_95 (by decide) (fun c95 => ?_) (fun c95 => ?_)
            · skip
              refine g_iload_n X d_MO_from_112 2 rfl ?_
              refine g_eqi (y := nI (frb S Le n k (i + 1))) (by rw [show frb S Le n k (i + 1) = frb S Le n k i from if_neg (fun z => by first | exact hd9 z.1 | exact absurd z.2 (Nat.not_lt.mpr ((nI_leI (by omega) (by omega)).mp c95)))]) ?_
              refine g_istore_n (lv' := [(2, .int (nI (frb S Le n k (i + 1)))), (4, .int 1), (3, .int (nI (i + 1))), (0, .ref (bd 0)), (1, .int (nI k))]) X d_MO_from_113 rfl (by decide) rfl ?_
              refine g_iinc (lv' := [(3, .int (nI (i + 1 + 1))), (2, .int (nI (frb S Le n k (i + 1)))), (4, .int 1), (0, .ref (bd 0)), (1, .int (nI k))]) X d_MO_from_114 2 rfl (nI_1 (i + 1)) (by decide) rfl ?_
              refine g_goto X 41 d_MO_from_117 (by decide) ?_
              exact g_lv [0, 1, 3, 4] rfl (ih (d - 1) (by omega) (i + 1) (by omega))
            · skip
              refine g_aload_n X d_MO_from_98 3 rfl ?_
              refine g_get (ci := 5) (C := R_MO) (T := F_MO) (N := 20) (v := .ref (bd 13)) X i_MO rfl hM 18 (by decide) q_615 (fun _ h9 => h9) rfl d_MO_from_99 ?_
              refine g_bipush (v := 8) X d_MO_from_102 (by decide) ?_
              refine g_iload_n X d_MO_from_104 1 rfl ?_
              refine g_imul X d_MO_from_105 ?_
              refine g_eqi (y := nI ((i + 1) * 8)) ((nI_mul 8 (i + 1)).trans (by rw [Nat.mul_comm])) ?_
              refine g_iload_n X d_MO_from_106 4 rfl ?_
              refine g_iadd X d_MO_from_107 ?_
              refine g_eqi (y := nI ((i + 1) * 8 + k)) (nI_add _ _) ?_
              refine g_iald (t0 := 0) (v := nI (Le ((i + 1) * 8 + k))) X h13 rfl (nI_ix ((by omega : (i + 1) * 8 + k < 2048)) (by decide)) (nI_cl (g := fun q9 => nI (Le q9)) (Nat.lt_trans ((by omega : (i + 1) * 8 + k < 2048)) (by decide))) d_MO_from_108 ?_
              refine g_goto X 113 d_MO_from_109 (by decide) ?_
              refine g_eqi (y := nI (frb S Le n k (i + 1))) (by rw [show frb S Le n k (i + 1) = Le ((i + 1) * 8 + k) from if_pos ⟨hd9, Nat.lt_of_not_le (fun z => c95 ((nI_leI (by omega) (by omega)).mpr z))⟩]) ?_
              refine g_istore_n (lv' := [(2, .int (nI (frb S Le n k (i + 1)))), (4, .int 1), (3, .int (nI (i + 1))), (0, .ref (bd 0)), (1, .int (nI k))]) X d_MO_from_113 rfl (by decide) rfl ?_
              refine g_iinc (lv' := [(3, .int (nI (i + 1 + 1))), (2, .int (nI (frb S Le n k (i + 1)))), (4, .int 1), (0, .ref (bd 0)), (1, .int (nI k))]) X d_MO_from_114 2 rfl (nI_1 (i + 1)) (by decide) rfl ?_
              refine g_goto X 41 d_MO_from_117 (by decide) ?_
              exact g_lv [0, 1, 3, 4] rfl (ih (d - 1) (by omega) (i + 1) (by omega))
set_option maxHeartbeats 4000000 in
set_option maxRecDepth 100000 in
theorem c_MO_from {l : Launch} {D : va_G} {cI cZ cO cJ : ClassId} {eA eM : Nat} {f : g_F} {bd : Nat → Nat} {th : Int32} {L nc : Nat} {pt ot : Nat → Int32} {n : Nat} {P Du S Wy tw ct PF DF : Nat → Nat} {GF : Nat → Bool} {pz pm : Nat} {O Le : Nat → Nat} {Sl : Nat → Bool} (hR : mo_R cI cZ f bd th L nc pt ot n P Du S Wy tw ct PF DF GF pz pm O Le Sl) (hB : mo_B L nc n P Du S Wy tw ct PF DF pz pm O Le) (hIn : ∀ i j, i < 15 → j < 15 → bd i = bd j → i = j) {x : Int32} : g_C l y_MO_from b_MO_from 5 (some .int) { frames := 2, cells := 0, slots := 0, locals := 48 } D g_cl (g_tys cI cZ cO cJ) (z_Z eA eM) [.ref (bd 0), .int x] f (fun r f2 => (¬ inR x n ∧ r = some (.int 0) ∧ f2 = (m_th f bd 1 L nc n pz pm)) ∨ (∃ k, k < n ∧ x = nI k ∧ ((S k = 0 ∧ r = some (.int (-1)) ∧ f2 = (m_th f bd 0 L nc n pz pm)) ∨ (S k ≠ 0 ∧ ∃ Le2 : Nat → Nat, (∀ i, Le2 i ≤ 1000010000) ∧ bellR P Du Wy n Le2 (2 ^ n) ∧ r = some (.int (nI (frb S Le2 n k (2 ^ n - 1)))) ∧ f2 = mo_l cI (m_th f bd 0 L nc n pz pm) bd Le2)))) (fun _ => False) := by
  refine g_ofW [(0, .ref (bd 0)), (1, .int x)] (by decide +kernel) (Nat.le_of_ble_eq_true rfl) rfl ?_
  intro p e s m args below meth c X ht hin
  obtain ⟨hM, h1, h2, h3, h4, h5, h6, h7, h8, h9, h10, h11, h12, h13, h14⟩ := id hR
  obtain ⟨⟨hL1, hL5⟩, hnc, hUB, htw, hct, hPF, hDF, ⟨hpz, hpm, hO8⟩, hLe⟩ := id hB
  obtain ⟨hn8, hP, hDu, hS, hWy⟩ := id hUB
  refine g_aload_n X d_MO_from_0 0 rfl ?_
  refine g_iload_n X d_MO_from_1 1 rfl ?_
  refine g_iconst (v := 0) X d_MO_from_2 (by decide) ?_
  refine g_aload_n X d_MO_from_3 0 rfl ?_
  refine g_get (ci := 5) (C := R_MO) (T := F_MO) (N := 20) (v := .int (nI n)) X i_MO rfl hM 5 (by decide) q_602 (fun _ h9 => h9) rfl d_MO_from_4 ?_
  refine g_iconst (v := 1) X d_MO_from_7 (by decide) ?_
  refine g_isub X d_MO_from_8 ?_
  refine g_callS (As := [.int x, .int 0, .int ((nI n) - 1)]) (rest := [.ref (bd 0)]) X (z_ok eA eM) (c_MO_in (f := f) (x := x) (a := 0) (b := nI n - 1)) v_MO_in q_667 q_666 rfl rfl (Nat.le_of_ble_eq_true rfl) d_MO_from_9 ⟨(Nat.le_of_ble_eq_true rfl), (Nat.le_of_ble_eq_true rfl)⟩ ⟨(Nat.le_of_ble_eq_true rfl), (Nat.le_of_ble_eq_true rfl)⟩ (g_K.no (fun _ h => h)) (fun r_ f2_ hp => ?_)
  obtain ⟨rfl, hf_⟩ := hp
  subst f2_
  refine g_st (st2 := [.int (bI (decide (¬ x < 0 ∧ x ≤ (nI n - 1)))), .ref (bd 0)]) rfl ?_
  cases hq : decide (¬ x < 0 ∧ x ≤ nI n - 1) with
  | false =>
    refine g_iconst (v := 1) X d_MO_from_12 (by decide) ?_
    refine g_callV (ci := 5) (As := [.int (bI false), .int 1]) (rest := []) X (z_ok eA eM) rfl rfl hM (c_MO_goes hR hB (b1 := false) (b2 := true)) v_MO_goes q_671 q_s19 q_669 rfl rfl (Nat.le_of_ble_eq_true rfl) d_MO_from_13 ⟨(Nat.le_of_ble_eq_true rfl), (Nat.le_of_ble_eq_true rfl)⟩ ⟨(Nat.le_of_ble_eq_true rfl), (Nat.le_of_ble_eq_true rfl)⟩ (g_K.no (fun _ h => h)) (fun r_ f2_ hp => ?_)
    obtain ⟨rfl, hf9_⟩ := hp
    have hf_ : f2_ = (m_th f bd 1 L nc n pz pm) := hf9_
    clear hf9_
    subst f2_
    refine g_st (st2 := [.int 0]) rfl ?_
    have hR2 := mo_th hR 1
    obtain ⟨hM2, k1, k2, k3, k4, k5, k6, k7, k8, k9, k10, k11, k12, k13, k14⟩ := id hR2
    refine g_if_ne X 21 d_MO_from_16 (by decide) (fun c16 => ?_) (fun c16 => ?_)
    · skip
      exact absurd rfl c16
    · skip
      skip
      refine g_iconst (v := 0) X d_MO_from_19 (by decide) ?_
      exact g_iret X rfl (Or.inl ⟨fun z => of_decide_eq_false hq ((inR_iff (by omega)).mpr z), rfl, rfl⟩) (Nat.le_of_ble_eq_true rfl) (Nat.le_of_ble_eq_true rfl) d_MO_from_20
  | true =>
    obtain ⟨k, hk, rfl⟩ := (inR_iff (n := n) (by omega)).mp (of_decide_eq_true hq)
    refine g_iconst (v := 1) X d_MO_from_12 (by decide) ?_
    refine g_callV (ci := 5) (As := [.int (bI true), .int 1]) (rest := []) X (z_ok eA eM) rfl rfl hM (c_MO_goes hR hB (b1 := true) (b2 := true)) v_MO_goes q_671 q_s19 q_669 rfl rfl (Nat.le_of_ble_eq_true rfl) d_MO_from_13 ⟨(Nat.le_of_ble_eq_true rfl), (Nat.le_of_ble_eq_true rfl)⟩ ⟨(Nat.le_of_ble_eq_true rfl), (Nat.le_of_ble_eq_true rfl)⟩ (g_K.no (fun _ h => h)) (fun r_ f2_ hp => ?_)
    obtain ⟨rfl, hf9_⟩ := hp
    have hf_ : f2_ = (m_th f bd 0 L nc n pz pm) := hf9_
    clear hf9_
    subst f2_
    refine g_st (st2 := [.int 1]) rfl ?_
    have hR2 := mo_th hR 0
    obtain ⟨hM2, k1, k2, k3, k4, k5, k6, k7, k8, k9, k10, k11, k12, k13, k14⟩ := id hR2
    refine g_if_ne X 21 d_MO_from_16 (by decide) (fun c16 => ?_) (fun c16 => ?_)
    · skip
      skip
      refine g_aload_n X d_MO_from_21 0 rfl ?_
      refine g_get (ci := 5) (C := R_MO) (T := F_MO) (N := 20) (v := .ref (bd 5)) X i_MO rfl hM2 8 (by decide) q_605 (fun _ h9 => h9) rfl d_MO_from_22 ?_
      refine g_iload_n X d_MO_from_25 1 rfl ?_
      refine g_iald (t0 := 0) (v := nI (S k)) X k5 rfl (nI_ix ((by omega : k < 8)) (by decide)) (nI_cl (g := fun q9 => nI (S q9)) (Nat.lt_trans ((by omega : k < 8)) (by decide))) d_MO_from_26 ?_
      refine g_if_ne X 32 d_MO_from_27 (by decide) (fun c27 => ?_) (fun c27 => ?_)
      · skip
        refine g_aload_n X d_MO_from_32 0 rfl ?_
        refine g_callV (ci := 5) (As := []) (rest := []) X (z_ok eA eM) rfl rfl hM2 (c_MO_reckon hR2 hB hIn) v_MO_reckon q_756 q_s27 q_754 rfl rfl (Nat.le_of_ble_eq_true rfl) d_MO_from_33 ⟨(Nat.le_of_ble_eq_true rfl), (Nat.le_of_ble_eq_true rfl)⟩ ⟨(Nat.le_of_ble_eq_true rfl), (Nat.le_of_ble_eq_true rfl)⟩ (g_K.no (fun _ h => h)) (fun r_ f2_ hp => ?_)
        obtain ⟨rfl, Le2, hb, hbl, rfl⟩ := hp
        refine g_st (st2 := []) rfl ?_
        have hRl := mo_l_R hR2 hIn Le2
        have hBl : mo_B L nc n P Du S Wy tw ct PF DF pz pm O Le2 := ⟨⟨hL1, hL5⟩, hnc, hUB, htw, hct, hPF, hDF, ⟨hpz, hpm, hO8⟩, hb⟩
        obtain ⟨w0, w1, w2, w3, w4, w5, w6, w7, w8, w9, w10, w11, w12, w13, w14⟩ := id hRl
        refine g_ldc (v := 1000000000) X q_745 d_MO_from_36 ?_
        refine g_istore_n (lv' := [(2, .int 1000000000), (0, .ref (bd 0)), (1, .int (nI k))]) X d_MO_from_38 rfl (by decide) rfl ?_
        refine g_iconst (v := 1) X d_MO_from_39 (by decide) ?_
        refine g_istore_n (lv' := [(3, .int 1), (2, .int 1000000000), (0, .ref (bd 0)), (1, .int (nI k))]) X d_MO_from_40 rfl (by decide) rfl ?_
        refine g_lv [0, 1, 2, 3] rfl (L_MO_from hRl hBl hk X ?_ (2 ^ n - 1) 0 (by have := Nat.two_pow_pos n; omega))
        exact g_iload_n X d_MO_from_120 0 rfl (g_iret X rfl (Or.inr ⟨k, hk, rfl, Or.inr ⟨fun z => c27 ((nI_z (Nat.lt_trans (hS k) (by decide))).mpr z), Le2, hb, hbl, rfl, rfl⟩⟩) (Nat.le_of_ble_eq_true rfl) (Nat.le_of_ble_eq_true rfl) d_MO_from_121)
      · skip
        have hs0 : S k = 0 := (nI_z (Nat.lt_trans (hS k) (by decide))).mp c27
        refine g_iconst (v := (-1)) X d_MO_from_30 (by decide) ?_
        exact g_iret X rfl (Or.inr ⟨k, hk, rfl, Or.inl ⟨hs0, rfl, rfl⟩⟩) (Nat.le_of_ble_eq_true rfl) (Nat.le_of_ble_eq_true rfl) d_MO_from_31
    · skip
      exact absurd c16 (by decide)
