theorem szo_out {x n : Nat} (hx : x < 2 ^ n) : ∀ i, szo x (n + i) = szo x n
  | 0 => rfl
  | i + 1 => by
    show szo x (n + i + 1) = _
    unfold szo
    rw [if_neg (by rw [bit_out hx (by omega : n ≤ n + i)]; decide), szo_out hx i]
    cases n <;> rfl
theorem szo_n {x n : Nat} (hn : n ≤ 8) (hx : x < 2 ^ n) : szo x 8 ≤ n := by
  have h := szo_out hx (8 - n)
  rw [show n + (8 - n) = 8 by omega] at h
  rw [h]; exact szo_le x n
theorem pinv_n {P S Wy Le O : Nat → Nat} {n W pz k done left : Nat} {Sl : Nat → Bool} (hn : n ≤ 8) (hv : pinv P S Wy Le O n W pz k done left Sl) : pz ≤ n := by
  obtain ⟨h0, h5, h6, T, t1, t2⟩ := hv
  have := ((h5 T t1).mp t2).1
  have := szo_n hn t1
  omega
abbrev mo_s (cZ : ClassId) (f : g_F) (bd : Nat → Nat) (T : Nat → Bool) : g_F := g_u f (bd 14) (.inl (cZ, 256, .inl (fun q9 => bI (T q9))))
abbrev mo_q (cI : ClassId) (f : g_F) (bd : Nat → Nat) (T : Nat → Nat) : g_F := g_u f (bd 12) (.inl (cI, 8, .inl (fun q9 => nI (T q9))))
abbrev bym (P Wy O : Nat → Nat) (k m : Nat) : Nat := if m = 0 then 0 else sk P Wy O k (m - 1)
/-- the sets that still may be, up to one -/
abbrev slf (X Sl : Nat → Bool) (i : Nat) : Nat → Bool := fun q => if q < i then X q else Sl q
theorem slf_s {X Sl : Nat → Bool} {i : Nat} : va_up (slf X Sl i) i (X i) = slf X Sl (i + 1) := by
  funext q
  unfold va_up slf
  by_cases h : q = i
  · subst h; rw [if_pos rfl, if_pos (by omega)]
  · rw [if_neg h]
    by_cases h2 : q < i
    · rw [if_pos h2, if_pos (by omega)]
    · rw [if_neg h2, if_neg (by omega)]
theorem slf_0 {X Sl : Nat → Bool} : slf X Sl 0 = Sl := by
  funext q
  exact if_neg (by omega)
theorem mo_s_R {cI cZ : ClassId} {f : g_F} {bd : Nat → Nat} {th : Int32} {L nc : Nat} {pt ot : Nat → Int32} {n : Nat} {P Du S Wy tw ct PF DF : Nat → Nat} {GF : Nat → Bool} {pz pm : Nat} {O Le : Nat → Nat} {Sl : Nat → Bool} (hR : mo_R cI cZ f bd th L nc pt ot n P Du S Wy tw ct PF DF GF pz pm O Le Sl) (hIn : ∀ i j, i < 15 → j < 15 → bd i = bd j → i = j) (T : Nat → Bool) : mo_R cI cZ (mo_s cZ f bd T) bd th L nc pt ot n P Du S Wy tw ct PF DF GF pz pm O Le T := by
  obtain ⟨hM, h1, h2, h3, h4, h5, h6, h7, h8, h9, h10, h11, h12, h13, h14⟩ := hR
  exact ⟨(g_u_n (tu_ne hM h14)).trans hM, (g_u_n (fun z => absurd (hIn 1 14 (by decide) (by decide) z) (by decide))).trans h1, (g_u_n (fun z => absurd (hIn 2 14 (by decide) (by decide) z) (by decide))).trans h2, (g_u_n (fun z => absurd (hIn 3 14 (by decide) (by decide) z) (by decide))).trans h3, (g_u_n (fun z => absurd (hIn 4 14 (by decide) (by decide) z) (by decide))).trans h4, (g_u_n (fun z => absurd (hIn 5 14 (by decide) (by decide) z) (by decide))).trans h5, (g_u_n (fun z => absurd (hIn 6 14 (by decide) (by decide) z) (by decide))).trans h6, (g_u_n (fun z => absurd (hIn 7 14 (by decide) (by decide) z) (by decide))).trans h7, (g_u_n (fun z => absurd (hIn 8 14 (by decide) (by decide) z) (by decide))).trans h8, (g_u_n (fun z => absurd (hIn 9 14 (by decide) (by decide) z) (by decide))).trans h9, (g_u_n (fun z => absurd (hIn 10 14 (by decide) (by decide) z) (by decide))).trans h10, (g_u_n (fun z => absurd (hIn 11 14 (by decide) (by decide) z) (by decide))).trans h11, (g_u_n (fun z => absurd (hIn 12 14 (by decide) (by decide) z) (by decide))).trans h12, (g_u_n (fun z => absurd (hIn 13 14 (by decide) (by decide) z) (by decide))).trans h13, g_u_s⟩
theorem mo_q_R {cI cZ : ClassId} {f : g_F} {bd : Nat → Nat} {th : Int32} {L nc : Nat} {pt ot : Nat → Int32} {n : Nat} {P Du S Wy tw ct PF DF : Nat → Nat} {GF : Nat → Bool} {pz pm : Nat} {O Le : Nat → Nat} {Sl : Nat → Bool} (hR : mo_R cI cZ f bd th L nc pt ot n P Du S Wy tw ct PF DF GF pz pm O Le Sl) (hIn : ∀ i j, i < 15 → j < 15 → bd i = bd j → i = j) (T : Nat → Nat) : mo_R cI cZ (mo_q cI f bd T) bd th L nc pt ot n P Du S Wy tw ct PF DF GF pz pm T Le Sl := by
  obtain ⟨hM, h1, h2, h3, h4, h5, h6, h7, h8, h9, h10, h11, h12, h13, h14⟩ := hR
  exact ⟨(g_u_n (tu_ne hM h12)).trans hM, (g_u_n (fun z => absurd (hIn 1 12 (by decide) (by decide) z) (by decide))).trans h1, (g_u_n (fun z => absurd (hIn 2 12 (by decide) (by decide) z) (by decide))).trans h2, (g_u_n (fun z => absurd (hIn 3 12 (by decide) (by decide) z) (by decide))).trans h3, (g_u_n (fun z => absurd (hIn 4 12 (by decide) (by decide) z) (by decide))).trans h4, (g_u_n (fun z => absurd (hIn 5 12 (by decide) (by decide) z) (by decide))).trans h5, (g_u_n (fun z => absurd (hIn 6 12 (by decide) (by decide) z) (by decide))).trans h6, (g_u_n (fun z => absurd (hIn 7 12 (by decide) (by decide) z) (by decide))).trans h7, (g_u_n (fun z => absurd (hIn 8 12 (by decide) (by decide) z) (by decide))).trans h8, (g_u_n (fun z => absurd (hIn 9 12 (by decide) (by decide) z) (by decide))).trans h9, (g_u_n (fun z => absurd (hIn 10 12 (by decide) (by decide) z) (by decide))).trans h10, (g_u_n (fun z => absurd (hIn 11 12 (by decide) (by decide) z) (by decide))).trans h11, g_u_s, (g_u_n (fun z => absurd (hIn 13 12 (by decide) (by decide) z) (by decide))).trans h13, (g_u_n (fun z => absurd (hIn 14 12 (by decide) (by decide) z) (by decide))).trans h14⟩
set_option maxHeartbeats 4000000 in
set_option maxRecDepth 100000 in
theorem L_MO_orderT {p : Program} {l : Launch} {e : Env} {s : State} {m : MethodId} {args : Array Value} {below : List Frame} {meth : Method} {c : Code} {Q : State → Prop} {A : Nat → Prop} {D : va_G} {cI cZ cO cJ : ClassId} {eA eM : Nat} {f : g_F} {bd : Nat → Nat} {th : Int32} {L nc : Nat} {pt ot : Nat → Int32} {n : Nat} {P Du S Wy tw ct PF DF : Nat → Nat} {GF : Nat → Bool} {pz pm : Nat} {O Le : Nat → Nat} {Sl : Nat → Bool} (hR : mo_R cI cZ f bd th L nc pt ot n P Du S Wy tw ct PF DF GF pz pm O Le Sl) (hB : mo_B L nc n P Du S Wy tw ct PF DF pz pm O Le) {k done left a_ m0 : Nat} (ha : a_ < n) (hdn : done < 256) (hle : left ≤ 1000000000) (hsd : ∀ T, T < 2 ^ n → Sl T = true → done ≤ T) (hso : ∀ T, T < 2 ^ n → Sl T = true → (T - done).testBit a_ = true → done.testBit a_ = false) (X : g_X p s m args meth c b_MO_order 9 none g_T y_MO_order.cls D g_cl (g_tys cI cZ cO cJ) A (z_Z eA eM)) (kk : ∀ m_ : Nat, ((m_ = m0 ∧ ∀ T, T < 2 ^ n → ¬ (Sl T = true ∧ (T - done).testBit a_ = true ∧ sk P Wy O k a_ + Le ((T - done) * 8 + a_) = left)) ∨ (m_ = a_ + 1 ∧ ∃ T, T < 2 ^ n ∧ (Sl T = true ∧ (T - done).testBit a_ = true ∧ sk P Wy O k a_ + Le ((T - done) * 8 + a_) = left))) → g_W p l e { frames := 1, cells := 0, slots := 0, locals := 22 } s m args below meth c 9 D g_cl A f 0 0 Q 141 [(4, .int (fI m_)), (5, .int (nI (bym P Wy O k m_))), (0, .ref (bd 0)), (1, .int (nI done)), (2, .int (nI left)), (3, .int (nI k)), (6, .int (nI a_))] []) : ∀ (d : Nat) (i m_ : Nat), (i + d = 2 ^ n) → (((m_ = m0 ∧ ∀ T, T < i → ¬ (Sl T = true ∧ (T - done).testBit a_ = true ∧ sk P Wy O k a_ + Le ((T - done) * 8 + a_) = left)) ∨ (m_ = a_ + 1 ∧ ∃ T, T < i ∧ (Sl T = true ∧ (T - done).testBit a_ = true ∧ sk P Wy O k a_ + Le ((T - done) * 8 + a_) = left)))) → g_W p l e { frames := 1, cells := 0, slots := 0, locals := 22 } s m args below meth c 9 D g_cl A f 0 0 Q 63 [(8, .int (nI i)), (4, .int (fI m_)), (5, .int (nI (bym P Wy O k m_))), (0, .ref (bd 0)), (1, .int (nI done)), (2, .int (nI left)), (3, .int (nI k)), (6, .int (nI a_)), (7, .int (nI (sk P Wy O k a_)))] [] := by
  obtain ⟨hM, h1, h2, h3, h4, h5, h6, h7, h8, h9, h10, h11, h12, h13, h14⟩ := id hR
  obtain ⟨⟨hL1, hL5⟩, hnc, hUB, htw, hct, hPF, hDF, ⟨hpz, hpm, hO8⟩, hLe⟩ := id hB
  obtain ⟨hn8, hP, hDu, hS, hWy⟩ := id hUB
  have hp2 : 2 ^ n ≤ 256 := Nat.le_trans (Nat.pow_le_pow_right (by decide) hn8) (by decide)
  intro d
  induction d using Nat.strongRecOn with
  | _ d ih =>
    intro i m_ hi hm
    refine g_iload X d_MO_order_63 0 rfl ?_
    refine g_iconst (v := 1) X d_MO_order_65 (by decide) ?_
    refine g_aload_n X d_MO_order_66 3 rfl ?_
    refine g_get (ci := 5) (C := R_MO) (T := F_MO) (N := 20) (v := .int (nI n)) X i_MO rfl hM 5 (by decide) q_602 (fun _ h9 => h9) rfl d_MO_order_67 ?_
    refine g_ishl X d_MO_order_70 ?_
    refine g_eqi (y := nI (2 ^ n)) (nI_bit (by omega)) ?_
    refine g_icmp_ge X 141 d_MO_order_71 (by decide) (fun c71 => ?_) (fun c71 => ?_)
    · skip
      have e : i = 2 ^ n := by have := (nI_leI (by omega) (by omega)).mp c71; omega
      rw [e] at hm
      exact g_lv [1, 2, 3, 4, 5, 6, 7] rfl (kk m_ hm)
    · skip
      have hlt : i < 2 ^ n := Nat.lt_of_not_le (fun z => c71 ((nI_leI (by omega) (by omega)).mpr z))
      refine g_aload_n X d_MO_order_74 3 rfl ?_
      refine g_get (ci := 5) (C := R_MO) (T := F_MO) (N := 20) (v := .ref (bd 14)) X i_MO rfl hM 19 (by decide) q_616 (fun _ h9 => h9) rfl d_MO_order_75 ?_
      refine g_iload X d_MO_order_78 0 rfl ?_
      refine g_zald (t0 := 1) (v := bI (Sl i)) X h14 rfl (nI_ix (by omega : i < 256) (by decide)) (nI_cl (g := fun q9 => bI (Sl q9)) (by omega)) d_MO_order_80 ?_
      refine g_if_eq X 135 d_MO_order_81 (by decide) (fun c81 => ?_) (fun c81 => ?_)
      · skip
        have hS9 : Sl i = false := bI_z.mp c81
        have hm2 : ((m_ = m0 ∧ ∀ T, T < (i + 1) → ¬ (Sl T = true ∧ (T - done).testBit a_ = true ∧ sk P Wy O k a_ + Le ((T - done) * 8 + a_) = left)) ∨ (m_ = a_ + 1 ∧ ∃ T, T < (i + 1) ∧ (Sl T = true ∧ (T - done).testBit a_ = true ∧ sk P Wy O k a_ + Le ((T - done) * 8 + a_) = left))) := by
          rcases hm with ⟨q1, q2⟩ | ⟨q1, T, q2, q3⟩
          · exact Or.inl ⟨q1, fun T hT z => by
              by_cases he : T = i
              · subst he; exact absurd z.1 (by rw [hS9]; decide)
              · exact q2 T (by omega) z⟩
          · exact Or.inr ⟨q1, T, by omega, q3⟩
        refine g_iinc (lv' := [(8, .int (nI (i + 1))), (4, .int (fI m_)), (5, .int (nI (bym P Wy O k m_))), (0, .ref (bd 0)), (1, .int (nI done)), (2, .int (nI left)), (3, .int (nI k)), (6, .int (nI a_)), (7, .int (nI (sk P Wy O k a_)))]) X d_MO_order_135 0 rfl (nI_1 i) (by decide) rfl ?_
        refine g_goto X 63 d_MO_order_138 (by decide) ?_
        exact g_lv [0, 1, 2, 3, 4, 5, 6, 7, 8] rfl (ih (d - 1) (by omega) (i + 1) m_ (by omega) hm2)
      · skip
        have hS9 : Sl i = true := bt_nf (fun z => c81 (bI_z.mpr z))
        have hd9 := hsd i hlt hS9
        refine g_iload X d_MO_order_84 0 rfl ?_
        refine g_iload_n X d_MO_order_86 4 rfl ?_
        refine g_isub X d_MO_order_87 ?_
        refine g_eqi (y := nI (i - done)) (nI_sub hd9) ?_
        refine g_iload X d_MO_order_88 7 rfl ?_
        refine g_callS (As := [.int (nI (i - done)), .int (nI a_)]) (rest := []) X (z_ok eA eM) (c_MO_has (f := f) (a := (i - done)) (k := a_) (by omega) (by omega)) v_MO_has q_759 q_758 rfl rfl (Nat.le_of_ble_eq_true rfl) d_MO_order_90 ⟨(Nat.le_of_ble_eq_true rfl), (Nat.le_of_ble_eq_true rfl)⟩ ⟨(Nat.le_of_ble_eq_true rfl), (Nat.le_of_ble_eq_true rfl)⟩ (g_K.no (fun _ h => h)) (fun r_ f2_ hp => ?_)
        obtain ⟨rfl, hf_⟩ := hp
        subst f2_
        refine g_st (st2 := [.int (bI (Nat.testBit (i - done) a_))]) rfl ?_
        refine g_if_eq X 135 d_MO_order_93 (by decide) (fun c93 => ?_) (fun c93 => ?_)
        · skip
          have hb9 : (i - done).testBit a_ = false := bI_z.mp c93
          have hm2 : ((m_ = m0 ∧ ∀ T, T < (i + 1) → ¬ (Sl T = true ∧ (T - done).testBit a_ = true ∧ sk P Wy O k a_ + Le ((T - done) * 8 + a_) = left)) ∨ (m_ = a_ + 1 ∧ ∃ T, T < (i + 1) ∧ (Sl T = true ∧ (T - done).testBit a_ = true ∧ sk P Wy O k a_ + Le ((T - done) * 8 + a_) = left))) := by
            rcases hm with ⟨q1, q2⟩ | ⟨q1, T, q2, q3⟩
            · exact Or.inl ⟨q1, fun T hT z => by
                by_cases he : T = i
                · subst he; exact absurd z.2.1 (by rw [hb9]; decide)
                · exact q2 T (by omega) z⟩
            · exact Or.inr ⟨q1, T, by omega, q3⟩
          refine g_iinc (lv' := [(8, .int (nI (i + 1))), (4, .int (fI m_)), (5, .int (nI (bym P Wy O k m_))), (0, .ref (bd 0)), (1, .int (nI done)), (2, .int (nI left)), (3, .int (nI k)), (6, .int (nI a_)), (7, .int (nI (sk P Wy O k a_)))]) X d_MO_order_135 0 rfl (nI_1 i) (by decide) rfl ?_
          refine g_goto X 63 d_MO_order_138 (by decide) ?_
          exact g_lv [0, 1, 2, 3, 4, 5, 6, 7, 8] rfl (ih (d - 1) (by omega) (i + 1) m_ (by omega) hm2)
        · skip
          have hb9 : (i - done).testBit a_ = true := bt_nf (fun z => c93 (bI_z.mpr z))
          have hsk : sk P Wy O k a_ ≤ 10000 := by unfold sk; split; decide; exact hWy _
          have hle9 := hLe ((i - done) * 8 + a_)
          refine g_iload_n X d_MO_order_96 4 rfl ?_
          refine g_iload X d_MO_order_97 7 rfl ?_
          refine g_callS (As := [.int (nI done), .int (nI a_)]) (rest := []) X (z_ok eA eM) (c_MO_has (f := f) (a := done) (k := a_) (by omega) (by omega)) v_MO_has q_759 q_758 rfl rfl (Nat.le_of_ble_eq_true rfl) d_MO_order_99 ⟨(Nat.le_of_ble_eq_true rfl), (Nat.le_of_ble_eq_true rfl)⟩ ⟨(Nat.le_of_ble_eq_true rfl), (Nat.le_of_ble_eq_true rfl)⟩ (g_K.no (fun _ h => h)) (fun r_ f2_ hp => ?_)
          obtain ⟨rfl, hf_⟩ := hp
          subst f2_
          refine g_st (st2 := [.int (bI (Nat.testBit done a_))]) rfl ?_
          refine g_if_ne X 135 d_MO_order_102 (by decide) (fun c102 => ?_) (fun c102 => ?_)
          · skip
            exact absurd (bI_z.mpr (hso i hlt hS9 hb9)) c102
          · skip
            refine g_iload X d_MO_order_105 8 rfl ?_
            refine g_aload_n X d_MO_order_107 3 rfl ?_
            refine g_get (ci := 5) (C := R_MO) (T := F_MO) (N := 20) (v := .ref (bd 13)) X i_MO rfl hM 18 (by decide) q_615 (fun _ h9 => h9) rfl d_MO_order_108 ?_
            refine g_bipush (v := 8) X d_MO_order_111 (by decide) ?_
            refine g_iload X d_MO_order_113 0 rfl ?_
            refine g_iload_n X d_MO_order_115 4 rfl ?_
            refine g_isub X d_MO_order_116 ?_
            refine g_eqi (y := nI (i - done)) (nI_sub hd9) ?_
            refine g_imul X d_MO_order_117 ?_
            refine g_eqi (y := nI ((i - done) * 8)) ((nI_mul 8 (i - done)).trans (by rw [Nat.mul_comm])) ?_
            refine g_iload X d_MO_order_118 7 rfl ?_
            refine g_iadd X d_MO_order_120 ?_
            refine g_eqi (y := nI ((i - done) * 8 + a_)) (nI_add _ _) ?_
            refine g_iald (t0 := 0) (v := nI (Le ((i - done) * 8 + a_))) X h13 rfl (nI_ix ((by omega : (i - done) * 8 + a_ < 2048)) (by decide)) (nI_cl (g := fun q9 => nI (Le q9)) (Nat.lt_trans ((by omega : (i - done) * 8 + a_ < 2048)) (by decide))) d_MO_order_121 ?_
            refine g_iadd X d_MO_order_122 ?_
            refine g_eqi (y := nI (sk P Wy O k a_ + Le ((i - done) * 8 + a_))) (nI_add _ _) ?_
            refine g_iload_n X d_MO_order_123 5 rfl ?_
            refine g_icmp_ne X 135 d_MO_order_124 (by decide) (fun c124 => ?_) (fun c124 => ?_)
            · skip
              have hc9 : ¬ sk P Wy O k a_ + Le ((i - done) * 8 + a_) = left := fun z => c124 (by rw [z])
              have hm2 : ((m_ = m0 ∧ ∀ T, T < (i + 1) → ¬ (Sl T = true ∧ (T - done).testBit a_ = true ∧ sk P Wy O k a_ + Le ((T - done) * 8 + a_) = left)) ∨ (m_ = a_ + 1 ∧ ∃ T, T < (i + 1) ∧ (Sl T = true ∧ (T - done).testBit a_ = true ∧ sk P Wy O k a_ + Le ((T - done) * 8 + a_) = left))) := by
                rcases hm with ⟨q1, q2⟩ | ⟨q1, T, q2, q3⟩
                · exact Or.inl ⟨q1, fun T hT z => by
                    by_cases he : T = i
                    · subst he; exact hc9 z.2.2
                    · exact q2 T (by omega) z⟩
                · exact Or.inr ⟨q1, T, by omega, q3⟩
              refine g_iinc (lv' := [(8, .int (nI (i + 1))), (4, .int (fI m_)), (5, .int (nI (bym P Wy O k m_))), (0, .ref (bd 0)), (1, .int (nI done)), (2, .int (nI left)), (3, .int (nI k)), (6, .int (nI a_)), (7, .int (nI (sk P Wy O k a_)))]) X d_MO_order_135 0 rfl (nI_1 i) (by decide) rfl ?_
              refine g_goto X 63 d_MO_order_138 (by decide) ?_
              exact g_lv [0, 1, 2, 3, 4, 5, 6, 7, 8] rfl (ih (d - 1) (by omega) (i + 1) m_ (by omega) hm2)
            · skip
              have hc9 : sk P Wy O k a_ + Le ((i - done) * 8 + a_) = left := (nI_eq (by omega) (by omega)).mp c124
              refine g_iload X d_MO_order_127 7 rfl ?_
              refine g_istore (lv' := [(4, .int (nI a_)), (8, .int (nI i)), (5, .int (nI (bym P Wy O k m_))), (0, .ref (bd 0)), (1, .int (nI done)), (2, .int (nI left)), (3, .int (nI k)), (6, .int (nI a_)), (7, .int (nI (sk P Wy O k a_)))]) X d_MO_order_129 (by decide) rfl ?_
              refine g_iload X d_MO_order_131 8 rfl ?_
              refine g_istore (lv' := [(5, .int (nI (sk P Wy O k a_))), (4, .int (nI a_)), (8, .int (nI i)), (0, .ref (bd 0)), (1, .int (nI done)), (2, .int (nI left)), (3, .int (nI k)), (6, .int (nI a_)), (7, .int (nI (sk P Wy O k a_)))]) X d_MO_order_133 (by decide) rfl ?_
              refine g_iinc (lv' := [(8, .int (nI (i + 1))), (5, .int (nI (sk P Wy O k a_))), (4, .int (nI a_)), (0, .ref (bd 0)), (1, .int (nI done)), (2, .int (nI left)), (3, .int (nI k)), (6, .int (nI a_)), (7, .int (nI (sk P Wy O k a_)))]) X d_MO_order_135 2 rfl (nI_1 i) (by decide) rfl ?_
              refine g_goto X 63 d_MO_order_138 (by decide) ?_
              refine g_lv (lv' := [(8, .int (nI (i + 1))), (4, .int (fI (a_ + 1))), (5, .int (nI (bym P Wy O k (a_ + 1)))), (0, .ref (bd 0)), (1, .int (nI done)), (2, .int (nI left)), (3, .int (nI k)), (6, .int (nI a_)), (7, .int (nI (sk P Wy O k a_)))]) [0, 2, 1, 3, 4, 5, 6, 7, 8] (by rw [fI_s]; rfl) (ih (d - 1) (by omega) (i + 1) (a_ + 1) (by omega) (Or.inr ⟨rfl, i, by omega, hS9, hb9, hc9⟩))
set_option maxHeartbeats 4000000 in
set_option maxRecDepth 100000 in
theorem L_MO_orderA {p : Program} {l : Launch} {e : Env} {s : State} {m : MethodId} {args : Array Value} {below : List Frame} {meth : Method} {c : Code} {Q : State → Prop} {A : Nat → Prop} {D : va_G} {cI cZ cO cJ : ClassId} {eA eM : Nat} {f : g_F} {bd : Nat → Nat} {th : Int32} {L nc : Nat} {pt ot : Nat → Int32} {n : Nat} {P Du S Wy tw ct PF DF : Nat → Nat} {GF : Nat → Bool} {pz pm : Nat} {O Le : Nat → Nat} {Sl : Nat → Bool} (hR : mo_R cI cZ f bd th L nc pt ot n P Du S Wy tw ct PF DF GF pz pm O Le Sl) (hB : mo_B L nc n P Du S Wy tw ct PF DF pz pm O Le) {k done left : Nat} (hk8 : k ≤ 8) (hdn : done < 256) (hle : left ≤ 1000000000) (hsd : ∀ T, T < 2 ^ n → Sl T = true → done ≤ T) (hso : ∀ a_ T, T < 2 ^ n → Sl T = true → (T - done).testBit a_ = true → done.testBit a_ = false) (X : g_X p s m args meth c b_MO_order 9 none g_T y_MO_order.cls D g_cl (g_tys cI cZ cO cJ) A (z_Z eA eM)) (kk : ∀ m_ : Nat, ((m_ = 0 ∧ ∀ a, 0 ≤ a → a < n → ¬ may P Wy Le O n k done left Sl a) ∨ (∃ j, m_ = j + 1 ∧ 0 ≤ j ∧ j < n ∧ may P Wy Le O n k done left Sl j ∧ ∀ a, 0 ≤ a → a < j → ¬ may P Wy Le O n k done left Sl a)) → g_W p l e { frames := 1, cells := 0, slots := 0, locals := 22 } s m args below meth c 9 D g_cl A f 0 0 Q 147 [(4, .int (fI m_)), (5, .int (nI (bym P Wy O k m_))), (0, .ref (bd 0)), (1, .int (nI done)), (2, .int (nI left)), (3, .int (nI k))] []) : ∀ (d : Nat) (m_ : Nat), (d ≤ n) → (((m_ = 0 ∧ ∀ a, d ≤ a → a < n → ¬ may P Wy Le O n k done left Sl a) ∨ (∃ j, m_ = j + 1 ∧ d ≤ j ∧ j < n ∧ may P Wy Le O n k done left Sl j ∧ ∀ a, d ≤ a → a < j → ¬ may P Wy Le O n k done left Sl a))) → g_W p l e { frames := 1, cells := 0, slots := 0, locals := 22 } s m args below meth c 9 D g_cl A f 0 0 Q 31 [(6, .int (fI d)), (4, .int (fI m_)), (5, .int (nI (bym P Wy O k m_))), (0, .ref (bd 0)), (1, .int (nI done)), (2, .int (nI left)), (3, .int (nI k))] [] := by
  obtain ⟨hM, h1, h2, h3, h4, h5, h6, h7, h8, h9, h10, h11, h12, h13, h14⟩ := id hR
  obtain ⟨⟨hL1, hL5⟩, hnc, hUB, htw, hct, hPF, hDF, ⟨hpz, hpm, hO8⟩, hLe⟩ := id hB
  obtain ⟨hn8, hP, hDu, hS, hWy⟩ := id hUB
  have hp2 : 2 ^ n ≤ 256 := Nat.le_trans (Nat.pow_le_pow_right (by decide) hn8) (by decide)
  intro d
  induction d using Nat.strongRecOn with
  | _ d ih =>
    intro m_ hd hm
    refine g_iload X d_MO_order_31 0 rfl ?_
    refine g_if_lt X 147 d_MO_order_33 (by decide) (fun c33 => ?_) (fun c33 => ?_)
    · skip
      have e : d = 0 := by
        have := c33
        rw [Int32.lt_iff_toInt_lt, fI_toInt (by omega), Int32.toInt_zero] at this
        omega
      subst e
      exact g_lv [1, 2, 3, 4, 5, 6] rfl (kk m_ hm)
    · skip
      obtain ⟨a_, rfl⟩ : ∃ a_, d = a_ + 1 := ⟨d - 1, by
        have : d ≠ 0 := fun z => c33 (by rw [z]; decide)
        omega⟩
      refine g_lv (lv' := [(6, .int (nI a_)), (4, .int (fI m_)), (5, .int (nI (bym P Wy O k m_))), (0, .ref (bd 0)), (1, .int (nI done)), (2, .int (nI left)), (3, .int (nI k))]) [0, 1, 2, 3, 4, 5, 6] (by rw [fI_s]; rfl) ?_
      skip
      refine g_iload_n X d_MO_order_36 6 rfl ?_
      refine g_if_ne X 44 d_MO_order_37 (by decide) (fun c37 => ?_) (fun c37 => ?_)
      · skip
        have hk0 : k ≠ 0 := fun z => c37 ((nI_z (by omega)).mpr z)
        have ho9 := hO8 (k - 1)
        refine g_aload_n X d_MO_order_44 3 rfl ?_
        refine g_aload_n X d_MO_order_45 3 rfl ?_
        refine g_get (ci := 5) (C := R_MO) (T := F_MO) (N := 20) (v := .ref (bd 12)) X i_MO rfl hM 17 (by decide) q_614 (fun _ h9 => h9) rfl d_MO_order_46 ?_
        refine g_iload_n X d_MO_order_49 6 rfl ?_
        refine g_iconst (v := 1) X d_MO_order_50 (by decide) ?_
        refine g_isub X d_MO_order_51 ?_
        refine g_eqi (y := nI (k - 1)) (nI_m1 (by omega)) ?_
        refine g_iald (t0 := 0) (v := nI (O (k - 1))) X h12 rfl (nI_ix ((by omega : k - 1 < 8)) (by decide)) (nI_cl (g := fun q9 => nI (O q9)) (Nat.lt_trans ((by omega : k - 1 < 8)) (by decide))) d_MO_order_52 ?_
        refine g_iload X d_MO_order_53 0 rfl ?_
        refine g_callV (ci := 5) (As := [.int (nI (O (k - 1))), .int (nI a_)]) (rest := []) X (z_ok eA eM) rfl rfl hM (c_MO_between hR hB (i := O (k - 1)) (j := a_) ho9 (by omega)) v_MO_between q_763 q_s28 q_761 rfl rfl (Nat.le_of_ble_eq_true rfl) d_MO_order_55 ⟨(Nat.le_of_ble_eq_true rfl), (Nat.le_of_ble_eq_true rfl)⟩ ⟨(Nat.le_of_ble_eq_true rfl), (Nat.le_of_ble_eq_true rfl)⟩ (g_K.no (fun _ h => h)) (fun r_ f2_ hp => ?_)
        obtain ⟨rfl, hf_⟩ := hp
        subst f2_
        refine g_st (st2 := [.int (nI (tu_wy P Wy (O (k - 1)) a_))]) rfl ?_
        refine g_eqi (y := nI (sk P Wy O k a_)) (by rw [show sk P Wy O k a_ = tu_wy P Wy (O (k - 1)) a_ from if_neg (fun z => c37 ((nI_z (by omega)).mpr z))]) ?_
        refine g_istore (lv' := [(7, .int (nI (sk P Wy O k a_))), (6, .int (nI a_)), (4, .int (fI m_)), (5, .int (nI (bym P Wy O k m_))), (0, .ref (bd 0)), (1, .int (nI done)), (2, .int (nI left)), (3, .int (nI k))]) X d_MO_order_58 (by decide) rfl ?_
        refine g_iconst (v := 0) X d_MO_order_60 (by decide) ?_
        refine g_istore (lv' := [(8, .int 0), (7, .int (nI (sk P Wy O k a_))), (6, .int (nI a_)), (4, .int (fI m_)), (5, .int (nI (bym P Wy O k m_))), (0, .ref (bd 0)), (1, .int (nI done)), (2, .int (nI left)), (3, .int (nI k))]) X d_MO_order_61 (by decide) rfl ?_
        refine g_lv [0, 3, 4, 5, 6, 7, 8, 2, 1] rfl (L_MO_orderT hR hB (a_ := a_) (m0 := m_) (by omega) hdn hle hsd (hso a_) X ?_ (2 ^ n) 0 m_ (by omega) (Or.inl ⟨rfl, fun T hT => absurd hT (by omega)⟩))
        intro m2 hm2
        refine g_iinc (lv' := [(6, .int (fI a_)), (4, .int (fI m2)), (5, .int (nI (bym P Wy O k m2))), (0, .ref (bd 0)), (1, .int (nI done)), (2, .int (nI left)), (3, .int (nI k))]) X d_MO_order_141 6 rfl (by show _ = nI a_ - 1; rw [Int32.sub_eq_add_neg]; rfl) (by decide) rfl ?_
        refine g_goto X 31 d_MO_order_144 (by decide) ?_
        refine ih a_ (by omega) m2 ?_ ?_
        · omega
        · rcases hm2 with ⟨e1, e2⟩ | ⟨e1, T, e2, e3⟩
          · rw [e1]
            have hna : ¬ may P Wy Le O n k done left Sl a_ := fun z => by obtain ⟨T, t1, t2⟩ := z; exact e2 T t1 t2
            rcases hm with ⟨f1, f2⟩ | ⟨j, f1, f2, f3, f4, f5⟩
            · exact Or.inl ⟨f1, fun a h1 h2 => by
                by_cases he : a = a_
                · subst he; exact hna
                · exact f2 a (by omega) h2⟩
            · exact Or.inr ⟨j, f1, by omega, f3, f4, fun a h1 h2 => by
                by_cases he : a = a_
                · subst he; exact hna
                · exact f5 a (by omega) h2⟩
          · exact Or.inr ⟨a_, e1, Nat.le_refl _, by omega, ⟨T, e2, e3⟩, fun a h1 h2 => absurd h2 (by omega)⟩
      · skip
        refine g_iconst (v := 0) X d_MO_order_40 (by decide) ?_
        refine g_goto X 58 d_MO_order_41 (by decide) ?_
        refine g_eqi (y := nI (sk P Wy O k a_)) (by rw [show sk P Wy O k a_ = 0 from if_pos ((nI_z (by omega)).mp c37)]; rfl) ?_
        refine g_istore (lv' := [(7, .int (nI (sk P Wy O k a_))), (6, .int (nI a_)), (4, .int (fI m_)), (5, .int (nI (bym P Wy O k m_))), (0, .ref (bd 0)), (1, .int (nI done)), (2, .int (nI left)), (3, .int (nI k))]) X d_MO_order_58 (by decide) rfl ?_
        refine g_iconst (v := 0) X d_MO_order_60 (by decide) ?_
        refine g_istore (lv' := [(8, .int 0), (7, .int (nI (sk P Wy O k a_))), (6, .int (nI a_)), (4, .int (fI m_)), (5, .int (nI (bym P Wy O k m_))), (0, .ref (bd 0)), (1, .int (nI done)), (2, .int (nI left)), (3, .int (nI k))]) X d_MO_order_61 (by decide) rfl ?_
        refine g_lv [0, 3, 4, 5, 6, 7, 8, 2, 1] rfl (L_MO_orderT hR hB (a_ := a_) (m0 := m_) (by omega) hdn hle hsd (hso a_) X ?_ (2 ^ n) 0 m_ (by omega) (Or.inl ⟨rfl, fun T hT => absurd hT (by omega)⟩))
        intro m2 hm2
        refine g_iinc (lv' := [(6, .int (fI a_)), (4, .int (fI m2)), (5, .int (nI (bym P Wy O k m2))), (0, .ref (bd 0)), (1, .int (nI done)), (2, .int (nI left)), (3, .int (nI k))]) X d_MO_order_141 6 rfl (by show _ = nI a_ - 1; rw [Int32.sub_eq_add_neg]; rfl) (by decide) rfl ?_
        refine g_goto X 31 d_MO_order_144 (by decide) ?_
        refine ih a_ (by omega) m2 ?_ ?_
        · omega
        · rcases hm2 with ⟨e1, e2⟩ | ⟨e1, T, e2, e3⟩
          · rw [e1]
            have hna : ¬ may P Wy Le O n k done left Sl a_ := fun z => by obtain ⟨T, t1, t2⟩ := z; exact e2 T t1 t2
            rcases hm with ⟨f1, f2⟩ | ⟨j, f1, f2, f3, f4, f5⟩
            · exact Or.inl ⟨f1, fun a h1 h2 => by
                by_cases he : a = a_
                · subst he; exact hna
                · exact f2 a (by omega) h2⟩
            · exact Or.inr ⟨j, f1, by omega, f3, f4, fun a h1 h2 => by
                by_cases he : a = a_
                · subst he; exact hna
                · exact f5 a (by omega) h2⟩
          · exact Or.inr ⟨a_, e1, Nat.le_refl _, by omega, ⟨T, e2, e3⟩, fun a h1 h2 => absurd h2 (by omega)⟩
set_option maxHeartbeats 4000000 in
set_option maxRecDepth 100000 in
theorem L_MO_orderS {p : Program} {l : Launch} {e : Env} {s : State} {m : MethodId} {args : Array Value} {below : List Frame} {meth : Method} {c : Code} {Q : State → Prop} {A : Nat → Prop} {D : va_G} {cI cZ cO cJ : ClassId} {eA eM : Nat} {f : g_F} {bd : Nat → Nat} {th : Int32} {L nc : Nat} {pt ot : Nat → Int32} {n : Nat} {P Du S Wy tw ct PF DF : Nat → Nat} {GF : Nat → Bool} {pz pm : Nat} {O Le : Nat → Nat} {Sl : Nat → Bool} (hR : mo_R cI cZ f bd th L nc pt ot n P Du S Wy tw ct PF DF GF pz pm O Le Sl) (hB : mo_B L nc n P Du S Wy tw ct PF DF pz pm O Le) (hIn : ∀ i j, i < 15 → j < 15 → bd i = bd j → i = j) {k done left j : Nat} (hj : j < 8) (hdn : done < 256) (hle : left ≤ 1000000000) (hsd : ∀ T, T < 2 ^ n → Sl T = true → done ≤ T) (X : g_X p s m args meth c b_MO_order 9 none g_T y_MO_order.cls D g_cl (g_tys cI cZ cO cJ) A (z_Z eA eM)) (kk : g_W p l e { frames := 1, cells := 0, slots := 0, locals := 22 } s m args below meth c 9 D g_cl A (mo_s cZ f bd (slf (fun T => Sl T && T.testBit j && decide (sk P Wy O k j + Le ((T - done) * 8 + j) = left)) Sl (2 ^ n))) 0 0 Q 221 [(4, .int (nI j)), (5, .int (nI (sk P Wy O k j))), (0, .ref (bd 0)), (1, .int (nI done)), (2, .int (nI left)), (3, .int (nI k))] []) : ∀ (d : Nat) (i : Nat), (i + d = 2 ^ n) → g_W p l e { frames := 1, cells := 0, slots := 0, locals := 22 } s m args below meth c 9 D g_cl A (mo_s cZ f bd (slf (fun T => Sl T && T.testBit j && decide (sk P Wy O k j + Le ((T - done) * 8 + j) = left)) Sl i)) 0 0 Q 150 [(6, .int (nI i)), (4, .int (nI j)), (5, .int (nI (sk P Wy O k j))), (0, .ref (bd 0)), (1, .int (nI done)), (2, .int (nI left)), (3, .int (nI k))] [] := by
  obtain ⟨hM, h1, h2, h3, h4, h5, h6, h7, h8, h9, h10, h11, h12, h13, h14⟩ := id hR
  obtain ⟨⟨hL1, hL5⟩, hnc, hUB, htw, hct, hPF, hDF, ⟨hpz, hpm, hO8⟩, hLe⟩ := id hB
  obtain ⟨hn8, hP, hDu, hS, hWy⟩ := id hUB
  have hp2 : 2 ^ n ≤ 256 := Nat.le_trans (Nat.pow_le_pow_right (by decide) hn8) (by decide)
  intro d
  induction d using Nat.strongRecOn with
  | _ d ih =>
    intro i hi
    have hRi := mo_s_R hR hIn (slf (fun T => Sl T && T.testBit j && decide (sk P Wy O k j + Le ((T - done) * 8 + j) = left)) Sl i)
    obtain ⟨w0, w1, w2, w3, w4, w5, w6, w7, w8, w9, w10, w11, w12, w13, w14⟩ := hRi
    refine g_iload X d_MO_order_150 0 rfl ?_
    refine g_iconst (v := 1) X d_MO_order_152 (by decide) ?_
    refine g_aload_n X d_MO_order_153 3 rfl ?_
    refine g_get (ci := 5) (C := R_MO) (T := F_MO) (N := 20) (v := .int (nI n)) X i_MO rfl w0 5 (by decide) q_602 (fun _ h9 => h9) rfl d_MO_order_154 ?_
    refine g_ishl X d_MO_order_157 ?_
    refine g_eqi (y := nI (2 ^ n)) (nI_bit (by omega)) ?_
    refine g_icmp_ge X 221 d_MO_order_158 (by decide) (fun c158 => ?_) (fun c158 => ?_)
    · skip
      have e : i = 2 ^ n := by have := (nI_leI (by omega) (by omega)).mp c158; omega
      subst e
      exact g_lv [1, 2, 3, 4, 5, 6] rfl kk
    · skip
      have hlt : i < 2 ^ n := Nat.lt_of_not_le (fun z => c158 ((nI_leI (by omega) (by omega)).mpr z))
      refine g_aload_n X d_MO_order_161 3 rfl ?_
      refine g_get (ci := 5) (C := R_MO) (T := F_MO) (N := 20) (v := .ref (bd 14)) X i_MO rfl w0 19 (by decide) q_616 (fun _ h9 => h9) rfl d_MO_order_162 ?_
      refine g_iload X d_MO_order_165 0 rfl ?_
      refine g_aload_n X d_MO_order_167 3 rfl ?_
      refine g_get (ci := 5) (C := R_MO) (T := F_MO) (N := 20) (v := .ref (bd 14)) X i_MO rfl w0 19 (by decide) q_616 (fun _ h9 => h9) rfl d_MO_order_168 ?_
      refine g_iload X d_MO_order_171 0 rfl ?_
      refine g_zald (t0 := 1) (v := bI (Sl i)) X w14 rfl (nI_ix (by omega : i < 256) (by decide)) ((nI_cl (g := fun q9 => bI (slf (fun T => Sl T && T.testBit j && decide (sk P Wy O k j + Le ((T - done) * 8 + j) = left)) Sl i q9)) (by omega)).trans (by show bI (slf (fun T => Sl T && T.testBit j && decide (sk P Wy O k j + Le ((T - done) * 8 + j) = left)) Sl i i) = _; rw [show slf (fun T => Sl T && T.testBit j && decide (sk P Wy O k j + Le ((T - done) * 8 + j) = left)) Sl i i = Sl i from if_neg (by omega)])) d_MO_order_173 ?_
      refine g_if_eq X 213 d_MO_order_174 (by decide) (fun c174 => ?_) (fun c174 => ?_)
      · skip
        have hS9 : Sl i = false := bI_z.mp c174
        refine g_iconst (v := 0) X d_MO_order_213 (by decide) ?_
        refine g_eqi (y := bI ((fun T => Sl T && T.testBit j && decide (sk P Wy O k j + Le ((T - done) * 8 + j) = left)) i)) (by rw [show (fun T => Sl T && T.testBit j && decide (sk P Wy O k j + Le ((T - done) * 8 + j) = left)) i = false from by show (Sl i && i.testBit j && decide (_ = _)) = false; first | (rw [hS9, Bool.false_and, Bool.false_and]) | (rw [hb9, Bool.and_false, Bool.false_and]) | (rw [decide_eq_false hc9, Bool.and_false])]; rfl) ?_
        refine g_zast (t0 := 1) (g2 := fun q9 => bI (slf (fun T => Sl T && T.testBit j && decide (sk P Wy O k j + Le ((T - done) * 8 + j) = left)) Sl (i + 1) q9)) X w14 rfl (nI_ix (by omega : i < 256) (by decide)) (by rw [← slf_s]; exact upd_bI (by omega)) d_MO_order_214 ?_
        refine g_eqf (f2 := (mo_s cZ f bd (slf (fun T => Sl T && T.testBit j && decide (sk P Wy O k j + Le ((T - done) * 8 + j) = left)) Sl (i + 1)))) (g_u_u) ?_
        refine g_iinc (lv' := [(6, .int (nI (i + 1))), (4, .int (nI j)), (5, .int (nI (sk P Wy O k j))), (0, .ref (bd 0)), (1, .int (nI done)), (2, .int (nI left)), (3, .int (nI k))]) X d_MO_order_215 0 rfl (nI_1 i) (by decide) rfl ?_
        refine g_goto X 150 d_MO_order_218 (by decide) ?_
        exact g_lv [0, 1, 2, 3, 4, 5, 6] rfl (ih (d - 1) (by omega) (i + 1) (by omega))
      · skip
        have hS9 : Sl i = true := bt_nf (fun z => c174 (bI_z.mpr z))
        have hd9 := hsd i hlt hS9
        refine g_iload X d_MO_order_177 0 rfl ?_
        refine g_iload X d_MO_order_179 1 rfl ?_
        refine g_callS (As := [.int (nI i), .int (nI j)]) (rest := [.int (nI i), .ref (bd 14)]) X (z_ok eA eM) (c_MO_has (f := (mo_s cZ f bd (slf (fun T => Sl T && T.testBit j && decide (sk P Wy O k j + Le ((T - done) * 8 + j) = left)) Sl i))) (a := i) (k := j) (by omega) (by omega)) v_MO_has q_759 q_758 rfl rfl (Nat.le_of_ble_eq_true rfl) d_MO_order_181 ⟨(Nat.le_of_ble_eq_true rfl), (Nat.le_of_ble_eq_true rfl)⟩ ⟨(Nat.le_of_ble_eq_true rfl), (Nat.le_of_ble_eq_true rfl)⟩ (g_K.no (fun _ h => h)) (fun r_ f2_ hp => ?_)
        obtain ⟨rfl, hf_⟩ := hp
        subst f2_
        refine g_st (st2 := [.int (bI (Nat.testBit i j)), .int (nI i), .ref (bd 14)]) rfl ?_
        refine g_if_eq X 213 d_MO_order_184 (by decide) (fun c184 => ?_) (fun c184 => ?_)
        · skip
          have hb9 : i.testBit j = false := bI_z.mp c184
          refine g_iconst (v := 0) X d_MO_order_213 (by decide) ?_
          refine g_eqi (y := bI ((fun T => Sl T && T.testBit j && decide (sk P Wy O k j + Le ((T - done) * 8 + j) = left)) i)) (by rw [show (fun T => Sl T && T.testBit j && decide (sk P Wy O k j + Le ((T - done) * 8 + j) = left)) i = false from by show (Sl i && i.testBit j && decide (_ = _)) = false; first | (rw [hS9, Bool.false_and, Bool.false_and]) | (rw [hb9, Bool.and_false, Bool.false_and]) | (rw [decide_eq_false hc9, Bool.and_false])]; rfl) ?_
          refine g_zast (t0 := 1) (g2 := fun q9 => bI (slf (fun T => Sl T && T.testBit j && decide (sk P Wy O k j + Le ((T - done) * 8 + j) = left)) Sl (i + 1) q9)) X w14 rfl (nI_ix (by omega : i < 256) (by decide)) (by rw [← slf_s]; exact upd_bI (by omega)) d_MO_order_214 ?_
          refine g_eqf (f2 := (mo_s cZ f bd (slf (fun T => Sl T && T.testBit j && decide (sk P Wy O k j + Le ((T - done) * 8 + j) = left)) Sl (i + 1)))) (g_u_u) ?_
          refine g_iinc (lv' := [(6, .int (nI (i + 1))), (4, .int (nI j)), (5, .int (nI (sk P Wy O k j))), (0, .ref (bd 0)), (1, .int (nI done)), (2, .int (nI left)), (3, .int (nI k))]) X d_MO_order_215 0 rfl (nI_1 i) (by decide) rfl ?_
          refine g_goto X 150 d_MO_order_218 (by decide) ?_
          exact g_lv [0, 1, 2, 3, 4, 5, 6] rfl (ih (d - 1) (by omega) (i + 1) (by omega))
        · skip
          have hb9 : i.testBit j = true := bt_nf (fun z => c184 (bI_z.mpr z))
          have hsk : sk P Wy O k j ≤ 10000 := by unfold sk; split; decide; exact hWy _
          have hle9 := hLe ((i - done) * 8 + j)
          refine g_iload X d_MO_order_187 2 rfl ?_
          refine g_aload_n X d_MO_order_189 3 rfl ?_
          refine g_get (ci := 5) (C := R_MO) (T := F_MO) (N := 20) (v := .ref (bd 13)) X i_MO rfl w0 18 (by decide) q_615 (fun _ h9 => h9) rfl d_MO_order_190 ?_
          refine g_bipush (v := 8) X d_MO_order_193 (by decide) ?_
          refine g_iload X d_MO_order_195 0 rfl ?_
          refine g_iload_n X d_MO_order_197 4 rfl ?_
          refine g_isub X d_MO_order_198 ?_
          refine g_eqi (y := nI (i - done)) (nI_sub hd9) ?_
          refine g_imul X d_MO_order_199 ?_
          refine g_eqi (y := nI ((i - done) * 8)) ((nI_mul 8 (i - done)).trans (by rw [Nat.mul_comm])) ?_
          refine g_iload X d_MO_order_200 1 rfl ?_
          refine g_iadd X d_MO_order_202 ?_
          refine g_eqi (y := nI ((i - done) * 8 + j)) (nI_add _ _) ?_
          refine g_iald (t0 := 0) (v := nI (Le ((i - done) * 8 + j))) X w13 rfl (nI_ix ((by omega : (i - done) * 8 + j < 2048)) (by decide)) (nI_cl (g := fun q9 => nI (Le q9)) (Nat.lt_trans ((by omega : (i - done) * 8 + j < 2048)) (by decide))) d_MO_order_203 ?_
          refine g_iadd X d_MO_order_204 ?_
          refine g_eqi (y := nI (sk P Wy O k j + Le ((i - done) * 8 + j))) (nI_add _ _) ?_
          refine g_iload_n X d_MO_order_205 5 rfl ?_
          refine g_icmp_ne X 213 d_MO_order_206 (by decide) (fun c206 => ?_) (fun c206 => ?_)
          · skip
            have hc9 : ¬ sk P Wy O k j + Le ((i - done) * 8 + j) = left := fun z => c206 (by rw [z])
            refine g_iconst (v := 0) X d_MO_order_213 (by decide) ?_
            refine g_eqi (y := bI ((fun T => Sl T && T.testBit j && decide (sk P Wy O k j + Le ((T - done) * 8 + j) = left)) i)) (by rw [show (fun T => Sl T && T.testBit j && decide (sk P Wy O k j + Le ((T - done) * 8 + j) = left)) i = false from by show (Sl i && i.testBit j && decide (_ = _)) = false; first | (rw [hS9, Bool.false_and, Bool.false_and]) | (rw [hb9, Bool.and_false, Bool.false_and]) | (rw [decide_eq_false hc9, Bool.and_false])]; rfl) ?_
            refine g_zast (t0 := 1) (g2 := fun q9 => bI (slf (fun T => Sl T && T.testBit j && decide (sk P Wy O k j + Le ((T - done) * 8 + j) = left)) Sl (i + 1) q9)) X w14 rfl (nI_ix (by omega : i < 256) (by decide)) (by rw [← slf_s]; exact upd_bI (by omega)) d_MO_order_214 ?_
            refine g_eqf (f2 := (mo_s cZ f bd (slf (fun T => Sl T && T.testBit j && decide (sk P Wy O k j + Le ((T - done) * 8 + j) = left)) Sl (i + 1)))) (g_u_u) ?_
            refine g_iinc (lv' := [(6, .int (nI (i + 1))), (4, .int (nI j)), (5, .int (nI (sk P Wy O k j))), (0, .ref (bd 0)), (1, .int (nI done)), (2, .int (nI left)), (3, .int (nI k))]) X d_MO_order_215 0 rfl (nI_1 i) (by decide) rfl ?_
            refine g_goto X 150 d_MO_order_218 (by decide) ?_
            exact g_lv [0, 1, 2, 3, 4, 5, 6] rfl (ih (d - 1) (by omega) (i + 1) (by omega))
          · skip
            have hc9 : sk P Wy O k j + Le ((i - done) * 8 + j) = left := (nI_eq (by omega) (by omega)).mp c206
            refine g_iconst (v := 1) X d_MO_order_209 (by decide) ?_
            refine g_goto X 214 d_MO_order_210 (by decide) ?_
            refine g_eqi (y := bI ((fun T => Sl T && T.testBit j && decide (sk P Wy O k j + Le ((T - done) * 8 + j) = left)) i)) (by rw [show (fun T => Sl T && T.testBit j && decide (sk P Wy O k j + Le ((T - done) * 8 + j) = left)) i = true from by show (Sl i && i.testBit j && decide (_ = _)) = true; rw [hS9, hb9, decide_eq_true hc9]; rfl]; rfl) ?_
            refine g_zast (t0 := 1) (g2 := fun q9 => bI (slf (fun T => Sl T && T.testBit j && decide (sk P Wy O k j + Le ((T - done) * 8 + j) = left)) Sl (i + 1) q9)) X w14 rfl (nI_ix (by omega : i < 256) (by decide)) (by rw [← slf_s]; exact upd_bI (by omega)) d_MO_order_214 ?_
            refine g_eqf (f2 := (mo_s cZ f bd (slf (fun T => Sl T && T.testBit j && decide (sk P Wy O k j + Le ((T - done) * 8 + j) = left)) Sl (i + 1)))) (g_u_u) ?_
            refine g_iinc (lv' := [(6, .int (nI (i + 1))), (4, .int (nI j)), (5, .int (nI (sk P Wy O k j))), (0, .ref (bd 0)), (1, .int (nI done)), (2, .int (nI left)), (3, .int (nI k))]) X d_MO_order_215 0 rfl (nI_1 i) (by decide) rfl ?_
            refine g_goto X 150 d_MO_order_218 (by decide) ?_
            exact g_lv [0, 1, 2, 3, 4, 5, 6] rfl (ih (d - 1) (by omega) (i + 1) (by omega))
theorem mo_qs {cI cZ : ClassId} {f : g_F} {bd : Nat → Nat} {Sl Sl3 : Nat → Bool} {O : Nat → Nat} (h : bd 14 ≠ bd 12) : mo_s cZ (mo_q cI (mo_s cZ f bd Sl) bd O) bd Sl3 = mo_q cI (mo_s cZ f bd Sl3) bd O := by
  show g_u (g_u (g_u f (bd 14) _) (bd 12) _) (bd 14) _ = g_u (g_u f (bd 14) _) (bd 12) _
  rw [g_u_c (Ne.symm h), g_u_u]
theorem g_u_same {f : g_F} {a : Nat} {x : va_E} (h : f a = some x) : f = g_u f a x := by
  funext q
  unfold g_u
  split
  · rename_i hq; rw [hq]; exact h
  · rfl
set_option maxHeartbeats 4000000 in
set_option maxRecDepth 100000 in
theorem L_MO_order {p : Program} {l : Launch} {e : Env} {s : State} {m : MethodId} {args : Array Value} {below : List Frame} {meth : Method} {c : Code} {Q : State → Prop} {A : Nat → Prop} {D : va_G} {cI cZ cO cJ : ClassId} {eA eM : Nat} {f : g_F} {bd : Nat → Nat} {th : Int32} {L nc : Nat} {pt ot : Nat → Int32} {n : Nat} {P Du S Wy tw ct PF DF : Nat → Nat} {GF : Nat → Bool} {pz pm : Nat} {O Le : Nat → Nat} {Sl : Nat → Bool} (hR : mo_R cI cZ f bd th L nc pt ot n P Du S Wy tw ct PF DF GF pz pm O Le Sl) (hB : mo_B L nc n P Du S Wy tw ct PF DF pz pm O Le) (hIn : ∀ i j, i < 15 → j < 15 → bd i = bd j → i = j) {W : Nat} {Re : Nat → Nat} (hp8 : pz ≤ 8) (hL : bellR P Du Wy n Le (2 ^ n)) (hA : bellA P Du S Wy n W Re 0) (hF : cov S n W (2 ^ n - 1) = true) {res : (Nat → Nat) × Nat} (hpn : pz ≤ n) (X : g_X p s m args meth c b_MO_order 9 none g_T y_MO_order.cls D g_cl (g_tys cI cZ cO cJ) A (z_Z eA eM)) (kk : ∀ (O2 : Nat → Nat) (Sl2 : Nat → Bool), res = (O2, pz) → secs P Du Wy O2 pz = pm → (∀ i, O2 i < 8) → g_W p l e { frames := 1, cells := 0, slots := 0, locals := 22 } s m args below meth c 9 D g_cl A (mo_q cI (mo_s cZ f bd Sl2) bd O2) 0 0 Q 255 [(0, .ref (bd 0))] []) : ∀ (d : Nat) (k done left : Nat) (O2 : Nat → Nat) (Sl2 : Nat → Bool), (k + d = pz) → (pinv P S Wy Le O2 n W pz k done left Sl2) → (fo P Du S Wy Re n W (n - k) done O2 k = res) → (secs P Du Wy O2 k + left = pm) → (∀ i, O2 i < 8) → g_W p l e { frames := 1, cells := 0, slots := 0, locals := 22 } s m args below meth c 9 D g_cl A (mo_q cI (mo_s cZ f bd Sl2) bd O2) 0 0 Q 9 [(3, .int (nI k)), (2, .int (nI left)), (1, .int (nI done)), (0, .ref (bd 0))] [] := by
  obtain ⟨hM, h1, h2, h3, h4, h5, h6, h7, h8, h9, h10, h11, h12, h13, h14⟩ := id hR
  obtain ⟨⟨hL1, hL5⟩, hnc, hUB, htw, hct, hPF, hDF, ⟨hpz, hpm, hO8⟩, hLe⟩ := id hB
  obtain ⟨hn8, hP, hDu, hS, hWy⟩ := id hUB
  have hp2 : 2 ^ n ≤ 256 := Nat.le_trans (Nat.pow_le_pow_right (by decide) hn8) (by decide)
  intro d
  induction d using Nat.strongRecOn with
  | _ d ih =>
    intro k done left O2 Sl2 hk hv hfo hsc hO2
    have hRo := mo_q_R (mo_s_R hR hIn Sl2) hIn O2
    have hBo : mo_B L nc n P Du S Wy tw ct PF DF pz pm O2 Le := ⟨⟨hL1, hL5⟩, hnc, hUB, htw, hct, hPF, hDF, ⟨hpz, hpm, hO2⟩, hLe⟩
    obtain ⟨w0, w1, w2, w3, w4, w5, w6, w7, w8, w9, w10, w11, w12, w13, w14⟩ := id hRo
    have hdn : done < 256 := Nat.lt_of_lt_of_le hv.1.1 hp2
    have hle : left ≤ 1000000000 := by omega
    refine g_iload_n X d_MO_order_9 0 rfl ?_
    refine g_aload_n X d_MO_order_10 3 rfl ?_
    refine g_get (ci := 5) (C := R_MO) (T := F_MO) (N := 20) (v := .int (nI pz)) X i_MO rfl w0 15 (by decide) q_612 (fun _ h9 => h9) rfl d_MO_order_11 ?_
    refine g_icmp_ge X 255 d_MO_order_14 (by decide) (fun c14 => ?_) (fun c14 => ?_)
    · skip
      have e : d = 0 := by have := (nI_leI (by omega) (by omega)).mp c14; omega
      subst e
      have hk2 : k = pz := by omega
      subst hk2
      obtain ⟨he1, he2⟩ := st_end hn8 hv
      subst he2
      exact g_lv [3] rfl (kk O2 Sl2 (by rw [← hfo]; exact fo_end he1 _) (by omega) hO2)
    · skip
      have hlt : k < pz := Nat.lt_of_not_le (fun z => c14 ((nI_leI (by omega) (by omega)).mpr z))
      refine g_iconst (v := (-1)) X d_MO_order_17 (by decide) ?_
      refine g_eqi (y := fI 0) (by decide) ?_
      refine g_istore (lv' := [(4, .int (fI 0)), (3, .int (nI k)), (2, .int (nI left)), (1, .int (nI done)), (0, .ref (bd 0))]) X d_MO_order_18 (by decide) rfl ?_
      refine g_iconst (v := 0) X d_MO_order_20 (by decide) ?_
      refine g_eqi (y := nI (bym P Wy O2 k 0)) (rfl) ?_
      refine g_istore (lv' := [(5, .int (nI (bym P Wy O2 k 0))), (4, .int (fI 0)), (3, .int (nI k)), (2, .int (nI left)), (1, .int (nI done)), (0, .ref (bd 0))]) X d_MO_order_21 (by decide) rfl ?_
      refine g_aload_n X d_MO_order_23 5 rfl ?_
      refine g_get (ci := 5) (C := R_MO) (T := F_MO) (N := 20) (v := .int (nI n)) X i_MO rfl w0 5 (by decide) q_602 (fun _ h9 => h9) rfl d_MO_order_24 ?_
      refine g_iconst (v := 1) X d_MO_order_27 (by decide) ?_
      refine g_isub X d_MO_order_28 ?_
      refine g_eqi (y := fI n) (rfl) ?_
      refine g_istore (lv' := [(6, .int (fI n)), (5, .int (nI (bym P Wy O2 k 0))), (4, .int (fI 0)), (3, .int (nI k)), (2, .int (nI left)), (1, .int (nI done)), (0, .ref (bd 0))]) X d_MO_order_29 (by decide) rfl ?_
      have hsd : ∀ T, T < 2 ^ n → Sl2 T = true → done ≤ T := fun T h1 h2 => by obtain ⟨R, r1, r2, r3, r4, r5, r6⟩ := set_df hn8 h1 ((hv.2.1 T h1).mp h2).2.2.1; exact r6
      have hso : ∀ a_ T, T < 2 ^ n → Sl2 T = true → (T - done).testBit a_ = true → done.testBit a_ = false := fun a_ T h1 h2 h3 => by obtain ⟨R, r1, r2, r3, r4, r5, r6⟩ := set_df hn8 h1 ((hv.2.1 T h1).mp h2).2.2.1; rw [r1] at h3; exact not_in r4 h3
      refine g_lv [0, 2, 1, 6, 5, 4, 3] rfl (L_MO_orderA hRo hBo (k := k) (done := done) (left := left) (by omega) hdn hle hsd hso X ?_ n 0 (Nat.le_refl _) (Or.inl ⟨rfl, fun a h1 h2 => absurd h2 (by omega)⟩))
      intro m_ hm
      obtain ⟨a9, ha9, ha8⟩ := may_ex hn8 hDu hWy hL hv hlt
      have hmj : ∃ j, m_ = j + 1 ∧ j < n ∧ may P Wy Le O2 n k done left Sl2 j ∧ ∀ a, a < j → ¬ may P Wy Le O2 n k done left Sl2 a := by
        rcases hm with ⟨f1, f2⟩ | ⟨j, f1, f2, f3, f4, f5⟩
        · exact absurd ha8 (f2 a9 (Nat.zero_le _) ha9)
        · exact ⟨j, f1, f3, f4, fun a h => f5 a (Nat.zero_le _) h⟩
      obtain ⟨j, rfl, hj1, hj2, hj3⟩ := hmj
      have hjo := may_out hn8 hv hj2
      have hfe := st_fo (d := n - k - 1) hn8 hDu hWy hL hA hF hv hlt hj2 hj3
      rw [show n - k - 1 + 1 = n - k by omega] at hfe
      have hnx := st_next (Sl2 := (slf (fun T => Sl2 T && T.testBit j && decide (sk P Wy O2 k j + Le ((T - done) * 8 + j) = left)) Sl2 (2 ^ n))) hn8 hL hv hlt hj2 (fun T hT => by
        rw [show (slf (fun T => Sl2 T && T.testBit j && decide (sk P Wy O2 k j + Le ((T - done) * 8 + j) = left)) Sl2 (2 ^ n)) T = (Sl2 T && T.testBit j && decide (sk P Wy O2 k j + Le ((T - done) * 8 + j) = left)) from if_pos hT, Bool.and_eq_true, Bool.and_eq_true, decide_eq_true_iff, and_assoc])
      have hske := hnx.1
      refine g_lv (lv' := [(4, .int (nI j)), (5, .int (nI (sk P Wy O2 k j))), (0, .ref (bd 0)), (1, .int (nI done)), (2, .int (nI left)), (3, .int (nI k))]) [0, 1, 2, 3, 4, 5] (by rw [fI_s, show bym P Wy O2 k (j + 1) = sk P Wy O2 k j from if_neg (by omega)]; rfl) ?_
      refine g_iconst (v := 0) X d_MO_order_147 (by decide) ?_
      refine g_istore (lv' := [(6, .int 0), (4, .int (nI j)), (5, .int (nI (sk P Wy O2 k j))), (0, .ref (bd 0)), (1, .int (nI done)), (2, .int (nI left)), (3, .int (nI k))]) X d_MO_order_148 (by decide) rfl ?_
      refine g_eqf (f2 := mo_s cZ (mo_q cI (mo_s cZ f bd Sl2) bd O2) bd (slf (fun T => Sl2 T && T.testBit j && decide (sk P Wy O2 k j + Le ((T - done) * 8 + j) = left)) Sl2 0)) (by rw [slf_0]; exact g_u_same w14) ?_
      refine g_lv [0, 1, 2, 3, 4, 5, 6] rfl (L_MO_orderS hRo hBo hIn (k := k) (done := done) (left := left) (j := j) (by omega) hdn hle hsd X ?_ (2 ^ n) 0 (by omega))
      refine g_eqf (f2 := (mo_q cI (mo_s cZ f bd (slf (fun T => Sl2 T && T.testBit j && decide (sk P Wy O2 k j + Le ((T - done) * 8 + j) = left)) Sl2 (2 ^ n))) bd O2)) (mo_qs (fun z => absurd (hIn 14 12 (by decide) (by decide) z) (by decide))) ?_
      obtain ⟨x0, x1, x2, x3, x4, x5, x6, x7, x8, x9, x10, x11, x12, x13, x14⟩ := mo_q_R (mo_s_R hR hIn (slf (fun T => Sl2 T && T.testBit j && decide (sk P Wy O2 k j + Le ((T - done) * 8 + j) = left)) Sl2 (2 ^ n))) hIn O2
      refine g_aload_n X d_MO_order_221 2 rfl ?_
      refine g_get (ci := 5) (C := R_MO) (T := F_MO) (N := 20) (v := .ref (bd 12)) X i_MO rfl x0 17 (by decide) q_614 (fun _ h9 => h9) rfl d_MO_order_222 ?_
      refine g_iload_n X d_MO_order_225 5 rfl ?_
      refine g_iload X d_MO_order_226 0 rfl ?_
      refine g_iast (t0 := 0) (g2 := fun q9 => nI (va_up O2 k j q9)) X x12 rfl (nI_ix ((by omega : k < 8)) (by decide)) (upd_nI (g := O2) (Nat.lt_trans ((by omega : k < 8)) (by decide))) d_MO_order_228 ?_
      refine g_eqf (f2 := (mo_q cI (mo_s cZ f bd (slf (fun T => Sl2 T && T.testBit j && decide (sk P Wy O2 k j + Le ((T - done) * 8 + j) = left)) Sl2 (2 ^ n))) bd (va_up O2 k j))) (g_u_u) ?_
      obtain ⟨y0, y1, y2, y3, y4, y5, y6, y7, y8, y9, y10, y11, y12, y13, y14⟩ := mo_q_R (mo_s_R hR hIn (slf (fun T => Sl2 T && T.testBit j && decide (sk P Wy O2 k j + Le ((T - done) * 8 + j) = left)) Sl2 (2 ^ n))) hIn (va_up O2 k j)
      refine g_iload_n X d_MO_order_229 3 rfl ?_
      refine g_iconst (v := 1) X d_MO_order_230 (by decide) ?_
      refine g_iload X d_MO_order_231 0 rfl ?_
      refine g_ishl X d_MO_order_233 ?_
      refine g_eqi (y := nI (2 ^ j)) (nI_bit (by omega)) ?_
      refine g_ior X d_MO_order_234 ?_
      refine g_eqi (y := nI (done ||| 2 ^ j)) (nI_or _ _) ?_
      refine g_istore_n (lv' := [(1, .int (nI (done ||| 2 ^ j))), (4, .int (nI j)), (5, .int (nI (sk P Wy O2 k j))), (0, .ref (bd 0)), (2, .int (nI left)), (3, .int (nI k))]) X d_MO_order_235 rfl (by decide) rfl ?_
      refine g_iload_n X d_MO_order_236 4 rfl ?_
      refine g_iload X d_MO_order_237 2 rfl ?_
      refine g_isub X d_MO_order_239 ?_
      refine g_eqi (y := nI (left - sk P Wy O2 k j)) (nI_sub (by omega)) ?_
      refine g_aload_n X d_MO_order_240 3 rfl ?_
      refine g_get (ci := 5) (C := R_MO) (T := F_MO) (N := 20) (v := .ref (bd 4)) X i_MO rfl y0 7 (by decide) q_604 (fun _ h9 => h9) rfl d_MO_order_241 ?_
      refine g_iload X d_MO_order_244 1 rfl ?_
      refine g_iald (t0 := 0) (v := nI (Du j)) X y4 rfl (nI_ix ((by omega : j < 8)) (by decide)) (nI_cl (g := fun q9 => nI (Du q9)) (Nat.lt_trans ((by omega : j < 8)) (by decide))) d_MO_order_246 ?_
      refine g_isub X d_MO_order_247 ?_
      refine g_eqi (y := nI (left - sk P Wy O2 k j - Du j)) (nI_sub (by omega)) ?_
      refine g_istore_n (lv' := [(2, .int (nI (left - sk P Wy O2 k j - Du j))), (1, .int (nI (done ||| 2 ^ j))), (4, .int (nI j)), (5, .int (nI (sk P Wy O2 k j))), (0, .ref (bd 0)), (3, .int (nI k))]) X d_MO_order_248 rfl (by decide) rfl ?_
      refine g_iinc (lv' := [(3, .int (nI (k + 1))), (2, .int (nI (left - sk P Wy O2 k j - Du j))), (1, .int (nI (done ||| 2 ^ j))), (4, .int (nI j)), (5, .int (nI (sk P Wy O2 k j))), (0, .ref (bd 0))]) X d_MO_order_249 5 rfl (nI_1 k) (by decide) rfl ?_
      refine g_goto X 9 d_MO_order_252 (by decide) ?_
      exact g_lv [0, 1, 2, 5] rfl (ih (d - 1) (by omega) (k + 1) (done ||| 2 ^ j) (left - sk P Wy O2 k j - Du j) (va_up O2 k j) (slf (fun T => Sl2 T && T.testBit j && decide (sk P Wy O2 k j + Le ((T - done) * 8 + j) = left)) Sl2 (2 ^ n)) (by omega) hnx.2 (by rw [show n - (k + 1) = n - k - 1 by omega, ← hfo]; exact hfe.symm) (by rw [secs_s]; omega) (fun i => by unfold va_up; split; omega; exact hO2 i))
set_option maxHeartbeats 4000000 in
set_option maxRecDepth 100000 in
theorem c_MO_order {l : Launch} {D : va_G} {cI cZ cO cJ : ClassId} {eA eM : Nat} {f : g_F} {bd : Nat → Nat} {th : Int32} {L nc : Nat} {pt ot : Nat → Int32} {n : Nat} {P Du S Wy tw ct PF DF : Nat → Nat} {GF : Nat → Bool} {pz pm : Nat} {O Le : Nat → Nat} {Sl : Nat → Bool} (hR : mo_R cI cZ f bd th L nc pt ot n P Du S Wy tw ct PF DF GF pz pm O Le Sl) (hB : mo_B L nc n P Du S Wy tw ct PF DF pz pm O Le) (hIn : ∀ i j, i < 15 → j < 15 → bd i = bd j → i = j) {W : Nat} {Re : Nat → Nat} (hp8 : pz ≤ 8) (hL : bellR P Du Wy n Le (2 ^ n)) (hA : bellA P Du S Wy n W Re 0) (hF : cov S n W (2 ^ n - 1) = true) (hv : pinv P S Wy Le O n W pz 0 0 pm Sl) : g_C l y_MO_order b_MO_order 9 none { frames := 1, cells := 0, slots := 0, locals := 22 } D g_cl (g_tys cI cZ cO cJ) (z_Z eA eM) [.ref (bd 0)] f (fun r f2 => r = none ∧ ∃ (O2 : Nat → Nat) (Sl2 : Nat → Bool), fo P Du S Wy Re n W n 0 O 0 = (O2, pz) ∧ secs P Du Wy O2 pz = pm ∧ (∀ i, O2 i < 8) ∧ f2 = (mo_q cI (mo_s cZ f bd Sl2) bd O2)) (fun _ => False) := by
  refine g_ofW [(0, .ref (bd 0))] (by decide +kernel) (Nat.le_of_ble_eq_true rfl) rfl ?_
  intro p e s m args below meth c X ht hin
  obtain ⟨hM, h1, h2, h3, h4, h5, h6, h7, h8, h9, h10, h11, h12, h13, h14⟩ := id hR
  obtain ⟨⟨hL1, hL5⟩, hnc, hUB, htw, hct, hPF, hDF, ⟨hpz, hpm, hO8⟩, hLe⟩ := id hB
  obtain ⟨hn8, hP, hDu, hS, hWy⟩ := id hUB
  refine g_iconst (v := 0) X d_MO_order_0 (by decide) ?_
  refine g_istore_n (lv' := [(1, .int 0), (0, .ref (bd 0))]) X d_MO_order_1 rfl (by decide) rfl ?_
  refine g_aload_n X d_MO_order_2 1 rfl ?_
  refine g_get (ci := 5) (C := R_MO) (T := F_MO) (N := 20) (v := .int (nI pm)) X i_MO rfl hM 16 (by decide) q_613 (fun _ h9 => h9) rfl d_MO_order_3 ?_
  refine g_istore_n (lv' := [(2, .int (nI pm)), (1, .int 0), (0, .ref (bd 0))]) X d_MO_order_6 rfl (by decide) rfl ?_
  refine g_iconst (v := 0) X d_MO_order_7 (by decide) ?_
  refine g_istore_n (lv' := [(3, .int 0), (2, .int (nI pm)), (1, .int 0), (0, .ref (bd 0))]) X d_MO_order_8 rfl (by decide) rfl ?_
  refine g_eqf (f2 := (mo_q cI (mo_s cZ f bd Sl) bd O)) ((g_u_same h14).trans (g_u_same ((g_u_n (fun z => absurd (hIn 12 14 (by decide) (by decide) z) (by decide))).trans h12))) ?_
  refine g_lv [0, 1, 2, 3] rfl (L_MO_order hR hB hIn hp8 hL hA hF (pinv_n hn8 hv) X ?_ pz 0 0 pm O Sl (by omega) hv rfl (by show 0 + pm = pm; omega) hO8)
  intro O2 Sl2 e1 e2 e3
  exact g_vret X rfl ⟨rfl, O2, Sl2, e1, e2, e3, rfl⟩ (Nat.le_of_ble_eq_true rfl) (Nat.le_of_ble_eq_true rfl) d_MO_order_255
