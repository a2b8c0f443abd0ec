/-- what one next act asks, and the least of them: the reference's reckoning -/
abbrev rv (P Wy Le : Nat → Nat) (a rest b : Nat) : Nat := if rest.testBit b then tu_wy P Wy a b + Le (rest * 8 + b) else 1000000000
def rbst (P Wy Le : Nat → Nat) (a rest : Nat) : Nat → Nat
  | 0 => if rest = 0 then 0 else 1000000000
  | b + 1 => if rv P Wy Le a rest b < rbst P Wy Le a rest b then rv P Wy Le a rest b else rbst P Wy Le a rest b
theorem rbst_le (P Wy Le : Nat → Nat) (a rest : Nat) : ∀ b, rbst P Wy Le a rest b ≤ 1000000000
  | 0 => by unfold rbst; split <;> decide
  | b + 1 => by
    have := rbst_le P Wy Le a rest b
    unfold rbst
    split
    · rename_i h; exact Nat.le_trans (Nat.le_of_lt h) this
    · exact this
theorem rbst_congr {P Wy Le Le2 : Nat → Nat} {a rest : Nat} : ∀ n, (∀ b, b < n → Le2 (rest * 8 + b) = Le (rest * 8 + b)) → rbst P Wy Le2 a rest n = rbst P Wy Le a rest n
  | 0, _ => rfl
  | n + 1, h => by
    have ih := rbst_congr (P := P) (Wy := Wy) (a := a) n (fun b hb => h b (by omega))
    unfold rbst
    rw [ih]
    have e : rv P Wy Le2 a rest n = rv P Wy Le a rest n := by
      unfold rv
      rw [h n (by omega)]
    rw [e]
def bellR (P Du Wy : Nat → Nat) (n : Nat) (Le : Nat → Nat) (m : Nat) : Prop := ∀ s, 0 < s → s < m → ∀ a, a < n → s.testBit a = true → Le (s * 8 + a) = Du a + rbst P Wy Le a (s - 2 ^ a) n
abbrev mo_l (cI : ClassId) (f : g_F) (bd : Nat → Nat) (T : Nat → Nat) : g_F := g_u f (bd 13) (.inl (cI, 2048, .inl (fun q9 => nI (T q9))))
theorem nI_subN {a b : Nat} (h : b ≤ a) : nI a - nI b = nI (a - b) := by
  rw [show nI a = nI (a - b) + nI b from by rw [nI_add, Nat.sub_add_cancel h]]
  rw [Int32.sub_eq_add_neg, Int32.add_assoc, Int32.add_right_neg, Int32.add_zero]
theorem tb_le {s a : Nat} (h : s.testBit a = true) : 2 ^ a ≤ s := Nat.ge_two_pow_of_testBit h
theorem mo_l_R {cI cZ : ClassId} {f : g_F} {bd : Nat → Nat} {th : Int32} {L nc : Nat} {pt ot : Nat → Int32} {n : Nat} {P Du S Wy tw ct PF DF : Nat → Nat} {GF : Nat → Bool} {pz pm : Nat} {O Le : Nat → Nat} {Sl : Nat → Bool} (hR : mo_R cI cZ f bd th L nc pt ot n P Du S Wy tw ct PF DF GF pz pm O Le Sl) (hIn : ∀ i j, i < 15 → j < 15 → bd i = bd j → i = j) (T : Nat → Nat) : mo_R cI cZ (mo_l cI f bd T) bd th L nc pt ot n P Du S Wy tw ct PF DF GF pz pm O T Sl := by
  obtain ⟨hM, h1, h2, h3, h4, h5, h6, h7, h8, h9, h10, h11, h12, h13, h14⟩ := hR
  exact ⟨(g_u_n (tu_ne hM h13)).trans hM, (g_u_n (fun z => absurd (hIn 1 13 (by decide) (by decide) z) (by decide))).trans h1, (g_u_n (fun z => absurd (hIn 2 13 (by decide) (by decide) z) (by decide))).trans h2, (g_u_n (fun z => absurd (hIn 3 13 (by decide) (by decide) z) (by decide))).trans h3, (g_u_n (fun z => absurd (hIn 4 13 (by decide) (by decide) z) (by decide))).trans h4, (g_u_n (fun z => absurd (hIn 5 13 (by decide) (by decide) z) (by decide))).trans h5, (g_u_n (fun z => absurd (hIn 6 13 (by decide) (by decide) z) (by decide))).trans h6, (g_u_n (fun z => absurd (hIn 7 13 (by decide) (by decide) z) (by decide))).trans h7, (g_u_n (fun z => absurd (hIn 8 13 (by decide) (by decide) z) (by decide))).trans h8, (g_u_n (fun z => absurd (hIn 9 13 (by decide) (by decide) z) (by decide))).trans h9, (g_u_n (fun z => absurd (hIn 10 13 (by decide) (by decide) z) (by decide))).trans h10, (g_u_n (fun z => absurd (hIn 11 13 (by decide) (by decide) z) (by decide))).trans h11, (g_u_n (fun z => absurd (hIn 12 13 (by decide) (by decide) z) (by decide))).trans h12, g_u_s, (g_u_n (fun z => absurd (hIn 14 13 (by decide) (by decide) z) (by decide))).trans h14⟩
set_option maxHeartbeats 4000000 in
set_option maxRecDepth 100000 in
theorem L_MO_reckonB {p : Program} {l : Launch} {e : Env} {s : State} {m : MethodId} {args : Array Value} {below : List Frame} {meth : Method} {c : Code} {Q : State → Prop} {A : Nat → Prop} {D : va_G} {cI cZ cO cJ : ClassId} {eA eM : Nat} {f : g_F} {bd : Nat → Nat} {th : Int32} {L nc : Nat} {pt ot : Nat → Int32} {n : Nat} {P Du S Wy tw ct PF DF : Nat → Nat} {GF : Nat → Bool} {pz pm : Nat} {O Le : Nat → Nat} {Sl : Nat → Bool} (hR : mo_R cI cZ f bd th L nc pt ot n P Du S Wy tw ct PF DF GF pz pm O Le Sl) (hB : mo_B L nc n P Du S Wy tw ct PF DF pz pm O Le) {st_ a_ rest : Nat} (ha_ : a_ < 8) (hre : rest < 256) (X : g_X p s m args meth c b_MO_reckon 7 none g_T y_MO_reckon.cls D g_cl (g_tys cI cZ cO cJ) A (z_Z eA eM)) (kk : g_W p l e { frames := 1, cells := 0, slots := 0, locals := 22 } s m args below meth c 7 D g_cl A f 0 0 Q 118 [(4, .int (nI (rbst P Wy Le a_ rest n))), (0, .ref (bd 0)), (1, .int (nI st_)), (2, .int (nI a_))] []) : ∀ (d : Nat) (i : Nat), (i + d = n) → g_W p l e { frames := 1, cells := 0, slots := 0, locals := 22 } s m args below meth c 7 D g_cl A f 0 0 Q 51 [(5, .int (nI i)), (4, .int (nI (rbst P Wy Le a_ rest i))), (0, .ref (bd 0)), (1, .int (nI st_)), (2, .int (nI a_)), (3, .int (nI rest))] [] := by
  obtain ⟨hM, h1, h2, h3, h4, h5, h6, h7, h8, h9, h10, h11, h12, h13, h14⟩ := id hR
  obtain ⟨⟨hL1, hL5⟩, hnc, hUB, htw, hct, hPF, hDF, ⟨hpz, hpm, hO8⟩, hLe⟩ := id hB
  obtain ⟨hn8, hP, hDu, hS, hWy⟩ := id hUB
  intro d
  induction d using Nat.strongRecOn with
  | _ d ih =>
    intro i hi
    refine g_iload X d_MO_reckon_51 0 rfl ?_
    refine g_aload_n X d_MO_reckon_53 2 rfl ?_
    refine g_get (ci := 5) (C := R_MO) (T := F_MO) (N := 20) (v := .int (nI n)) X i_MO rfl hM 5 (by decide) q_602 (fun _ h9 => h9) rfl d_MO_reckon_54 ?_
    refine g_icmp_ge X 118 d_MO_reckon_57 (by decide) (fun c57 => ?_) (fun c57 => ?_)
    · skip
      have e : i = n := by have := (nI_leI (by omega) (by omega)).mp c57; omega
      subst e
      exact g_lv [1, 2, 3, 4] rfl kk
    · skip
      have hlt : i < n := Nat.lt_of_not_le (fun z => c57 ((nI_leI (by omega) (by omega)).mpr z))
      refine g_iload_n X d_MO_reckon_60 5 rfl ?_
      refine g_iload X d_MO_reckon_61 0 rfl ?_
      refine g_callS (As := [.int (nI rest), .int (nI i)]) (rest := []) X (z_ok eA eM) (c_MO_has (f := f) (a := rest) (k := i) (by omega) (by omega)) v_MO_has q_759 q_758 rfl rfl (Nat.le_of_ble_eq_true rfl) d_MO_reckon_63 ⟨(Nat.le_of_ble_eq_true rfl), (Nat.le_of_ble_eq_true rfl)⟩ ⟨(Nat.le_of_ble_eq_true rfl), (Nat.le_of_ble_eq_true rfl)⟩ (g_K.no (fun _ h => h)) (fun r_ f2_ hp => ?_)
      obtain ⟨rfl, hf_⟩ := hp
      subst f2_
      refine g_st (st2 := [.int (bI (Nat.testBit rest i))]) rfl ?_
      refine g_if_eq X 92 d_MO_reckon_66 (by decide) (fun c66 => ?_) (fun c66 => ?_)
      · skip
        refine g_ldc (v := 1000000000) X q_745 d_MO_reckon_92 ?_
        refine g_eqi (y := nI (rv P Wy Le a_ rest i)) (by rw [show rv P Wy Le a_ rest i = 1000000000 from if_neg (by rw [bI_z.mp c66]; decide)]; rfl) ?_
        have hrv : rv P Wy Le a_ rest i < 2 ^ 31 := by
          unfold rv; split
          · have := hLe (rest * 8 + i); have h9 : tu_wy P Wy a_ i ≤ 10000 := hWy _; omega
          · decide
        have hrb := rbst_le P Wy Le a_ rest i
        refine g_istore (lv' := [(6, .int (nI (rv P Wy Le a_ rest i))), (5, .int (nI i)), (4, .int (nI (rbst P Wy Le a_ rest i))), (0, .ref (bd 0)), (1, .int (nI st_)), (2, .int (nI a_)), (3, .int (nI rest))]) X d_MO_reckon_94 (by decide) rfl ?_
        refine g_iload X d_MO_reckon_96 0 rfl ?_
        refine g_iload X d_MO_reckon_98 2 rfl ?_
        refine g_icmp_ge X 108 d_MO_reckon_100 (by decide) (fun c100 => ?_) (fun c100 => ?_)
        · skip
          refine g_iload X d_MO_reckon_108 2 rfl ?_
          refine g_eqi (y := nI (rbst P Wy Le a_ rest (i + 1))) (by rw [show rbst P Wy Le a_ rest (i + 1) = rbst P Wy Le a_ rest i from if_neg (Nat.not_lt.mpr ((nI_leI (by omega) hrv).mp c100))]) ?_
          refine g_istore (lv' := [(4, .int (nI (rbst P Wy Le a_ rest (i + 1)))), (6, .int (nI (rv P Wy Le a_ rest i))), (5, .int (nI i)), (0, .ref (bd 0)), (1, .int (nI st_)), (2, .int (nI a_)), (3, .int (nI rest))]) X d_MO_reckon_110 (by decide) rfl ?_
          refine g_iinc (lv' := [(5, .int (nI (i + 1))), (4, .int (nI (rbst P Wy Le a_ rest (i + 1)))), (6, .int (nI (rv P Wy Le a_ rest i))), (0, .ref (bd 0)), (1, .int (nI st_)), (2, .int (nI a_)), (3, .int (nI rest))]) X d_MO_reckon_112 2 rfl (nI_1 i) (by decide) rfl ?_
          refine g_goto X 51 d_MO_reckon_115 (by decide) ?_
          exact g_lv [0, 1, 3, 4, 5, 6] rfl (ih (d - 1) (by omega) (i + 1) (by omega))
        · skip
          refine g_iload X d_MO_reckon_103 0 rfl ?_
          refine g_goto X 110 d_MO_reckon_105 (by decide) ?_
          refine g_eqi (y := nI (rbst P Wy Le a_ rest (i + 1))) (by rw [show rbst P Wy Le a_ rest (i + 1) = rv P Wy Le a_ rest i from if_pos (Nat.lt_of_not_le (fun z => c100 ((nI_leI (by omega) hrv).mpr z)))]) ?_
          refine g_istore (lv' := [(4, .int (nI (rbst P Wy Le a_ rest (i + 1)))), (6, .int (nI (rv P Wy Le a_ rest i))), (5, .int (nI i)), (0, .ref (bd 0)), (1, .int (nI st_)), (2, .int (nI a_)), (3, .int (nI rest))]) X d_MO_reckon_110 (by decide) rfl ?_
          refine g_iinc (lv' := [(5, .int (nI (i + 1))), (4, .int (nI (rbst P Wy Le a_ rest (i + 1)))), (6, .int (nI (rv P Wy Le a_ rest i))), (0, .ref (bd 0)), (1, .int (nI st_)), (2, .int (nI a_)), (3, .int (nI rest))]) X d_MO_reckon_112 2 rfl (nI_1 i) (by decide) rfl ?_
          refine g_goto X 51 d_MO_reckon_115 (by decide) ?_
          exact g_lv [0, 1, 3, 4, 5, 6] rfl (ih (d - 1) (by omega) (i + 1) (by omega))
      · skip
        refine g_aload_n X d_MO_reckon_69 2 rfl ?_
        refine g_iload_n X d_MO_reckon_70 4 rfl ?_
        refine g_iload X d_MO_reckon_71 0 rfl ?_
        refine g_callV (ci := 5) (As := [.int (nI a_), .int (nI i)]) (rest := []) X (z_ok eA eM) rfl rfl hM (c_MO_between hR hB (i := a_) (j := i) ha_ (by omega)) v_MO_between q_763 q_s28 q_761 rfl rfl (Nat.le_of_ble_eq_true rfl) d_MO_reckon_73 ⟨(Nat.le_of_ble_eq_true rfl), (Nat.le_of_ble_eq_true rfl)⟩ ⟨(Nat.le_of_ble_eq_true rfl), (Nat.le_of_ble_eq_true rfl)⟩ (g_K.no (fun _ h => h)) (fun r_ f2_ hp => ?_)
        obtain ⟨rfl, hf_⟩ := hp
        subst f2_
        refine g_st (st2 := [.int (nI (tu_wy P Wy a_ i))]) rfl ?_
        refine g_aload_n X d_MO_reckon_76 2 rfl ?_
        refine g_get (ci := 5) (C := R_MO) (T := F_MO) (N := 20) (v := .ref (bd 13)) X i_MO rfl hM 18 (by decide) q_615 (fun _ h9 => h9) rfl d_MO_reckon_77 ?_
        refine g_bipush (v := 8) X d_MO_reckon_80 (by decide) ?_
        refine g_iload_n X d_MO_reckon_82 5 rfl ?_
        refine g_imul X d_MO_reckon_83 ?_
        refine g_eqi (y := nI (rest * 8)) ((nI_mul 8 rest).trans (by rw [Nat.mul_comm])) ?_
        refine g_iload X d_MO_reckon_84 0 rfl ?_
        refine g_iadd X d_MO_reckon_86 ?_
        refine g_eqi (y := nI (rest * 8 + i)) (nI_add _ _) ?_
        refine g_iald (t0 := 0) (v := nI (Le (rest * 8 + i))) X h13 rfl (nI_ix ((by omega : rest * 8 + i < 2048)) (by decide)) (nI_cl (g := fun q9 => nI (Le q9)) (Nat.lt_trans ((by omega : rest * 8 + i < 2048)) (by decide))) d_MO_reckon_87 ?_
        refine g_iadd X d_MO_reckon_88 ?_
        refine g_eqi (y := nI (tu_wy P Wy a_ i + Le (rest * 8 + i))) (nI_add _ _) ?_
        refine g_goto X 94 d_MO_reckon_89 (by decide) ?_
        refine g_eqi (y := nI (rv P Wy Le a_ rest i)) (by rw [show rv P Wy Le a_ rest i = tu_wy P Wy a_ i + Le (rest * 8 + i) from if_pos (bt_nf (fun z => c66 (bI_z.mpr z)))]) ?_
        have hrv : rv P Wy Le a_ rest i < 2 ^ 31 := by
          unfold rv; split
          · have := hLe (rest * 8 + i); have h9 : tu_wy P Wy a_ i ≤ 10000 := hWy _; omega
          · decide
        have hrb := rbst_le P Wy Le a_ rest i
        refine g_istore (lv' := [(6, .int (nI (rv P Wy Le a_ rest i))), (5, .int (nI i)), (4, .int (nI (rbst P Wy Le a_ rest i))), (0, .ref (bd 0)), (1, .int (nI st_)), (2, .int (nI a_)), (3, .int (nI rest))]) X d_MO_reckon_94 (by decide) rfl ?_
        refine g_iload X d_MO_reckon_96 0 rfl ?_
        refine g_iload X d_MO_reckon_98 2 rfl ?_
        refine g_icmp_ge X 108 d_MO_reckon_100 (by decide) (fun c100 => ?_) (fun c100 => ?_)
        · skip
          refine g_iload X d_MO_reckon_108 2 rfl ?_
          refine g_eqi (y := nI (rbst P Wy Le a_ rest (i + 1))) (by rw [show rbst P Wy Le a_ rest (i + 1) = rbst P Wy Le a_ rest i from if_neg (Nat.not_lt.mpr ((nI_leI (by omega) hrv).mp c100))]) ?_
          refine g_istore (lv' := [(4, .int (nI (rbst P Wy Le a_ rest (i + 1)))), (6, .int (nI (rv P Wy Le a_ rest i))), (5, .int (nI i)), (0, .ref (bd 0)), (1, .int (nI st_)), (2, .int (nI a_)), (3, .int (nI rest))]) X d_MO_reckon_110 (by decide) rfl ?_
          refine g_iinc (lv' := [(5, .int (nI (i + 1))), (4, .int (nI (rbst P Wy Le a_ rest (i + 1)))), (6, .int (nI (rv P Wy Le a_ rest i))), (0, .ref (bd 0)), (1, .int (nI st_)), (2, .int (nI a_)), (3, .int (nI rest))]) X d_MO_reckon_112 2 rfl (nI_1 i) (by decide) rfl ?_
          refine g_goto X 51 d_MO_reckon_115 (by decide) ?_
          exact g_lv [0, 1, 3, 4, 5, 6] rfl (ih (d - 1) (by omega) (i + 1) (by omega))
        · skip
          refine g_iload X d_MO_reckon_103 0 rfl ?_
          refine g_goto X 110 d_MO_reckon_105 (by decide) ?_
          refine g_eqi (y := nI (rbst P Wy Le a_ rest (i + 1))) (by rw [show rbst P Wy Le a_ rest (i + 1) = rv P Wy Le a_ rest i from if_pos (Nat.lt_of_not_le (fun z => c100 ((nI_leI (by omega) hrv).mpr z)))]) ?_
          refine g_istore (lv' := [(4, .int (nI (rbst P Wy Le a_ rest (i + 1)))), (6, .int (nI (rv P Wy Le a_ rest i))), (5, .int (nI i)), (0, .ref (bd 0)), (1, .int (nI st_)), (2, .int (nI a_)), (3, .int (nI rest))]) X d_MO_reckon_110 (by decide) rfl ?_
          refine g_iinc (lv' := [(5, .int (nI (i + 1))), (4, .int (nI (rbst P Wy Le a_ rest (i + 1)))), (6, .int (nI (rv P Wy Le a_ rest i))), (0, .ref (bd 0)), (1, .int (nI st_)), (2, .int (nI a_)), (3, .int (nI rest))]) X d_MO_reckon_112 2 rfl (nI_1 i) (by decide) rfl ?_
          refine g_goto X 51 d_MO_reckon_115 (by decide) ?_
          exact g_lv [0, 1, 3, 4, 5, 6] rfl (ih (d - 1) (by omega) (i + 1) (by omega))
set_option maxHeartbeats 4000000 in
set_option maxRecDepth 100000 in
theorem L_MO_reckonA {p : Program} {l : Launch} {e : Env} {s : State} {m : MethodId} {args : Array Value} {below : List Frame} {meth : Method} {c : Code} {Q : State → Prop} {A : Nat → Prop} {D : va_G} {cI cZ cO cJ : ClassId} {eA eM : Nat} {f : g_F} {bd : Nat → Nat} {th : Int32} {L nc : Nat} {pt ot : Nat → Int32} {n : Nat} {P Du S Wy tw ct PF DF : Nat → Nat} {GF : Nat → Bool} {pz pm : Nat} {O Le : Nat → Nat} {Sl : Nat → Bool} (hR : mo_R cI cZ f bd th L nc pt ot n P Du S Wy tw ct PF DF GF pz pm O Le Sl) (hB : mo_B L nc n P Du S Wy tw ct PF DF pz pm O Le) (hIn : ∀ i j, i < 15 → j < 15 → bd i = bd j → i = j) {st_ : Nat} (hst : 0 < st_ ∧ st_ < 256) (X : g_X p s m args meth c b_MO_reckon 7 none g_T y_MO_reckon.cls D g_cl (g_tys cI cZ cO cJ) A (z_Z eA eM)) (kk : ∀ Le2 : Nat → Nat, (∀ i, Le2 i ≤ 1000010000) → bellR P Du Wy n Le2 (st_ + 1) → g_W p l e { frames := 1, cells := 0, slots := 0, locals := 22 } s m args below meth c 7 D g_cl A (mo_l cI f bd Le2) 0 0 Q 144 [(0, .ref (bd 0)), (1, .int (nI st_))] []) : ∀ (d : Nat) (i : Nat) (Le2 : Nat → Nat), (i + d = n) → ((∀ i, Le2 i ≤ 1000010000)) → (bellR P Du Wy n Le2 st_) → (∀ a, a < i → st_.testBit a = true → Le2 (st_ * 8 + a) = Du a + rbst P Wy Le2 a (st_ - 2 ^ a) n) → g_W p l e { frames := 1, cells := 0, slots := 0, locals := 22 } s m args below meth c 7 D g_cl A (mo_l cI f bd Le2) 0 0 Q 14 [(2, .int (nI i)), (0, .ref (bd 0)), (1, .int (nI st_))] [] := by
  obtain ⟨hM, h1, h2, h3, h4, h5, h6, h7, h8, h9, h10, h11, h12, h13, h14⟩ := id hR
  obtain ⟨⟨hL1, hL5⟩, hnc, hUB, htw, hct, hPF, hDF, ⟨hpz, hpm, hO8⟩, hLe⟩ := id hB
  obtain ⟨hn8, hP, hDu, hS, hWy⟩ := id hUB
  intro d
  induction d using Nat.strongRecOn with
  | _ d ih =>
    intro i Le2 hi hb hbl hpt
    have hRl := mo_l_R hR hIn Le2
    have hBl : mo_B L nc n P Du S Wy tw ct PF DF pz pm O Le2 := ⟨⟨hL1, hL5⟩, hnc, hUB, htw, hct, hPF, hDF, ⟨hpz, hpm, hO8⟩, hb⟩
    obtain ⟨w0, w1, w2, w3, w4, w5, w6, w7, w8, w9, w10, w11, w12, w13, w14⟩ := id hRl
    refine g_iload_n X d_MO_reckon_14 0 rfl ?_
    refine g_aload_n X d_MO_reckon_15 1 rfl ?_
    refine g_get (ci := 5) (C := R_MO) (T := F_MO) (N := 20) (v := .int (nI n)) X i_MO rfl w0 5 (by decide) q_602 (fun _ h9 => h9) rfl d_MO_reckon_16 ?_
    refine g_icmp_ge X 144 d_MO_reckon_19 (by decide) (fun c19 => ?_) (fun c19 => ?_)
    · skip
      have e : i = n := by have := (nI_leI (by omega) (by omega)).mp c19; omega
      subst e
      exact g_lv [1, 2] rfl (kk Le2 hb (fun s9 h1 h2 a h3 h4 => by
        by_cases he : s9 = st_
        · subst he; exact hpt a h3 h4
        · exact hbl s9 h1 (by omega) a h3 h4))
    · skip
      have hlt : i < n := Nat.lt_of_not_le (fun z => c19 ((nI_leI (by omega) (by omega)).mpr z))
      refine g_iload_n X d_MO_reckon_22 2 rfl ?_
      refine g_iload_n X d_MO_reckon_23 0 rfl ?_
      refine g_callS (As := [.int (nI st_), .int (nI i)]) (rest := []) X (z_ok eA eM) (c_MO_has (f := (mo_l cI f bd Le2)) (a := st_) (k := i) (by omega) (by omega)) v_MO_has q_759 q_758 rfl rfl (Nat.le_of_ble_eq_true rfl) d_MO_reckon_24 ⟨(Nat.le_of_ble_eq_true rfl), (Nat.le_of_ble_eq_true rfl)⟩ ⟨(Nat.le_of_ble_eq_true rfl), (Nat.le_of_ble_eq_true rfl)⟩ (g_K.no (fun _ h => h)) (fun r_ f2_ hp => ?_)
      obtain ⟨rfl, hf_⟩ := hp
      subst f2_
      refine g_st (st2 := [.int (bI (Nat.testBit st_ i))]) rfl ?_
      refine g_if_eq X 138 d_MO_reckon_27 (by decide) (fun c27 => ?_) (fun c27 => ?_)
      · skip
        have hbit : st_.testBit i = false := bI_z.mp c27
        refine g_iinc (lv' := [(2, .int (nI (i + 1))), (0, .ref (bd 0)), (1, .int (nI st_))]) X d_MO_reckon_138 0 rfl (nI_1 i) (by decide) rfl ?_
        refine g_goto X 14 d_MO_reckon_141 (by decide) ?_
        exact g_lv [0, 1, 2] rfl (ih (d - 1) (by omega) (i + 1) Le2 (by omega) hb hbl (fun a h1 h2 => by
          by_cases he : a = i
          · subst he; rw [hbit] at h2; exact Bool.noConfusion h2
          · exact hpt a (by omega) h2))
      · skip
        have hbit : st_.testBit i = true := bt_nf (fun z => c27 (bI_z.mpr z))
        have hrs9 : st_ - 2 ^ i ≤ st_ := Nat.sub_le _ _
        refine g_iload_n X d_MO_reckon_30 2 rfl ?_
        refine g_iconst (v := 1) X d_MO_reckon_31 (by decide) ?_
        refine g_iload_n X d_MO_reckon_32 0 rfl ?_
        refine g_ishl X d_MO_reckon_33 ?_
        refine g_eqi (y := nI (2 ^ i)) (nI_bit (by omega)) ?_
        refine g_isub X d_MO_reckon_34 ?_
        refine g_eqi (y := nI (st_ - 2 ^ i)) (nI_subN (tb_le hbit)) ?_
        refine g_istore_n (lv' := [(3, .int (nI (st_ - 2 ^ i))), (2, .int (nI i)), (0, .ref (bd 0)), (1, .int (nI st_))]) X d_MO_reckon_35 rfl (by decide) rfl ?_
        refine g_iload_n X d_MO_reckon_36 0 rfl ?_
        refine g_if_ne X 44 d_MO_reckon_37 (by decide) (fun c37 => ?_) (fun c37 => ?_)
        · skip
          refine g_ldc (v := 1000000000) X q_745 d_MO_reckon_44 ?_
          refine g_eqi (y := nI (rbst P Wy Le2 i (st_ - 2 ^ i) 0)) (by rw [show rbst P Wy Le2 i (st_ - 2 ^ i) 0 = 1000000000 from if_neg (fun z => c37 ((nI_z (by omega)).mpr z))]; rfl) ?_
          refine g_istore (lv' := [(4, .int (nI (rbst P Wy Le2 i (st_ - 2 ^ i) 0))), (3, .int (nI (st_ - 2 ^ i))), (2, .int (nI i)), (0, .ref (bd 0)), (1, .int (nI st_))]) X d_MO_reckon_46 (by decide) rfl ?_
          refine g_iconst (v := 0) X d_MO_reckon_48 (by decide) ?_
          refine g_istore (lv' := [(5, .int 0), (4, .int (nI (rbst P Wy Le2 i (st_ - 2 ^ i) 0))), (3, .int (nI (st_ - 2 ^ i))), (2, .int (nI i)), (0, .ref (bd 0)), (1, .int (nI st_))]) X d_MO_reckon_49 (by decide) rfl ?_
          refine g_lv [0, 1, 4, 5, 3, 2] rfl (L_MO_reckonB hRl hBl (st_ := st_) (a_ := i) (rest := st_ - 2 ^ i) (by omega) (by omega) X ?_ n 0 (by omega))
          have hst2 := tb_le hbit
          have hpw9 : 0 < 2 ^ i := Nat.two_pow_pos i
          have hrb9 := rbst_le P Wy Le2 i (st_ - 2 ^ i) n
          have hdu9 := hDu i
          have hb3 : ∀ q, (va_up Le2 (st_ * 8 + i) (Du i + rbst P Wy Le2 i (st_ - 2 ^ i) n)) q ≤ 1000010000 := fun q => by unfold va_up; split; omega; exact hb q
          have hoth : ∀ q, q ≠ st_ * 8 + i → (va_up Le2 (st_ * 8 + i) (Du i + rbst P Wy Le2 i (st_ - 2 ^ i) n)) q = Le2 q := fun q hq => if_neg hq
          have hrc : ∀ a r, r < st_ → rbst P Wy (va_up Le2 (st_ * 8 + i) (Du i + rbst P Wy Le2 i (st_ - 2 ^ i) n)) a r n = rbst P Wy Le2 a r n := fun a r hr => rbst_congr n (fun b hb9 => hoth _ (by omega))
          have hbl3 : bellR P Du Wy n (va_up Le2 (st_ * 8 + i) (Du i + rbst P Wy Le2 i (st_ - 2 ^ i) n)) st_ := fun s9 h1 h2 a h3 h4 => by
            rw [hoth _ (by omega), hrc a _ (by have := tb_le h4; have := Nat.two_pow_pos a; omega)]
            exact hbl s9 h1 h2 a h3 h4
          have hpt3 : ∀ a, a < (i + 1) → st_.testBit a = true → (va_up Le2 (st_ * 8 + i) (Du i + rbst P Wy Le2 i (st_ - 2 ^ i) n)) (st_ * 8 + a) = Du a + rbst P Wy (va_up Le2 (st_ * 8 + i) (Du i + rbst P Wy Le2 i (st_ - 2 ^ i) n)) a (st_ - 2 ^ a) n := fun a h1 h2 => by
            rw [hrc a _ (by have := tb_le h2; have := Nat.two_pow_pos a; omega)]
            by_cases he : a = i
            · subst he; exact if_pos rfl
            · rw [hoth _ (by omega)]; exact hpt a (by omega) h2
          refine g_aload_n X d_MO_reckon_118 1 rfl ?_
          refine g_get (ci := 5) (C := R_MO) (T := F_MO) (N := 20) (v := .ref (bd 13)) X i_MO rfl w0 18 (by decide) q_615 (fun _ h9 => h9) rfl d_MO_reckon_119 ?_
          refine g_bipush (v := 8) X d_MO_reckon_122 (by decide) ?_
          refine g_iload_n X d_MO_reckon_124 2 rfl ?_
          refine g_imul X d_MO_reckon_125 ?_
          refine g_eqi (y := nI (st_ * 8)) ((nI_mul 8 st_).trans (by rw [Nat.mul_comm])) ?_
          refine g_iload_n X d_MO_reckon_126 3 rfl ?_
          refine g_iadd X d_MO_reckon_127 ?_
          refine g_eqi (y := nI (st_ * 8 + i)) (nI_add _ _) ?_
          refine g_aload_n X d_MO_reckon_128 1 rfl ?_
          refine g_get (ci := 5) (C := R_MO) (T := F_MO) (N := 20) (v := .ref (bd 4)) X i_MO rfl w0 7 (by decide) q_604 (fun _ h9 => h9) rfl d_MO_reckon_129 ?_
          refine g_iload_n X d_MO_reckon_132 3 rfl ?_
          refine g_iald (t0 := 0) (v := nI (Du i)) X w4 rfl (nI_ix ((by omega : i < 8)) (by decide)) (nI_cl (g := fun q9 => nI (Du q9)) (Nat.lt_trans ((by omega : i < 8)) (by decide))) d_MO_reckon_133 ?_
          refine g_iload X d_MO_reckon_134 0 rfl ?_
          refine g_iadd X d_MO_reckon_136 ?_
          refine g_eqi (y := nI (Du i + rbst P Wy Le2 i (st_ - 2 ^ i) n)) (nI_add _ _) ?_
          refine g_iast (t0 := 0) (g2 := fun q9 => nI (va_up Le2 (st_ * 8 + i) (Du i + rbst P Wy Le2 i (st_ - 2 ^ i) n) q9)) X w13 rfl (nI_ix ((by omega : st_ * 8 + i < 2048)) (by decide)) (upd_nI (g := Le2) (Nat.lt_trans ((by omega : st_ * 8 + i < 2048)) (by decide))) d_MO_reckon_137 ?_
          refine g_eqf (f2 := (mo_l cI f bd (va_up Le2 (st_ * 8 + i) (Du i + rbst P Wy Le2 i (st_ - 2 ^ i) n)))) (g_u_u) ?_
          refine g_iinc (lv' := [(2, .int (nI (i + 1))), (4, .int (nI (rbst P Wy Le2 i (st_ - 2 ^ i) n))), (0, .ref (bd 0)), (1, .int (nI st_))]) X d_MO_reckon_138 3 rfl (nI_1 i) (by decide) rfl ?_
          refine g_goto X 14 d_MO_reckon_141 (by decide) ?_
          exact g_lv [0, 2, 3] rfl (ih (d - 1) (by omega) (i + 1) (va_up Le2 (st_ * 8 + i) (Du i + rbst P Wy Le2 i (st_ - 2 ^ i) n)) (by omega) hb3 hbl3 hpt3)
        · skip
          refine g_iconst (v := 0) X d_MO_reckon_40 (by decide) ?_
          refine g_goto X 46 d_MO_reckon_41 (by decide) ?_
          refine g_eqi (y := nI (rbst P Wy Le2 i (st_ - 2 ^ i) 0)) (by rw [show rbst P Wy Le2 i (st_ - 2 ^ i) 0 = 0 from if_pos ((nI_z (by omega)).mp c37)]; rfl) ?_
          refine g_istore (lv' := [(4, .int (nI (rbst P Wy Le2 i (st_ - 2 ^ i) 0))), (3, .int (nI (st_ - 2 ^ i))), (2, .int (nI i)), (0, .ref (bd 0)), (1, .int (nI st_))]) X d_MO_reckon_46 (by decide) rfl ?_
          refine g_iconst (v := 0) X d_MO_reckon_48 (by decide) ?_
          refine g_istore (lv' := [(5, .int 0), (4, .int (nI (rbst P Wy Le2 i (st_ - 2 ^ i) 0))), (3, .int (nI (st_ - 2 ^ i))), (2, .int (nI i)), (0, .ref (bd 0)), (1, .int (nI st_))]) X d_MO_reckon_49 (by decide) rfl ?_
          refine g_lv [0, 1, 4, 5, 3, 2] rfl (L_MO_reckonB hRl hBl (st_ := st_) (a_ := i) (rest := st_ - 2 ^ i) (by omega) (by omega) X ?_ n 0 (by omega))
          have hst2 := tb_le hbit
          have hpw9 : 0 < 2 ^ i := Nat.two_pow_pos i
          have hrb9 := rbst_le P Wy Le2 i (st_ - 2 ^ i) n
          have hdu9 := hDu i
          have hb3 : ∀ q, (va_up Le2 (st_ * 8 + i) (Du i + rbst P Wy Le2 i (st_ - 2 ^ i) n)) q ≤ 1000010000 := fun q => by unfold va_up; split; omega; exact hb q
          have hoth : ∀ q, q ≠ st_ * 8 + i → (va_up Le2 (st_ * 8 + i) (Du i + rbst P Wy Le2 i (st_ - 2 ^ i) n)) q = Le2 q := fun q hq => if_neg hq
          have hrc : ∀ a r, r < st_ → rbst P Wy (va_up Le2 (st_ * 8 + i) (Du i + rbst P Wy Le2 i (st_ - 2 ^ i) n)) a r n = rbst P Wy Le2 a r n := fun a r hr => rbst_congr n (fun b hb9 => hoth _ (by omega))
          have hbl3 : bellR P Du Wy n (va_up Le2 (st_ * 8 + i) (Du i + rbst P Wy Le2 i (st_ - 2 ^ i) n)) st_ := fun s9 h1 h2 a h3 h4 => by
            rw [hoth _ (by omega), hrc a _ (by have := tb_le h4; have := Nat.two_pow_pos a; omega)]
            exact hbl s9 h1 h2 a h3 h4
          have hpt3 : ∀ a, a < (i + 1) → st_.testBit a = true → (va_up Le2 (st_ * 8 + i) (Du i + rbst P Wy Le2 i (st_ - 2 ^ i) n)) (st_ * 8 + a) = Du a + rbst P Wy (va_up Le2 (st_ * 8 + i) (Du i + rbst P Wy Le2 i (st_ - 2 ^ i) n)) a (st_ - 2 ^ a) n := fun a h1 h2 => by
            rw [hrc a _ (by have := tb_le h2; have := Nat.two_pow_pos a; omega)]
            by_cases he : a = i
            · subst he; exact if_pos rfl
            · rw [hoth _ (by omega)]; exact hpt a (by omega) h2
          refine g_aload_n X d_MO_reckon_118 1 rfl ?_
          refine g_get (ci := 5) (C := R_MO) (T := F_MO) (N := 20) (v := .ref (bd 13)) X i_MO rfl w0 18 (by decide) q_615 (fun _ h9 => h9) rfl d_MO_reckon_119 ?_
          refine g_bipush (v := 8) X d_MO_reckon_122 (by decide) ?_
          refine g_iload_n X d_MO_reckon_124 2 rfl ?_
          refine g_imul X d_MO_reckon_125 ?_
          refine g_eqi (y := nI (st_ * 8)) ((nI_mul 8 st_).trans (by rw [Nat.mul_comm])) ?_
          refine g_iload_n X d_MO_reckon_126 3 rfl ?_
          refine g_iadd X d_MO_reckon_127 ?_
          refine g_eqi (y := nI (st_ * 8 + i)) (nI_add _ _) ?_
          refine g_aload_n X d_MO_reckon_128 1 rfl ?_
          refine g_get (ci := 5) (C := R_MO) (T := F_MO) (N := 20) (v := .ref (bd 4)) X i_MO rfl w0 7 (by decide) q_604 (fun _ h9 => h9) rfl d_MO_reckon_129 ?_
          refine g_iload_n X d_MO_reckon_132 3 rfl ?_
          refine g_iald (t0 := 0) (v := nI (Du i)) X w4 rfl (nI_ix ((by omega : i < 8)) (by decide)) (nI_cl (g := fun q9 => nI (Du q9)) (Nat.lt_trans ((by omega : i < 8)) (by decide))) d_MO_reckon_133 ?_
          refine g_iload X d_MO_reckon_134 0 rfl ?_
          refine g_iadd X d_MO_reckon_136 ?_
          refine g_eqi (y := nI (Du i + rbst P Wy Le2 i (st_ - 2 ^ i) n)) (nI_add _ _) ?_
          refine g_iast (t0 := 0) (g2 := fun q9 => nI (va_up Le2 (st_ * 8 + i) (Du i + rbst P Wy Le2 i (st_ - 2 ^ i) n) q9)) X w13 rfl (nI_ix ((by omega : st_ * 8 + i < 2048)) (by decide)) (upd_nI (g := Le2) (Nat.lt_trans ((by omega : st_ * 8 + i < 2048)) (by decide))) d_MO_reckon_137 ?_
          refine g_eqf (f2 := (mo_l cI f bd (va_up Le2 (st_ * 8 + i) (Du i + rbst P Wy Le2 i (st_ - 2 ^ i) n)))) (g_u_u) ?_
          refine g_iinc (lv' := [(2, .int (nI (i + 1))), (4, .int (nI (rbst P Wy Le2 i (st_ - 2 ^ i) n))), (0, .ref (bd 0)), (1, .int (nI st_))]) X d_MO_reckon_138 3 rfl (nI_1 i) (by decide) rfl ?_
          refine g_goto X 14 d_MO_reckon_141 (by decide) ?_
          exact g_lv [0, 2, 3] rfl (ih (d - 1) (by omega) (i + 1) (va_up Le2 (st_ * 8 + i) (Du i + rbst P Wy Le2 i (st_ - 2 ^ i) n)) (by omega) hb3 hbl3 hpt3)
set_option maxHeartbeats 4000000 in
set_option maxRecDepth 100000 in
theorem L_MO_reckonS {p : Program} {l : Launch} {e : Env} {s : State} {m : MethodId} {args : Array Value} {below : List Frame} {meth : Method} {c : Code} {Q : State → Prop} {A : Nat → Prop} {D : va_G} {cI cZ cO cJ : ClassId} {eA eM : Nat} {f : g_F} {bd : Nat → Nat} {th : Int32} {L nc : Nat} {pt ot : Nat → Int32} {n : Nat} {P Du S Wy tw ct PF DF : Nat → Nat} {GF : Nat → Bool} {pz pm : Nat} {O Le : Nat → Nat} {Sl : Nat → Bool} (hR : mo_R cI cZ f bd th L nc pt ot n P Du S Wy tw ct PF DF GF pz pm O Le Sl) (hB : mo_B L nc n P Du S Wy tw ct PF DF pz pm O Le) (hIn : ∀ i j, i < 15 → j < 15 → bd i = bd j → i = j) (X : g_X p s m args meth c b_MO_reckon 7 none g_T y_MO_reckon.cls D g_cl (g_tys cI cZ cO cJ) A (z_Z eA eM)) (kk : ∀ Le2 : Nat → Nat, (∀ i, Le2 i ≤ 1000010000) → bellR P Du Wy n Le2 (2 ^ n) → g_W p l e { frames := 1, cells := 0, slots := 0, locals := 22 } s m args below meth c 7 D g_cl A (mo_l cI f bd Le2) 0 0 Q 150 [(0, .ref (bd 0))] []) : ∀ (d : Nat) (i : Nat) (Le2 : Nat → Nat), (i + d = 2 ^ n) → (0 < i) → ((∀ i, Le2 i ≤ 1000010000)) → (bellR P Du Wy n Le2 i) → g_W p l e { frames := 1, cells := 0, slots := 0, locals := 22 } s m args below meth c 7 D g_cl A (mo_l cI f bd Le2) 0 0 Q 2 [(1, .int (nI i)), (0, .ref (bd 0))] [] := by
  obtain ⟨hM, h1, h2, h3, h4, h5, h6, h7, h8, h9, h10, h11, h12, h13, h14⟩ := id hR
  obtain ⟨⟨hL1, hL5⟩, hnc, hUB, htw, hct, hPF, hDF, ⟨hpz, hpm, hO8⟩, hLe⟩ := id hB
  obtain ⟨hn8, hP, hDu, hS, hWy⟩ := id hUB
  have hp2 : 2 ^ n ≤ 256 := Nat.le_trans (Nat.pow_le_pow_right (by decide) hn8) (by decide)
  intro d
  induction d using Nat.strongRecOn with
  | _ d ih =>
    intro i Le2 hi hi0 hb hbl
    have hRl := mo_l_R hR hIn Le2
    have hBl : mo_B L nc n P Du S Wy tw ct PF DF pz pm O Le2 := ⟨⟨hL1, hL5⟩, hnc, hUB, htw, hct, hPF, hDF, ⟨hpz, hpm, hO8⟩, hb⟩
    obtain ⟨w0, w1, w2, w3, w4, w5, w6, w7, w8, w9, w10, w11, w12, w13, w14⟩ := id hRl
    refine g_iload_n X d_MO_reckon_2 0 rfl ?_
    refine g_iconst (v := 1) X d_MO_reckon_3 (by decide) ?_
    refine g_aload_n X d_MO_reckon_4 1 rfl ?_
    refine g_get (ci := 5) (C := R_MO) (T := F_MO) (N := 20) (v := .int (nI n)) X i_MO rfl w0 5 (by decide) q_602 (fun _ h9 => h9) rfl d_MO_reckon_5 ?_
    refine g_ishl X d_MO_reckon_8 ?_
    refine g_eqi (y := nI (2 ^ n)) (nI_bit (by omega)) ?_
    refine g_icmp_ge X 150 d_MO_reckon_9 (by decide) (fun c9 => ?_) (fun c9 => ?_)
    · skip
      have e : i = 2 ^ n := by have := (nI_leI (by omega) (by omega)).mp c9; omega
      rw [e] at hbl
      exact g_lv [1] rfl (kk Le2 hb hbl)
    · skip
      have hlt : i < 2 ^ n := Nat.lt_of_not_le (fun z => c9 ((nI_leI (by omega) (by omega)).mpr z))
      refine g_iconst (v := 0) X d_MO_reckon_12 (by decide) ?_
      refine g_istore_n (lv' := [(2, .int 0), (1, .int (nI i)), (0, .ref (bd 0))]) X d_MO_reckon_13 rfl (by decide) rfl ?_
      refine g_lv [0, 2, 1] rfl (L_MO_reckonA hR hB hIn (st_ := i) ⟨hi0, by omega⟩ X ?_ n 0 Le2 (by omega) hb hbl (fun a h1 h2 => absurd h1 (by omega)))
      intro Le3 hb3 hbl3
      refine g_iinc (lv' := [(1, .int (nI (i + 1))), (0, .ref (bd 0))]) X d_MO_reckon_144 1 rfl (nI_1 i) (by decide) rfl ?_
      refine g_goto X 2 d_MO_reckon_147 (by decide) ?_
      exact ih (d - 1) (by omega) (i + 1) Le3 (by omega) (by omega) hb3 hbl3
set_option maxHeartbeats 4000000 in
set_option maxRecDepth 100000 in
theorem c_MO_reckon {l : Launch} {D : va_G} {cI cZ cO cJ : ClassId} {eA eM : Nat} {f : g_F} {bd : Nat → Nat} {th : Int32} {L nc : Nat} {pt ot : Nat → Int32} {n : Nat} {P Du S Wy tw ct PF DF : Nat → Nat} {GF : Nat → Bool} {pz pm : Nat} {O Le : Nat → Nat} {Sl : Nat → Bool} (hR : mo_R cI cZ f bd th L nc pt ot n P Du S Wy tw ct PF DF GF pz pm O Le Sl) (hB : mo_B L nc n P Du S Wy tw ct PF DF pz pm O Le) (hIn : ∀ i j, i < 15 → j < 15 → bd i = bd j → i = j) : g_C l y_MO_reckon b_MO_reckon 7 none { frames := 1, cells := 0, slots := 0, locals := 22 } D g_cl (g_tys cI cZ cO cJ) (z_Z eA eM) [.ref (bd 0)] f (fun r f2 => r = none ∧ ∃ Le2 : Nat → Nat, (∀ i, Le2 i ≤ 1000010000) ∧ bellR P Du Wy n Le2 (2 ^ n) ∧ f2 = mo_l cI f bd Le2) (fun _ => False) := by
  refine g_ofW [(0, .ref (bd 0))] (by decide +kernel) (Nat.le_of_ble_eq_true rfl) rfl ?_
  intro p e s m args below meth c X ht hin
  obtain ⟨hM, h1, h2, h3, h4, h5, h6, h7, h8, h9, h10, h11, h12, h13, h14⟩ := id hR
  obtain ⟨⟨hL1, hL5⟩, hnc, hUB, htw, hct, hPF, hDF, ⟨hpz, hpm, hO8⟩, hLe⟩ := id hB
  obtain ⟨hn8, hP, hDu, hS, hWy⟩ := id hUB
  refine g_iconst (v := 1) X d_MO_reckon_0 (by decide) ?_
  refine g_istore_n (lv' := [(1, .int 1), (0, .ref (bd 0))]) X d_MO_reckon_1 rfl (by decide) rfl ?_
  refine g_eqf (f2 := mo_l cI f bd Le) (by funext q; unfold mo_l g_u; split; rename_i hq; rw [hq]; exact h13; rfl) ?_
  refine L_MO_reckonS hR hB hIn X ?_ (2 ^ n - 1) 1 Le (by have := Nat.two_pow_pos n; omega) (by decide) hLe (fun s9 h1 h2 => absurd h1 (by omega))
  intro Le2 hb hbl
  exact g_vret X rfl ⟨rfl, Le2, hb, hbl, rfl⟩ (Nat.le_of_ble_eq_true rfl) (Nat.le_of_ble_eq_true rfl) d_MO_reckon_150
