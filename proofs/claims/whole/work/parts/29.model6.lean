theorem nI_bit32 {k : Nat} (hk : k < 32) : (1 : Int32) <<< (nI k &&& 31) = nI (2 ^ k) := (by decide +kernel : ∀ k, k < 32 → (1 : Int32) <<< (nI k &&& 31) = nI (2 ^ k)) k hk
/-- the touch bits after a change, case by case -/
def chT (tw : Nat → Nat) (pt ot : Nat → Int32) (x : Int32) (dd : Nat) : Nat → Nat → Nat
  | 0 => tw
  | c + 1 => if pt c = x ∨ ot c = x then va_up (chT tw pt ot x dd c) (3126 * c + dd / 32) (chT tw pt ot x dd c (3126 * c + dd / 32) ||| 2 ^ (dd % 32)) else chT tw pt ot x dd c
def chN (pt ot : Nat → Int32) (x : Int32) : Nat → Nat
  | 0 => 0
  | c + 1 => if pt c = x ∨ ot c = x then chN pt ot x c + 1 else chN pt ot x c
theorem chN_le (pt ot : Nat → Int32) (x : Int32) : ∀ c, chN pt ot x c ≤ c
  | 0 => Nat.le_refl _
  | c + 1 => by
    unfold chN
    have := chN_le pt ot x c
    split <;> omega
abbrev mo_w (cI : ClassId) (f : g_F) (bd : Nat → Nat) (T : Nat → Nat) : g_F := g_u f (bd 7) (.inl (cI, 75024, .inl (fun q9 => nI (T q9))))
theorem mo_w_R {cI cZ : ClassId} {f : g_F} {bd : Nat → Nat} {th : Int32} {L nc : Nat} {pt ot : Nat → Int32} {n : Nat} {P Du S Wy tw ct PF DF : Nat → Nat} {GF : Nat → Bool} {pz pm : Nat} {O Le : Nat → Nat} {Sl : Nat → Bool} (hR : mo_R cI cZ f bd th L nc pt ot n P Du S Wy tw ct PF DF GF pz pm O Le Sl) (hIn : ∀ i j, i < 15 → j < 15 → bd i = bd j → i = j) (T : Nat → Nat) : mo_R cI cZ (mo_w cI f bd T) bd th L nc pt ot n P Du S Wy T ct PF DF GF pz pm O Le Sl := by
  obtain ⟨hM, h1, h2, h3, h4, h5, h6, h7, h8, h9, h10, h11, h12, h13, h14⟩ := hR
  exact ⟨(g_u_n (tu_ne hM h7)).trans hM, (g_u_n (fun z => absurd (hIn 1 7 (by decide) (by decide) z) (by decide))).trans h1, (g_u_n (fun z => absurd (hIn 2 7 (by decide) (by decide) z) (by decide))).trans h2, (g_u_n (fun z => absurd (hIn 3 7 (by decide) (by decide) z) (by decide))).trans h3, (g_u_n (fun z => absurd (hIn 4 7 (by decide) (by decide) z) (by decide))).trans h4, (g_u_n (fun z => absurd (hIn 5 7 (by decide) (by decide) z) (by decide))).trans h5, (g_u_n (fun z => absurd (hIn 6 7 (by decide) (by decide) z) (by decide))).trans h6, g_u_s, (g_u_n (fun z => absurd (hIn 8 7 (by decide) (by decide) z) (by decide))).trans h8, (g_u_n (fun z => absurd (hIn 9 7 (by decide) (by decide) z) (by decide))).trans h9, (g_u_n (fun z => absurd (hIn 10 7 (by decide) (by decide) z) (by decide))).trans h10, (g_u_n (fun z => absurd (hIn 11 7 (by decide) (by decide) z) (by decide))).trans h11, (g_u_n (fun z => absurd (hIn 12 7 (by decide) (by decide) z) (by decide))).trans h12, (g_u_n (fun z => absurd (hIn 13 7 (by decide) (by decide) z) (by decide))).trans h13, (g_u_n (fun z => absurd (hIn 14 7 (by decide) (by decide) z) (by decide))).trans h14⟩
set_option maxHeartbeats 4000000 in
set_option maxRecDepth 100000 in
theorem L_MO_change {p : Program} {l : Launch} {e : Env} {s : State} {m : MethodId} {args : Array Value} {below : List Frame} {meth : Method} {c : Code} {Q : State → Prop} {A : Nat → Prop} {D : va_G} {cI cZ cO cJ : ClassId} {eA eM : Nat} {f : g_F} {bd : Nat → Nat} {th : Int32} {L nc : Nat} {pt ot : Nat → Int32} {n : Nat} {P Du S Wy tw ct PF DF : Nat → Nat} {GF : Nat → Bool} {pz pm : Nat} {O Le : Nat → Nat} {Sl : Nat → Bool} (hR : mo_R cI cZ f bd th L nc pt ot n P Du S Wy tw ct PF DF GF pz pm O Le Sl) (hB : mo_B L nc n P Du S Wy tw ct PF DF pz pm O Le) (hIn : ∀ i j, i < 15 → j < 15 → bd i = bd j → i = j) {x : Int32} {dd : Nat} (hdd : dd < 100001) (X : g_X p s m args meth c b_MO_change 5 (some .int) g_T y_MO_change.cls D g_cl (g_tys cI cZ cO cJ) A (z_Z eA eM)) (kk : g_W p l e { frames := 2, cells := 0, slots := 0, locals := 42 } s m args below meth c 5 D g_cl A (mo_w cI f bd (chT tw pt ot x dd nc)) 0 0 Q 116 [(4, .int (nI nc)), (3, .int (nI (chN pt ot x nc))), (0, .ref (bd 0)), (1, .int x), (2, .int (nI dd))] []) : ∀ (d : Nat) (i : Nat), (i + d = nc) → g_W p l e { frames := 2, cells := 0, slots := 0, locals := 42 } s m args below meth c 5 D g_cl A (mo_w cI f bd (chT tw pt ot x dd i)) 0 0 Q 37 [(4, .int (nI i)), (3, .int (nI (chN pt ot x i))), (0, .ref (bd 0)), (1, .int x), (2, .int (nI dd))] [] := by
  obtain ⟨hM, h1, h2, h3, h4, h5, h6, h7, h8, h9, h10, h11, h12, h13, h14⟩ := id hR
  obtain ⟨⟨hL1, hL5⟩, hnc, hUB, htw, hct, hPF, hDF, ⟨hpz, hpm, hO8⟩, hLe⟩ := id hB
  obtain ⟨hn8, hP, hDu, hS, hWy⟩ := id hUB
  intro d
  induction d using Nat.strongRecOn with
  | _ d ih =>
    intro i hi
    have hRi := mo_w_R hR hIn (chT tw pt ot x dd i)
    obtain ⟨w0, w1, w2, w3, w4, w5, w6, w7, w8, w9, w10, w11, w12, w13, w14⟩ := hRi
    refine g_iload X d_MO_change_37 0 rfl ?_
    refine g_aload_n X d_MO_change_39 2 rfl ?_
    refine g_get (ci := 5) (C := R_MO) (T := F_MO) (N := 20) (v := .int (nI nc)) X i_MO rfl w0 2 (by decide) q_599 (fun _ h9 => h9) rfl d_MO_change_40 ?_
    refine g_icmp_ge X 116 d_MO_change_43 (by decide) (fun c43 => ?_) (fun c43 => ?_)
    · skip
      have e : i = nc := by have := (nI_leI (by omega) (by omega)).mp c43; omega
      subst e
      exact kk
    · skip
      have hlt : i < nc := Nat.lt_of_not_le (fun z => c43 ((nI_leI (by omega) (by omega)).mpr z))
      refine g_aload_n X d_MO_change_46 2 rfl ?_
      refine g_get (ci := 5) (C := R_MO) (T := F_MO) (N := 20) (v := .ref (bd 1)) X i_MO rfl w0 3 (by decide) q_600 (fun _ h9 => h9) rfl d_MO_change_47 ?_
      refine g_iload X d_MO_change_50 0 rfl ?_
      refine g_iald (t0 := 0) (v := pt i) X w1 rfl (nI_ix ((by omega : i < 24)) (by decide)) (nI_cl (g := pt) (Nat.lt_trans ((by omega : i < 24)) (by decide))) d_MO_change_52 ?_
      refine g_iload_n X d_MO_change_53 3 rfl ?_
      refine g_icmp_eq X 68 d_MO_change_54 (by decide) (fun c54 => ?_) (fun c54 => ?_)
      · skip
        have hp9 : pt i = x ∨ ot i = x := Or.inl c54
        have e : chT tw pt ot x dd (i + 1) = va_up (chT tw pt ot x dd i) (3126 * i + dd / 32) (chT tw pt ot x dd i (3126 * i + dd / 32) ||| 2 ^ (dd % 32)) := if_pos hp9
        have en : chN pt ot x (i + 1) = chN pt ot x i + 1 := if_pos hp9
        refine g_aload_n X d_MO_change_68 2 rfl ?_
        refine g_get (ci := 5) (C := R_MO) (T := F_MO) (N := 20) (v := .ref (bd 7)) X i_MO rfl w0 10 (by decide) q_607 (fun _ h9 => h9) rfl d_MO_change_69 ?_
        refine g_sipush (v := 3126) X d_MO_change_72 (by decide) ?_
        refine g_iload X d_MO_change_75 0 rfl ?_
        refine g_imul X d_MO_change_77 ?_
        refine g_eqi (y := nI (3126 * i)) (nI_mul 3126 i) ?_
        refine g_iload_n X d_MO_change_78 4 rfl ?_
        refine g_bipush (v := 32) X d_MO_change_79 (by decide) ?_
        refine g_idiv X d_MO_change_81 (by decide) ?_
        refine g_eqi (y := nI (dd / 32)) (nI_div32 (by omega)) ?_
        refine g_iadd X d_MO_change_82 ?_
        refine g_eqi (y := nI (3126 * i + dd / 32)) (nI_add _ _) ?_
        refine g_aload_n X d_MO_change_83 2 rfl ?_
        refine g_get (ci := 5) (C := R_MO) (T := F_MO) (N := 20) (v := .ref (bd 7)) X i_MO rfl w0 10 (by decide) q_607 (fun _ h9 => h9) rfl d_MO_change_84 ?_
        refine g_sipush (v := 3126) X d_MO_change_87 (by decide) ?_
        refine g_iload X d_MO_change_90 0 rfl ?_
        refine g_imul X d_MO_change_92 ?_
        refine g_eqi (y := nI (3126 * i)) (nI_mul 3126 i) ?_
        refine g_iload_n X d_MO_change_93 4 rfl ?_
        refine g_bipush (v := 32) X d_MO_change_94 (by decide) ?_
        refine g_idiv X d_MO_change_96 (by decide) ?_
        refine g_eqi (y := nI (dd / 32)) (nI_div32 (by omega)) ?_
        refine g_iadd X d_MO_change_97 ?_
        refine g_eqi (y := nI (3126 * i + dd / 32)) (nI_add _ _) ?_
        refine g_iald (t0 := 0) (v := nI (chT tw pt ot x dd i (3126 * i + dd / 32))) X w7 rfl (nI_ix ((by omega : 3126 * i + dd / 32 < 75024)) (by decide)) (nI_cl (g := fun q9 => nI (chT tw pt ot x dd i q9)) (Nat.lt_trans ((by omega : 3126 * i + dd / 32 < 75024)) (by decide))) d_MO_change_98 ?_
        refine g_iconst (v := 1) X d_MO_change_99 (by decide) ?_
        refine g_iload_n X d_MO_change_100 4 rfl ?_
        refine g_bipush (v := 32) X d_MO_change_101 (by decide) ?_
        refine g_irem X d_MO_change_103 (by decide) ?_
        refine g_eqi (y := nI (dd % 32)) (nI_rem32 (by omega)) ?_
        refine g_ishl X d_MO_change_104 ?_
        refine g_eqi (y := nI (2 ^ (dd % 32))) (nI_bit32 (Nat.mod_lt _ (by decide))) ?_
        refine g_ior X d_MO_change_105 ?_
        refine g_eqi (y := nI (chT tw pt ot x dd i (3126 * i + dd / 32) ||| 2 ^ (dd % 32))) (nI_or _ _) ?_
        refine g_iast (t0 := 0) (g2 := fun q9 => nI (va_up (chT tw pt ot x dd i) (3126 * i + dd / 32) (chT tw pt ot x dd i (3126 * i + dd / 32) ||| 2 ^ (dd % 32)) q9)) X w7 rfl (nI_ix (by omega : 3126 * i + dd / 32 < 75024) (by decide)) (upd_nI (g := chT tw pt ot x dd i) (by omega)) d_MO_change_106 ?_
        refine g_eqf (f2 := (mo_w cI f bd (chT tw pt ot x dd (i + 1)))) (by rw [show mo_w cI f bd (chT tw pt ot x dd (i + 1)) = _ from by rw [e]]; exact g_u_u) ?_
        refine g_iinc (lv' := [(3, .int (nI (chN pt ot x i + 1))), (4, .int (nI i)), (0, .ref (bd 0)), (1, .int x), (2, .int (nI dd))]) X d_MO_change_107 1 rfl (nI_1 _) (by decide) rfl ?_
        refine g_iinc (lv' := [(4, .int (nI (i + 1))), (3, .int (nI (chN pt ot x i + 1))), (0, .ref (bd 0)), (1, .int x), (2, .int (nI dd))]) X d_MO_change_110 1 rfl (nI_1 i) (by decide) rfl ?_
        refine g_goto X 37 d_MO_change_113 (by decide) ?_
        refine g_lv (lv' := [(4, .int (nI (i + 1))), (3, .int (nI (chN pt ot x (i + 1)))), (0, .ref (bd 0)), (1, .int x), (2, .int (nI dd))]) [0, 1, 2, 3, 4] (by rw [en]; rfl) (ih (d - 1) (by omega) (i + 1) (by omega))
      · skip
        refine g_aload_n X d_MO_change_57 2 rfl ?_
        refine g_get (ci := 5) (C := R_MO) (T := F_MO) (N := 20) (v := .ref (bd 2)) X i_MO rfl w0 4 (by decide) q_601 (fun _ h9 => h9) rfl d_MO_change_58 ?_
        refine g_iload X d_MO_change_61 0 rfl ?_
        refine g_iald (t0 := 0) (v := ot i) X w2 rfl (nI_ix ((by omega : i < 24)) (by decide)) (nI_cl (g := ot) (Nat.lt_trans ((by omega : i < 24)) (by decide))) d_MO_change_63 ?_
        refine g_iload_n X d_MO_change_64 3 rfl ?_
        refine g_icmp_ne X 110 d_MO_change_65 (by decide) (fun c65 => ?_) (fun c65 => ?_)
        · skip
          have hp9 : ¬ (pt i = x ∨ ot i = x) := fun z => z.elim c54 c65
          have e : chT tw pt ot x dd (i + 1) = chT tw pt ot x dd i := if_neg hp9
          have en : chN pt ot x (i + 1) = chN pt ot x i := if_neg hp9
          refine g_iinc (lv' := [(4, .int (nI (i + 1))), (3, .int (nI (chN pt ot x i))), (0, .ref (bd 0)), (1, .int x), (2, .int (nI dd))]) X d_MO_change_110 0 rfl (nI_1 i) (by decide) rfl ?_
          refine g_goto X 37 d_MO_change_113 (by decide) ?_
          refine g_eqf (f2 := (mo_w cI f bd (chT tw pt ot x dd (i + 1)))) (by rw [e]) ?_
          refine g_lv (lv' := [(4, .int (nI (i + 1))), (3, .int (nI (chN pt ot x (i + 1)))), (0, .ref (bd 0)), (1, .int x), (2, .int (nI dd))]) [0, 1, 2, 3, 4] (by rw [en]; rfl) (ih (d - 1) (by omega) (i + 1) (by omega))
        · skip
          have hp9 : pt i = x ∨ ot i = x := Or.inr c65
          have e : chT tw pt ot x dd (i + 1) = va_up (chT tw pt ot x dd i) (3126 * i + dd / 32) (chT tw pt ot x dd i (3126 * i + dd / 32) ||| 2 ^ (dd % 32)) := if_pos hp9
          have en : chN pt ot x (i + 1) = chN pt ot x i + 1 := if_pos hp9
          refine g_aload_n X d_MO_change_68 2 rfl ?_
          refine g_get (ci := 5) (C := R_MO) (T := F_MO) (N := 20) (v := .ref (bd 7)) X i_MO rfl w0 10 (by decide) q_607 (fun _ h9 => h9) rfl d_MO_change_69 ?_
          refine g_sipush (v := 3126) X d_MO_change_72 (by decide) ?_
          refine g_iload X d_MO_change_75 0 rfl ?_
          refine g_imul X d_MO_change_77 ?_
          refine g_eqi (y := nI (3126 * i)) (nI_mul 3126 i) ?_
          refine g_iload_n X d_MO_change_78 4 rfl ?_
          refine g_bipush (v := 32) X d_MO_change_79 (by decide) ?_
          refine g_idiv X d_MO_change_81 (by decide) ?_
          refine g_eqi (y := nI (dd / 32)) (nI_div32 (by omega)) ?_
          refine g_iadd X d_MO_change_82 ?_
          refine g_eqi (y := nI (3126 * i + dd / 32)) (nI_add _ _) ?_
          refine g_aload_n X d_MO_change_83 2 rfl ?_
          refine g_get (ci := 5) (C := R_MO) (T := F_MO) (N := 20) (v := .ref (bd 7)) X i_MO rfl w0 10 (by decide) q_607 (fun _ h9 => h9) rfl d_MO_change_84 ?_
          refine g_sipush (v := 3126) X d_MO_change_87 (by decide) ?_
          refine g_iload X d_MO_change_90 0 rfl ?_
          refine g_imul X d_MO_change_92 ?_
          refine g_eqi (y := nI (3126 * i)) (nI_mul 3126 i) ?_
          refine g_iload_n X d_MO_change_93 4 rfl ?_
          refine g_bipush (v := 32) X d_MO_change_94 (by decide) ?_
          refine g_idiv X d_MO_change_96 (by decide) ?_
          refine g_eqi (y := nI (dd / 32)) (nI_div32 (by omega)) ?_
          refine g_iadd X d_MO_change_97 ?_
          refine g_eqi (y := nI (3126 * i + dd / 32)) (nI_add _ _) ?_
          refine g_iald (t0 := 0) (v := nI (chT tw pt ot x dd i (3126 * i + dd / 32))) X w7 rfl (nI_ix ((by omega : 3126 * i + dd / 32 < 75024)) (by decide)) (nI_cl (g := fun q9 => nI (chT tw pt ot x dd i q9)) (Nat.lt_trans ((by omega : 3126 * i + dd / 32 < 75024)) (by decide))) d_MO_change_98 ?_
          refine g_iconst (v := 1) X d_MO_change_99 (by decide) ?_
          refine g_iload_n X d_MO_change_100 4 rfl ?_
          refine g_bipush (v := 32) X d_MO_change_101 (by decide) ?_
          refine g_irem X d_MO_change_103 (by decide) ?_
          refine g_eqi (y := nI (dd % 32)) (nI_rem32 (by omega)) ?_
          refine g_ishl X d_MO_change_104 ?_
          refine g_eqi (y := nI (2 ^ (dd % 32))) (nI_bit32 (Nat.mod_lt _ (by decide))) ?_
          refine g_ior X d_MO_change_105 ?_
          refine g_eqi (y := nI (chT tw pt ot x dd i (3126 * i + dd / 32) ||| 2 ^ (dd % 32))) (nI_or _ _) ?_
          refine g_iast (t0 := 0) (g2 := fun q9 => nI (va_up (chT tw pt ot x dd i) (3126 * i + dd / 32) (chT tw pt ot x dd i (3126 * i + dd / 32) ||| 2 ^ (dd % 32)) q9)) X w7 rfl (nI_ix (by omega : 3126 * i + dd / 32 < 75024) (by decide)) (upd_nI (g := chT tw pt ot x dd i) (by omega)) d_MO_change_106 ?_
          refine g_eqf (f2 := (mo_w cI f bd (chT tw pt ot x dd (i + 1)))) (by rw [show mo_w cI f bd (chT tw pt ot x dd (i + 1)) = _ from by rw [e]]; exact g_u_u) ?_
          refine g_iinc (lv' := [(3, .int (nI (chN pt ot x i + 1))), (4, .int (nI i)), (0, .ref (bd 0)), (1, .int x), (2, .int (nI dd))]) X d_MO_change_107 1 rfl (nI_1 _) (by decide) rfl ?_
          refine g_iinc (lv' := [(4, .int (nI (i + 1))), (3, .int (nI (chN pt ot x i + 1))), (0, .ref (bd 0)), (1, .int x), (2, .int (nI dd))]) X d_MO_change_110 1 rfl (nI_1 i) (by decide) rfl ?_
          refine g_goto X 37 d_MO_change_113 (by decide) ?_
          refine g_lv (lv' := [(4, .int (nI (i + 1))), (3, .int (nI (chN pt ot x (i + 1)))), (0, .ref (bd 0)), (1, .int x), (2, .int (nI dd))]) [0, 1, 2, 3, 4] (by rw [en]; rfl) (ih (d - 1) (by omega) (i + 1) (by omega))
set_option maxHeartbeats 4000000 in
set_option maxRecDepth 100000 in
theorem c_MO_change {l : Launch} {D : va_G} {cI cZ cO cJ : ClassId} {eA eM : Nat} {f : g_F} {bd : Nat → Nat} {th : Int32} {L nc : Nat} {pt ot : Nat → Int32} {n : Nat} {P Du S Wy tw ct PF DF : Nat → Nat} {GF : Nat → Bool} {pz pm : Nat} {O Le : Nat → Nat} {Sl : Nat → Bool} (hR : mo_R cI cZ f bd th L nc pt ot n P Du S Wy tw ct PF DF GF pz pm O Le Sl) (hB : mo_B L nc n P Du S Wy tw ct PF DF pz pm O Le) (hIn : ∀ i j, i < 15 → j < 15 → bd i = bd j → i = j) {x y : Int32} : g_C l y_MO_change b_MO_change 5 (some .int) { frames := 2, cells := 0, slots := 0, locals := 42 } D g_cl (g_tys cI cZ cO cJ) (z_Z eA eM) [.ref (bd 0), .int x, .int y] f (fun r f2 => (¬ (inR x 30 ∧ inR y 100001) ∧ r = some (.int 0) ∧ f2 = (m_th f bd 1 L nc n pz pm)) ∨ (∃ dd, inR x 30 ∧ dd < 100001 ∧ y = nI dd ∧ r = some (.int (nI (chN pt ot x nc))) ∧ mo_R cI cZ f2 bd 0 L nc pt ot n P Du S Wy (chT tw pt ot x dd nc) ct PF DF GF pz pm O Le Sl ∧ m_fr bd f f2)) (fun _ => False) := by
  refine g_ofW [(0, .ref (bd 0)), (1, .int x), (2, .int y)] (by decide +kernel) (Nat.le_of_ble_eq_true rfl) rfl ?_
  intro p e s m args below meth c X ht hin
  obtain ⟨hM, h1, h2, h3, h4, h5, h6, h7, h8, h9, h10, h11, h12, h13, h14⟩ := id hR
  obtain ⟨⟨hL1, hL5⟩, hnc, hUB, htw, hct, hPF, hDF, ⟨hpz, hpm, hO8⟩, hLe⟩ := id hB
  obtain ⟨hn8, hP, hDu, hS, hWy⟩ := id hUB
  have kj : ∀ b_ : Bool, (b_ = true ↔ (inR x 30 ∧ inR y 100001)) → g_W p l e { frames := 2, cells := 0, slots := 0, locals := 42 } s m args below meth c 5 D g_cl (g_A f s.heap.size) f 0 0 (g_End below D g_cl f (fun r f2 => (¬ (inR x 30 ∧ inR y 100001) ∧ r = some (.int 0) ∧ f2 = (m_th f bd 1 L nc n pz pm)) ∨ (∃ dd, inR x 30 ∧ dd < 100001 ∧ y = nI dd ∧ r = some (.int (nI (chN pt ot x nc))) ∧ mo_R cI cZ f2 bd 0 L nc pt ot n P Du S Wy (chT tw pt ot x dd nc) ct PF DF GF pz pm O Le Sl ∧ m_fr bd f f2)) (fun _ => False) args s { frames := 2, cells := 0, slots := 0, locals := 42 }) 23 [(0, .ref (bd 0)), (1, .int x), (2, .int y)] [.int (bI b_), .ref (bd 0)] := by
    intro b_ hb_
    cases b_ with
    | false =>
      have hV : ¬ (inR x 30 ∧ inR y 100001) := fun z => Bool.noConfusion (hb_.mpr z)
      refine g_iconst (v := 1) X d_MO_change_23 (by decide) ?_
      refine g_callV (ci := 5) (As := [.int (bI false), .int 1]) (rest := []) X (z_ok eA eM) rfl rfl hM (c_MO_goes hR hB (b1 := false) (b2 := true)) v_MO_goes q_671 q_s19 q_669 rfl rfl (Nat.le_of_ble_eq_true rfl) d_MO_change_24 ⟨(Nat.le_of_ble_eq_true rfl), (Nat.le_of_ble_eq_true rfl)⟩ ⟨(Nat.le_of_ble_eq_true rfl), (Nat.le_of_ble_eq_true rfl)⟩ (g_K.no (fun _ h => h)) (fun r_ f2_ hp => ?_)
      obtain ⟨rfl, hf9_⟩ := hp
      have hf_ : f2_ = (m_th f bd 1 L nc n pz pm) := hf9_
      clear hf9_
      subst f2_
      refine g_st (st2 := [.int 0]) rfl ?_
      have hR2 := mo_th hR 1
      obtain ⟨hM2, k1, k2, k3, k4, k5, k6, k7, k8, k9, k10, k11, k12, k13, k14⟩ := id hR2
      refine g_if_ne X 32 d_MO_change_27 (by decide) (fun c27 => ?_) (fun c27 => ?_)
      · skip
        exact absurd rfl c27
      · skip
        skip
        refine g_iconst (v := 0) X d_MO_change_30 (by decide) ?_
        exact g_iret X rfl (Or.inl ⟨hV, rfl, rfl⟩) (Nat.le_of_ble_eq_true rfl) (Nat.le_of_ble_eq_true rfl) d_MO_change_31
    | true =>
      have hV := hb_.mp rfl
      obtain ⟨hx3, ⟨dd, hd, rfl⟩⟩ := hV
      refine g_iconst (v := 1) X d_MO_change_23 (by decide) ?_
      refine g_callV (ci := 5) (As := [.int (bI true), .int 1]) (rest := []) X (z_ok eA eM) rfl rfl hM (c_MO_goes hR hB (b1 := true) (b2 := true)) v_MO_goes q_671 q_s19 q_669 rfl rfl (Nat.le_of_ble_eq_true rfl) d_MO_change_24 ⟨(Nat.le_of_ble_eq_true rfl), (Nat.le_of_ble_eq_true rfl)⟩ ⟨(Nat.le_of_ble_eq_true rfl), (Nat.le_of_ble_eq_true rfl)⟩ (g_K.no (fun _ h => h)) (fun r_ f2_ hp => ?_)
      obtain ⟨rfl, hf9_⟩ := hp
      have hf_ : f2_ = (m_th f bd 0 L nc n pz pm) := hf9_
      clear hf9_
      subst f2_
      refine g_st (st2 := [.int 1]) rfl ?_
      have hR2 := mo_th hR 0
      obtain ⟨hM2, k1, k2, k3, k4, k5, k6, k7, k8, k9, k10, k11, k12, k13, k14⟩ := id hR2
      refine g_if_ne X 32 d_MO_change_27 (by decide) (fun c27 => ?_) (fun c27 => ?_)
      · skip
        skip
        refine g_iconst (v := 0) X d_MO_change_32 (by decide) ?_
        refine g_istore_n (lv' := [(3, .int 0), (0, .ref (bd 0)), (1, .int x), (2, .int (nI dd))]) X d_MO_change_33 rfl (by decide) rfl ?_
        refine g_iconst (v := 0) X d_MO_change_34 (by decide) ?_
        refine g_istore (lv' := [(4, .int 0), (3, .int 0), (0, .ref (bd 0)), (1, .int x), (2, .int (nI dd))]) X d_MO_change_35 (by decide) rfl ?_
        refine g_eqf (f2 := mo_w cI (m_th f bd 0 L nc n pz pm) bd (chT tw pt ot x dd 0)) (by funext q; unfold mo_w g_u; split; rename_i hq; rw [hq]; exact k7; rfl) ?_
        refine g_lv [0, 1, 2, 3, 4] rfl (L_MO_change hR2 hB hIn hd X ?_ nc 0 (by omega))
        exact g_iload_n X d_MO_change_116 1 rfl (g_iret X rfl (Or.inr ⟨dd, hx3, hd, rfl, rfl, mo_w_R hR2 hIn _, fun q hq => (g_u_n (hq 7 (by decide))).trans (g_u_n (hq 0 (by decide)))⟩) (Nat.le_of_ble_eq_true rfl) (Nat.le_of_ble_eq_true rfl) d_MO_change_117)
      · skip
        exact absurd c27 (by decide)
  refine g_aload_n X d_MO_change_0 0 rfl ?_
  refine g_iload_n X d_MO_change_1 1 rfl ?_
  refine g_iconst (v := 0) X d_MO_change_2 (by decide) ?_
  refine g_bipush (v := 29) X d_MO_change_3 (by decide) ?_
  refine g_callS (As := [.int x, .int 0, .int 29]) (rest := [.ref (bd 0)]) X (z_ok eA eM) (c_MO_in (f := f) (x := x) (a := 0) (b := 29)) v_MO_in q_667 q_666 rfl rfl (Nat.le_of_ble_eq_true rfl) d_MO_change_5 ⟨(Nat.le_of_ble_eq_true rfl), (Nat.le_of_ble_eq_true rfl)⟩ ⟨(Nat.le_of_ble_eq_true rfl), (Nat.le_of_ble_eq_true rfl)⟩ (g_K.no (fun _ h => h)) (fun r_ f2_ hp => ?_)
  obtain ⟨rfl, hf_⟩ := hp
  subst f2_
  refine g_st (st2 := [.int (bI (decide (¬ x < 0 ∧ x ≤ 29))), .ref (bd 0)]) rfl ?_
  refine g_if_eq X 22 d_MO_change_8 (by decide) (fun c8 => ?_) (fun c8 => ?_)
  · skip
    have hv8 : ¬ (inR x 30) := fun z => of_decide_eq_false (bI_z.mp c8) ((inR_iff (n := 30) (by decide)).mpr z)
    refine g_iconst (v := 0) X d_MO_change_22 (by decide) ?_
    exact kj false ⟨fun z => Bool.noConfusion z, fun z => absurd z.1 hv8⟩
  · skip
    have hv8 : inR x 30 := (inR_iff (n := 30) (by decide)).mp (of_decide_eq_true (bt_nf (fun z => c8 (bI_z.mpr z))))
    refine g_iload_n X d_MO_change_11 2 rfl ?_
    refine g_callS (As := [.int y]) (rest := [.ref (bd 0)]) X (z_ok eA eM) (c_MO_isDay (f := f) (x := y)) v_MO_isDay q_694 q_693 rfl rfl (Nat.le_of_ble_eq_true rfl) d_MO_change_12 ⟨(Nat.le_of_ble_eq_true rfl), (Nat.le_of_ble_eq_true rfl)⟩ ⟨(Nat.le_of_ble_eq_true rfl), (Nat.le_of_ble_eq_true rfl)⟩ (g_K.no (fun _ h => h)) (fun r_ f2_ hp => ?_)
    obtain ⟨⟨b15, hb15, rfl⟩, hf_⟩ := hp
    subst f2_
    refine g_st (st2 := [.int (bI b15), .ref (bd 0)]) rfl ?_
    refine g_if_eq X 22 d_MO_change_15 (by decide) (fun c15 => ?_) (fun c15 => ?_)
    · skip
      have hv15 : ¬ (inR y 100001) := fun z => by rw [bI_z.mp c15] at hb15; exact Bool.noConfusion (hb15.mpr z)
      refine g_iconst (v := 0) X d_MO_change_22 (by decide) ?_
      exact kj false ⟨fun z => Bool.noConfusion z, fun z => absurd z.2 hv15⟩
    · skip
      have hv15 : inR y 100001 := hb15.mp (bt_nf (fun z => c15 (bI_z.mpr z)))
      refine g_iconst (v := 1) X d_MO_change_18 (by decide) ?_
      refine g_goto X 23 d_MO_change_19 (by decide) ?_
      exact kj true ⟨fun _ => ⟨hv8, hv15⟩, fun _ => rfl⟩
/-- is the case c the fault of x and y -/
abbrev mtc (pt ot : Nat → Int32) (x y : Int32) (c : Nat) : Bool := decide ((pt c = x ∧ ot c = y) ∨ (pt c = y ∧ ot c = x))
theorem lx_true {p : Nat → Bool} : ∀ x, lx p x ≠ 0 → lx p x ≤ x ∧ p (lx p x - 1) = true ∧ ∀ e, lx p x ≤ e → e < x → p e = false
  | 0, h => absurd rfl h
  | x + 1, h => by
    unfold lx at h ⊢
    split
    · rename_i hp
      exact ⟨Nat.le_refl _, hp, fun e h1 h2 => absurd h2 (by omega)⟩
    · rename_i hp
      rw [if_neg hp] at h
      obtain ⟨h1, h2, h3⟩ := lx_true x h
      exact ⟨by omega, h2, fun e e1 e2 => by
        by_cases he : e = x
        · subst he; exact bt_nt hp
        · exact h3 e e1 (by omega)⟩
theorem lx_none {p : Nat → Bool} : ∀ x, lx p x = 0 → ∀ e, e < x → p e = false
  | 0, _, e, he => absurd he (by omega)
  | x + 1, h, e, he => by
    unfold lx at h
    split at h
    · exact absurd h (by omega)
    · rename_i hp
      by_cases h2 : e = x
      · subst h2; exact bt_nt hp
      · exact lx_none x h e (by omega)
theorem lx_false {p : Nat → Bool} : ∀ x, (∀ e, e < x → p e = false) → lx p x = 0
  | 0, _ => rfl
  | x + 1, h => by
    unfold lx
    rw [if_neg (by rw [h x (by omega)]; decide)]
    exact lx_false x (fun e he => h e (by omega))
set_option maxHeartbeats 4000000 in
set_option maxRecDepth 100000 in
theorem L_MO_fault {p : Program} {l : Launch} {e : Env} {s : State} {m : MethodId} {args : Array Value} {below : List Frame} {meth : Method} {c : Code} {Q : State → Prop} {A : Nat → Prop} {D : va_G} {cI cZ cO cJ : ClassId} {eA eM : Nat} {f : g_F} {bd : Nat → Nat} {th : Int32} {L nc : Nat} {pt ot : Nat → Int32} {n : Nat} {P Du S Wy tw ct PF DF : Nat → Nat} {GF : Nat → Bool} {pz pm : Nat} {O Le : Nat → Nat} {Sl : Nat → Bool} (hR : mo_R cI cZ f bd th L nc pt ot n P Du S Wy tw ct PF DF GF pz pm O Le Sl) (hB : mo_B L nc n P Du S Wy tw ct PF DF pz pm O Le) {x y : Int32} {b_ : Bool} (X : g_X p s m args meth c b_MO_fault 7 (some .int) g_T y_MO_fault.cls D g_cl (g_tys cI cZ cO cJ) A (z_Z eA eM)) (kk : g_W p l e { frames := 1, cells := 0, slots := 0, locals := 22 } s m args below meth c 7 D g_cl A f 0 0 Q 126 [(5, .int (nI nc)), (4, .int (fI (lx (fun c => b_ && mtc pt ot x y c) nc))), (3, .int (bI b_)), (0, .ref (bd 0)), (1, .int x), (2, .int y)] []) : ∀ (d : Nat) (i : Nat), (i + d = nc) → g_W p l e { frames := 1, cells := 0, slots := 0, locals := 22 } s m args below meth c 7 D g_cl A f 0 0 Q 42 [(5, .int (nI i)), (4, .int (fI (lx (fun c => b_ && mtc pt ot x y c) i))), (3, .int (bI b_)), (0, .ref (bd 0)), (1, .int x), (2, .int y)] [] := by
  obtain ⟨hM, h1, h2, h3, h4, h5, h6, h7, h8, h9, h10, h11, h12, h13, h14⟩ := id hR
  obtain ⟨⟨hL1, hL5⟩, hnc, hUB, htw, hct, hPF, hDF, ⟨hpz, hpm, hO8⟩, hLe⟩ := id hB
  obtain ⟨hn8, hP, hDu, hS, hWy⟩ := id hUB
  intro d
  induction d using Nat.strongRecOn with
  | _ d ih =>
    intro i hi
    refine g_iload X d_MO_fault_42 0 rfl ?_
    refine g_aload_n X d_MO_fault_44 3 rfl ?_
    refine g_get (ci := 5) (C := R_MO) (T := F_MO) (N := 20) (v := .int (nI nc)) X i_MO rfl hM 2 (by decide) q_599 (fun _ h9 => h9) rfl d_MO_fault_45 ?_
    refine g_icmp_ge X 126 d_MO_fault_48 (by decide) (fun c48 => ?_) (fun c48 => ?_)
    · skip
      have e : i = nc := by have := (nI_leI (by omega) (by omega)).mp c48; omega
      subst e
      exact kk
    · skip
      have hlt : i < nc := Nat.lt_of_not_le (fun z => c48 ((nI_leI (by omega) (by omega)).mpr z))
      refine g_aload_n X d_MO_fault_51 3 rfl ?_
      refine g_get (ci := 5) (C := R_MO) (T := F_MO) (N := 20) (v := .ref (bd 1)) X i_MO rfl hM 3 (by decide) q_600 (fun _ h9 => h9) rfl d_MO_fault_52 ?_
      refine g_iload X d_MO_fault_55 0 rfl ?_
      refine g_iald (t0 := 0) (v := pt i) X h1 rfl (nI_ix ((by omega : i < 24)) (by decide)) (nI_cl (g := pt) (Nat.lt_trans ((by omega : i < 24)) (by decide))) d_MO_fault_57 ?_
      refine g_iload_n X d_MO_fault_58 4 rfl ?_
      refine g_icmp_ne X 73 d_MO_fault_59 (by decide) (fun c59 => ?_) (fun c59 => ?_)
      · skip
        refine g_aload_n X d_MO_fault_73 3 rfl ?_
        refine g_get (ci := 5) (C := R_MO) (T := F_MO) (N := 20) (v := .ref (bd 1)) X i_MO rfl hM 3 (by decide) q_600 (fun _ h9 => h9) rfl d_MO_fault_74 ?_
        refine g_iload X d_MO_fault_77 0 rfl ?_
        refine g_iald (t0 := 0) (v := pt i) X h1 rfl (nI_ix ((by omega : i < 24)) (by decide)) (nI_cl (g := pt) (Nat.lt_trans ((by omega : i < 24)) (by decide))) d_MO_fault_79 ?_
        refine g_iload_n X d_MO_fault_80 5 rfl ?_
        refine g_icmp_ne X 99 d_MO_fault_81 (by decide) (fun c81 => ?_) (fun c81 => ?_)
        · skip
          refine g_iconst (v := 0) X d_MO_fault_99 (by decide) ?_
          have hs9 : mtc pt ot x y i = false := decide_eq_false (fun z => by
            rcases z with ⟨z1, z2⟩ | ⟨z1, z2⟩
            · first | exact c59 z1 | exact c70 z2
            · first | exact c81 z1 | exact c92 z2)
          refine g_istore (lv' := [(6, .int 0), (5, .int (nI i)), (4, .int (fI (lx (fun c => b_ && mtc pt ot x y c) i))), (3, .int (bI b_)), (0, .ref (bd 0)), (1, .int x), (2, .int y)]) X d_MO_fault_100 (by decide) rfl ?_
          refine g_iload_n X d_MO_fault_102 3 rfl ?_
          refine g_if_eq X 116 d_MO_fault_103 (by decide) (fun c103 => ?_) (fun c103 => ?_)
          · skip
            refine g_iload X d_MO_fault_116 2 rfl ?_
            refine g_eqi (y := fI (lx (fun c => b_ && mtc pt ot x y c) (i + 1))) (by rw [show lx (fun c => b_ && mtc pt ot x y c) (i + 1) = lx (fun c => b_ && mtc pt ot x y c) i from if_neg (by show ¬ (b_ && mtc pt ot x y i) = true; first | (rw [bI_z.mp c103, Bool.false_and]; decide) | (rw [hs9, Bool.and_false]; decide))]) ?_
            refine g_istore (lv' := [(4, .int (fI (lx (fun c => b_ && mtc pt ot x y c) (i + 1)))), (6, .int 0), (5, .int (nI i)), (3, .int (bI b_)), (0, .ref (bd 0)), (1, .int x), (2, .int y)]) X d_MO_fault_118 (by decide) rfl ?_
            refine g_iinc (lv' := [(5, .int (nI (i + 1))), (4, .int (fI (lx (fun c => b_ && mtc pt ot x y c) (i + 1)))), (6, .int 0), (3, .int (bI b_)), (0, .ref (bd 0)), (1, .int x), (2, .int y)]) X d_MO_fault_120 2 rfl (nI_1 i) (by decide) rfl ?_
            refine g_goto X 42 d_MO_fault_123 (by decide) ?_
            exact g_lv [0, 1, 3, 4, 5, 6] rfl (ih (d - 1) (by omega) (i + 1) (by omega))
          · skip
            refine g_iload X d_MO_fault_106 0 rfl ?_
            refine g_if_eq X 116 d_MO_fault_108 (by decide) (fun c108 => ?_) (fun c108 => ?_)
            · skip
              skip
              refine g_iload X d_MO_fault_116 2 rfl ?_
              refine g_eqi (y := fI (lx (fun c => b_ && mtc pt ot x y c) (i + 1))) (by rw [show lx (fun c => b_ && mtc pt ot x y c) (i + 1) = lx (fun c => b_ && mtc pt ot x y c) i from if_neg (by show ¬ (b_ && mtc pt ot x y i) = true; first | (rw [bI_z.mp c103, Bool.false_and]; decide) | (rw [hs9, Bool.and_false]; decide))]) ?_
              refine g_istore (lv' := [(4, .int (fI (lx (fun c => b_ && mtc pt ot x y c) (i + 1)))), (6, .int 0), (5, .int (nI i)), (3, .int (bI b_)), (0, .ref (bd 0)), (1, .int x), (2, .int y)]) X d_MO_fault_118 (by decide) rfl ?_
              refine g_iinc (lv' := [(5, .int (nI (i + 1))), (4, .int (fI (lx (fun c => b_ && mtc pt ot x y c) (i + 1)))), (6, .int 0), (3, .int (bI b_)), (0, .ref (bd 0)), (1, .int x), (2, .int y)]) X d_MO_fault_120 2 rfl (nI_1 i) (by decide) rfl ?_
              refine g_goto X 42 d_MO_fault_123 (by decide) ?_
              exact g_lv [0, 1, 3, 4, 5, 6] rfl (ih (d - 1) (by omega) (i + 1) (by omega))
            · skip
              exact absurd rfl c108
        · skip
          refine g_aload_n X d_MO_fault_84 3 rfl ?_
          refine g_get (ci := 5) (C := R_MO) (T := F_MO) (N := 20) (v := .ref (bd 2)) X i_MO rfl hM 4 (by decide) q_601 (fun _ h9 => h9) rfl d_MO_fault_85 ?_
          refine g_iload X d_MO_fault_88 0 rfl ?_
          refine g_iald (t0 := 0) (v := ot i) X h2 rfl (nI_ix ((by omega : i < 24)) (by decide)) (nI_cl (g := ot) (Nat.lt_trans ((by omega : i < 24)) (by decide))) d_MO_fault_90 ?_
          refine g_iload_n X d_MO_fault_91 4 rfl ?_
          refine g_icmp_ne X 99 d_MO_fault_92 (by decide) (fun c92 => ?_) (fun c92 => ?_)
          · skip
            refine g_iconst (v := 0) X d_MO_fault_99 (by decide) ?_
            have hs9 : mtc pt ot x y i = false := decide_eq_false (fun z => by
              rcases z with ⟨z1, z2⟩ | ⟨z1, z2⟩
              · first | exact c59 z1 | exact c70 z2
              · first | exact c81 z1 | exact c92 z2)
            refine g_istore (lv' := [(6, .int 0), (5, .int (nI i)), (4, .int (fI (lx (fun c => b_ && mtc pt ot x y c) i))), (3, .int (bI b_)), (0, .ref (bd 0)), (1, .int x), (2, .int y)]) X d_MO_fault_100 (by decide) rfl ?_
            refine g_iload_n X d_MO_fault_102 3 rfl ?_
            refine g_if_eq X 116 d_MO_fault_103 (by decide) (fun c103 => ?_) (fun c103 => ?_)
            · skip
              refine g_iload X d_MO_fault_116 2 rfl ?_
              refine g_eqi (y := fI (lx (fun c => b_ && mtc pt ot x y c) (i + 1))) (by rw [show lx (fun c => b_ && mtc pt ot x y c) (i + 1) = lx (fun c => b_ && mtc pt ot x y c) i from if_neg (by show ¬ (b_ && mtc pt ot x y i) = true; first | (rw [bI_z.mp c103, Bool.false_and]; decide) | (rw [hs9, Bool.and_false]; decide))]) ?_
              refine g_istore (lv' := [(4, .int (fI (lx (fun c => b_ && mtc pt ot x y c) (i + 1)))), (6, .int 0), (5, .int (nI i)), (3, .int (bI b_)), (0, .ref (bd 0)), (1, .int x), (2, .int y)]) X d_MO_fault_118 (by decide) rfl ?_
              refine g_iinc (lv' := [(5, .int (nI (i + 1))), (4, .int (fI (lx (fun c => b_ && mtc pt ot x y c) (i + 1)))), (6, .int 0), (3, .int (bI b_)), (0, .ref (bd 0)), (1, .int x), (2, .int y)]) X d_MO_fault_120 2 rfl (nI_1 i) (by decide) rfl ?_
              refine g_goto X 42 d_MO_fault_123 (by decide) ?_
              exact g_lv [0, 1, 3, 4, 5, 6] rfl (ih (d - 1) (by omega) (i + 1) (by omega))
            · skip
              refine g_iload X d_MO_fault_106 0 rfl ?_
              refine g_if_eq X 116 d_MO_fault_108 (by decide) (fun c108 => ?_) (fun c108 => ?_)
              · skip
                skip
                refine g_iload X d_MO_fault_116 2 rfl ?_
                refine g_eqi (y := fI (lx (fun c => b_ && mtc pt ot x y c) (i + 1))) (by rw [show lx (fun c => b_ && mtc pt ot x y c) (i + 1) = lx (fun c => b_ && mtc pt ot x y c) i from if_neg (by show ¬ (b_ && mtc pt ot x y i) = true; first | (rw [bI_z.mp c103, Bool.false_and]; decide) | (rw [hs9, Bool.and_false]; decide))]) ?_
                refine g_istore (lv' := [(4, .int (fI (lx (fun c => b_ && mtc pt ot x y c) (i + 1)))), (6, .int 0), (5, .int (nI i)), (3, .int (bI b_)), (0, .ref (bd 0)), (1, .int x), (2, .int y)]) X d_MO_fault_118 (by decide) rfl ?_
                refine g_iinc (lv' := [(5, .int (nI (i + 1))), (4, .int (fI (lx (fun c => b_ && mtc pt ot x y c) (i + 1)))), (6, .int 0), (3, .int (bI b_)), (0, .ref (bd 0)), (1, .int x), (2, .int y)]) X d_MO_fault_120 2 rfl (nI_1 i) (by decide) rfl ?_
                refine g_goto X 42 d_MO_fault_123 (by decide) ?_
                exact g_lv [0, 1, 3, 4, 5, 6] rfl (ih (d - 1) (by omega) (i + 1) (by omega))
              · skip
                exact absurd rfl c108
          · skip
            refine g_iconst (v := 1) X d_MO_fault_95 (by decide) ?_
            refine g_goto X 100 d_MO_fault_96 (by decide) ?_
            have hs9 : mtc pt ot x y i = true := decide_eq_true (by first | exact Or.inl ⟨c59, c70⟩ | exact Or.inr ⟨c81, c92⟩)
            refine g_istore (lv' := [(6, .int 1), (5, .int (nI i)), (4, .int (fI (lx (fun c => b_ && mtc pt ot x y c) i))), (3, .int (bI b_)), (0, .ref (bd 0)), (1, .int x), (2, .int y)]) X d_MO_fault_100 (by decide) rfl ?_
            refine g_iload_n X d_MO_fault_102 3 rfl ?_
            refine g_if_eq X 116 d_MO_fault_103 (by decide) (fun c103 => ?_) (fun c103 => ?_)
            · skip
              refine g_iload X d_MO_fault_116 2 rfl ?_
              refine g_eqi (y := fI (lx (fun c => b_ && mtc pt ot x y c) (i + 1))) (by rw [show lx (fun c => b_ && mtc pt ot x y c) (i + 1) = lx (fun c => b_ && mtc pt ot x y c) i from if_neg (by show ¬ (b_ && mtc pt ot x y i) = true; first | (rw [bI_z.mp c103, Bool.false_and]; decide) | (rw [hs9, Bool.and_false]; decide))]) ?_
              refine g_istore (lv' := [(4, .int (fI (lx (fun c => b_ && mtc pt ot x y c) (i + 1)))), (6, .int 1), (5, .int (nI i)), (3, .int (bI b_)), (0, .ref (bd 0)), (1, .int x), (2, .int y)]) X d_MO_fault_118 (by decide) rfl ?_
              refine g_iinc (lv' := [(5, .int (nI (i + 1))), (4, .int (fI (lx (fun c => b_ && mtc pt ot x y c) (i + 1)))), (6, .int 1), (3, .int (bI b_)), (0, .ref (bd 0)), (1, .int x), (2, .int y)]) X d_MO_fault_120 2 rfl (nI_1 i) (by decide) rfl ?_
              refine g_goto X 42 d_MO_fault_123 (by decide) ?_
              exact g_lv [0, 1, 3, 4, 5, 6] rfl (ih (d - 1) (by omega) (i + 1) (by omega))
            · skip
              refine g_iload X d_MO_fault_106 0 rfl ?_
              refine g_if_eq X 116 d_MO_fault_108 (by decide) (fun c108 => ?_) (fun c108 => ?_)
              · skip
                exact absurd c108 (by decide)
              · skip
                skip
                refine g_iload X d_MO_fault_111 1 rfl ?_
                refine g_goto X 118 d_MO_fault_113 (by decide) ?_
                refine g_eqi (y := fI (lx (fun c => b_ && mtc pt ot x y c) (i + 1))) (by rw [show lx (fun c => b_ && mtc pt ot x y c) (i + 1) = i + 1 from if_pos (by show (b_ && mtc pt ot x y i) = true; rw [bt_nf (fun z => c103 (bI_z.mpr z)), Bool.true_and]; exact hs9), fI_s]) ?_
                refine g_istore (lv' := [(4, .int (fI (lx (fun c => b_ && mtc pt ot x y c) (i + 1)))), (6, .int 1), (5, .int (nI i)), (3, .int (bI b_)), (0, .ref (bd 0)), (1, .int x), (2, .int y)]) X d_MO_fault_118 (by decide) rfl ?_
                refine g_iinc (lv' := [(5, .int (nI (i + 1))), (4, .int (fI (lx (fun c => b_ && mtc pt ot x y c) (i + 1)))), (6, .int 1), (3, .int (bI b_)), (0, .ref (bd 0)), (1, .int x), (2, .int y)]) X d_MO_fault_120 2 rfl (nI_1 i) (by decide) rfl ?_
                refine g_goto X 42 d_MO_fault_123 (by decide) ?_
                exact g_lv [0, 1, 3, 4, 5, 6] rfl (ih (d - 1) (by omega) (i + 1) (by omega))
      · skip
        refine g_aload_n X d_MO_fault_62 3 rfl ?_
        refine g_get (ci := 5) (C := R_MO) (T := F_MO) (N := 20) (v := .ref (bd 2)) X i_MO rfl hM 4 (by decide) q_601 (fun _ h9 => h9) rfl d_MO_fault_63 ?_
        refine g_iload X d_MO_fault_66 0 rfl ?_
        refine g_iald (t0 := 0) (v := ot i) X h2 rfl (nI_ix ((by omega : i < 24)) (by decide)) (nI_cl (g := ot) (Nat.lt_trans ((by omega : i < 24)) (by decide))) d_MO_fault_68 ?_
        refine g_iload_n X d_MO_fault_69 5 rfl ?_
        refine g_icmp_eq X 95 d_MO_fault_70 (by decide) (fun c70 => ?_) (fun c70 => ?_)
        · skip
          refine g_iconst (v := 1) X d_MO_fault_95 (by decide) ?_
          refine g_goto X 100 d_MO_fault_96 (by decide) ?_
          have hs9 : mtc pt ot x y i = true := decide_eq_true (by first | exact Or.inl ⟨c59, c70⟩ | exact Or.inr ⟨c81, c92⟩)
          refine g_istore (lv' := [(6, .int 1), (5, .int (nI i)), (4, .int (fI (lx (fun c => b_ && mtc pt ot x y c) i))), (3, .int (bI b_)), (0, .ref (bd 0)), (1, .int x), (2, .int y)]) X d_MO_fault_100 (by decide) rfl ?_
          refine g_iload_n X d_MO_fault_102 3 rfl ?_
          refine g_if_eq X 116 d_MO_fault_103 (by decide) (fun c103 => ?_) (fun c103 => ?_)
          · skip
            refine g_iload X d_MO_fault_116 2 rfl ?_
            refine g_eqi (y := fI (lx (fun c => b_ && mtc pt ot x y c) (i + 1))) (by rw [show lx (fun c => b_ && mtc pt ot x y c) (i + 1) = lx (fun c => b_ && mtc pt ot x y c) i from if_neg (by show ¬ (b_ && mtc pt ot x y i) = true; first | (rw [bI_z.mp c103, Bool.false_and]; decide) | (rw [hs9, Bool.and_false]; decide))]) ?_
            refine g_istore (lv' := [(4, .int (fI (lx (fun c => b_ && mtc pt ot x y c) (i + 1)))), (6, .int 1), (5, .int (nI i)), (3, .int (bI b_)), (0, .ref (bd 0)), (1, .int x), (2, .int y)]) X d_MO_fault_118 (by decide) rfl ?_
            refine g_iinc (lv' := [(5, .int (nI (i + 1))), (4, .int (fI (lx (fun c => b_ && mtc pt ot x y c) (i + 1)))), (6, .int 1), (3, .int (bI b_)), (0, .ref (bd 0)), (1, .int x), (2, .int y)]) X d_MO_fault_120 2 rfl (nI_1 i) (by decide) rfl ?_
            refine g_goto X 42 d_MO_fault_123 (by decide) ?_
            exact g_lv [0, 1, 3, 4, 5, 6] rfl (ih (d - 1) (by omega) (i + 1) (by omega))
          · skip
            refine g_iload X d_MO_fault_106 0 rfl ?_
            refine g_if_eq X 116 d_MO_fault_108 (by decide) (fun c108 => ?_) (fun c108 => ?_)
            · skip
              exact absurd c108 (by decide)
            · skip
              skip
              refine g_iload X d_MO_fault_111 1 rfl ?_
              refine g_goto X 118 d_MO_fault_113 (by decide) ?_
              refine g_eqi (y := fI (lx (fun c => b_ && mtc pt ot x y c) (i + 1))) (by rw [show lx (fun c => b_ && mtc pt ot x y c) (i + 1) = i + 1 from if_pos (by show (b_ && mtc pt ot x y i) = true; rw [bt_nf (fun z => c103 (bI_z.mpr z)), Bool.true_and]; exact hs9), fI_s]) ?_
              refine g_istore (lv' := [(4, .int (fI (lx (fun c => b_ && mtc pt ot x y c) (i + 1)))), (6, .int 1), (5, .int (nI i)), (3, .int (bI b_)), (0, .ref (bd 0)), (1, .int x), (2, .int y)]) X d_MO_fault_118 (by decide) rfl ?_
              refine g_iinc (lv' := [(5, .int (nI (i + 1))), (4, .int (fI (lx (fun c => b_ && mtc pt ot x y c) (i + 1)))), (6, .int 1), (3, .int (bI b_)), (0, .ref (bd 0)), (1, .int x), (2, .int y)]) X d_MO_fault_120 2 rfl (nI_1 i) (by decide) rfl ?_
              refine g_goto X 42 d_MO_fault_123 (by decide) ?_
              exact g_lv [0, 1, 3, 4, 5, 6] rfl (ih (d - 1) (by omega) (i + 1) (by omega))
        · skip
          refine g_aload_n X d_MO_fault_73 3 rfl ?_
          refine g_get (ci := 5) (C := R_MO) (T := F_MO) (N := 20) (v := .ref (bd 1)) X i_MO rfl hM 3 (by decide) q_600 (fun _ h9 => h9) rfl d_MO_fault_74 ?_
          refine g_iload X d_MO_fault_77 0 rfl ?_
          refine g_iald (t0 := 0) (v := pt i) X h1 rfl (nI_ix ((by omega : i < 24)) (by decide)) (nI_cl (g := pt) (Nat.lt_trans ((by omega : i < 24)) (by decide))) d_MO_fault_79 ?_
          refine g_iload_n X d_MO_fault_80 5 rfl ?_
          refine g_icmp_ne X 99 d_MO_fault_81 (by decide) (fun c81 => ?_) (fun c81 => ?_)
          · skip
            refine g_iconst (v := 0) X d_MO_fault_99 (by decide) ?_
            have hs9 : mtc pt ot x y i = false := decide_eq_false (fun z => by
              rcases z with ⟨z1, z2⟩ | ⟨z1, z2⟩
              · first | exact c59 z1 | exact c70 z2
              · first | exact c81 z1 | exact c92 z2)
            refine g_istore (lv' := [(6, .int 0), (5, .int (nI i)), (4, .int (fI (lx (fun c => b_ && mtc pt ot x y c) i))), (3, .int (bI b_)), (0, .ref (bd 0)), (1, .int x), (2, .int y)]) X d_MO_fault_100 (by decide) rfl ?_
            refine g_iload_n X d_MO_fault_102 3 rfl ?_
            refine g_if_eq X 116 d_MO_fault_103 (by decide) (fun c103 => ?_) (fun c103 => ?_)
            · skip
              refine g_iload X d_MO_fault_116 2 rfl ?_
              refine g_eqi (y := fI (lx (fun c => b_ && mtc pt ot x y c) (i + 1))) (by rw [show lx (fun c => b_ && mtc pt ot x y c) (i + 1) = lx (fun c => b_ && mtc pt ot x y c) i from if_neg (by show ¬ (b_ && mtc pt ot x y i) = true; first | (rw [bI_z.mp c103, Bool.false_and]; decide) | (rw [hs9, Bool.and_false]; decide))]) ?_
              refine g_istore (lv' := [(4, .int (fI (lx (fun c => b_ && mtc pt ot x y c) (i + 1)))), (6, .int 0), (5, .int (nI i)), (3, .int (bI b_)), (0, .ref (bd 0)), (1, .int x), (2, .int y)]) X d_MO_fault_118 (by decide) rfl ?_
              refine g_iinc (lv' := [(5, .int (nI (i + 1))), (4, .int (fI (lx (fun c => b_ && mtc pt ot x y c) (i + 1)))), (6, .int 0), (3, .int (bI b_)), (0, .ref (bd 0)), (1, .int x), (2, .int y)]) X d_MO_fault_120 2 rfl (nI_1 i) (by decide) rfl ?_
              refine g_goto X 42 d_MO_fault_123 (by decide) ?_
              exact g_lv [0, 1, 3, 4, 5, 6] rfl (ih (d - 1) (by omega) (i + 1) (by omega))
            · skip
              refine g_iload X d_MO_fault_106 0 rfl ?_
              refine g_if_eq X 116 d_MO_fault_108 (by decide) (fun c108 => ?_) (fun c108 => ?_)
              · skip
                skip
                refine g_iload X d_MO_fault_116 2 rfl ?_
                refine g_eqi (y := fI (lx (fun c => b_ && mtc pt ot x y c) (i + 1))) (by rw [show lx (fun c => b_ && mtc pt ot x y c) (i + 1) = lx (fun c => b_ && mtc pt ot x y c) i from if_neg (by show ¬ (b_ && mtc pt ot x y i) = true; first | (rw [bI_z.mp c103, Bool.false_and]; decide) | (rw [hs9, Bool.and_false]; decide))]) ?_
                refine g_istore (lv' := [(4, .int (fI (lx (fun c => b_ && mtc pt ot x y c) (i + 1)))), (6, .int 0), (5, .int (nI i)), (3, .int (bI b_)), (0, .ref (bd 0)), (1, .int x), (2, .int y)]) X d_MO_fault_118 (by decide) rfl ?_
                refine g_iinc (lv' := [(5, .int (nI (i + 1))), (4, .int (fI (lx (fun c => b_ && mtc pt ot x y c) (i + 1)))), (6, .int 0), (3, .int (bI b_)), (0, .ref (bd 0)), (1, .int x), (2, .int y)]) X d_MO_fault_120 2 rfl (nI_1 i) (by decide) rfl ?_
                refine g_goto X 42 d_MO_fault_123 (by decide) ?_
                exact g_lv [0, 1, 3, 4, 5, 6] rfl (ih (d - 1) (by omega) (i + 1) (by omega))
              · skip
                exact absurd rfl c108
          · skip
            refine g_aload_n X d_MO_fault_84 3 rfl ?_
            refine g_get (ci := 5) (C := R_MO) (T := F_MO) (N := 20) (v := .ref (bd 2)) X i_MO rfl hM 4 (by decide) q_601 (fun _ h9 => h9) rfl d_MO_fault_85 ?_
            refine g_iload X d_MO_fault_88 0 rfl ?_
            refine g_iald (t0 := 0) (v := ot i) X h2 rfl (nI_ix ((by omega : i < 24)) (by decide)) (nI_cl (g := ot) (Nat.lt_trans ((by omega : i < 24)) (by decide))) d_MO_fault_90 ?_
            refine g_iload_n X d_MO_fault_91 4 rfl ?_
            refine g_icmp_ne X 99 d_MO_fault_92 (by decide) (fun c92 => ?_) (fun c92 => ?_)
            · skip
              refine g_iconst (v := 0) X d_MO_fault_99 (by decide) ?_
              have hs9 : mtc pt ot x y i = false := decide_eq_false (fun z => by
                rcases z with ⟨z1, z2⟩ | ⟨z1, z2⟩
                · first | exact c59 z1 | exact c70 z2
                · first | exact c81 z1 | exact c92 z2)
              refine g_istore (lv' := [(6, .int 0), (5, .int (nI i)), (4, .int (fI (lx (fun c => b_ && mtc pt ot x y c) i))), (3, .int (bI b_)), (0, .ref (bd 0)), (1, .int x), (2, .int y)]) X d_MO_fault_100 (by decide) rfl ?_
              refine g_iload_n X d_MO_fault_102 3 rfl ?_
              refine g_if_eq X 116 d_MO_fault_103 (by decide) (fun c103 => ?_) (fun c103 => ?_)
              · skip
                refine g_iload X d_MO_fault_116 2 rfl ?_
                refine g_eqi (y := fI (lx (fun c => b_ && mtc pt ot x y c) (i + 1))) (by rw [show lx (fun c => b_ && mtc pt ot x y c) (i + 1) = lx (fun c => b_ && mtc pt ot x y c) i from if_neg (by show ¬ (b_ && mtc pt ot x y i) = true; first | (rw [bI_z.mp c103, Bool.false_and]; decide) | (rw [hs9, Bool.and_false]; decide))]) ?_
                refine g_istore (lv' := [(4, .int (fI (lx (fun c => b_ && mtc pt ot x y c) (i + 1)))), (6, .int 0), (5, .int (nI i)), (3, .int (bI b_)), (0, .ref (bd 0)), (1, .int x), (2, .int y)]) X d_MO_fault_118 (by decide) rfl ?_
                refine g_iinc (lv' := [(5, .int (nI (i + 1))), (4, .int (fI (lx (fun c => b_ && mtc pt ot x y c) (i + 1)))), (6, .int 0), (3, .int (bI b_)), (0, .ref (bd 0)), (1, .int x), (2, .int y)]) X d_MO_fault_120 2 rfl (nI_1 i) (by decide) rfl ?_
                refine g_goto X 42 d_MO_fault_123 (by decide) ?_
                exact g_lv [0, 1, 3, 4, 5, 6] rfl (ih (d - 1) (by omega) (i + 1) (by omega))
              · skip
                refine g_iload X d_MO_fault_106 0 rfl ?_
                refine g_if_eq X 116 d_MO_fault_108 (by decide) (fun c108 => ?_) (fun c108 => ?_)
                · skip
                  skip
                  refine g_iload X d_MO_fault_116 2 rfl ?_
                  refine g_eqi (y := fI (lx (fun c => b_ && mtc pt ot x y c) (i + 1))) (by rw [show lx (fun c => b_ && mtc pt ot x y c) (i + 1) = lx (fun c => b_ && mtc pt ot x y c) i from if_neg (by show ¬ (b_ && mtc pt ot x y i) = true; first | (rw [bI_z.mp c103, Bool.false_and]; decide) | (rw [hs9, Bool.and_false]; decide))]) ?_
                  refine g_istore (lv' := [(4, .int (fI (lx (fun c => b_ && mtc pt ot x y c) (i + 1)))), (6, .int 0), (5, .int (nI i)), (3, .int (bI b_)), (0, .ref (bd 0)), (1, .int x), (2, .int y)]) X d_MO_fault_118 (by decide) rfl ?_
                  refine g_iinc (lv' := [(5, .int (nI (i + 1))), (4, .int (fI (lx (fun c => b_ && mtc pt ot x y c) (i + 1)))), (6, .int 0), (3, .int (bI b_)), (0, .ref (bd 0)), (1, .int x), (2, .int y)]) X d_MO_fault_120 2 rfl (nI_1 i) (by decide) rfl ?_
                  refine g_goto X 42 d_MO_fault_123 (by decide) ?_
                  exact g_lv [0, 1, 3, 4, 5, 6] rfl (ih (d - 1) (by omega) (i + 1) (by omega))
                · skip
                  exact absurd rfl c108
            · skip
              refine g_iconst (v := 1) X d_MO_fault_95 (by decide) ?_
              refine g_goto X 100 d_MO_fault_96 (by decide) ?_
              have hs9 : mtc pt ot x y i = true := decide_eq_true (by first | exact Or.inl ⟨c59, c70⟩ | exact Or.inr ⟨c81, c92⟩)
              refine g_istore (lv' := [(6, .int 1), (5, .int (nI i)), (4, .int (fI (lx (fun c => b_ && mtc pt ot x y c) i))), (3, .int (bI b_)), (0, .ref (bd 0)), (1, .int x), (2, .int y)]) X d_MO_fault_100 (by decide) rfl ?_
              refine g_iload_n X d_MO_fault_102 3 rfl ?_
              refine g_if_eq X 116 d_MO_fault_103 (by decide) (fun c103 => ?_) (fun c103 => ?_)
              · skip
                refine g_iload X d_MO_fault_116 2 rfl ?_
                refine g_eqi (y := fI (lx (fun c => b_ && mtc pt ot x y c) (i + 1))) (by rw [show lx (fun c => b_ && mtc pt ot x y c) (i + 1) = lx (fun c => b_ && mtc pt ot x y c) i from if_neg (by show ¬ (b_ && mtc pt ot x y i) = true; first | (rw [bI_z.mp c103, Bool.false_and]; decide) | (rw [hs9, Bool.and_false]; decide))]) ?_
                refine g_istore (lv' := [(4, .int (fI (lx (fun c => b_ && mtc pt ot x y c) (i + 1)))), (6, .int 1), (5, .int (nI i)), (3, .int (bI b_)), (0, .ref (bd 0)), (1, .int x), (2, .int y)]) X d_MO_fault_118 (by decide) rfl ?_
                refine g_iinc (lv' := [(5, .int (nI (i + 1))), (4, .int (fI (lx (fun c => b_ && mtc pt ot x y c) (i + 1)))), (6, .int 1), (3, .int (bI b_)), (0, .ref (bd 0)), (1, .int x), (2, .int y)]) X d_MO_fault_120 2 rfl (nI_1 i) (by decide) rfl ?_
                refine g_goto X 42 d_MO_fault_123 (by decide) ?_
                exact g_lv [0, 1, 3, 4, 5, 6] rfl (ih (d - 1) (by omega) (i + 1) (by omega))
              · skip
                refine g_iload X d_MO_fault_106 0 rfl ?_
                refine g_if_eq X 116 d_MO_fault_108 (by decide) (fun c108 => ?_) (fun c108 => ?_)
                · skip
                  exact absurd c108 (by decide)
                · skip
                  skip
                  refine g_iload X d_MO_fault_111 1 rfl ?_
                  refine g_goto X 118 d_MO_fault_113 (by decide) ?_
                  refine g_eqi (y := fI (lx (fun c => b_ && mtc pt ot x y c) (i + 1))) (by rw [show lx (fun c => b_ && mtc pt ot x y c) (i + 1) = i + 1 from if_pos (by show (b_ && mtc pt ot x y i) = true; rw [bt_nf (fun z => c103 (bI_z.mpr z)), Bool.true_and]; exact hs9), fI_s]) ?_
                  refine g_istore (lv' := [(4, .int (fI (lx (fun c => b_ && mtc pt ot x y c) (i + 1)))), (6, .int 1), (5, .int (nI i)), (3, .int (bI b_)), (0, .ref (bd 0)), (1, .int x), (2, .int y)]) X d_MO_fault_118 (by decide) rfl ?_
                  refine g_iinc (lv' := [(5, .int (nI (i + 1))), (4, .int (fI (lx (fun c => b_ && mtc pt ot x y c) (i + 1)))), (6, .int 1), (3, .int (bI b_)), (0, .ref (bd 0)), (1, .int x), (2, .int y)]) X d_MO_fault_120 2 rfl (nI_1 i) (by decide) rfl ?_
                  refine g_goto X 42 d_MO_fault_123 (by decide) ?_
                  exact g_lv [0, 1, 3, 4, 5, 6] rfl (ih (d - 1) (by omega) (i + 1) (by omega))
theorem upd_XI {g : Nat → Int32} {j : Nat} {x : Int32} (h : j < 2 ^ 31) : upd g (nI j).toNatClampNeg x = va_up g j x := by
  rw [nI_clamp h]
  funext q
  unfold upd va_up
  rfl
set_option maxHeartbeats 4000000 in
set_option maxRecDepth 100000 in
theorem c_MO_fault {l : Launch} {D : va_G} {cI cZ cO cJ : ClassId} {eA eM : Nat} {f : g_F} {bd : Nat → Nat} {th : Int32} {L nc : Nat} {pt ot : Nat → Int32} {n : Nat} {P Du S Wy tw ct PF DF : Nat → Nat} {GF : Nat → Bool} {pz pm : Nat} {O Le : Nat → Nat} {Sl : Nat → Bool} (hR : mo_R cI cZ f bd th L nc pt ot n P Du S Wy tw ct PF DF GF pz pm O Le Sl) (hB : mo_B L nc n P Du S Wy tw ct PF DF pz pm O Le) (hIn : ∀ i j, i < 15 → j < 15 → bd i = bd j → i = j) {x y : Int32} : g_C l y_MO_fault b_MO_fault 7 (some .int) { frames := 1, cells := 0, slots := 0, locals := 22 } D g_cl (g_tys cI cZ cO cJ) (z_Z eA eM) [.ref (bd 0), .int x, .int y] f (fun r f2 => (¬ (inR x 30 ∧ (y = -1 ∨ inR y 30) ∧ ¬ x = y) ∧ r = some (.int 0) ∧ f2 = (m_th f bd 1 L nc n pz pm)) ∨ ((inR x 30 ∧ (y = -1 ∨ inR y 30) ∧ ¬ x = y) ∧ lx (fun c => mtc pt ot x y c) nc = 0 ∧ ¬ nc < 24 ∧ r = some (.int 0) ∧ f2 = (m_th f bd 2 L nc n pz pm)) ∨ ((inR x 30 ∧ (y = -1 ∨ inR y 30) ∧ ¬ x = y) ∧ lx (fun c => mtc pt ot x y c) nc ≠ 0 ∧ r = some (.int (fI (lx (fun c => mtc pt ot x y c) nc))) ∧ f2 = (m_th f bd 0 L nc n pz pm)) ∨ ((inR x 30 ∧ (y = -1 ∨ inR y 30) ∧ ¬ x = y) ∧ lx (fun c => mtc pt ot x y c) nc = 0 ∧ nc < 24 ∧ r = some (.int (nI nc)) ∧ mo_R cI cZ f2 bd 0 L (nc + 1) (va_up pt nc x) (va_up ot nc y) n P Du S Wy tw (va_up ct nc 0) PF DF GF pz pm O Le Sl ∧ m_fr bd f f2)) (fun _ => False) := by
  refine g_ofW [(0, .ref (bd 0)), (1, .int x), (2, .int y)] (by decide +kernel) (Nat.le_of_ble_eq_true rfl) rfl ?_
  intro p e s m args below meth c X ht hin
  obtain ⟨hM, h1, h2, h3, h4, h5, h6, h7, h8, h9, h10, h11, h12, h13, h14⟩ := id hR
  obtain ⟨⟨hL1, hL5⟩, hnc, hUB, htw, hct, hPF, hDF, ⟨hpz, hpm, hO8⟩, hLe⟩ := id hB
  obtain ⟨hn8, hP, hDu, hS, hWy⟩ := id hUB
  have kj : ∀ b_ : Bool, (b_ = true ↔ (inR x 30 ∧ (y = -1 ∨ inR y 30) ∧ ¬ x = y)) → g_W p l e { frames := 1, cells := 0, slots := 0, locals := 22 } s m args below meth c 7 D g_cl (g_A f s.heap.size) f 0 0 (g_End below D g_cl f (fun r f2 => (¬ (inR x 30 ∧ (y = -1 ∨ inR y 30) ∧ ¬ x = y) ∧ r = some (.int 0) ∧ f2 = (m_th f bd 1 L nc n pz pm)) ∨ ((inR x 30 ∧ (y = -1 ∨ inR y 30) ∧ ¬ x = y) ∧ lx (fun c => mtc pt ot x y c) nc = 0 ∧ ¬ nc < 24 ∧ r = some (.int 0) ∧ f2 = (m_th f bd 2 L nc n pz pm)) ∨ ((inR x 30 ∧ (y = -1 ∨ inR y 30) ∧ ¬ x = y) ∧ lx (fun c => mtc pt ot x y c) nc ≠ 0 ∧ r = some (.int (fI (lx (fun c => mtc pt ot x y c) nc))) ∧ f2 = (m_th f bd 0 L nc n pz pm)) ∨ ((inR x 30 ∧ (y = -1 ∨ inR y 30) ∧ ¬ x = y) ∧ lx (fun c => mtc pt ot x y c) nc = 0 ∧ nc < 24 ∧ r = some (.int (nI nc)) ∧ mo_R cI cZ f2 bd 0 L (nc + 1) (va_up pt nc x) (va_up ot nc y) n P Du S Wy tw (va_up ct nc 0) PF DF GF pz pm O Le Sl ∧ m_fr bd f f2)) (fun _ => False) args s { frames := 1, cells := 0, slots := 0, locals := 22 }) 35 [(0, .ref (bd 0)), (1, .int x), (2, .int y)] [.int (bI b_)] := by
    intro b_ hb_
    cases b_ with
    | false =>
      have hV : ¬ (inR x 30 ∧ (y = -1 ∨ inR y 30) ∧ ¬ x = y) := fun z => Bool.noConfusion (hb_.mpr z)
      refine g_istore_n (lv' := [(3, .int (bI false)), (0, .ref (bd 0)), (1, .int x), (2, .int y)]) X d_MO_fault_35 rfl (by decide) rfl ?_
      refine g_iconst (v := (-1)) X d_MO_fault_36 (by decide) ?_
      refine g_istore (lv' := [(4, .int (-1)), (3, .int (bI false)), (0, .ref (bd 0)), (1, .int x), (2, .int y)]) X d_MO_fault_37 (by decide) rfl ?_
      refine g_iconst (v := 0) X d_MO_fault_39 (by decide) ?_
      refine g_istore (lv' := [(5, .int 0), (4, .int (-1)), (3, .int (bI false)), (0, .ref (bd 0)), (1, .int x), (2, .int y)]) X d_MO_fault_40 (by decide) rfl ?_
      refine g_lv [0, 1, 2, 3, 4, 5] rfl (L_MO_fault hR hB (x := x) (y := y) (b_ := false) X ?_ nc 0 (by omega))
      refine g_aload_n X d_MO_fault_126 3 rfl ?_
      refine g_iload_n X d_MO_fault_127 2 rfl ?_
      refine g_iload X d_MO_fault_128 1 rfl ?_
      refine g_iconst (v := (-1)) X d_MO_fault_130 (by decide) ?_
      refine g_icmp_ne X 143 d_MO_fault_131 (by decide) (fun c131 => ?_) (fun c131 => ?_)
      · skip
        refine g_iconst (v := 1) X d_MO_fault_143 (by decide) ?_
        refine g_goto X 148 d_MO_fault_144 (by decide) ?_
        refine g_callV (ci := 5) (As := [.int (bI false), .int 1]) (rest := []) X (z_ok eA eM) rfl rfl hM (c_MO_goes hR hB (b1 := false) (b2 := true)) v_MO_goes q_671 q_s19 q_669 rfl rfl (Nat.le_of_ble_eq_true rfl) d_MO_fault_148 ⟨(Nat.le_of_ble_eq_true rfl), (Nat.le_of_ble_eq_true rfl)⟩ ⟨(Nat.le_of_ble_eq_true rfl), (Nat.le_of_ble_eq_true rfl)⟩ (g_K.no (fun _ h => h)) (fun r_ f2_ hp => ?_)
        obtain ⟨rfl, hf9_⟩ := hp
        have hf_ : f2_ = (m_th f bd 1 L nc n pz pm) := hf9_
        clear hf9_
        subst f2_
        refine g_st (st2 := [.int 0]) rfl ?_
        have hR2 := mo_th hR 1
        obtain ⟨hM2, k1, k2, k3, k4, k5, k6, k7, k8, k9, k10, k11, k12, k13, k14⟩ := id hR2
        refine g_if_ne X 156 d_MO_fault_151 (by decide) (fun c151 => ?_) (fun c151 => ?_)
        · skip
          exact absurd rfl c151
        · skip
          skip
          refine g_iconst (v := 0) X d_MO_fault_154 (by decide) ?_
          exact g_iret X rfl (Or.inl ⟨hV, rfl, rfl⟩) (Nat.le_of_ble_eq_true rfl) (Nat.le_of_ble_eq_true rfl) d_MO_fault_155
      · skip
        refine g_aload_n X d_MO_fault_134 3 rfl ?_
        refine g_get (ci := 5) (C := R_MO) (T := F_MO) (N := 20) (v := .int (nI nc)) X i_MO rfl hM 2 (by decide) q_599 (fun _ h9 => h9) rfl d_MO_fault_135 ?_
        refine g_bipush (v := 24) X d_MO_fault_138 (by decide) ?_
        refine g_icmp_ge X 147 d_MO_fault_140 (by decide) (fun c140 => ?_) (fun c140 => ?_)
        · skip
          have hn9 : ¬ nc < 24 := Nat.not_lt.mpr ((nI_leI (a := 24) (by decide) (by omega)).mp c140)
          refine g_iconst (v := 0) X d_MO_fault_147 (by decide) ?_
          refine g_callV (ci := 5) (As := [.int (bI false), .int 0]) (rest := []) X (z_ok eA eM) rfl rfl hM (c_MO_goes hR hB (b1 := false) (b2 := false)) v_MO_goes q_671 q_s19 q_669 rfl rfl (Nat.le_of_ble_eq_true rfl) d_MO_fault_148 ⟨(Nat.le_of_ble_eq_true rfl), (Nat.le_of_ble_eq_true rfl)⟩ ⟨(Nat.le_of_ble_eq_true rfl), (Nat.le_of_ble_eq_true rfl)⟩ (g_K.no (fun _ h => h)) (fun r_ f2_ hp => ?_)
          obtain ⟨rfl, hf9_⟩ := hp
          have hf_ : f2_ = (m_th f bd 1 L nc n pz pm) := hf9_
          clear hf9_
          subst f2_
          refine g_st (st2 := [.int 0]) rfl ?_
          have hR2 := mo_th hR 1
          obtain ⟨hM2, k1, k2, k3, k4, k5, k6, k7, k8, k9, k10, k11, k12, k13, k14⟩ := id hR2
          refine g_if_ne X 156 d_MO_fault_151 (by decide) (fun c151 => ?_) (fun c151 => ?_)
          · skip
            exact absurd rfl c151
          · skip
            skip
            refine g_iconst (v := 0) X d_MO_fault_154 (by decide) ?_
            exact g_iret X rfl (Or.inl ⟨hV, rfl, rfl⟩) (Nat.le_of_ble_eq_true rfl) (Nat.le_of_ble_eq_true rfl) d_MO_fault_155
        · skip
          have hn9 : nc < 24 := Nat.lt_of_not_le (fun z => c140 ((nI_leI (a := 24) (by decide) (by omega)).mpr z))
          refine g_iconst (v := 1) X d_MO_fault_143 (by decide) ?_
          refine g_goto X 148 d_MO_fault_144 (by decide) ?_
          refine g_callV (ci := 5) (As := [.int (bI false), .int 1]) (rest := []) X (z_ok eA eM) rfl rfl hM (c_MO_goes hR hB (b1 := false) (b2 := true)) v_MO_goes q_671 q_s19 q_669 rfl rfl (Nat.le_of_ble_eq_true rfl) d_MO_fault_148 ⟨(Nat.le_of_ble_eq_true rfl), (Nat.le_of_ble_eq_true rfl)⟩ ⟨(Nat.le_of_ble_eq_true rfl), (Nat.le_of_ble_eq_true rfl)⟩ (g_K.no (fun _ h => h)) (fun r_ f2_ hp => ?_)
          obtain ⟨rfl, hf9_⟩ := hp
          have hf_ : f2_ = (m_th f bd 1 L nc n pz pm) := hf9_
          clear hf9_
          subst f2_
          refine g_st (st2 := [.int 0]) rfl ?_
          have hR2 := mo_th hR 1
          obtain ⟨hM2, k1, k2, k3, k4, k5, k6, k7, k8, k9, k10, k11, k12, k13, k14⟩ := id hR2
          refine g_if_ne X 156 d_MO_fault_151 (by decide) (fun c151 => ?_) (fun c151 => ?_)
          · skip
            exact absurd rfl c151
          · skip
            skip
            refine g_iconst (v := 0) X d_MO_fault_154 (by decide) ?_
            exact g_iret X rfl (Or.inl ⟨hV, rfl, rfl⟩) (Nat.le_of_ble_eq_true rfl) (Nat.le_of_ble_eq_true rfl) d_MO_fault_155
    | true =>
      have hV := hb_.mp rfl
      skip
      refine g_istore_n (lv' := [(3, .int (bI true)), (0, .ref (bd 0)), (1, .int x), (2, .int y)]) X d_MO_fault_35 rfl (by decide) rfl ?_
      refine g_iconst (v := (-1)) X d_MO_fault_36 (by decide) ?_
      refine g_istore (lv' := [(4, .int (-1)), (3, .int (bI true)), (0, .ref (bd 0)), (1, .int x), (2, .int y)]) X d_MO_fault_37 (by decide) rfl ?_
      refine g_iconst (v := 0) X d_MO_fault_39 (by decide) ?_
      refine g_istore (lv' := [(5, .int 0), (4, .int (-1)), (3, .int (bI true)), (0, .ref (bd 0)), (1, .int x), (2, .int y)]) X d_MO_fault_40 (by decide) rfl ?_
      refine g_lv [0, 1, 2, 3, 4, 5] rfl (L_MO_fault hR hB (x := x) (y := y) (b_ := true) X ?_ nc 0 (by omega))
      refine g_aload_n X d_MO_fault_126 3 rfl ?_
      refine g_iload_n X d_MO_fault_127 2 rfl ?_
      refine g_iload X d_MO_fault_128 1 rfl ?_
      refine g_iconst (v := (-1)) X d_MO_fault_130 (by decide) ?_
      refine g_icmp_ne X 143 d_MO_fault_131 (by decide) (fun c131 => ?_) (fun c131 => ?_)
      · skip
        have hx9 : lx (fun c => true && mtc pt ot x y c) nc ≠ 0 := fun z => c131 ((fI_n (Nat.lt_of_le_of_lt (lx_le _ _) (by omega))).mpr z)
        refine g_iconst (v := 1) X d_MO_fault_143 (by decide) ?_
        refine g_goto X 148 d_MO_fault_144 (by decide) ?_
        refine g_callV (ci := 5) (As := [.int (bI true), .int 1]) (rest := []) X (z_ok eA eM) rfl rfl hM (c_MO_goes hR hB (b1 := true) (b2 := true)) v_MO_goes q_671 q_s19 q_669 rfl rfl (Nat.le_of_ble_eq_true rfl) d_MO_fault_148 ⟨(Nat.le_of_ble_eq_true rfl), (Nat.le_of_ble_eq_true rfl)⟩ ⟨(Nat.le_of_ble_eq_true rfl), (Nat.le_of_ble_eq_true rfl)⟩ (g_K.no (fun _ h => h)) (fun r_ f2_ hp => ?_)
        obtain ⟨rfl, hf9_⟩ := hp
        have hf_ : f2_ = (m_th f bd 0 L nc n pz pm) := hf9_
        clear hf9_
        subst f2_
        refine g_st (st2 := [.int 1]) rfl ?_
        have hR2 := mo_th hR 0
        obtain ⟨hM2, k1, k2, k3, k4, k5, k6, k7, k8, k9, k10, k11, k12, k13, k14⟩ := id hR2
        refine g_if_ne X 156 d_MO_fault_151 (by decide) (fun c151 => ?_) (fun c151 => ?_)
        · skip
          skip
          refine g_iload X d_MO_fault_156 1 rfl ?_
          refine g_iconst (v := (-1)) X d_MO_fault_158 (by decide) ?_
          refine g_icmp_eq X 165 d_MO_fault_159 (by decide) (fun c159 => ?_) (fun c159 => ?_)
          · skip
            exact absurd c159 c131
          · skip
            skip
            refine g_iload X d_MO_fault_162 1 rfl ?_
            exact g_iret X rfl (Or.inr (Or.inr (Or.inl ⟨hV, hx9, rfl, rfl⟩))) (Nat.le_of_ble_eq_true rfl) (Nat.le_of_ble_eq_true rfl) d_MO_fault_164
        · skip
          exact absurd c151 (by decide)
      · skip
        have hx9 : lx (fun c => true && mtc pt ot x y c) nc = 0 := (fI_n (Nat.lt_of_le_of_lt (lx_le _ _) (by omega))).mp c131
        refine g_aload_n X d_MO_fault_134 3 rfl ?_
        refine g_get (ci := 5) (C := R_MO) (T := F_MO) (N := 20) (v := .int (nI nc)) X i_MO rfl hM 2 (by decide) q_599 (fun _ h9 => h9) rfl d_MO_fault_135 ?_
        refine g_bipush (v := 24) X d_MO_fault_138 (by decide) ?_
        refine g_icmp_ge X 147 d_MO_fault_140 (by decide) (fun c140 => ?_) (fun c140 => ?_)
        · skip
          have hn9 : ¬ nc < 24 := Nat.not_lt.mpr ((nI_leI (a := 24) (by decide) (by omega)).mp c140)
          refine g_iconst (v := 0) X d_MO_fault_147 (by decide) ?_
          refine g_callV (ci := 5) (As := [.int (bI true), .int 0]) (rest := []) X (z_ok eA eM) rfl rfl hM (c_MO_goes hR hB (b1 := true) (b2 := false)) v_MO_goes q_671 q_s19 q_669 rfl rfl (Nat.le_of_ble_eq_true rfl) d_MO_fault_148 ⟨(Nat.le_of_ble_eq_true rfl), (Nat.le_of_ble_eq_true rfl)⟩ ⟨(Nat.le_of_ble_eq_true rfl), (Nat.le_of_ble_eq_true rfl)⟩ (g_K.no (fun _ h => h)) (fun r_ f2_ hp => ?_)
          obtain ⟨rfl, hf9_⟩ := hp
          have hf_ : f2_ = (m_th f bd 2 L nc n pz pm) := hf9_
          clear hf9_
          subst f2_
          refine g_st (st2 := [.int 0]) rfl ?_
          have hR2 := mo_th hR 2
          obtain ⟨hM2, k1, k2, k3, k4, k5, k6, k7, k8, k9, k10, k11, k12, k13, k14⟩ := id hR2
          refine g_if_ne X 156 d_MO_fault_151 (by decide) (fun c151 => ?_) (fun c151 => ?_)
          · skip
            exact absurd rfl c151
          · skip
            skip
            refine g_iconst (v := 0) X d_MO_fault_154 (by decide) ?_
            exact g_iret X rfl (Or.inr (Or.inl ⟨hV, hx9, hn9, rfl, rfl⟩)) (Nat.le_of_ble_eq_true rfl) (Nat.le_of_ble_eq_true rfl) d_MO_fault_155
        · skip
          have hn9 : nc < 24 := Nat.lt_of_not_le (fun z => c140 ((nI_leI (a := 24) (by decide) (by omega)).mpr z))
          refine g_iconst (v := 1) X d_MO_fault_143 (by decide) ?_
          refine g_goto X 148 d_MO_fault_144 (by decide) ?_
          refine g_callV (ci := 5) (As := [.int (bI true), .int 1]) (rest := []) X (z_ok eA eM) rfl rfl hM (c_MO_goes hR hB (b1 := true) (b2 := true)) v_MO_goes q_671 q_s19 q_669 rfl rfl (Nat.le_of_ble_eq_true rfl) d_MO_fault_148 ⟨(Nat.le_of_ble_eq_true rfl), (Nat.le_of_ble_eq_true rfl)⟩ ⟨(Nat.le_of_ble_eq_true rfl), (Nat.le_of_ble_eq_true rfl)⟩ (g_K.no (fun _ h => h)) (fun r_ f2_ hp => ?_)
          obtain ⟨rfl, hf9_⟩ := hp
          have hf_ : f2_ = (m_th f bd 0 L nc n pz pm) := hf9_
          clear hf9_
          subst f2_
          refine g_st (st2 := [.int 1]) rfl ?_
          have hR2 := mo_th hR 0
          obtain ⟨hM2, k1, k2, k3, k4, k5, k6, k7, k8, k9, k10, k11, k12, k13, k14⟩ := id hR2
          refine g_if_ne X 156 d_MO_fault_151 (by decide) (fun c151 => ?_) (fun c151 => ?_)
          · skip
            skip
            refine g_iload X d_MO_fault_156 1 rfl ?_
            refine g_iconst (v := (-1)) X d_MO_fault_158 (by decide) ?_
            refine g_icmp_eq X 165 d_MO_fault_159 (by decide) (fun c159 => ?_) (fun c159 => ?_)
            · skip
              skip
              refine g_aload_n X d_MO_fault_165 3 rfl ?_
              refine g_get (ci := 5) (C := R_MO) (T := F_MO) (N := 20) (v := .ref (bd 1)) X i_MO rfl hM2 3 (by decide) q_600 (fun _ h9 => h9) rfl d_MO_fault_166 ?_
              refine g_aload_n X d_MO_fault_169 3 rfl ?_
              refine g_get (ci := 5) (C := R_MO) (T := F_MO) (N := 20) (v := .int (nI nc)) X i_MO rfl hM2 2 (by decide) q_599 (fun _ h9 => h9) rfl d_MO_fault_170 ?_
              refine g_iload_n X d_MO_fault_173 4 rfl ?_
              refine g_iast (t0 := 0) (g2 := va_up pt nc x) X k1 rfl (nI_ix hn9 (by decide)) (upd_XI (by omega)) d_MO_fault_174 ?_
              generalize ef_1 : g_u (m_th f bd 0 L nc n pz pm) (bd 1) (.inl (cI, 24, .inl (va_up pt nc x))) = f_1
              have h_2 : f_1 (bd 0) = some (.inr (5, [.int 0, .int (nI L), .int (nI nc), .ref (bd 1), .ref (bd 2), .int (nI n), .ref (bd 3), .ref (bd 4), .ref (bd 5), .ref (bd 6), .ref (bd 7), .ref (bd 8), .ref (bd 9), .ref (bd 10), .ref (bd 11), .int (nI pz), .int (nI pm), .ref (bd 12), .ref (bd 13), .ref (bd 14)])) := by rw [← ef_1]; exact (g_u_n (tu_ne hM2 k1)).trans hM2
              have h_3 : f_1 (bd 1) = some (.inl (cI, 24, .inl (va_up pt nc x))) := by rw [← ef_1]; exact g_u_s
              have h_4 : f_1 (bd 2) = some (.inl (cI, 24, .inl ot)) := by rw [← ef_1]; exact (g_u_n (fun z => absurd (hIn 2 1 (by decide) (by decide) z) (by decide))).trans k2
              have h_5 : f_1 (bd 3) = some (.inl (cI, 8, .inl (fun q9 => nI (P q9)))) := by rw [← ef_1]; exact (g_u_n (fun z => absurd (hIn 3 1 (by decide) (by decide) z) (by decide))).trans k3
              have h_6 : f_1 (bd 4) = some (.inl (cI, 8, .inl (fun q9 => nI (Du q9)))) := by rw [← ef_1]; exact (g_u_n (fun z => absurd (hIn 4 1 (by decide) (by decide) z) (by decide))).trans k4
              have h_7 : f_1 (bd 5) = some (.inl (cI, 8, .inl (fun q9 => nI (S q9)))) := by rw [← ef_1]; exact (g_u_n (fun z => absurd (hIn 5 1 (by decide) (by decide) z) (by decide))).trans k5
              have h_8 : f_1 (bd 6) = some (.inl (cI, 100, .inl (fun q9 => nI (Wy q9)))) := by rw [← ef_1]; exact (g_u_n (fun z => absurd (hIn 6 1 (by decide) (by decide) z) (by decide))).trans k6
              have h_9 : f_1 (bd 7) = some (.inl (cI, 75024, .inl (fun q9 => nI (tw q9)))) := by rw [← ef_1]; exact (g_u_n (fun z => absurd (hIn 7 1 (by decide) (by decide) z) (by decide))).trans k7
              have h_10 : f_1 (bd 8) = some (.inl (cI, 24, .inl (fun q9 => nI (ct q9)))) := by rw [← ef_1]; exact (g_u_n (fun z => absurd (hIn 8 1 (by decide) (by decide) z) (by decide))).trans k8
              have h_11 : f_1 (bd 9) = some (.inl (cI, 768, .inl (fun q9 => nI (PF q9)))) := by rw [← ef_1]; exact (g_u_n (fun z => absurd (hIn 9 1 (by decide) (by decide) z) (by decide))).trans k9
              have h_12 : f_1 (bd 10) = some (.inl (cI, 768, .inl (fun q9 => nI (DF q9)))) := by rw [← ef_1]; exact (g_u_n (fun z => absurd (hIn 10 1 (by decide) (by decide) z) (by decide))).trans k10
              have h_13 : f_1 (bd 11) = some (.inl (cZ, 768, .inl (fun q9 => bI (GF q9)))) := by rw [← ef_1]; exact (g_u_n (fun z => absurd (hIn 11 1 (by decide) (by decide) z) (by decide))).trans k11
              have h_14 : f_1 (bd 12) = some (.inl (cI, 8, .inl (fun q9 => nI (O q9)))) := by rw [← ef_1]; exact (g_u_n (fun z => absurd (hIn 12 1 (by decide) (by decide) z) (by decide))).trans k12
              have h_15 : f_1 (bd 13) = some (.inl (cI, 2048, .inl (fun q9 => nI (Le q9)))) := by rw [← ef_1]; exact (g_u_n (fun z => absurd (hIn 13 1 (by decide) (by decide) z) (by decide))).trans k13
              have h_16 : f_1 (bd 14) = some (.inl (cZ, 256, .inl (fun q9 => bI (Sl q9)))) := by rw [← ef_1]; exact (g_u_n (fun z => absurd (hIn 14 1 (by decide) (by decide) z) (by decide))).trans k14
              refine g_aload_n X d_MO_fault_175 3 rfl ?_
              refine g_get (ci := 5) (C := R_MO) (T := F_MO) (N := 20) (v := .ref (bd 2)) X i_MO rfl h_2 4 (by decide) q_601 (fun _ h9 => h9) rfl d_MO_fault_176 ?_
              refine g_aload_n X d_MO_fault_179 3 rfl ?_
              refine g_get (ci := 5) (C := R_MO) (T := F_MO) (N := 20) (v := .int (nI nc)) X i_MO rfl h_2 2 (by decide) q_599 (fun _ h9 => h9) rfl d_MO_fault_180 ?_
              refine g_iload_n X d_MO_fault_183 5 rfl ?_
              refine g_iast (t0 := 0) (g2 := va_up ot nc y) X h_4 rfl (nI_ix hn9 (by decide)) (upd_XI (by omega)) d_MO_fault_184 ?_
              generalize ef_17 : g_u f_1 (bd 2) (.inl (cI, 24, .inl (va_up ot nc y))) = f_17
              have h_18 : f_17 (bd 0) = some (.inr (5, [.int 0, .int (nI L), .int (nI nc), .ref (bd 1), .ref (bd 2), .int (nI n), .ref (bd 3), .ref (bd 4), .ref (bd 5), .ref (bd 6), .ref (bd 7), .ref (bd 8), .ref (bd 9), .ref (bd 10), .ref (bd 11), .int (nI pz), .int (nI pm), .ref (bd 12), .ref (bd 13), .ref (bd 14)])) := by rw [← ef_17]; exact (g_u_n (tu_ne h_2 h_4)).trans h_2
              have h_19 : f_17 (bd 1) = some (.inl (cI, 24, .inl (va_up pt nc x))) := by rw [← ef_17]; exact (g_u_n (fun z => absurd (hIn 1 2 (by decide) (by decide) z) (by decide))).trans h_3
              have h_20 : f_17 (bd 2) = some (.inl (cI, 24, .inl (va_up ot nc y))) := by rw [← ef_17]; exact g_u_s
              have h_21 : f_17 (bd 3) = some (.inl (cI, 8, .inl (fun q9 => nI (P q9)))) := by rw [← ef_17]; exact (g_u_n (fun z => absurd (hIn 3 2 (by decide) (by decide) z) (by decide))).trans h_5
              have h_22 : f_17 (bd 4) = some (.inl (cI, 8, .inl (fun q9 => nI (Du q9)))) := by rw [← ef_17]; exact (g_u_n (fun z => absurd (hIn 4 2 (by decide) (by decide) z) (by decide))).trans h_6
              have h_23 : f_17 (bd 5) = some (.inl (cI, 8, .inl (fun q9 => nI (S q9)))) := by rw [← ef_17]; exact (g_u_n (fun z => absurd (hIn 5 2 (by decide) (by decide) z) (by decide))).trans h_7
              have h_24 : f_17 (bd 6) = some (.inl (cI, 100, .inl (fun q9 => nI (Wy q9)))) := by rw [← ef_17]; exact (g_u_n (fun z => absurd (hIn 6 2 (by decide) (by decide) z) (by decide))).trans h_8
              have h_25 : f_17 (bd 7) = some (.inl (cI, 75024, .inl (fun q9 => nI (tw q9)))) := by rw [← ef_17]; exact (g_u_n (fun z => absurd (hIn 7 2 (by decide) (by decide) z) (by decide))).trans h_9
              have h_26 : f_17 (bd 8) = some (.inl (cI, 24, .inl (fun q9 => nI (ct q9)))) := by rw [← ef_17]; exact (g_u_n (fun z => absurd (hIn 8 2 (by decide) (by decide) z) (by decide))).trans h_10
              have h_27 : f_17 (bd 9) = some (.inl (cI, 768, .inl (fun q9 => nI (PF q9)))) := by rw [← ef_17]; exact (g_u_n (fun z => absurd (hIn 9 2 (by decide) (by decide) z) (by decide))).trans h_11
              have h_28 : f_17 (bd 10) = some (.inl (cI, 768, .inl (fun q9 => nI (DF q9)))) := by rw [← ef_17]; exact (g_u_n (fun z => absurd (hIn 10 2 (by decide) (by decide) z) (by decide))).trans h_12
              have h_29 : f_17 (bd 11) = some (.inl (cZ, 768, .inl (fun q9 => bI (GF q9)))) := by rw [← ef_17]; exact (g_u_n (fun z => absurd (hIn 11 2 (by decide) (by decide) z) (by decide))).trans h_13
              have h_30 : f_17 (bd 12) = some (.inl (cI, 8, .inl (fun q9 => nI (O q9)))) := by rw [← ef_17]; exact (g_u_n (fun z => absurd (hIn 12 2 (by decide) (by decide) z) (by decide))).trans h_14
              have h_31 : f_17 (bd 13) = some (.inl (cI, 2048, .inl (fun q9 => nI (Le q9)))) := by rw [← ef_17]; exact (g_u_n (fun z => absurd (hIn 13 2 (by decide) (by decide) z) (by decide))).trans h_15
              have h_32 : f_17 (bd 14) = some (.inl (cZ, 256, .inl (fun q9 => bI (Sl q9)))) := by rw [← ef_17]; exact (g_u_n (fun z => absurd (hIn 14 2 (by decide) (by decide) z) (by decide))).trans h_16
              refine g_aload_n X d_MO_fault_185 3 rfl ?_
              refine g_get (ci := 5) (C := R_MO) (T := F_MO) (N := 20) (v := .ref (bd 8)) X i_MO rfl h_18 11 (by decide) q_608 (fun _ h9 => h9) rfl d_MO_fault_186 ?_
              refine g_aload_n X d_MO_fault_189 3 rfl ?_
              refine g_get (ci := 5) (C := R_MO) (T := F_MO) (N := 20) (v := .int (nI nc)) X i_MO rfl h_18 2 (by decide) q_599 (fun _ h9 => h9) rfl d_MO_fault_190 ?_
              refine g_iconst (v := 0) X d_MO_fault_193 (by decide) ?_
              refine g_iast (t0 := 0) (g2 := fun q9 => nI (va_up ct nc 0 q9)) X h_26 rfl (nI_ix (hn9) (by decide)) (upd_nI (g := ct) (Nat.lt_trans (hn9) (by decide))) d_MO_fault_194 ?_
              generalize ef_33 : g_u f_17 (bd 8) (.inl (cI, 24, .inl (fun q9 => nI (va_up ct nc 0 q9)))) = f_33
              have h_34 : f_33 (bd 0) = some (.inr (5, [.int 0, .int (nI L), .int (nI nc), .ref (bd 1), .ref (bd 2), .int (nI n), .ref (bd 3), .ref (bd 4), .ref (bd 5), .ref (bd 6), .ref (bd 7), .ref (bd 8), .ref (bd 9), .ref (bd 10), .ref (bd 11), .int (nI pz), .int (nI pm), .ref (bd 12), .ref (bd 13), .ref (bd 14)])) := by rw [← ef_33]; exact (g_u_n (tu_ne h_18 h_26)).trans h_18
              have h_35 : f_33 (bd 1) = some (.inl (cI, 24, .inl (va_up pt nc x))) := by rw [← ef_33]; exact (g_u_n (fun z => absurd (hIn 1 8 (by decide) (by decide) z) (by decide))).trans h_19
              have h_36 : f_33 (bd 2) = some (.inl (cI, 24, .inl (va_up ot nc y))) := by rw [← ef_33]; exact (g_u_n (fun z => absurd (hIn 2 8 (by decide) (by decide) z) (by decide))).trans h_20
              have h_37 : f_33 (bd 3) = some (.inl (cI, 8, .inl (fun q9 => nI (P q9)))) := by rw [← ef_33]; exact (g_u_n (fun z => absurd (hIn 3 8 (by decide) (by decide) z) (by decide))).trans h_21
              have h_38 : f_33 (bd 4) = some (.inl (cI, 8, .inl (fun q9 => nI (Du q9)))) := by rw [← ef_33]; exact (g_u_n (fun z => absurd (hIn 4 8 (by decide) (by decide) z) (by decide))).trans h_22
              have h_39 : f_33 (bd 5) = some (.inl (cI, 8, .inl (fun q9 => nI (S q9)))) := by rw [← ef_33]; exact (g_u_n (fun z => absurd (hIn 5 8 (by decide) (by decide) z) (by decide))).trans h_23
              have h_40 : f_33 (bd 6) = some (.inl (cI, 100, .inl (fun q9 => nI (Wy q9)))) := by rw [← ef_33]; exact (g_u_n (fun z => absurd (hIn 6 8 (by decide) (by decide) z) (by decide))).trans h_24
              have h_41 : f_33 (bd 7) = some (.inl (cI, 75024, .inl (fun q9 => nI (tw q9)))) := by rw [← ef_33]; exact (g_u_n (fun z => absurd (hIn 7 8 (by decide) (by decide) z) (by decide))).trans h_25
              have h_42 : f_33 (bd 8) = some (.inl (cI, 24, .inl (fun q9 => nI (va_up ct nc 0 q9)))) := by rw [← ef_33]; exact g_u_s
              have h_43 : f_33 (bd 9) = some (.inl (cI, 768, .inl (fun q9 => nI (PF q9)))) := by rw [← ef_33]; exact (g_u_n (fun z => absurd (hIn 9 8 (by decide) (by decide) z) (by decide))).trans h_27
              have h_44 : f_33 (bd 10) = some (.inl (cI, 768, .inl (fun q9 => nI (DF q9)))) := by rw [← ef_33]; exact (g_u_n (fun z => absurd (hIn 10 8 (by decide) (by decide) z) (by decide))).trans h_28
              have h_45 : f_33 (bd 11) = some (.inl (cZ, 768, .inl (fun q9 => bI (GF q9)))) := by rw [← ef_33]; exact (g_u_n (fun z => absurd (hIn 11 8 (by decide) (by decide) z) (by decide))).trans h_29
              have h_46 : f_33 (bd 12) = some (.inl (cI, 8, .inl (fun q9 => nI (O q9)))) := by rw [← ef_33]; exact (g_u_n (fun z => absurd (hIn 12 8 (by decide) (by decide) z) (by decide))).trans h_30
              have h_47 : f_33 (bd 13) = some (.inl (cI, 2048, .inl (fun q9 => nI (Le q9)))) := by rw [← ef_33]; exact (g_u_n (fun z => absurd (hIn 13 8 (by decide) (by decide) z) (by decide))).trans h_31
              have h_48 : f_33 (bd 14) = some (.inl (cZ, 256, .inl (fun q9 => bI (Sl q9)))) := by rw [← ef_33]; exact (g_u_n (fun z => absurd (hIn 14 8 (by decide) (by decide) z) (by decide))).trans h_32
              refine g_aload_n X d_MO_fault_195 3 rfl ?_
              refine g_dup X d_MO_fault_196 rfl ?_
              refine g_get (ci := 5) (C := R_MO) (T := F_MO) (N := 20) (v := .int (nI nc)) X i_MO rfl h_34 2 (by decide) q_599 (fun _ h9 => h9) rfl d_MO_fault_197 ?_
              refine g_iconst (v := 1) X d_MO_fault_200 (by decide) ?_
              refine g_iadd X d_MO_fault_201 ?_
              refine g_eqi (y := nI (nc + 1)) (nI_1 nc) ?_
              refine g_put (ci := 5) (C := R_MO) (T := F_MO) (N := 20) (ty := .int) (fs2 := [.int 0, .int (nI L), .int (nI (nc + 1)), .ref (bd 1), .ref (bd 2), .int (nI n), .ref (bd 3), .ref (bd 4), .ref (bd 5), .ref (bd 6), .ref (bd 7), .ref (bd 8), .ref (bd 9), .ref (bd 10), .ref (bd 11), .int (nI pz), .int (nI pm), .ref (bd 12), .ref (bd 13), .ref (bd 14)]) X i_MO t_MO t_MO_ok n_MO rfl h_34 2 (by decide) q_599 (fun _ h9 => h9) rfl (by decide +kernel) rfl rfl (Nat.le_of_ble_eq_true rfl) rfl d_MO_fault_202 ?_
              generalize ef_49 : g_u f_33 (bd 0) (.inr (5, [.int 0, .int (nI L), .int (nI (nc + 1)), .ref (bd 1), .ref (bd 2), .int (nI n), .ref (bd 3), .ref (bd 4), .ref (bd 5), .ref (bd 6), .ref (bd 7), .ref (bd 8), .ref (bd 9), .ref (bd 10), .ref (bd 11), .int (nI pz), .int (nI pm), .ref (bd 12), .ref (bd 13), .ref (bd 14)])) = f_49
              have h_50 : f_49 (bd 0) = some (.inr (5, [.int 0, .int (nI L), .int (nI (nc + 1)), .ref (bd 1), .ref (bd 2), .int (nI n), .ref (bd 3), .ref (bd 4), .ref (bd 5), .ref (bd 6), .ref (bd 7), .ref (bd 8), .ref (bd 9), .ref (bd 10), .ref (bd 11), .int (nI pz), .int (nI pm), .ref (bd 12), .ref (bd 13), .ref (bd 14)])) := by rw [← ef_49]; exact g_u_s
              have h_51 : f_49 (bd 1) = some (.inl (cI, 24, .inl (va_up pt nc x))) := by rw [← ef_49]; exact (g_u_n (Ne.symm (tu_ne h_34 h_35))).trans h_35
              have h_52 : f_49 (bd 2) = some (.inl (cI, 24, .inl (va_up ot nc y))) := by rw [← ef_49]; exact (g_u_n (Ne.symm (tu_ne h_34 h_36))).trans h_36
              have h_53 : f_49 (bd 3) = some (.inl (cI, 8, .inl (fun q9 => nI (P q9)))) := by rw [← ef_49]; exact (g_u_n (Ne.symm (tu_ne h_34 h_37))).trans h_37
              have h_54 : f_49 (bd 4) = some (.inl (cI, 8, .inl (fun q9 => nI (Du q9)))) := by rw [← ef_49]; exact (g_u_n (Ne.symm (tu_ne h_34 h_38))).trans h_38
              have h_55 : f_49 (bd 5) = some (.inl (cI, 8, .inl (fun q9 => nI (S q9)))) := by rw [← ef_49]; exact (g_u_n (Ne.symm (tu_ne h_34 h_39))).trans h_39
              have h_56 : f_49 (bd 6) = some (.inl (cI, 100, .inl (fun q9 => nI (Wy q9)))) := by rw [← ef_49]; exact (g_u_n (Ne.symm (tu_ne h_34 h_40))).trans h_40
              have h_57 : f_49 (bd 7) = some (.inl (cI, 75024, .inl (fun q9 => nI (tw q9)))) := by rw [← ef_49]; exact (g_u_n (Ne.symm (tu_ne h_34 h_41))).trans h_41
              have h_58 : f_49 (bd 8) = some (.inl (cI, 24, .inl (fun q9 => nI (va_up ct nc 0 q9)))) := by rw [← ef_49]; exact (g_u_n (Ne.symm (tu_ne h_34 h_42))).trans h_42
              have h_59 : f_49 (bd 9) = some (.inl (cI, 768, .inl (fun q9 => nI (PF q9)))) := by rw [← ef_49]; exact (g_u_n (Ne.symm (tu_ne h_34 h_43))).trans h_43
              have h_60 : f_49 (bd 10) = some (.inl (cI, 768, .inl (fun q9 => nI (DF q9)))) := by rw [← ef_49]; exact (g_u_n (Ne.symm (tu_ne h_34 h_44))).trans h_44
              have h_61 : f_49 (bd 11) = some (.inl (cZ, 768, .inl (fun q9 => bI (GF q9)))) := by rw [← ef_49]; exact (g_u_n (Ne.symm (tu_ne h_34 h_45))).trans h_45
              have h_62 : f_49 (bd 12) = some (.inl (cI, 8, .inl (fun q9 => nI (O q9)))) := by rw [← ef_49]; exact (g_u_n (Ne.symm (tu_ne h_34 h_46))).trans h_46
              have h_63 : f_49 (bd 13) = some (.inl (cI, 2048, .inl (fun q9 => nI (Le q9)))) := by rw [← ef_49]; exact (g_u_n (Ne.symm (tu_ne h_34 h_47))).trans h_47
              have h_64 : f_49 (bd 14) = some (.inl (cZ, 256, .inl (fun q9 => bI (Sl q9)))) := by rw [← ef_49]; exact (g_u_n (Ne.symm (tu_ne h_34 h_48))).trans h_48
              refine g_aload_n X d_MO_fault_205 3 rfl ?_
              refine g_get (ci := 5) (C := R_MO) (T := F_MO) (N := 20) (v := .int (nI (nc + 1))) X i_MO rfl h_50 2 (by decide) q_599 (fun _ h9 => h9) rfl d_MO_fault_206 ?_
              refine g_iconst (v := 1) X d_MO_fault_209 (by decide) ?_
              refine g_isub X d_MO_fault_210 ?_
              refine g_eqi (y := nI nc) ((nI_m1 (a := nc + 1) (by omega)).trans (by rw [Nat.add_sub_cancel])) ?_
              exact g_iret X rfl (Or.inr (Or.inr (Or.inr ⟨hV, hx9, hn9, rfl, ⟨h_50, h_51, h_52, h_53, h_54, h_55, h_56, h_57, h_58, h_59, h_60, h_61, h_62, h_63, h_64⟩, fun q hq => by rw [← ef_49, ← ef_33, ← ef_17, ← ef_1]; exact (g_u_n (hq 0 (by decide))).trans ((g_u_n (hq 8 (by decide))).trans ((g_u_n (hq 2 (by decide))).trans ((g_u_n (hq 1 (by decide))).trans ((g_u_n (hq 0 (by decide)))))))⟩))) (Nat.le_of_ble_eq_true rfl) (Nat.le_of_ble_eq_true rfl) d_MO_fault_211
            · skip
              exact absurd c131 c159
          · skip
            exact absurd c151 (by decide)
  refine g_iload_n X d_MO_fault_0 1 rfl ?_
  refine g_iconst (v := 0) X d_MO_fault_1 (by decide) ?_
  refine g_bipush (v := 29) X d_MO_fault_2 (by decide) ?_
  refine g_callS (As := [.int x, .int 0, .int 29]) (rest := []) X (z_ok eA eM) (c_MO_in (f := f) (x := x) (a := 0) (b := 29)) v_MO_in q_667 q_666 rfl rfl (Nat.le_of_ble_eq_true rfl) d_MO_fault_4 ⟨(Nat.le_of_ble_eq_true rfl), (Nat.le_of_ble_eq_true rfl)⟩ ⟨(Nat.le_of_ble_eq_true rfl), (Nat.le_of_ble_eq_true rfl)⟩ (g_K.no (fun _ h => h)) (fun r_ f2_ hp => ?_)
  obtain ⟨rfl, hf_⟩ := hp
  subst f2_
  refine g_st (st2 := [.int (bI (decide (¬ x < 0 ∧ x ≤ 29)))]) rfl ?_
  refine g_if_eq X 34 d_MO_fault_7 (by decide) (fun c7 => ?_) (fun c7 => ?_)
  · skip
    have hv7 : ¬ inR x 30 := fun z => of_decide_eq_false (bI_z.mp c7) ((inR_iff (n := 30) (by decide)).mpr z)
    refine g_iconst (v := 0) X d_MO_fault_34 (by decide) ?_
    exact kj false ⟨fun z => Bool.noConfusion z, fun z => absurd z.1 hv7⟩
  · skip
    have hv7 : inR x 30 := (inR_iff (n := 30) (by decide)).mp (of_decide_eq_true (bt_nf (fun z => c7 (bI_z.mpr z))))
    refine g_iload_n X d_MO_fault_10 2 rfl ?_
    refine g_iconst (v := (-1)) X d_MO_fault_11 (by decide) ?_
    refine g_icmp_eq X 25 d_MO_fault_12 (by decide) (fun c12 => ?_) (fun c12 => ?_)
    · skip
      skip
      refine g_iload_n X d_MO_fault_25 1 rfl ?_
      refine g_iload_n X d_MO_fault_26 2 rfl ?_
      refine g_icmp_eq X 34 d_MO_fault_27 (by decide) (fun c27 => ?_) (fun c27 => ?_)
      · skip
        skip
        refine g_iconst (v := 0) X d_MO_fault_34 (by decide) ?_
        exact kj false ⟨fun z => Bool.noConfusion z, fun z => absurd z.2.2 (fun z2 => z2 c27)⟩
      · skip
        refine g_iconst (v := 1) X d_MO_fault_30 (by decide) ?_
        refine g_goto X 35 d_MO_fault_31 (by decide) ?_
        exact kj true ⟨fun _ => ⟨hv7, (Or.inl c12), c27⟩, fun _ => rfl⟩
    · skip
      refine g_iload_n X d_MO_fault_15 2 rfl ?_
      refine g_iconst (v := 0) X d_MO_fault_16 (by decide) ?_
      refine g_bipush (v := 29) X d_MO_fault_17 (by decide) ?_
      refine g_callS (As := [.int y, .int 0, .int 29]) (rest := []) X (z_ok eA eM) (c_MO_in (f := f) (x := y) (a := 0) (b := 29)) v_MO_in q_667 q_666 rfl rfl (Nat.le_of_ble_eq_true rfl) d_MO_fault_19 ⟨(Nat.le_of_ble_eq_true rfl), (Nat.le_of_ble_eq_true rfl)⟩ ⟨(Nat.le_of_ble_eq_true rfl), (Nat.le_of_ble_eq_true rfl)⟩ (g_K.no (fun _ h => h)) (fun r_ f2_ hp => ?_)
      obtain ⟨rfl, hf_⟩ := hp
      subst f2_
      refine g_st (st2 := [.int (bI (decide (¬ y < 0 ∧ y ≤ 29)))]) rfl ?_
      refine g_if_eq X 34 d_MO_fault_22 (by decide) (fun c22 => ?_) (fun c22 => ?_)
      · skip
        have hv22 : ¬ inR y 30 := fun z => of_decide_eq_false (bI_z.mp c22) ((inR_iff (n := 30) (by decide)).mpr z)
        refine g_iconst (v := 0) X d_MO_fault_34 (by decide) ?_
        exact kj false ⟨fun z => Bool.noConfusion z, fun z => absurd z.2.1 (fun z2 => z2.elim c12 hv22)⟩
      · skip
        have hv22 : inR y 30 := (inR_iff (n := 30) (by decide)).mp (of_decide_eq_true (bt_nf (fun z => c22 (bI_z.mpr z))))
        refine g_iload_n X d_MO_fault_25 1 rfl ?_
        refine g_iload_n X d_MO_fault_26 2 rfl ?_
        refine g_icmp_eq X 34 d_MO_fault_27 (by decide) (fun c27 => ?_) (fun c27 => ?_)
        · skip
          skip
          refine g_iconst (v := 0) X d_MO_fault_34 (by decide) ?_
          exact kj false ⟨fun z => Bool.noConfusion z, fun z => absurd z.2.2 (fun z2 => z2 c27)⟩
        · skip
          refine g_iconst (v := 1) X d_MO_fault_30 (by decide) ?_
          refine g_goto X 35 d_MO_fault_31 (by decide) ?_
          exact kj true ⟨fun _ => ⟨hv7, (Or.inr hv22), c27⟩, fun _ => rfl⟩
