/-- the row of the results, plus 1 -/
abbrev arw (k m : Nat) : Nat := if m = 0 then 0 else 32 * k + m
abbrev rmt (PF DF : Nat → Nat) (k pe dd j : Nat) : Bool := decide (PF (32 * k + j) = pe ∧ DF (32 * k + j) = dd)
theorem arw_le {k m : Nat} (hk : k < 24) (hm : m ≤ 32) : arw k m < 2 ^ 30 := by
  unfold arw; split <;> omega
theorem arw_n {k m : Nat} (hk : k < 24) (hm : m ≤ 32) : fI (arw k m) = -1 ↔ m = 0 := by
  rw [fI_n (arw_le hk hm)]
  unfold arw; split <;> omega
theorem arw_s {k j : Nat} : fI (arw k (j + 1)) = nI (32 * k + j) := by
  unfold arw
  rw [if_neg (by omega), ← Nat.add_assoc, fI_s]
set_option maxHeartbeats 4000000 in
set_option maxRecDepth 100000 in
theorem L_MO_result {p : Program} {l : Launch} {e : Env} {s : State} {m : MethodId} {args : Array Value} {below : List Frame} {meth : Method} {c : Code} {Q : State → Prop} {A : Nat → Prop} {D : va_G} {cI cZ cO cJ : ClassId} {eA eM : Nat} {f : g_F} {bd : Nat → Nat} {th : Int32} {L nc : Nat} {pt ot : Nat → Int32} {n : Nat} {P Du S Wy tw ct PF DF : Nat → Nat} {GF : Nat → Bool} {pz pm : Nat} {O Le : Nat → Nat} {Sl : Nat → Bool} (hR : mo_R cI cZ f bd th L nc pt ot n P Du S Wy tw ct PF DF GF pz pm O Le Sl) (hB : mo_B L nc n P Du S Wy tw ct PF DF pz pm O Le) {k pe dd : Nat} {b : Bool} (hk : k < 24) (hpe : pe < 10) (hdd : dd < 100001) (X : g_X p s m args meth c b_MO_result 9 (some .int) g_T y_MO_result.cls D g_cl (g_tys cI cZ cO cJ) A (z_Z eA eM)) (kk : g_W p l e { frames := 2, cells := 0, slots := 0, locals := 43 } s m args below meth c 9 D g_cl A f 0 0 Q 100 [(6, .int (fI (arw k (lx (rmt PF DF k pe dd) (ct k))))), (5, .int (bI true)), (0, .ref (bd 0)), (1, .int (nI k)), (2, .int (nI pe)), (3, .int (nI dd)), (4, .int (bI b))] []) : ∀ (d : Nat) (i : Nat), (i + d = ct k) → g_W p l e { frames := 2, cells := 0, slots := 0, locals := 43 } s m args below meth c 9 D g_cl A f 0 0 Q 38 [(7, .int (nI i)), (6, .int (fI (arw k (lx (rmt PF DF k pe dd) i)))), (5, .int (bI true)), (0, .ref (bd 0)), (1, .int (nI k)), (2, .int (nI pe)), (3, .int (nI dd)), (4, .int (bI b))] [] := by
  obtain ⟨hM, h1, h2, h3, h4, h5, h6, h7, h8, h9, h10, h11, h12, h13, h14⟩ := id hR
  obtain ⟨⟨hL1, hL5⟩, hnc, hUB, htw, hct, hPF, hDF, ⟨hpz, hpm, hO8⟩, hLe⟩ := id hB
  obtain ⟨hn8, hP, hDu, hS, hWy⟩ := id hUB
  intro d
  induction d using Nat.strongRecOn with
  | _ d ih =>
    intro i hi
    refine g_iload X d_MO_result_38 2 rfl ?_
    refine g_if_eq X 100 d_MO_result_40 (by decide) (fun c40 => ?_) (fun c40 => ?_)
    · skip
      exact absurd c40 (by decide)
    · skip
      refine g_iload X d_MO_result_43 0 rfl ?_
      refine g_aload_n X d_MO_result_45 3 rfl ?_
      refine g_get (ci := 5) (C := R_MO) (T := F_MO) (N := 20) (v := .ref (bd 8)) X i_MO rfl hM 11 (by decide) q_608 (fun _ h9 => h9) rfl d_MO_result_46 ?_
      refine g_iload_n X d_MO_result_49 4 rfl ?_
      refine g_iald (t0 := 0) (v := nI (ct k)) X h8 rfl (nI_ix (hk) (by decide)) (nI_cl (g := fun q9 => nI (ct q9)) (Nat.lt_trans (hk) (by decide))) d_MO_result_50 ?_
      refine g_icmp_ge X 100 d_MO_result_51 (by decide) (fun c51 => ?_) (fun c51 => ?_)
      · skip
        have e : i = ct k := by have := hct k; have := (nI_leI (by omega) (by omega)).mp c51; omega
        subst e
        exact g_lv [1, 2, 3, 4, 5, 6, 7] rfl kk
      · skip
        have hctk := hct k
        have hlt2 : i < ct k := Nat.lt_of_not_le (fun z => c51 ((nI_leI (by omega) (by omega)).mpr z))
        have hdf := hDF (32 * k + i)
        have hpf := hPF (32 * k + i)
        refine g_bipush (v := 32) X d_MO_result_54 (by decide) ?_
        refine g_iload_n X d_MO_result_56 4 rfl ?_
        refine g_imul X d_MO_result_57 ?_
        refine g_eqi (y := nI (32 * k)) (nI_mul 32 k) ?_
        refine g_iload X d_MO_result_58 0 rfl ?_
        refine g_iadd X d_MO_result_60 ?_
        refine g_eqi (y := nI (32 * k + i)) (nI_add _ _) ?_
        refine g_istore (lv' := [(8, .int (nI (32 * k + i))), (7, .int (nI i)), (6, .int (fI (arw k (lx (rmt PF DF k pe dd) i)))), (5, .int (bI true)), (0, .ref (bd 0)), (1, .int (nI k)), (2, .int (nI pe)), (3, .int (nI dd)), (4, .int (bI b))]) X d_MO_result_61 (by decide) rfl ?_
        refine g_aload_n X d_MO_result_63 4 rfl ?_
        refine g_get (ci := 5) (C := R_MO) (T := F_MO) (N := 20) (v := .ref (bd 9)) X i_MO rfl hM 12 (by decide) q_609 (fun _ h9 => h9) rfl d_MO_result_64 ?_
        refine g_iload X d_MO_result_67 0 rfl ?_
        refine g_iald (t0 := 0) (v := nI (PF (32 * k + i))) X h9 rfl (nI_ix ((by omega : 32 * k + i < 768)) (by decide)) (nI_cl (g := fun q9 => nI (PF q9)) (Nat.lt_trans ((by omega : 32 * k + i < 768)) (by decide))) d_MO_result_69 ?_
        refine g_iload_n X d_MO_result_70 6 rfl ?_
        refine g_icmp_ne X 90 d_MO_result_71 (by decide) (fun c71 => ?_) (fun c71 => ?_)
        · skip
          refine g_iload X d_MO_result_90 2 rfl ?_
          refine g_eqi (y := fI (arw k (lx (rmt PF DF k pe dd) (i + 1)))) (by rw [show lx (rmt PF DF k pe dd) (i + 1) = lx (rmt PF DF k pe dd) i from if_neg (fun z => by have z9 := of_decide_eq_true z; first | exact c71 (by rw [z9.1]) | exact c82 (by rw [z9.2]))]) ?_
          refine g_istore (lv' := [(6, .int (fI (arw k (lx (rmt PF DF k pe dd) (i + 1))))), (8, .int (nI (32 * k + i))), (7, .int (nI i)), (5, .int (bI true)), (0, .ref (bd 0)), (1, .int (nI k)), (2, .int (nI pe)), (3, .int (nI dd)), (4, .int (bI b))]) X d_MO_result_92 (by decide) rfl ?_
          refine g_iinc (lv' := [(7, .int (nI (i + 1))), (6, .int (fI (arw k (lx (rmt PF DF k pe dd) (i + 1))))), (8, .int (nI (32 * k + i))), (5, .int (bI true)), (0, .ref (bd 0)), (1, .int (nI k)), (2, .int (nI pe)), (3, .int (nI dd)), (4, .int (bI b))]) X d_MO_result_94 2 rfl (nI_1 i) (by decide) rfl ?_
          refine g_goto X 38 d_MO_result_97 (by decide) ?_
          exact g_lv [0, 1, 3, 4, 5, 6, 7, 8] rfl (ih (d - 1) (by omega) (i + 1) (by omega))
        · skip
          refine g_aload_n X d_MO_result_74 4 rfl ?_
          refine g_get (ci := 5) (C := R_MO) (T := F_MO) (N := 20) (v := .ref (bd 10)) X i_MO rfl hM 13 (by decide) q_610 (fun _ h9 => h9) rfl d_MO_result_75 ?_
          refine g_iload X d_MO_result_78 0 rfl ?_
          refine g_iald (t0 := 0) (v := nI (DF (32 * k + i))) X h10 rfl (nI_ix ((by omega : 32 * k + i < 768)) (by decide)) (nI_cl (g := fun q9 => nI (DF q9)) (Nat.lt_trans ((by omega : 32 * k + i < 768)) (by decide))) d_MO_result_80 ?_
          refine g_iload_n X d_MO_result_81 7 rfl ?_
          refine g_icmp_ne X 90 d_MO_result_82 (by decide) (fun c82 => ?_) (fun c82 => ?_)
          · skip
            refine g_iload X d_MO_result_90 2 rfl ?_
            refine g_eqi (y := fI (arw k (lx (rmt PF DF k pe dd) (i + 1)))) (by rw [show lx (rmt PF DF k pe dd) (i + 1) = lx (rmt PF DF k pe dd) i from if_neg (fun z => by have z9 := of_decide_eq_true z; first | exact c71 (by rw [z9.1]) | exact c82 (by rw [z9.2]))]) ?_
            refine g_istore (lv' := [(6, .int (fI (arw k (lx (rmt PF DF k pe dd) (i + 1))))), (8, .int (nI (32 * k + i))), (7, .int (nI i)), (5, .int (bI true)), (0, .ref (bd 0)), (1, .int (nI k)), (2, .int (nI pe)), (3, .int (nI dd)), (4, .int (bI b))]) X d_MO_result_92 (by decide) rfl ?_
            refine g_iinc (lv' := [(7, .int (nI (i + 1))), (6, .int (fI (arw k (lx (rmt PF DF k pe dd) (i + 1))))), (8, .int (nI (32 * k + i))), (5, .int (bI true)), (0, .ref (bd 0)), (1, .int (nI k)), (2, .int (nI pe)), (3, .int (nI dd)), (4, .int (bI b))]) X d_MO_result_94 2 rfl (nI_1 i) (by decide) rfl ?_
            refine g_goto X 38 d_MO_result_97 (by decide) ?_
            exact g_lv [0, 1, 3, 4, 5, 6, 7, 8] rfl (ih (d - 1) (by omega) (i + 1) (by omega))
          · skip
            refine g_iload X d_MO_result_85 0 rfl ?_
            refine g_goto X 92 d_MO_result_87 (by decide) ?_
            refine g_eqi (y := fI (arw k (lx (rmt PF DF k pe dd) (i + 1)))) (by rw [show lx (rmt PF DF k pe dd) (i + 1) = i + 1 from if_pos (decide_eq_true ⟨(nI_eq (by omega) (by omega)).mp c71, (nI_eq (by omega) (by omega)).mp c82⟩), arw_s]) ?_
            refine g_istore (lv' := [(6, .int (fI (arw k (lx (rmt PF DF k pe dd) (i + 1))))), (8, .int (nI (32 * k + i))), (7, .int (nI i)), (5, .int (bI true)), (0, .ref (bd 0)), (1, .int (nI k)), (2, .int (nI pe)), (3, .int (nI dd)), (4, .int (bI b))]) X d_MO_result_92 (by decide) rfl ?_
            refine g_iinc (lv' := [(7, .int (nI (i + 1))), (6, .int (fI (arw k (lx (rmt PF DF k pe dd) (i + 1))))), (8, .int (nI (32 * k + i))), (5, .int (bI true)), (0, .ref (bd 0)), (1, .int (nI k)), (2, .int (nI pe)), (3, .int (nI dd)), (4, .int (bI b))]) X d_MO_result_94 2 rfl (nI_1 i) (by decide) rfl ?_
            refine g_goto X 38 d_MO_result_97 (by decide) ?_
            exact g_lv [0, 1, 3, 4, 5, 6, 7, 8] rfl (ih (d - 1) (by omega) (i + 1) (by omega))
theorem va_up_id {α : Type} {g : Nat → α} {k : Nat} : va_up g k (g k) = g := by
  funext q
  unfold va_up
  split
  · rename_i h; rw [h]
  · rfl
set_option maxHeartbeats 4000000 in
set_option maxRecDepth 100000 in
theorem c_MO_result {l : Launch} {D : va_G} {cI cZ cO cJ : ClassId} {eA eM : Nat} {f : g_F} {bd : Nat → Nat} {th : Int32} {L nc : Nat} {pt ot : Nat → Int32} {n : Nat} {P Du S Wy tw ct PF DF : Nat → Nat} {GF : Nat → Bool} {pz pm : Nat} {O Le : Nat → Nat} {Sl : Nat → Bool} (hR : mo_R cI cZ f bd th L nc pt ot n P Du S Wy tw ct PF DF GF pz pm O Le Sl) (hB : mo_B L nc n P Du S Wy tw ct PF DF pz pm O Le) (hIn : ∀ i j, i < 15 → j < 15 → bd i = bd j → i = j) {x y w : Int32} {b : Bool} : g_C l y_MO_result b_MO_result 9 (some .int) { frames := 2, cells := 0, slots := 0, locals := 43 } D g_cl (g_tys cI cZ cO cJ) (z_Z eA eM) [.ref (bd 0), .int x, .int y, .int w, .int (bI b)] f (fun r f2 => (¬ (inR x nc ∧ inR y 10 ∧ inR w 100001) ∧ r = some (.int 0) ∧ f2 = (m_th f bd 1 L nc n pz pm)) ∨ ((inR x nc ∧ inR y 10 ∧ inR w 100001) ∧ (∃ k pe dd, x = nI k ∧ y = nI pe ∧ w = nI dd ∧ k < nc ∧ pe < 10 ∧ dd < 100001 ∧ ct k = 32 ∧ ∀ j, j < 32 → rmt PF DF k pe dd j = false) ∧ r = some (.int 0) ∧ f2 = (m_th f bd 2 L nc n pz pm)) ∨ (∃ k pe dd i, k < nc ∧ pe < 10 ∧ dd < 100001 ∧ x = nI k ∧ y = nI pe ∧ w = nI dd ∧ i < 32 ∧ i ≤ ct k ∧ (i < ct k → rmt PF DF k pe dd i = true) ∧ (i = ct k → ∀ j, j < ct k → rmt PF DF k pe dd j = false) ∧ r = some (.int (nI (max (ct k) (i + 1)))) ∧ mo_R cI cZ f2 bd 0 L nc pt ot n P Du S Wy tw (va_up ct k (max (ct k) (i + 1))) (va_up PF (32 * k + i) pe) (va_up DF (32 * k + i) dd) (va_up GF (32 * k + i) b) pz pm O Le Sl ∧ m_fr bd f f2)) (fun _ => False) := by
  refine g_ofW [(0, .ref (bd 0)), (1, .int x), (2, .int y), (3, .int w), (4, .int (bI b))] (by decide +kernel) (Nat.le_of_ble_eq_true rfl) rfl ?_
  intro p e s m args below meth c X ht hin
  obtain ⟨hM, h1, h2, h3, h4, h5, h6, h7, h8, h9, h10, h11, h12, h13, h14⟩ := id hR
  obtain ⟨⟨hL1, hL5⟩, hnc, hUB, htw, hct, hPF, hDF, ⟨hpz, hpm, hO8⟩, hLe⟩ := id hB
  obtain ⟨hn8, hP, hDu, hS, hWy⟩ := id hUB
  have kj : ∀ b_ : Bool, (b_ = true ↔ (inR x nc ∧ inR y 10 ∧ inR w 100001)) → g_W p l e { frames := 2, cells := 0, slots := 0, locals := 43 } s m args below meth c 9 D g_cl (g_A f s.heap.size) f 0 0 (g_End below D g_cl f (fun r f2 => (¬ (inR x nc ∧ inR y 10 ∧ inR w 100001) ∧ r = some (.int 0) ∧ f2 = (m_th f bd 1 L nc n pz pm)) ∨ ((inR x nc ∧ inR y 10 ∧ inR w 100001) ∧ (∃ k pe dd, x = nI k ∧ y = nI pe ∧ w = nI dd ∧ k < nc ∧ pe < 10 ∧ dd < 100001 ∧ ct k = 32 ∧ ∀ j, j < 32 → rmt PF DF k pe dd j = false) ∧ r = some (.int 0) ∧ f2 = (m_th f bd 2 L nc n pz pm)) ∨ (∃ k pe dd i, k < nc ∧ pe < 10 ∧ dd < 100001 ∧ x = nI k ∧ y = nI pe ∧ w = nI dd ∧ i < 32 ∧ i ≤ ct k ∧ (i < ct k → rmt PF DF k pe dd i = true) ∧ (i = ct k → ∀ j, j < ct k → rmt PF DF k pe dd j = false) ∧ r = some (.int (nI (max (ct k) (i + 1)))) ∧ mo_R cI cZ f2 bd 0 L nc pt ot n P Du S Wy tw (va_up ct k (max (ct k) (i + 1))) (va_up PF (32 * k + i) pe) (va_up DF (32 * k + i) dd) (va_up GF (32 * k + i) b) pz pm O Le Sl ∧ m_fr bd f f2)) (fun _ => False) args s { frames := 2, cells := 0, slots := 0, locals := 43 }) 30 [(0, .ref (bd 0)), (1, .int x), (2, .int y), (3, .int w), (4, .int (bI b))] [.int (bI b_)] := by
    intro b_ hb_
    cases b_ with
    | false =>
      have hV : ¬ (inR x nc ∧ inR y 10 ∧ inR w 100001) := fun z => Bool.noConfusion (hb_.mpr z)
      refine g_istore (lv' := [(5, .int (bI false)), (0, .ref (bd 0)), (1, .int x), (2, .int y), (3, .int w), (4, .int (bI b))]) X d_MO_result_30 (by decide) rfl ?_
      refine g_iconst (v := (-1)) X d_MO_result_32 (by decide) ?_
      refine g_istore (lv' := [(6, .int (-1)), (5, .int (bI false)), (0, .ref (bd 0)), (1, .int x), (2, .int y), (3, .int w), (4, .int (bI b))]) X d_MO_result_33 (by decide) rfl ?_
      refine g_iconst (v := 0) X d_MO_result_35 (by decide) ?_
      refine g_istore (lv' := [(7, .int 0), (6, .int (-1)), (5, .int (bI false)), (0, .ref (bd 0)), (1, .int x), (2, .int y), (3, .int w), (4, .int (bI b))]) X d_MO_result_36 (by decide) rfl ?_
      refine g_iload X d_MO_result_38 2 rfl ?_
      refine g_if_eq X 100 d_MO_result_40 (by decide) (fun c40 => ?_) (fun c40 => ?_)
      · skip
        refine g_aload_n X d_MO_result_100 3 rfl ?_
        refine g_iload X d_MO_result_101 2 rfl ?_
        refine g_iload X d_MO_result_103 2 rfl ?_
        refine g_if_eq X 129 d_MO_result_105 (by decide) (fun c105 => ?_) (fun c105 => ?_)
        · skip
          refine g_iconst (v := 0) X d_MO_result_129 (by decide) ?_
          refine g_callV (ci := 5) (As := [.int (bI false), .int 0]) (rest := []) X (z_ok eA eM) rfl rfl hM (c_MO_goes hR hB (b1 := false) (b2 := false)) v_MO_goes q_671 q_s19 q_669 rfl rfl (Nat.le_of_ble_eq_true rfl) d_MO_result_130 ⟨(Nat.le_of_ble_eq_true rfl), (Nat.le_of_ble_eq_true rfl)⟩ ⟨(Nat.le_of_ble_eq_true rfl), (Nat.le_of_ble_eq_true rfl)⟩ (g_K.no (fun _ h => h)) (fun r_ f2_ hp => ?_)
          obtain ⟨rfl, hf9_⟩ := hp
          have hf_ : f2_ = (m_th f bd 1 L nc n pz pm) := hf9_
          clear hf9_
          subst f2_
          refine g_st (st2 := [.int 0]) rfl ?_
          have hR2 := mo_th hR 1
          obtain ⟨hM2, k1, k2, k3, k4, k5, k6, k7, k8, k9, k10, k11, k12, k13, k14⟩ := id hR2
          refine g_if_ne X 138 d_MO_result_133 (by decide) (fun c133 => ?_) (fun c133 => ?_)
          · skip
            exact absurd rfl c133
          · skip
            skip
            refine g_iconst (v := 0) X d_MO_result_136 (by decide) ?_
            exact g_iret X rfl (Or.inl ⟨hV, rfl, rfl⟩) (Nat.le_of_ble_eq_true rfl) (Nat.le_of_ble_eq_true rfl) d_MO_result_137
        · skip
          exact absurd rfl c105
      · skip
        exact absurd rfl c40
    | true =>
      have hV := hb_.mp rfl
      obtain ⟨⟨k, hk, rfl⟩, ⟨pe, hpe, rfl⟩, ⟨dd, hd, rfl⟩⟩ := hV
      refine g_istore (lv' := [(5, .int (bI true)), (0, .ref (bd 0)), (1, .int (nI k)), (2, .int (nI pe)), (3, .int (nI dd)), (4, .int (bI b))]) X d_MO_result_30 (by decide) rfl ?_
      refine g_iconst (v := (-1)) X d_MO_result_32 (by decide) ?_
      refine g_istore (lv' := [(6, .int (-1)), (5, .int (bI true)), (0, .ref (bd 0)), (1, .int (nI k)), (2, .int (nI pe)), (3, .int (nI dd)), (4, .int (bI b))]) X d_MO_result_33 (by decide) rfl ?_
      refine g_iconst (v := 0) X d_MO_result_35 (by decide) ?_
      refine g_istore (lv' := [(7, .int 0), (6, .int (-1)), (5, .int (bI true)), (0, .ref (bd 0)), (1, .int (nI k)), (2, .int (nI pe)), (3, .int (nI dd)), (4, .int (bI b))]) X d_MO_result_36 (by decide) rfl ?_
      refine g_lv [0, 1, 2, 3, 4, 5, 6, 7] rfl (L_MO_result hR hB (k := k) (pe := pe) (dd := dd) (b := b) (by omega) hpe hd X ?_ (ct k) 0 (by omega))
      have hctk := hct k
      have hxl : lx (rmt PF DF k pe dd) (ct k) ≤ 32 := Nat.le_trans (lx_le _ _) hctk
      refine g_aload_n X d_MO_result_100 2 rfl ?_
      refine g_iload X d_MO_result_101 1 rfl ?_
      refine g_iload X d_MO_result_103 1 rfl ?_
      refine g_if_eq X 129 d_MO_result_105 (by decide) (fun c105 => ?_) (fun c105 => ?_)
      · skip
        exact absurd c105 (by decide)
      · skip
        refine g_iload X d_MO_result_108 0 rfl ?_
        refine g_iconst (v := (-1)) X d_MO_result_110 (by decide) ?_
        refine g_icmp_ne X 125 d_MO_result_111 (by decide) (fun c111 => ?_) (fun c111 => ?_)
        · skip
          have hx9 : lx (rmt PF DF k pe dd) (ct k) ≠ 0 := fun z => c111 ((arw_n (by omega) hxl).mpr z)
          refine g_iconst (v := 1) X d_MO_result_125 (by decide) ?_
          refine g_goto X 130 d_MO_result_126 (by decide) ?_
          refine g_callV (ci := 5) (As := [.int (bI true), .int 1]) (rest := []) X (z_ok eA eM) rfl rfl hM (c_MO_goes hR hB (b1 := true) (b2 := true)) v_MO_goes q_671 q_s19 q_669 rfl rfl (Nat.le_of_ble_eq_true rfl) d_MO_result_130 ⟨(Nat.le_of_ble_eq_true rfl), (Nat.le_of_ble_eq_true rfl)⟩ ⟨(Nat.le_of_ble_eq_true rfl), (Nat.le_of_ble_eq_true rfl)⟩ (g_K.no (fun _ h => h)) (fun r_ f2_ hp => ?_)
          obtain ⟨rfl, hf9_⟩ := hp
          have hf_ : f2_ = (m_th f bd 0 L nc n pz pm) := hf9_
          clear hf9_
          subst f2_
          refine g_st (st2 := [.int 1]) rfl ?_
          have hR2 := mo_th hR 0
          obtain ⟨hM2, k1, k2, k3, k4, k5, k6, k7, k8, k9, k10, k11, k12, k13, k14⟩ := id hR2
          refine g_if_ne X 138 d_MO_result_133 (by decide) (fun c133 => ?_) (fun c133 => ?_)
          · skip
            skip
            refine g_iload X d_MO_result_138 0 rfl ?_
            refine g_iconst (v := (-1)) X d_MO_result_140 (by decide) ?_
            refine g_icmp_ne X 167 d_MO_result_141 (by decide) (fun c141 => ?_) (fun c141 => ?_)
            · skip
              obtain ⟨i_, hm9⟩ : ∃ i_, lx (rmt PF DF k pe dd) (ct k) = i_ + 1 := ⟨lx (rmt PF DF k pe dd) (ct k) - 1, by omega⟩
              have ht9 := lx_true (p := rmt PF DF k pe dd) (ct k) hx9
              have hi_ : i_ < ct k := by have := ht9.1; omega
              have hm8 : rmt PF DF k pe dd i_ = true := by have := ht9.2.1; rw [hm9, Nat.add_sub_cancel] at this; exact this
              refine g_lv (lv' := [(6, .int (nI (32 * k + i_))), (5, .int (bI true)), (0, .ref (bd 0)), (1, .int (nI k)), (2, .int (nI pe)), (3, .int (nI dd)), (4, .int (bI b))]) [0, 1, 2, 3, 4, 5, 6] (by rw [hm9, arw_s]; rfl) ?_
              refine g_aload_n X d_MO_result_167 2 rfl ?_
              refine g_get (ci := 5) (C := R_MO) (T := F_MO) (N := 20) (v := .ref (bd 9)) X i_MO rfl hM2 12 (by decide) q_609 (fun _ h9 => h9) rfl d_MO_result_168 ?_
              refine g_iload X d_MO_result_171 0 rfl ?_
              refine g_iload_n X d_MO_result_173 4 rfl ?_
              refine g_iast (t0 := 0) (g2 := fun q9 => nI (va_up PF (32 * k + i_) pe q9)) X k9 rfl (nI_ix (by omega : 32 * k + i_ < 768) (by decide)) (upd_nI (g := PF) (by omega)) d_MO_result_174 ?_
              generalize ef_1 : g_u (m_th f bd 0 L nc n pz pm) (bd 9) (.inl (cI, 768, .inl (fun q9 => nI (va_up PF (32 * k + i_) pe q9)))) = f_1
              have h_2 : f_1 (bd 0) = some (.inr (5, [.int 0, .int (nI L), .int (nI nc), .ref (bd 1), .ref (bd 2), .int (nI n), .ref (bd 3), .ref (bd 4), .ref (bd 5), .ref (bd 6), .ref (bd 7), .ref (bd 8), .ref (bd 9), .ref (bd 10), .ref (bd 11), .int (nI pz), .int (nI pm), .ref (bd 12), .ref (bd 13), .ref (bd 14)])) := by rw [← ef_1]; exact (g_u_n (tu_ne hM2 k9)).trans hM2
              have h_3 : f_1 (bd 1) = some (.inl (cI, 24, .inl pt)) := by rw [← ef_1]; exact (g_u_n (fun z => absurd (hIn 1 9 (by decide) (by decide) z) (by decide))).trans k1
              have h_4 : f_1 (bd 2) = some (.inl (cI, 24, .inl ot)) := by rw [← ef_1]; exact (g_u_n (fun z => absurd (hIn 2 9 (by decide) (by decide) z) (by decide))).trans k2
              have h_5 : f_1 (bd 3) = some (.inl (cI, 8, .inl (fun q9 => nI (P q9)))) := by rw [← ef_1]; exact (g_u_n (fun z => absurd (hIn 3 9 (by decide) (by decide) z) (by decide))).trans k3
              have h_6 : f_1 (bd 4) = some (.inl (cI, 8, .inl (fun q9 => nI (Du q9)))) := by rw [← ef_1]; exact (g_u_n (fun z => absurd (hIn 4 9 (by decide) (by decide) z) (by decide))).trans k4
              have h_7 : f_1 (bd 5) = some (.inl (cI, 8, .inl (fun q9 => nI (S q9)))) := by rw [← ef_1]; exact (g_u_n (fun z => absurd (hIn 5 9 (by decide) (by decide) z) (by decide))).trans k5
              have h_8 : f_1 (bd 6) = some (.inl (cI, 100, .inl (fun q9 => nI (Wy q9)))) := by rw [← ef_1]; exact (g_u_n (fun z => absurd (hIn 6 9 (by decide) (by decide) z) (by decide))).trans k6
              have h_9 : f_1 (bd 7) = some (.inl (cI, 75024, .inl (fun q9 => nI (tw q9)))) := by rw [← ef_1]; exact (g_u_n (fun z => absurd (hIn 7 9 (by decide) (by decide) z) (by decide))).trans k7
              have h_10 : f_1 (bd 8) = some (.inl (cI, 24, .inl (fun q9 => nI (ct q9)))) := by rw [← ef_1]; exact (g_u_n (fun z => absurd (hIn 8 9 (by decide) (by decide) z) (by decide))).trans k8
              have h_11 : f_1 (bd 9) = some (.inl (cI, 768, .inl (fun q9 => nI (va_up PF (32 * k + i_) pe q9)))) := by rw [← ef_1]; exact g_u_s
              have h_12 : f_1 (bd 10) = some (.inl (cI, 768, .inl (fun q9 => nI (DF q9)))) := by rw [← ef_1]; exact (g_u_n (fun z => absurd (hIn 10 9 (by decide) (by decide) z) (by decide))).trans k10
              have h_13 : f_1 (bd 11) = some (.inl (cZ, 768, .inl (fun q9 => bI (GF q9)))) := by rw [← ef_1]; exact (g_u_n (fun z => absurd (hIn 11 9 (by decide) (by decide) z) (by decide))).trans k11
              have h_14 : f_1 (bd 12) = some (.inl (cI, 8, .inl (fun q9 => nI (O q9)))) := by rw [← ef_1]; exact (g_u_n (fun z => absurd (hIn 12 9 (by decide) (by decide) z) (by decide))).trans k12
              have h_15 : f_1 (bd 13) = some (.inl (cI, 2048, .inl (fun q9 => nI (Le q9)))) := by rw [← ef_1]; exact (g_u_n (fun z => absurd (hIn 13 9 (by decide) (by decide) z) (by decide))).trans k13
              have h_16 : f_1 (bd 14) = some (.inl (cZ, 256, .inl (fun q9 => bI (Sl q9)))) := by rw [← ef_1]; exact (g_u_n (fun z => absurd (hIn 14 9 (by decide) (by decide) z) (by decide))).trans k14
              refine g_aload_n X d_MO_result_175 2 rfl ?_
              refine g_get (ci := 5) (C := R_MO) (T := F_MO) (N := 20) (v := .ref (bd 10)) X i_MO rfl h_2 13 (by decide) q_610 (fun _ h9 => h9) rfl d_MO_result_176 ?_
              refine g_iload X d_MO_result_179 0 rfl ?_
              refine g_iload_n X d_MO_result_181 5 rfl ?_
              refine g_iast (t0 := 0) (g2 := fun q9 => nI (va_up DF (32 * k + i_) dd q9)) X h_12 rfl (nI_ix (by omega : 32 * k + i_ < 768) (by decide)) (upd_nI (g := DF) (by omega)) d_MO_result_182 ?_
              generalize ef_17 : g_u f_1 (bd 10) (.inl (cI, 768, .inl (fun q9 => nI (va_up DF (32 * k + i_) dd q9)))) = f_17
              have h_18 : f_17 (bd 0) = some (.inr (5, [.int 0, .int (nI L), .int (nI nc), .ref (bd 1), .ref (bd 2), .int (nI n), .ref (bd 3), .ref (bd 4), .ref (bd 5), .ref (bd 6), .ref (bd 7), .ref (bd 8), .ref (bd 9), .ref (bd 10), .ref (bd 11), .int (nI pz), .int (nI pm), .ref (bd 12), .ref (bd 13), .ref (bd 14)])) := by rw [← ef_17]; exact (g_u_n (tu_ne h_2 h_12)).trans h_2
              have h_19 : f_17 (bd 1) = some (.inl (cI, 24, .inl pt)) := by rw [← ef_17]; exact (g_u_n (fun z => absurd (hIn 1 10 (by decide) (by decide) z) (by decide))).trans h_3
              have h_20 : f_17 (bd 2) = some (.inl (cI, 24, .inl ot)) := by rw [← ef_17]; exact (g_u_n (fun z => absurd (hIn 2 10 (by decide) (by decide) z) (by decide))).trans h_4
              have h_21 : f_17 (bd 3) = some (.inl (cI, 8, .inl (fun q9 => nI (P q9)))) := by rw [← ef_17]; exact (g_u_n (fun z => absurd (hIn 3 10 (by decide) (by decide) z) (by decide))).trans h_5
              have h_22 : f_17 (bd 4) = some (.inl (cI, 8, .inl (fun q9 => nI (Du q9)))) := by rw [← ef_17]; exact (g_u_n (fun z => absurd (hIn 4 10 (by decide) (by decide) z) (by decide))).trans h_6
              have h_23 : f_17 (bd 5) = some (.inl (cI, 8, .inl (fun q9 => nI (S q9)))) := by rw [← ef_17]; exact (g_u_n (fun z => absurd (hIn 5 10 (by decide) (by decide) z) (by decide))).trans h_7
              have h_24 : f_17 (bd 6) = some (.inl (cI, 100, .inl (fun q9 => nI (Wy q9)))) := by rw [← ef_17]; exact (g_u_n (fun z => absurd (hIn 6 10 (by decide) (by decide) z) (by decide))).trans h_8
              have h_25 : f_17 (bd 7) = some (.inl (cI, 75024, .inl (fun q9 => nI (tw q9)))) := by rw [← ef_17]; exact (g_u_n (fun z => absurd (hIn 7 10 (by decide) (by decide) z) (by decide))).trans h_9
              have h_26 : f_17 (bd 8) = some (.inl (cI, 24, .inl (fun q9 => nI (ct q9)))) := by rw [← ef_17]; exact (g_u_n (fun z => absurd (hIn 8 10 (by decide) (by decide) z) (by decide))).trans h_10
              have h_27 : f_17 (bd 9) = some (.inl (cI, 768, .inl (fun q9 => nI (va_up PF (32 * k + i_) pe q9)))) := by rw [← ef_17]; exact (g_u_n (fun z => absurd (hIn 9 10 (by decide) (by decide) z) (by decide))).trans h_11
              have h_28 : f_17 (bd 10) = some (.inl (cI, 768, .inl (fun q9 => nI (va_up DF (32 * k + i_) dd q9)))) := by rw [← ef_17]; exact g_u_s
              have h_29 : f_17 (bd 11) = some (.inl (cZ, 768, .inl (fun q9 => bI (GF q9)))) := by rw [← ef_17]; exact (g_u_n (fun z => absurd (hIn 11 10 (by decide) (by decide) z) (by decide))).trans h_13
              have h_30 : f_17 (bd 12) = some (.inl (cI, 8, .inl (fun q9 => nI (O q9)))) := by rw [← ef_17]; exact (g_u_n (fun z => absurd (hIn 12 10 (by decide) (by decide) z) (by decide))).trans h_14
              have h_31 : f_17 (bd 13) = some (.inl (cI, 2048, .inl (fun q9 => nI (Le q9)))) := by rw [← ef_17]; exact (g_u_n (fun z => absurd (hIn 13 10 (by decide) (by decide) z) (by decide))).trans h_15
              have h_32 : f_17 (bd 14) = some (.inl (cZ, 256, .inl (fun q9 => bI (Sl q9)))) := by rw [← ef_17]; exact (g_u_n (fun z => absurd (hIn 14 10 (by decide) (by decide) z) (by decide))).trans h_16
              refine g_aload_n X d_MO_result_183 2 rfl ?_
              refine g_get (ci := 5) (C := R_MO) (T := F_MO) (N := 20) (v := .ref (bd 11)) X i_MO rfl h_18 14 (by decide) q_611 (fun _ h9 => h9) rfl d_MO_result_184 ?_
              refine g_iload X d_MO_result_187 0 rfl ?_
              refine g_iload X d_MO_result_189 6 rfl ?_
              refine g_zast (t0 := 1) (g2 := fun q9 => bI (va_up GF (32 * k + i_) b q9)) X h_29 rfl (nI_ix (by omega : 32 * k + i_ < 768) (by decide)) (upd_bI (by omega)) d_MO_result_191 ?_
              generalize ef_33 : g_u f_17 (bd 11) (.inl (cZ, 768, .inl (fun q9 => bI (va_up GF (32 * k + i_) b q9)))) = f_33
              have h_34 : f_33 (bd 0) = some (.inr (5, [.int 0, .int (nI L), .int (nI nc), .ref (bd 1), .ref (bd 2), .int (nI n), .ref (bd 3), .ref (bd 4), .ref (bd 5), .ref (bd 6), .ref (bd 7), .ref (bd 8), .ref (bd 9), .ref (bd 10), .ref (bd 11), .int (nI pz), .int (nI pm), .ref (bd 12), .ref (bd 13), .ref (bd 14)])) := by rw [← ef_33]; exact (g_u_n (tu_ne h_18 h_29)).trans h_18
              have h_35 : f_33 (bd 1) = some (.inl (cI, 24, .inl pt)) := by rw [← ef_33]; exact (g_u_n (fun z => absurd (hIn 1 11 (by decide) (by decide) z) (by decide))).trans h_19
              have h_36 : f_33 (bd 2) = some (.inl (cI, 24, .inl ot)) := by rw [← ef_33]; exact (g_u_n (fun z => absurd (hIn 2 11 (by decide) (by decide) z) (by decide))).trans h_20
              have h_37 : f_33 (bd 3) = some (.inl (cI, 8, .inl (fun q9 => nI (P q9)))) := by rw [← ef_33]; exact (g_u_n (fun z => absurd (hIn 3 11 (by decide) (by decide) z) (by decide))).trans h_21
              have h_38 : f_33 (bd 4) = some (.inl (cI, 8, .inl (fun q9 => nI (Du q9)))) := by rw [← ef_33]; exact (g_u_n (fun z => absurd (hIn 4 11 (by decide) (by decide) z) (by decide))).trans h_22
              have h_39 : f_33 (bd 5) = some (.inl (cI, 8, .inl (fun q9 => nI (S q9)))) := by rw [← ef_33]; exact (g_u_n (fun z => absurd (hIn 5 11 (by decide) (by decide) z) (by decide))).trans h_23
              have h_40 : f_33 (bd 6) = some (.inl (cI, 100, .inl (fun q9 => nI (Wy q9)))) := by rw [← ef_33]; exact (g_u_n (fun z => absurd (hIn 6 11 (by decide) (by decide) z) (by decide))).trans h_24
              have h_41 : f_33 (bd 7) = some (.inl (cI, 75024, .inl (fun q9 => nI (tw q9)))) := by rw [← ef_33]; exact (g_u_n (fun z => absurd (hIn 7 11 (by decide) (by decide) z) (by decide))).trans h_25
              have h_42 : f_33 (bd 8) = some (.inl (cI, 24, .inl (fun q9 => nI (ct q9)))) := by rw [← ef_33]; exact (g_u_n (fun z => absurd (hIn 8 11 (by decide) (by decide) z) (by decide))).trans h_26
              have h_43 : f_33 (bd 9) = some (.inl (cI, 768, .inl (fun q9 => nI (va_up PF (32 * k + i_) pe q9)))) := by rw [← ef_33]; exact (g_u_n (fun z => absurd (hIn 9 11 (by decide) (by decide) z) (by decide))).trans h_27
              have h_44 : f_33 (bd 10) = some (.inl (cI, 768, .inl (fun q9 => nI (va_up DF (32 * k + i_) dd q9)))) := by rw [← ef_33]; exact (g_u_n (fun z => absurd (hIn 10 11 (by decide) (by decide) z) (by decide))).trans h_28
              have h_45 : f_33 (bd 11) = some (.inl (cZ, 768, .inl (fun q9 => bI (va_up GF (32 * k + i_) b q9)))) := by rw [← ef_33]; exact g_u_s
              have h_46 : f_33 (bd 12) = some (.inl (cI, 8, .inl (fun q9 => nI (O q9)))) := by rw [← ef_33]; exact (g_u_n (fun z => absurd (hIn 12 11 (by decide) (by decide) z) (by decide))).trans h_30
              have h_47 : f_33 (bd 13) = some (.inl (cI, 2048, .inl (fun q9 => nI (Le q9)))) := by rw [← ef_33]; exact (g_u_n (fun z => absurd (hIn 13 11 (by decide) (by decide) z) (by decide))).trans h_31
              have h_48 : f_33 (bd 14) = some (.inl (cZ, 256, .inl (fun q9 => bI (Sl q9)))) := by rw [← ef_33]; exact (g_u_n (fun z => absurd (hIn 14 11 (by decide) (by decide) z) (by decide))).trans h_32
              refine g_aload_n X d_MO_result_192 2 rfl ?_
              refine g_get (ci := 5) (C := R_MO) (T := F_MO) (N := 20) (v := .ref (bd 8)) X i_MO rfl h_34 11 (by decide) q_608 (fun _ h9 => h9) rfl d_MO_result_193 ?_
              refine g_iload_n X d_MO_result_196 3 rfl ?_
              refine g_iald (t0 := 0) (v := nI (ct k)) X h_42 rfl (nI_ix (by omega : k < 24) (by decide)) (nI_cl (g := fun q9 => nI (ct q9)) (by omega)) d_MO_result_197 ?_
              exact g_iret X rfl (Or.inr (Or.inr ⟨k, pe, dd, i_, hk, hpe, hd, rfl, rfl, rfl, by omega, by omega, fun _ => hm8, fun z => absurd z (by omega), by rw [Nat.max_eq_left (by omega)], by rw [Nat.max_eq_left (by omega), va_up_id]; exact ⟨h_34, h_35, h_36, h_37, h_38, h_39, h_40, h_41, h_42, h_43, h_44, h_45, h_46, h_47, h_48⟩, fun q hq => by rw [← ef_33, ← ef_17, ← ef_1]; exact (g_u_n (hq 11 (by decide))).trans ((g_u_n (hq 10 (by decide))).trans ((g_u_n (hq 9 (by decide))).trans ((g_u_n (hq 0 (by decide))))))⟩)) (Nat.le_of_ble_eq_true rfl) (Nat.le_of_ble_eq_true rfl) d_MO_result_198
            · skip
              exact absurd c141 c111
          · skip
            exact absurd c133 (by decide)
        · skip
          have hx9 : lx (rmt PF DF k pe dd) (ct k) = 0 := (arw_n (by omega) hxl).mp c111
          refine g_aload_n X d_MO_result_114 2 rfl ?_
          refine g_get (ci := 5) (C := R_MO) (T := F_MO) (N := 20) (v := .ref (bd 8)) X i_MO rfl hM 11 (by decide) q_608 (fun _ h9 => h9) rfl d_MO_result_115 ?_
          refine g_iload_n X d_MO_result_118 3 rfl ?_
          refine g_iald (t0 := 0) (v := nI (ct k)) X h8 rfl (nI_ix ((by omega : k < 24)) (by decide)) (nI_cl (g := fun q9 => nI (ct q9)) (Nat.lt_trans ((by omega : k < 24)) (by decide))) d_MO_result_119 ?_
          refine g_bipush (v := 32) X d_MO_result_120 (by decide) ?_
          refine g_icmp_ge X 129 d_MO_result_122 (by decide) (fun c122 => ?_) (fun c122 => ?_)
          · skip
            have hn9 : ¬ ct k < 32 := Nat.not_lt.mpr ((nI_leI (a := 32) (by decide) (by omega)).mp c122)
            refine g_iconst (v := 0) X d_MO_result_129 (by decide) ?_
            refine g_callV (ci := 5) (As := [.int (bI true), .int 0]) (rest := []) X (z_ok eA eM) rfl rfl hM (c_MO_goes hR hB (b1 := true) (b2 := false)) v_MO_goes q_671 q_s19 q_669 rfl rfl (Nat.le_of_ble_eq_true rfl) d_MO_result_130 ⟨(Nat.le_of_ble_eq_true rfl), (Nat.le_of_ble_eq_true rfl)⟩ ⟨(Nat.le_of_ble_eq_true rfl), (Nat.le_of_ble_eq_true rfl)⟩ (g_K.no (fun _ h => h)) (fun r_ f2_ hp => ?_)
            obtain ⟨rfl, hf9_⟩ := hp
            have hf_ : f2_ = (m_th f bd 2 L nc n pz pm) := hf9_
            clear hf9_
            subst f2_
            refine g_st (st2 := [.int 0]) rfl ?_
            have hR2 := mo_th hR 2
            obtain ⟨hM2, k1, k2, k3, k4, k5, k6, k7, k8, k9, k10, k11, k12, k13, k14⟩ := id hR2
            refine g_if_ne X 138 d_MO_result_133 (by decide) (fun c133 => ?_) (fun c133 => ?_)
            · skip
              exact absurd rfl c133
            · skip
              skip
              refine g_iconst (v := 0) X d_MO_result_136 (by decide) ?_
              exact g_iret X rfl (Or.inr (Or.inl ⟨⟨⟨k, hk, rfl⟩, ⟨pe, hpe, rfl⟩, ⟨dd, hd, rfl⟩⟩, ⟨k, pe, dd, rfl, rfl, rfl, hk, hpe, hd, by omega, fun j hj => lx_none _ hx9 j (by omega)⟩, rfl, rfl⟩)) (Nat.le_of_ble_eq_true rfl) (Nat.le_of_ble_eq_true rfl) d_MO_result_137
          · skip
            have hn9 : ct k < 32 := Nat.lt_of_not_le (fun z => c122 ((nI_leI (a := 32) (by decide) (by omega)).mpr z))
            refine g_iconst (v := 1) X d_MO_result_125 (by decide) ?_
            refine g_goto X 130 d_MO_result_126 (by decide) ?_
            refine g_callV (ci := 5) (As := [.int (bI true), .int 1]) (rest := []) X (z_ok eA eM) rfl rfl hM (c_MO_goes hR hB (b1 := true) (b2 := true)) v_MO_goes q_671 q_s19 q_669 rfl rfl (Nat.le_of_ble_eq_true rfl) d_MO_result_130 ⟨(Nat.le_of_ble_eq_true rfl), (Nat.le_of_ble_eq_true rfl)⟩ ⟨(Nat.le_of_ble_eq_true rfl), (Nat.le_of_ble_eq_true rfl)⟩ (g_K.no (fun _ h => h)) (fun r_ f2_ hp => ?_)
            obtain ⟨rfl, hf9_⟩ := hp
            have hf_ : f2_ = (m_th f bd 0 L nc n pz pm) := hf9_
            clear hf9_
            subst f2_
            refine g_st (st2 := [.int 1]) rfl ?_
            have hR2 := mo_th hR 0
            obtain ⟨hM2, k1, k2, k3, k4, k5, k6, k7, k8, k9, k10, k11, k12, k13, k14⟩ := id hR2
            refine g_if_ne X 138 d_MO_result_133 (by decide) (fun c133 => ?_) (fun c133 => ?_)
            · skip
              skip
              refine g_iload X d_MO_result_138 0 rfl ?_
              refine g_iconst (v := (-1)) X d_MO_result_140 (by decide) ?_
              refine g_icmp_ne X 167 d_MO_result_141 (by decide) (fun c141 => ?_) (fun c141 => ?_)
              · skip
                exact absurd c111 c141
              · skip
                skip
                refine g_bipush (v := 32) X d_MO_result_144 (by decide) ?_
                refine g_iload_n X d_MO_result_146 3 rfl ?_
                refine g_imul X d_MO_result_147 ?_
                refine g_eqi (y := nI (32 * k)) (nI_mul 32 k) ?_
                refine g_aload_n X d_MO_result_148 2 rfl ?_
                refine g_get (ci := 5) (C := R_MO) (T := F_MO) (N := 20) (v := .ref (bd 8)) X i_MO rfl hM2 11 (by decide) q_608 (fun _ h9 => h9) rfl d_MO_result_149 ?_
                refine g_iload_n X d_MO_result_152 3 rfl ?_
                refine g_iald (t0 := 0) (v := nI (ct k)) X k8 rfl (nI_ix ((by omega : k < 24)) (by decide)) (nI_cl (g := fun q9 => nI (ct q9)) (Nat.lt_trans ((by omega : k < 24)) (by decide))) d_MO_result_153 ?_
                refine g_iadd X d_MO_result_154 ?_
                refine g_eqi (y := nI (32 * k + ct k)) (nI_add _ _) ?_
                refine g_istore (lv' := [(6, .int (nI (32 * k + ct k))), (5, .int (bI true)), (0, .ref (bd 0)), (1, .int (nI k)), (2, .int (nI pe)), (3, .int (nI dd)), (4, .int (bI b))]) X d_MO_result_155 (by decide) rfl ?_
                refine g_aload_n X d_MO_result_157 2 rfl ?_
                refine g_get (ci := 5) (C := R_MO) (T := F_MO) (N := 20) (v := .ref (bd 8)) X i_MO rfl hM2 11 (by decide) q_608 (fun _ h9 => h9) rfl d_MO_result_158 ?_
                refine g_iload_n X d_MO_result_161 3 rfl ?_
                refine g_dup2 X d_MO_result_162 rfl rfl ?_
                refine g_iald (t0 := 0) (v := nI (ct k)) X k8 rfl (nI_ix ((by omega : k < 24)) (by decide)) (nI_cl (g := fun q9 => nI (ct q9)) (Nat.lt_trans ((by omega : k < 24)) (by decide))) d_MO_result_163 ?_
                refine g_iconst (v := 1) X d_MO_result_164 (by decide) ?_
                refine g_iadd X d_MO_result_165 ?_
                refine g_eqi (y := nI (ct k + 1)) (nI_1 _) ?_
                refine g_iast (t0 := 0) (g2 := fun q9 => nI (va_up ct k (ct k + 1) q9)) X k8 rfl (nI_ix ((by omega : k < 24)) (by decide)) (upd_nI (g := ct) (Nat.lt_trans ((by omega : k < 24)) (by decide))) d_MO_result_166 ?_
                generalize ef_49 : g_u (m_th f bd 0 L nc n pz pm) (bd 8) (.inl (cI, 24, .inl (fun q9 => nI (va_up ct k (ct k + 1) q9)))) = f_49
                have h_50 : f_49 (bd 0) = some (.inr (5, [.int 0, .int (nI L), .int (nI nc), .ref (bd 1), .ref (bd 2), .int (nI n), .ref (bd 3), .ref (bd 4), .ref (bd 5), .ref (bd 6), .ref (bd 7), .ref (bd 8), .ref (bd 9), .ref (bd 10), .ref (bd 11), .int (nI pz), .int (nI pm), .ref (bd 12), .ref (bd 13), .ref (bd 14)])) := by rw [← ef_49]; exact (g_u_n (tu_ne hM2 k8)).trans hM2
                have h_51 : f_49 (bd 1) = some (.inl (cI, 24, .inl pt)) := by rw [← ef_49]; exact (g_u_n (fun z => absurd (hIn 1 8 (by decide) (by decide) z) (by decide))).trans k1
                have h_52 : f_49 (bd 2) = some (.inl (cI, 24, .inl ot)) := by rw [← ef_49]; exact (g_u_n (fun z => absurd (hIn 2 8 (by decide) (by decide) z) (by decide))).trans k2
                have h_53 : f_49 (bd 3) = some (.inl (cI, 8, .inl (fun q9 => nI (P q9)))) := by rw [← ef_49]; exact (g_u_n (fun z => absurd (hIn 3 8 (by decide) (by decide) z) (by decide))).trans k3
                have h_54 : f_49 (bd 4) = some (.inl (cI, 8, .inl (fun q9 => nI (Du q9)))) := by rw [← ef_49]; exact (g_u_n (fun z => absurd (hIn 4 8 (by decide) (by decide) z) (by decide))).trans k4
                have h_55 : f_49 (bd 5) = some (.inl (cI, 8, .inl (fun q9 => nI (S q9)))) := by rw [← ef_49]; exact (g_u_n (fun z => absurd (hIn 5 8 (by decide) (by decide) z) (by decide))).trans k5
                have h_56 : f_49 (bd 6) = some (.inl (cI, 100, .inl (fun q9 => nI (Wy q9)))) := by rw [← ef_49]; exact (g_u_n (fun z => absurd (hIn 6 8 (by decide) (by decide) z) (by decide))).trans k6
                have h_57 : f_49 (bd 7) = some (.inl (cI, 75024, .inl (fun q9 => nI (tw q9)))) := by rw [← ef_49]; exact (g_u_n (fun z => absurd (hIn 7 8 (by decide) (by decide) z) (by decide))).trans k7
                have h_58 : f_49 (bd 8) = some (.inl (cI, 24, .inl (fun q9 => nI (va_up ct k (ct k + 1) q9)))) := by rw [← ef_49]; exact g_u_s
                have h_59 : f_49 (bd 9) = some (.inl (cI, 768, .inl (fun q9 => nI (PF q9)))) := by rw [← ef_49]; exact (g_u_n (fun z => absurd (hIn 9 8 (by decide) (by decide) z) (by decide))).trans k9
                have h_60 : f_49 (bd 10) = some (.inl (cI, 768, .inl (fun q9 => nI (DF q9)))) := by rw [← ef_49]; exact (g_u_n (fun z => absurd (hIn 10 8 (by decide) (by decide) z) (by decide))).trans k10
                have h_61 : f_49 (bd 11) = some (.inl (cZ, 768, .inl (fun q9 => bI (GF q9)))) := by rw [← ef_49]; exact (g_u_n (fun z => absurd (hIn 11 8 (by decide) (by decide) z) (by decide))).trans k11
                have h_62 : f_49 (bd 12) = some (.inl (cI, 8, .inl (fun q9 => nI (O q9)))) := by rw [← ef_49]; exact (g_u_n (fun z => absurd (hIn 12 8 (by decide) (by decide) z) (by decide))).trans k12
                have h_63 : f_49 (bd 13) = some (.inl (cI, 2048, .inl (fun q9 => nI (Le q9)))) := by rw [← ef_49]; exact (g_u_n (fun z => absurd (hIn 13 8 (by decide) (by decide) z) (by decide))).trans k13
                have h_64 : f_49 (bd 14) = some (.inl (cZ, 256, .inl (fun q9 => bI (Sl q9)))) := by rw [← ef_49]; exact (g_u_n (fun z => absurd (hIn 14 8 (by decide) (by decide) z) (by decide))).trans k14
                refine g_aload_n X d_MO_result_167 2 rfl ?_
                refine g_get (ci := 5) (C := R_MO) (T := F_MO) (N := 20) (v := .ref (bd 9)) X i_MO rfl h_50 12 (by decide) q_609 (fun _ h9 => h9) rfl d_MO_result_168 ?_
                refine g_iload X d_MO_result_171 0 rfl ?_
                refine g_iload_n X d_MO_result_173 4 rfl ?_
                refine g_iast (t0 := 0) (g2 := fun q9 => nI (va_up PF (32 * k + ct k) pe q9)) X h_59 rfl (nI_ix (by omega : 32 * k + ct k < 768) (by decide)) (upd_nI (g := PF) (by omega)) d_MO_result_174 ?_
                generalize ef_65 : g_u f_49 (bd 9) (.inl (cI, 768, .inl (fun q9 => nI (va_up PF (32 * k + ct k) pe q9)))) = f_65
                have h_66 : f_65 (bd 0) = some (.inr (5, [.int 0, .int (nI L), .int (nI nc), .ref (bd 1), .ref (bd 2), .int (nI n), .ref (bd 3), .ref (bd 4), .ref (bd 5), .ref (bd 6), .ref (bd 7), .ref (bd 8), .ref (bd 9), .ref (bd 10), .ref (bd 11), .int (nI pz), .int (nI pm), .ref (bd 12), .ref (bd 13), .ref (bd 14)])) := by rw [← ef_65]; exact (g_u_n (tu_ne h_50 h_59)).trans h_50
                have h_67 : f_65 (bd 1) = some (.inl (cI, 24, .inl pt)) := by rw [← ef_65]; exact (g_u_n (fun z => absurd (hIn 1 9 (by decide) (by decide) z) (by decide))).trans h_51
                have h_68 : f_65 (bd 2) = some (.inl (cI, 24, .inl ot)) := by rw [← ef_65]; exact (g_u_n (fun z => absurd (hIn 2 9 (by decide) (by decide) z) (by decide))).trans h_52
                have h_69 : f_65 (bd 3) = some (.inl (cI, 8, .inl (fun q9 => nI (P q9)))) := by rw [← ef_65]; exact (g_u_n (fun z => absurd (hIn 3 9 (by decide) (by decide) z) (by decide))).trans h_53
                have h_70 : f_65 (bd 4) = some (.inl (cI, 8, .inl (fun q9 => nI (Du q9)))) := by rw [← ef_65]; exact (g_u_n (fun z => absurd (hIn 4 9 (by decide) (by decide) z) (by decide))).trans h_54
                have h_71 : f_65 (bd 5) = some (.inl (cI, 8, .inl (fun q9 => nI (S q9)))) := by rw [← ef_65]; exact (g_u_n (fun z => absurd (hIn 5 9 (by decide) (by decide) z) (by decide))).trans h_55
                have h_72 : f_65 (bd 6) = some (.inl (cI, 100, .inl (fun q9 => nI (Wy q9)))) := by rw [← ef_65]; exact (g_u_n (fun z => absurd (hIn 6 9 (by decide) (by decide) z) (by decide))).trans h_56
                have h_73 : f_65 (bd 7) = some (.inl (cI, 75024, .inl (fun q9 => nI (tw q9)))) := by rw [← ef_65]; exact (g_u_n (fun z => absurd (hIn 7 9 (by decide) (by decide) z) (by decide))).trans h_57
                have h_74 : f_65 (bd 8) = some (.inl (cI, 24, .inl (fun q9 => nI (va_up ct k (ct k + 1) q9)))) := by rw [← ef_65]; exact (g_u_n (fun z => absurd (hIn 8 9 (by decide) (by decide) z) (by decide))).trans h_58
                have h_75 : f_65 (bd 9) = some (.inl (cI, 768, .inl (fun q9 => nI (va_up PF (32 * k + ct k) pe q9)))) := by rw [← ef_65]; exact g_u_s
                have h_76 : f_65 (bd 10) = some (.inl (cI, 768, .inl (fun q9 => nI (DF q9)))) := by rw [← ef_65]; exact (g_u_n (fun z => absurd (hIn 10 9 (by decide) (by decide) z) (by decide))).trans h_60
                have h_77 : f_65 (bd 11) = some (.inl (cZ, 768, .inl (fun q9 => bI (GF q9)))) := by rw [← ef_65]; exact (g_u_n (fun z => absurd (hIn 11 9 (by decide) (by decide) z) (by decide))).trans h_61
                have h_78 : f_65 (bd 12) = some (.inl (cI, 8, .inl (fun q9 => nI (O q9)))) := by rw [← ef_65]; exact (g_u_n (fun z => absurd (hIn 12 9 (by decide) (by decide) z) (by decide))).trans h_62
                have h_79 : f_65 (bd 13) = some (.inl (cI, 2048, .inl (fun q9 => nI (Le q9)))) := by rw [← ef_65]; exact (g_u_n (fun z => absurd (hIn 13 9 (by decide) (by decide) z) (by decide))).trans h_63
                have h_80 : f_65 (bd 14) = some (.inl (cZ, 256, .inl (fun q9 => bI (Sl q9)))) := by rw [← ef_65]; exact (g_u_n (fun z => absurd (hIn 14 9 (by decide) (by decide) z) (by decide))).trans h_64
                refine g_aload_n X d_MO_result_175 2 rfl ?_
                refine g_get (ci := 5) (C := R_MO) (T := F_MO) (N := 20) (v := .ref (bd 10)) X i_MO rfl h_66 13 (by decide) q_610 (fun _ h9 => h9) rfl d_MO_result_176 ?_
                refine g_iload X d_MO_result_179 0 rfl ?_
                refine g_iload_n X d_MO_result_181 5 rfl ?_
                refine g_iast (t0 := 0) (g2 := fun q9 => nI (va_up DF (32 * k + ct k) dd q9)) X h_76 rfl (nI_ix (by omega : 32 * k + ct k < 768) (by decide)) (upd_nI (g := DF) (by omega)) d_MO_result_182 ?_
                generalize ef_81 : g_u f_65 (bd 10) (.inl (cI, 768, .inl (fun q9 => nI (va_up DF (32 * k + ct k) dd q9)))) = f_81
                have h_82 : f_81 (bd 0) = some (.inr (5, [.int 0, .int (nI L), .int (nI nc), .ref (bd 1), .ref (bd 2), .int (nI n), .ref (bd 3), .ref (bd 4), .ref (bd 5), .ref (bd 6), .ref (bd 7), .ref (bd 8), .ref (bd 9), .ref (bd 10), .ref (bd 11), .int (nI pz), .int (nI pm), .ref (bd 12), .ref (bd 13), .ref (bd 14)])) := by rw [← ef_81]; exact (g_u_n (tu_ne h_66 h_76)).trans h_66
                have h_83 : f_81 (bd 1) = some (.inl (cI, 24, .inl pt)) := by rw [← ef_81]; exact (g_u_n (fun z => absurd (hIn 1 10 (by decide) (by decide) z) (by decide))).trans h_67
                have h_84 : f_81 (bd 2) = some (.inl (cI, 24, .inl ot)) := by rw [← ef_81]; exact (g_u_n (fun z => absurd (hIn 2 10 (by decide) (by decide) z) (by decide))).trans h_68
                have h_85 : f_81 (bd 3) = some (.inl (cI, 8, .inl (fun q9 => nI (P q9)))) := by rw [← ef_81]; exact (g_u_n (fun z => absurd (hIn 3 10 (by decide) (by decide) z) (by decide))).trans h_69
                have h_86 : f_81 (bd 4) = some (.inl (cI, 8, .inl (fun q9 => nI (Du q9)))) := by rw [← ef_81]; exact (g_u_n (fun z => absurd (hIn 4 10 (by decide) (by decide) z) (by decide))).trans h_70
                have h_87 : f_81 (bd 5) = some (.inl (cI, 8, .inl (fun q9 => nI (S q9)))) := by rw [← ef_81]; exact (g_u_n (fun z => absurd (hIn 5 10 (by decide) (by decide) z) (by decide))).trans h_71
                have h_88 : f_81 (bd 6) = some (.inl (cI, 100, .inl (fun q9 => nI (Wy q9)))) := by rw [← ef_81]; exact (g_u_n (fun z => absurd (hIn 6 10 (by decide) (by decide) z) (by decide))).trans h_72
                have h_89 : f_81 (bd 7) = some (.inl (cI, 75024, .inl (fun q9 => nI (tw q9)))) := by rw [← ef_81]; exact (g_u_n (fun z => absurd (hIn 7 10 (by decide) (by decide) z) (by decide))).trans h_73
                have h_90 : f_81 (bd 8) = some (.inl (cI, 24, .inl (fun q9 => nI (va_up ct k (ct k + 1) q9)))) := by rw [← ef_81]; exact (g_u_n (fun z => absurd (hIn 8 10 (by decide) (by decide) z) (by decide))).trans h_74
                have h_91 : f_81 (bd 9) = some (.inl (cI, 768, .inl (fun q9 => nI (va_up PF (32 * k + ct k) pe q9)))) := by rw [← ef_81]; exact (g_u_n (fun z => absurd (hIn 9 10 (by decide) (by decide) z) (by decide))).trans h_75
                have h_92 : f_81 (bd 10) = some (.inl (cI, 768, .inl (fun q9 => nI (va_up DF (32 * k + ct k) dd q9)))) := by rw [← ef_81]; exact g_u_s
                have h_93 : f_81 (bd 11) = some (.inl (cZ, 768, .inl (fun q9 => bI (GF q9)))) := by rw [← ef_81]; exact (g_u_n (fun z => absurd (hIn 11 10 (by decide) (by decide) z) (by decide))).trans h_77
                have h_94 : f_81 (bd 12) = some (.inl (cI, 8, .inl (fun q9 => nI (O q9)))) := by rw [← ef_81]; exact (g_u_n (fun z => absurd (hIn 12 10 (by decide) (by decide) z) (by decide))).trans h_78
                have h_95 : f_81 (bd 13) = some (.inl (cI, 2048, .inl (fun q9 => nI (Le q9)))) := by rw [← ef_81]; exact (g_u_n (fun z => absurd (hIn 13 10 (by decide) (by decide) z) (by decide))).trans h_79
                have h_96 : f_81 (bd 14) = some (.inl (cZ, 256, .inl (fun q9 => bI (Sl q9)))) := by rw [← ef_81]; exact (g_u_n (fun z => absurd (hIn 14 10 (by decide) (by decide) z) (by decide))).trans h_80
                refine g_aload_n X d_MO_result_183 2 rfl ?_
                refine g_get (ci := 5) (C := R_MO) (T := F_MO) (N := 20) (v := .ref (bd 11)) X i_MO rfl h_82 14 (by decide) q_611 (fun _ h9 => h9) rfl d_MO_result_184 ?_
                refine g_iload X d_MO_result_187 0 rfl ?_
                refine g_iload X d_MO_result_189 6 rfl ?_
                refine g_zast (t0 := 1) (g2 := fun q9 => bI (va_up GF (32 * k + ct k) b q9)) X h_93 rfl (nI_ix (by omega : 32 * k + ct k < 768) (by decide)) (upd_bI (by omega)) d_MO_result_191 ?_
                generalize ef_97 : g_u f_81 (bd 11) (.inl (cZ, 768, .inl (fun q9 => bI (va_up GF (32 * k + ct k) b q9)))) = f_97
                have h_98 : f_97 (bd 0) = some (.inr (5, [.int 0, .int (nI L), .int (nI nc), .ref (bd 1), .ref (bd 2), .int (nI n), .ref (bd 3), .ref (bd 4), .ref (bd 5), .ref (bd 6), .ref (bd 7), .ref (bd 8), .ref (bd 9), .ref (bd 10), .ref (bd 11), .int (nI pz), .int (nI pm), .ref (bd 12), .ref (bd 13), .ref (bd 14)])) := by rw [← ef_97]; exact (g_u_n (tu_ne h_82 h_93)).trans h_82
                have h_99 : f_97 (bd 1) = some (.inl (cI, 24, .inl pt)) := by rw [← ef_97]; exact (g_u_n (fun z => absurd (hIn 1 11 (by decide) (by decide) z) (by decide))).trans h_83
                have h_100 : f_97 (bd 2) = some (.inl (cI, 24, .inl ot)) := by rw [← ef_97]; exact (g_u_n (fun z => absurd (hIn 2 11 (by decide) (by decide) z) (by decide))).trans h_84
                have h_101 : f_97 (bd 3) = some (.inl (cI, 8, .inl (fun q9 => nI (P q9)))) := by rw [← ef_97]; exact (g_u_n (fun z => absurd (hIn 3 11 (by decide) (by decide) z) (by decide))).trans h_85
                have h_102 : f_97 (bd 4) = some (.inl (cI, 8, .inl (fun q9 => nI (Du q9)))) := by rw [← ef_97]; exact (g_u_n (fun z => absurd (hIn 4 11 (by decide) (by decide) z) (by decide))).trans h_86
                have h_103 : f_97 (bd 5) = some (.inl (cI, 8, .inl (fun q9 => nI (S q9)))) := by rw [← ef_97]; exact (g_u_n (fun z => absurd (hIn 5 11 (by decide) (by decide) z) (by decide))).trans h_87
                have h_104 : f_97 (bd 6) = some (.inl (cI, 100, .inl (fun q9 => nI (Wy q9)))) := by rw [← ef_97]; exact (g_u_n (fun z => absurd (hIn 6 11 (by decide) (by decide) z) (by decide))).trans h_88
                have h_105 : f_97 (bd 7) = some (.inl (cI, 75024, .inl (fun q9 => nI (tw q9)))) := by rw [← ef_97]; exact (g_u_n (fun z => absurd (hIn 7 11 (by decide) (by decide) z) (by decide))).trans h_89
                have h_106 : f_97 (bd 8) = some (.inl (cI, 24, .inl (fun q9 => nI (va_up ct k (ct k + 1) q9)))) := by rw [← ef_97]; exact (g_u_n (fun z => absurd (hIn 8 11 (by decide) (by decide) z) (by decide))).trans h_90
                have h_107 : f_97 (bd 9) = some (.inl (cI, 768, .inl (fun q9 => nI (va_up PF (32 * k + ct k) pe q9)))) := by rw [← ef_97]; exact (g_u_n (fun z => absurd (hIn 9 11 (by decide) (by decide) z) (by decide))).trans h_91
                have h_108 : f_97 (bd 10) = some (.inl (cI, 768, .inl (fun q9 => nI (va_up DF (32 * k + ct k) dd q9)))) := by rw [← ef_97]; exact (g_u_n (fun z => absurd (hIn 10 11 (by decide) (by decide) z) (by decide))).trans h_92
                have h_109 : f_97 (bd 11) = some (.inl (cZ, 768, .inl (fun q9 => bI (va_up GF (32 * k + ct k) b q9)))) := by rw [← ef_97]; exact g_u_s
                have h_110 : f_97 (bd 12) = some (.inl (cI, 8, .inl (fun q9 => nI (O q9)))) := by rw [← ef_97]; exact (g_u_n (fun z => absurd (hIn 12 11 (by decide) (by decide) z) (by decide))).trans h_94
                have h_111 : f_97 (bd 13) = some (.inl (cI, 2048, .inl (fun q9 => nI (Le q9)))) := by rw [← ef_97]; exact (g_u_n (fun z => absurd (hIn 13 11 (by decide) (by decide) z) (by decide))).trans h_95
                have h_112 : f_97 (bd 14) = some (.inl (cZ, 256, .inl (fun q9 => bI (Sl q9)))) := by rw [← ef_97]; exact (g_u_n (fun z => absurd (hIn 14 11 (by decide) (by decide) z) (by decide))).trans h_96
                refine g_aload_n X d_MO_result_192 2 rfl ?_
                refine g_get (ci := 5) (C := R_MO) (T := F_MO) (N := 20) (v := .ref (bd 8)) X i_MO rfl h_98 11 (by decide) q_608 (fun _ h9 => h9) rfl d_MO_result_193 ?_
                refine g_iload_n X d_MO_result_196 3 rfl ?_
                refine g_iald (t0 := 0) (v := nI (ct k + 1)) X h_106 rfl (nI_ix (by omega : k < 24) (by decide)) ((nI_cl (g := fun q9 => nI (va_up ct k (ct k + 1) q9)) (by omega)).trans (by show nI (va_up ct k (ct k + 1) k) = _; unfold va_up; rw [if_pos rfl])) d_MO_result_197 ?_
                exact g_iret X rfl (Or.inr (Or.inr ⟨k, pe, dd, ct k, hk, hpe, hd, rfl, rfl, rfl, by omega, Nat.le_refl _, fun z => absurd z (by omega), fun _ j hj => lx_none _ hx9 j hj, by rw [Nat.max_eq_right (by omega)], by rw [Nat.max_eq_right (by omega)]; exact ⟨h_98, h_99, h_100, h_101, h_102, h_103, h_104, h_105, h_106, h_107, h_108, h_109, h_110, h_111, h_112⟩, fun q hq => by rw [← ef_97, ← ef_81, ← ef_65, ← ef_49]; exact (g_u_n (hq 11 (by decide))).trans ((g_u_n (hq 10 (by decide))).trans ((g_u_n (hq 9 (by decide))).trans ((g_u_n (hq 8 (by decide))).trans ((g_u_n (hq 0 (by decide)))))))⟩)) (Nat.le_of_ble_eq_true rfl) (Nat.le_of_ble_eq_true rfl) d_MO_result_198
            · skip
              exact absurd c133 (by decide)
  refine g_aload_n X d_MO_result_0 0 rfl ?_
  refine g_iload_n X d_MO_result_1 1 rfl ?_
  refine g_callV (ci := 5) (As := [.int x]) (rest := []) X (z_ok eA eM) rfl rfl hM (c_MO_isCase hR hB (x := x)) v_MO_isCase q_683 q_s20 q_681 rfl rfl (Nat.le_of_ble_eq_true rfl) d_MO_result_2 ⟨(Nat.le_of_ble_eq_true rfl), (Nat.le_of_ble_eq_true rfl)⟩ ⟨(Nat.le_of_ble_eq_true rfl), (Nat.le_of_ble_eq_true rfl)⟩ (g_K.no (fun _ h => h)) (fun r_ f2_ hp => ?_)
  obtain ⟨⟨b5, hb5, rfl⟩, hf_⟩ := hp
  subst f2_
  refine g_st (st2 := [.int (bI b5)]) rfl ?_
  refine g_if_eq X 29 d_MO_result_5 (by decide) (fun c5 => ?_) (fun c5 => ?_)
  · skip
    have hv5 : ¬ (inR x nc) := fun z => by rw [bI_z.mp c5] at hb5; exact Bool.noConfusion (hb5.mpr z)
    refine g_iconst (v := 0) X d_MO_result_29 (by decide) ?_
    exact kj false ⟨fun z => Bool.noConfusion z, fun z => absurd z.1 hv5⟩
  · skip
    have hv5 : inR x nc := hb5.mp (bt_nf (fun z => c5 (bI_z.mpr z)))
    refine g_iload_n X d_MO_result_8 2 rfl ?_
    refine g_iconst (v := 0) X d_MO_result_9 (by decide) ?_
    refine g_bipush (v := 9) X d_MO_result_10 (by decide) ?_
    refine g_callS (As := [.int y, .int 0, .int 9]) (rest := []) X (z_ok eA eM) (c_MO_in (f := f) (x := y) (a := 0) (b := 9)) v_MO_in q_667 q_666 rfl rfl (Nat.le_of_ble_eq_true rfl) d_MO_result_12 ⟨(Nat.le_of_ble_eq_true rfl), (Nat.le_of_ble_eq_true rfl)⟩ ⟨(Nat.le_of_ble_eq_true rfl), (Nat.le_of_ble_eq_true rfl)⟩ (g_K.no (fun _ h => h)) (fun r_ f2_ hp => ?_)
    obtain ⟨rfl, hf_⟩ := hp
    subst f2_
    refine g_st (st2 := [.int (bI (decide (¬ y < 0 ∧ y ≤ 9)))]) rfl ?_
    refine g_if_eq X 29 d_MO_result_15 (by decide) (fun c15 => ?_) (fun c15 => ?_)
    · skip
      have hv15 : ¬ (inR y 10) := fun z => of_decide_eq_false (bI_z.mp c15) ((inR_iff (n := 10) (by decide)).mpr z)
      refine g_iconst (v := 0) X d_MO_result_29 (by decide) ?_
      exact kj false ⟨fun z => Bool.noConfusion z, fun z => absurd z.2.1 hv15⟩
    · skip
      have hv15 : inR y 10 := (inR_iff (n := 10) (by decide)).mp (of_decide_eq_true (bt_nf (fun z => c15 (bI_z.mpr z))))
      refine g_iload_n X d_MO_result_18 3 rfl ?_
      refine g_callS (As := [.int w]) (rest := []) X (z_ok eA eM) (c_MO_isDay (f := f) (x := w)) v_MO_isDay q_694 q_693 rfl rfl (Nat.le_of_ble_eq_true rfl) d_MO_result_19 ⟨(Nat.le_of_ble_eq_true rfl), (Nat.le_of_ble_eq_true rfl)⟩ ⟨(Nat.le_of_ble_eq_true rfl), (Nat.le_of_ble_eq_true rfl)⟩ (g_K.no (fun _ h => h)) (fun r_ f2_ hp => ?_)
      obtain ⟨⟨b22, hb22, rfl⟩, hf_⟩ := hp
      subst f2_
      refine g_st (st2 := [.int (bI b22)]) rfl ?_
      refine g_if_eq X 29 d_MO_result_22 (by decide) (fun c22 => ?_) (fun c22 => ?_)
      · skip
        have hv22 : ¬ (inR w 100001) := fun z => by rw [bI_z.mp c22] at hb22; exact Bool.noConfusion (hb22.mpr z)
        refine g_iconst (v := 0) X d_MO_result_29 (by decide) ?_
        exact kj false ⟨fun z => Bool.noConfusion z, fun z => absurd z.2.2 hv22⟩
      · skip
        have hv22 : inR w 100001 := hb22.mp (bt_nf (fun z => c22 (bI_z.mpr z)))
        refine g_iconst (v := 1) X d_MO_result_25 (by decide) ?_
        refine g_goto X 30 d_MO_result_26 (by decide) ?_
        exact kj true ⟨fun _ => ⟨hv5, hv15, hv22⟩, fun _ => rfl⟩
