/-- the world with another order in the cell rp -/
def fo_w (cI : ClassId) (f : g_F) (rp : Nat) (O : Nat → Nat) : g_F := g_u f rp (.inl (cI, 8, .inl (fun i => nI (O i))))
theorem fo_w_w {cI : ClassId} {f : g_F} {rp : Nat} {O O2 : Nat → Nat} : g_u (fo_w cI f rp O) rp (.inl (cI, 8, .inl (fun i => nI (O2 i)))) = fo_w cI f rp O2 := g_u_u
theorem fo_w_R {cI : ClassId} {f : g_F} {t : Nat} {a : Nat → Nat} {P Du S Wy Re : Nat → Nat} {n rp : Nat} {O : Nat → Nat} (hR : tu_R cI f t a P Du S Wy Re n) (hO : ∃ x, f rp = some (.inl x)) (hrp : ∀ i, i < 5 → a i ≠ rp) : tu_R cI (fo_w cI f rp O) t a P Du S Wy Re n := by
  obtain ⟨hT, h0, h1, h2, h3, h4⟩ := hR
  obtain ⟨x, hO⟩ := hO
  exact ⟨(g_u_n (tu_ne hT hO)).trans hT, (g_u_n (hrp 0 (by decide))).trans h0, (g_u_n (hrp 1 (by decide))).trans h1, (g_u_n (hrp 2 (by decide))).trans h2, (g_u_n (hrp 3 (by decide))).trans h3, (g_u_n (hrp 4 (by decide))).trans h4⟩
theorem am_cases (g : Nat → Nat) : ∀ n, (am g n).1 = -1 ∧ (am g n).2 = 2 ^ 28 ∨ ∃ j, j < n ∧ (am g n).1 = nI j ∧ (am g n).2 = g j
  | 0 => Or.inl ⟨rfl, rfl⟩
  | n + 1 => by
    unfold am
    split
    · exact Or.inr ⟨n, by omega, rfl, rfl⟩
    · rcases am_cases g n with h | ⟨j, h1, h2⟩
      · exact Or.inl h
      · exact Or.inr ⟨j, by omega, h2⟩
/-- the next act of the order -/
def foN (P Du Wy Re : Nat → Nat) (n done : Nat) (O : Nat → Nat) (k : Nat) : Int32 := if k = 0 then (am (wF Du Re) n).1 else (am (bN P Du Wy Re done (O (k - 1))) n).1
theorem foN_cases (P Du Wy Re : Nat → Nat) (n done : Nat) (O : Nat → Nat) (k : Nat) (h : ¬ foN P Du Wy Re n done O k = -1) : ∃ j, j < n ∧ foN P Du Wy Re n done O k = nI j := by
  unfold foN at h ⊢
  split
  · rename_i hk
    rw [if_pos hk] at h
    rcases am_cases (wF Du Re) n with h1 | ⟨j, h1, h2, -⟩
    · exact absurd h1.1 h
    · exact ⟨j, h1, h2⟩
  · rename_i hk
    rw [if_neg hk] at h
    rcases am_cases (bN P Du Wy Re done (O (k - 1))) n with h1 | ⟨j, h1, h2, -⟩
    · exact absurd h1.1 h
    · exact ⟨j, h1, h2⟩
/-- the order that is found, and how many acts it has -/
def fo (P Du S Wy Re : Nat → Nat) (n need : Nat) : Nat → Nat → (Nat → Nat) → Nat → (Nat → Nat) × Nat
  | 0, _, O, k => (O, k)
  | d + 1, done, O, k => if cov S n need done then (O, k) else if foN P Du Wy Re n done O k = -1 then (O, k) else fo P Du S Wy Re n need d (done ||| 2 ^ (foN P Du Wy Re n done O k).toNatClampNeg) (va_up O k (foN P Du Wy Re n done O k).toNatClampNeg) (k + 1)
theorem fo_s (P Du S Wy Re : Nat → Nat) (n need d done : Nat) (O : Nat → Nat) (k : Nat) : fo P Du S Wy Re n need (d + 1) done O k = if cov S n need done then (O, k) else if foN P Du Wy Re n done O k = -1 then (O, k) else fo P Du S Wy Re n need d (done ||| 2 ^ (foN P Du Wy Re n done O k).toNatClampNeg) (va_up O k (foN P Du Wy Re n done O k).toNatClampNeg) (k + 1) := rfl
set_option maxHeartbeats 4000000 in
set_option maxRecDepth 100000 in
theorem L_TU_findOrder {p : Program} {l : Launch} {e : Env} {s : State} {m : MethodId} {args : Array Value} {below : List Frame} {meth : Method} {c : Code} {Q : State → Prop} {A : Nat → Prop} {D : va_G} {cI cZ cO cJ : ClassId} {eA eM : Nat} {f : g_F} {t : Nat} {a : Nat → Nat} {P Du S Wy Re : Nat → Nat} {n : Nat} (hR : tu_R cI f t a P Du S Wy Re n) (hB : tu_B P Du S Wy n) (hRe : ∀ i, Re i ≤ 2 ^ 28) {need : Nat} (hne : need < 2 ^ 31) {rp : Nat} (hO : ∃ x, f rp = some (.inl x)) (hrp : ∀ i, i < 5 → a i ≠ rp) {res : (Nat → Nat) × Nat} (X : g_X p s m args meth c b_TU_findOrder 7 (some .int) g_T y_TU_findOrder.cls D g_cl (g_tys cI cZ cO cJ) A (z_Z eA eM)) (k38 : ∀ (O : Nat → Nat) (k : Nat), res = (O, k) → g_W p l e { frames := 4, cells := 0, slots := 0, locals := 94 } s m args below meth c 7 D g_cl A (fo_w cI f rp O) 0 0 Q 38 [(4, .int (nI k))] []) (k72 : ∀ (O : Nat → Nat) (k : Nat), res = (O, k) → g_W p l e { frames := 4, cells := 0, slots := 0, locals := 94 } s m args below meth c 7 D g_cl A (fo_w cI f rp O) 0 0 Q 72 [(4, .int (nI k))] []) (k97 : ∀ (O : Nat → Nat) (k : Nat), res = (O, k) → g_W p l e { frames := 4, cells := 0, slots := 0, locals := 94 } s m args below meth c 7 D g_cl A (fo_w cI f rp O) 0 0 Q 97 [(4, .int (nI k))] []) : ∀ (d : Nat) (k done : Nat) (O : Nat → Nat), (k + d = n) → (done < 256) → (∀ i, i < k → O i < 8) → (fo P Du S Wy Re n need d done O k = res) → g_W p l e { frames := 4, cells := 0, slots := 0, locals := 94 } s m args below meth c 7 D g_cl A (fo_w cI f rp O) 0 0 Q 13 [(5, .int (nI k)), (4, .int (nI k)), (3, .int (nI done)), (0, .ref t), (1, .int (nI need)), (2, .ref rp)] [] := by
  obtain ⟨hT, h0, h1, h2, h3, h4⟩ := id hR
  obtain ⟨hn8, hP, hDu, hS, hWy⟩ := id hB
  clear hT h0 h1 h2 h3 h4
  intro d
  induction d using Nat.strongRecOn with
  | _ d ih =>
    intro k done O hi hdn hO8 hfo
    have hR2 := fo_w_R (O := O) hR hO hrp
    obtain ⟨hT, h0, h1, h2, h3, h4⟩ := id hR2
    have hO2 : fo_w cI f rp O rp = some (.inl (cI, 8, .inl (fun q9 => nI (O q9)))) := g_u_s
    refine g_iload X d_TU_findOrder_13 0 rfl ?_
    refine g_aload_n X d_TU_findOrder_15 3 rfl ?_
    refine g_get (ci := 2) (C := R_TU) (T := F_TU) (N := 6) (v := .int (nI n)) X i_TU rfl hT 5 (by decide) q_89 (fun _ h9 => h9) rfl d_TU_findOrder_16 ?_
    refine g_icmp_ge X 97 d_TU_findOrder_19 (by decide) (fun c19 => ?_) (fun c19 => ?_)
    · skip
      have e : d = 0 := by have := (nI_leI (by omega) (by omega)).mp c19; omega
      subst e
      exact g_lv [1] rfl (k97 O k hfo.symm)
    · skip
      have hlt : k < n := Nat.lt_of_not_le (fun z => c19 ((nI_leI (by omega) (by omega)).mpr z))
      obtain ⟨d, rfl⟩ : ∃ d9, d = d9 + 1 := ⟨d - 1, by omega⟩
      refine g_iload X d_TU_findOrder_22 0 rfl ?_
      refine g_aload_n X d_TU_findOrder_24 5 rfl ?_
      refine g_alen (t0 := 0) (v := nI 8) X hO2 rfl rfl d_TU_findOrder_25 ?_
      refine g_icmp_ge X 97 d_TU_findOrder_26 (by decide) (fun c26 => ?_) (fun c26 => ?_)
      · skip
        exact absurd ((nI_leI (by decide) (by omega)).mp c26) (by omega)
      · skip
        refine g_aload_n X d_TU_findOrder_29 3 rfl ?_
        refine g_iload_n X d_TU_findOrder_30 2 rfl ?_
        refine g_iload_n X d_TU_findOrder_31 4 rfl ?_
        refine g_callV (ci := 2) (As := [.int (nI done), .int (nI need)]) (rest := []) X (z_ok eA eM) rfl rfl hT (c_TU_covers hR2 hB (acts := done) (need := need) (by omega) hne) v_TU_covers q_475 q_s11 q_473 rfl rfl (Nat.le_of_ble_eq_true rfl) d_TU_findOrder_32 ⟨(Nat.le_of_ble_eq_true rfl), (Nat.le_of_ble_eq_true rfl)⟩ ⟨(Nat.le_of_ble_eq_true rfl), (Nat.le_of_ble_eq_true rfl)⟩ (g_K.no (fun _ h => h)) (fun r_ f2_ hp => ?_)
        obtain ⟨rfl, hf_⟩ := hp
        subst f2_
        refine g_st (st2 := [.int (bI (cov S n need done))]) rfl ?_
        refine g_if_eq X 41 d_TU_findOrder_35 (by decide) (fun c35 => ?_) (fun c35 => ?_)
        · skip
          have hcv : cov S n need done = false := bI_z.mp c35
          refine g_iload X d_TU_findOrder_41 1 rfl ?_
          refine g_if_ne X 53 d_TU_findOrder_43 (by decide) (fun c43 => ?_) (fun c43 => ?_)
          · skip
            have hk0 : 0 < k := Nat.pos_of_ne_zero (fun z => c43 ((nI_z (by omega)).mpr z))
            refine g_aload_n X d_TU_findOrder_53 3 rfl ?_
            refine g_iload_n X d_TU_findOrder_54 2 rfl ?_
            refine g_aload_n X d_TU_findOrder_55 5 rfl ?_
            refine g_iload X d_TU_findOrder_56 1 rfl ?_
            refine g_iconst (v := 1) X d_TU_findOrder_58 (by decide) ?_
            refine g_isub X d_TU_findOrder_59 ?_
            refine g_eqi (y := nI (k - 1)) (nI_m1 (by omega)) ?_
            refine g_iald (t0 := 0) (v := nI (O (k - 1))) X hO2 rfl (nI_ix ((by omega : k - 1 < 8)) (by decide)) (nI_cl (g := fun q9 => nI (O q9)) (Nat.lt_trans ((by omega : k - 1 < 8)) (by decide))) d_TU_findOrder_60 ?_
            refine g_callV (ci := 2) (As := [.int (nI done), .int (nI (O (k - 1)))]) (rest := []) X (z_ok eA eM) rfl rfl hT (c_TU_bestNext hR2 hB hRe (done := done) (last := O (k - 1)) hdn (hO8 (k - 1) (by omega))) v_TU_bestNext q_504 q_s17 q_502 rfl rfl (Nat.le_of_ble_eq_true rfl) d_TU_findOrder_61 ⟨(Nat.le_of_ble_eq_true rfl), (Nat.le_of_ble_eq_true rfl)⟩ ⟨(Nat.le_of_ble_eq_true rfl), (Nat.le_of_ble_eq_true rfl)⟩ (g_K.no (fun _ h => h)) (fun r_ f2_ hp => ?_)
            obtain ⟨rfl, hf_⟩ := hp
            subst f2_
            refine g_st (st2 := [.int ((am (bN P Du Wy Re done (O (k - 1))) n).1)]) rfl ?_
            refine g_eqi (y := foN P Du Wy Re n done O k) ((if_neg (fun z => c43 ((nI_z (by omega)).mpr z))).symm) ?_
            refine g_istore (lv' := [(6, .int (foN P Du Wy Re n done O k)), (5, .int (nI k)), (4, .int (nI k)), (3, .int (nI done)), (0, .ref t), (1, .int (nI need)), (2, .ref rp)]) X d_TU_findOrder_64 (by decide) rfl ?_
            refine g_iload X d_TU_findOrder_66 0 rfl ?_
            refine g_iconst (v := (-1)) X d_TU_findOrder_68 (by decide) ?_
            refine g_icmp_ne X 75 d_TU_findOrder_69 (by decide) (fun c69 => ?_) (fun c69 => ?_)
            · skip
              obtain ⟨j, hjn, hj⟩ := foN_cases P Du Wy Re n done O k c69
              have hjc : (foN P Du Wy Re n done O k).toNatClampNeg = j := by rw [hj]; exact nI_clamp (by omega)
              have hfo2 : fo P Du S Wy Re n need d (done ||| 2 ^ j) (va_up O k j) (k + 1) = res := by
                have h9 := hfo
                rw [fo_s, if_neg (by rw [hcv]; decide), if_neg c69, hjc] at h9
                exact h9
              refine g_aload_n X d_TU_findOrder_75 6 rfl ?_
              refine g_iload X d_TU_findOrder_76 2 rfl ?_
              refine g_iload X d_TU_findOrder_78 0 rfl ?_
              refine g_iast (t0 := 0) (g2 := fun q9 => nI (((va_up O k j)) q9)) X hO2 rfl (nI_ix (by omega : k < 8) (by decide)) (by rw [hj]; exact upd_nI (g := O) (by omega : k < 2 ^ 31)) d_TU_findOrder_80 ?_
              refine g_eqf (f2 := (fo_w cI f rp (va_up O k j))) (fo_w_w) ?_
              refine g_iinc (lv' := [(4, .int (nI (k + 1))), (6, .int (foN P Du Wy Re n done O k)), (5, .int (nI k)), (3, .int (nI done)), (0, .ref t), (1, .int (nI need)), (2, .ref rp)]) X d_TU_findOrder_81 2 rfl (nI_1 k) (by decide) rfl ?_
              refine g_iload_n X d_TU_findOrder_84 3 rfl ?_
              refine g_iconst (v := 1) X d_TU_findOrder_85 (by decide) ?_
              refine g_iload X d_TU_findOrder_86 1 rfl ?_
              refine g_ishl X d_TU_findOrder_88 ?_
              refine g_eqi (y := nI (2 ^ j)) (by rw [hj]; exact nI_bit (by omega)) ?_
              refine g_ior X d_TU_findOrder_89 ?_
              refine g_eqi (y := nI (done ||| 2 ^ j)) (nI_or _ _) ?_
              refine g_istore_n (lv' := [(3, .int (nI (done ||| 2 ^ j))), (4, .int (nI (k + 1))), (6, .int (foN P Du Wy Re n done O k)), (5, .int (nI k)), (0, .ref t), (1, .int (nI need)), (2, .ref rp)]) X d_TU_findOrder_90 rfl (by decide) rfl ?_
              refine g_iinc (lv' := [(5, .int (nI (k + 1))), (3, .int (nI (done ||| 2 ^ j))), (4, .int (nI (k + 1))), (6, .int (foN P Du Wy Re n done O k)), (0, .ref t), (1, .int (nI need)), (2, .ref rp)]) X d_TU_findOrder_91 3 rfl (nI_1 k) (by decide) rfl ?_
              refine g_goto X 13 d_TU_findOrder_94 (by decide) ?_
              exact g_lv [0, 2, 1, 4, 5, 6] rfl (ih d (by omega) (k + 1) (done ||| 2 ^ j) (va_up O k j) (by omega) (or8 hdn (by omega)) (fun i hi => by
                by_cases e : i = k
                · rw [show (va_up O k j) i = j from if_pos e]; omega
                · rw [show (va_up O k j) i = O i from if_neg e]; exact hO8 i (by omega)) hfo2)
            · skip
              exact g_lv [2] rfl (k72 O k (hfo.symm.trans (by rw [fo_s, if_neg (by rw [hcv]; decide), if_pos c69])))
          · skip
            refine g_aload_n X d_TU_findOrder_46 3 rfl ?_
            refine g_callV (ci := 2) (As := []) (rest := []) X (z_ok eA eM) rfl rfl hT (c_TU_bestFirst hR2 hB hRe) v_TU_bestFirst q_496 q_s15 q_494 rfl rfl (Nat.le_of_ble_eq_true rfl) d_TU_findOrder_47 ⟨(Nat.le_of_ble_eq_true rfl), (Nat.le_of_ble_eq_true rfl)⟩ ⟨(Nat.le_of_ble_eq_true rfl), (Nat.le_of_ble_eq_true rfl)⟩ (g_K.no (fun _ h => h)) (fun r_ f2_ hp => ?_)
            obtain ⟨rfl, hf_⟩ := hp
            subst f2_
            refine g_st (st2 := [.int ((am (wF Du Re) n).1)]) rfl ?_
            refine g_goto X 64 d_TU_findOrder_50 (by decide) ?_
            refine g_eqi (y := foN P Du Wy Re n done O k) ((if_pos ((nI_z (by omega)).mp c43)).symm) ?_
            refine g_istore (lv' := [(6, .int (foN P Du Wy Re n done O k)), (5, .int (nI k)), (4, .int (nI k)), (3, .int (nI done)), (0, .ref t), (1, .int (nI need)), (2, .ref rp)]) X d_TU_findOrder_64 (by decide) rfl ?_
            refine g_iload X d_TU_findOrder_66 0 rfl ?_
            refine g_iconst (v := (-1)) X d_TU_findOrder_68 (by decide) ?_
            refine g_icmp_ne X 75 d_TU_findOrder_69 (by decide) (fun c69 => ?_) (fun c69 => ?_)
            · skip
              obtain ⟨j, hjn, hj⟩ := foN_cases P Du Wy Re n done O k c69
              have hjc : (foN P Du Wy Re n done O k).toNatClampNeg = j := by rw [hj]; exact nI_clamp (by omega)
              have hfo2 : fo P Du S Wy Re n need d (done ||| 2 ^ j) (va_up O k j) (k + 1) = res := by
                have h9 := hfo
                rw [fo_s, if_neg (by rw [hcv]; decide), if_neg c69, hjc] at h9
                exact h9
              refine g_aload_n X d_TU_findOrder_75 6 rfl ?_
              refine g_iload X d_TU_findOrder_76 2 rfl ?_
              refine g_iload X d_TU_findOrder_78 0 rfl ?_
              refine g_iast (t0 := 0) (g2 := fun q9 => nI (((va_up O k j)) q9)) X hO2 rfl (nI_ix (by omega : k < 8) (by decide)) (by rw [hj]; exact upd_nI (g := O) (by omega : k < 2 ^ 31)) d_TU_findOrder_80 ?_
              refine g_eqf (f2 := (fo_w cI f rp (va_up O k j))) (fo_w_w) ?_
              refine g_iinc (lv' := [(4, .int (nI (k + 1))), (6, .int (foN P Du Wy Re n done O k)), (5, .int (nI k)), (3, .int (nI done)), (0, .ref t), (1, .int (nI need)), (2, .ref rp)]) X d_TU_findOrder_81 2 rfl (nI_1 k) (by decide) rfl ?_
              refine g_iload_n X d_TU_findOrder_84 3 rfl ?_
              refine g_iconst (v := 1) X d_TU_findOrder_85 (by decide) ?_
              refine g_iload X d_TU_findOrder_86 1 rfl ?_
              refine g_ishl X d_TU_findOrder_88 ?_
              refine g_eqi (y := nI (2 ^ j)) (by rw [hj]; exact nI_bit (by omega)) ?_
              refine g_ior X d_TU_findOrder_89 ?_
              refine g_eqi (y := nI (done ||| 2 ^ j)) (nI_or _ _) ?_
              refine g_istore_n (lv' := [(3, .int (nI (done ||| 2 ^ j))), (4, .int (nI (k + 1))), (6, .int (foN P Du Wy Re n done O k)), (5, .int (nI k)), (0, .ref t), (1, .int (nI need)), (2, .ref rp)]) X d_TU_findOrder_90 rfl (by decide) rfl ?_
              refine g_iinc (lv' := [(5, .int (nI (k + 1))), (3, .int (nI (done ||| 2 ^ j))), (4, .int (nI (k + 1))), (6, .int (foN P Du Wy Re n done O k)), (0, .ref t), (1, .int (nI need)), (2, .ref rp)]) X d_TU_findOrder_91 3 rfl (nI_1 k) (by decide) rfl ?_
              refine g_goto X 13 d_TU_findOrder_94 (by decide) ?_
              exact g_lv [0, 2, 1, 4, 5, 6] rfl (ih d (by omega) (k + 1) (done ||| 2 ^ j) (va_up O k j) (by omega) (or8 hdn (by omega)) (fun i hi => by
                by_cases e : i = k
                · rw [show (va_up O k j) i = j from if_pos e]; omega
                · rw [show (va_up O k j) i = O i from if_neg e]; exact hO8 i (by omega)) hfo2)
            · skip
              exact g_lv [2] rfl (k72 O k (hfo.symm.trans (by rw [fo_s, if_neg (by rw [hcv]; decide), if_pos c69])))
        · skip
          have hcv : cov S n need done = true := bt_nf (fun z => c35 (bI_z.mpr z))
          exact g_lv [1] rfl (k38 O k (hfo.symm.trans (by rw [fo_s, if_pos hcv])))
set_option maxHeartbeats 4000000 in
set_option maxRecDepth 100000 in
theorem c_TU_findOrder {l : Launch} {D : va_G} {cI cZ cO cJ : ClassId} {eA eM : Nat} {f : g_F} {t : Nat} {a : Nat → Nat} {P Du S Wy Re : Nat → Nat} {n : Nat} (hR : tu_R cI f t a P Du S Wy Re n) (hB : tu_B P Du S Wy n) (hRe : ∀ i, Re i ≤ 2 ^ 28) (hI : ∀ i j, i < 5 → j < 5 → a i = a j → i = j) {need : Nat} (hne : need < 2 ^ 31) {rp : Nat} {O : Nat → Nat} (hO : f rp = some (.inl (cI, 8, .inl (fun q9 => nI (O q9))))) (hrp : ∀ i, i < 5 → a i ≠ rp) : g_C l y_TU_findOrder b_TU_findOrder 7 (some .int) { frames := 4, cells := 0, slots := 0, locals := 94 } D g_cl (g_tys cI cZ cO cJ) (z_Z eA eM) [.ref t, .int (nI need), .ref rp] f (fun r f2 => ∃ (Re2 O2 : Nat → Nat) (k : Nat), bellA P Du S Wy n need Re2 0 ∧ fo P Du S Wy Re2 n need n 0 O 0 = (O2, k) ∧ r = some (.int (nI k)) ∧ f2 = fo_w cI (tu_w cI f a Re2) rp O2) (fun _ => False) := by
  refine g_ofW [(0, .ref t), (1, .int (nI need)), (2, .ref rp)] (by decide +kernel) (Nat.le_of_ble_eq_true rfl) rfl ?_
  intro p e s m args below meth c X ht hin
  obtain ⟨hT, h0, h1, h2, h3, h4⟩ := id hR
  obtain ⟨hn8, hP, hDu, hS, hWy⟩ := id hB
  refine g_aload_n X d_TU_findOrder_0 0 rfl ?_
  refine g_iload_n X d_TU_findOrder_1 1 rfl ?_
  refine g_callV (ci := 2) (As := [.int (nI need)]) (rest := []) X (z_ok eA eM) rfl rfl hT (c_TU_weighRests hR hB hRe hI hne) v_TU_weighRests q_471 q_s10 q_469 rfl rfl (Nat.le_of_ble_eq_true rfl) d_TU_findOrder_2 ⟨(Nat.le_of_ble_eq_true rfl), (Nat.le_of_ble_eq_true rfl)⟩ ⟨(Nat.le_of_ble_eq_true rfl), (Nat.le_of_ble_eq_true rfl)⟩ (g_K.no (fun _ h => h)) (fun r_ f2_ hp => ?_)
  obtain ⟨rfl, Re2, hA, rfl⟩ := hp
  refine g_st (st2 := []) rfl ?_
  refine g_iconst (v := 0) X d_TU_findOrder_5 (by decide) ?_
  refine g_istore_n (lv' := [(3, .int 0), (0, .ref t), (1, .int (nI need)), (2, .ref rp)]) X d_TU_findOrder_6 rfl (by decide) rfl ?_
  refine g_iconst (v := 0) X d_TU_findOrder_7 (by decide) ?_
  refine g_istore (lv' := [(4, .int 0), (3, .int 0), (0, .ref t), (1, .int (nI need)), (2, .ref rp)]) X d_TU_findOrder_8 (by decide) rfl ?_
  refine g_iconst (v := 0) X d_TU_findOrder_10 (by decide) ?_
  refine g_istore (lv' := [(5, .int 0), (4, .int 0), (3, .int 0), (0, .ref t), (1, .int (nI need)), (2, .ref rp)]) X d_TU_findOrder_11 (by decide) rfl ?_
  have hOw : tu_w cI f a Re2 rp = some (.inl (cI, 8, .inl (fun q9 => nI (O q9)))) := (g_u_n (Ne.symm (hrp 4 (by decide)))).trans hO
  refine g_eqf (f2 := fo_w cI (tu_w cI f a Re2) rp O) (g_u_id hOw).symm ?_
  refine g_lv [0, 1, 2, 3, 4, 5] rfl (L_TU_findOrder (tu_w_R hR hI Re2) hB hA.1 hne ⟨_, hOw⟩ hrp X ?_ ?_ ?_ n 0 0 O (by omega) (by decide) (fun i h => absurd h (by omega)) rfl)
  · intro O2 k hr
    exact g_iload X d_TU_findOrder_38 0 rfl (g_iret X rfl ⟨Re2, O2, k, hA, hr, rfl, rfl⟩ (Nat.le_of_ble_eq_true rfl) (Nat.le_of_ble_eq_true rfl) d_TU_findOrder_40)
  · intro O2 k hr
    exact g_iload X d_TU_findOrder_72 0 rfl (g_iret X rfl ⟨Re2, O2, k, hA, hr, rfl, rfl⟩ (Nat.le_of_ble_eq_true rfl) (Nat.le_of_ble_eq_true rfl) d_TU_findOrder_74)
  · intro O2 k hr
    exact g_iload X d_TU_findOrder_97 0 rfl (g_iret X rfl ⟨Re2, O2, k, hA, hr, rfl, rfl⟩ (Nat.le_of_ble_eq_true rfl) (Nat.le_of_ble_eq_true rfl) d_TU_findOrder_99)
set_option maxHeartbeats 4000000 in
set_option maxRecDepth 100000 in
theorem c_TU_leastSecondsFrom {l : Launch} {D : va_G} {cI cZ cO cJ : ClassId} {eA eM : Nat} {f : g_F} {t : Nat} {a : Nat → Nat} {P Du S Wy Re : Nat → Nat} {n : Nat} (hR : tu_R cI f t a P Du S Wy Re n) (hB : tu_B P Du S Wy n) (hRe : ∀ i, Re i ≤ 2 ^ 28) (hI : ∀ i j, i < 5 → j < 5 → a i = a j → i = j) {i : Nat} (hi : i < 8) : g_C l y_TU_leastSecondsFrom b_TU_leastSecondsFrom 2 (some .int) { frames := 4, cells := 0, slots := 0, locals := 94 } D g_cl (g_tys cI cZ cO cJ) (z_Z eA eM) [.ref t, .int (nI i)] f (fun r f2 => (S i = 0 ∧ r = some (.int (-1)) ∧ f2 = f) ∨ (S i ≠ 0 ∧ ∃ Re2 : Nat → Nat, bellA P Du S Wy n (orS S (2 ^ n - 1) n) Re2 0 ∧ r = some (.int (nI (wF Du Re2 i / 16))) ∧ f2 = tu_w cI f a Re2)) (fun _ => False) := by
  refine g_ofW [(0, .ref t), (1, .int (nI i))] (by decide +kernel) (Nat.le_of_ble_eq_true rfl) rfl ?_
  intro p e s m args below meth c X ht hin
  obtain ⟨hT, h0, h1, h2, h3, h4⟩ := id hR
  obtain ⟨hn8, hP, hDu, hS, hWy⟩ := id hB
  refine g_aload_n X d_TU_leastSecondsFrom_0 0 rfl ?_
  refine g_get (ci := 2) (C := R_TU) (T := F_TU) (N := 6) (v := .ref (a 2)) X i_TU rfl hT 2 (by decide) q_86 (fun _ h9 => h9) rfl d_TU_leastSecondsFrom_1 ?_
  refine g_iload_n X d_TU_leastSecondsFrom_4 1 rfl ?_
  refine g_iald (t0 := 0) (v := nI (S i)) X h2 rfl (nI_ix (hi) (by decide)) (nI_cl (g := fun q9 => nI (S q9)) (Nat.lt_trans (hi) (by decide))) d_TU_leastSecondsFrom_5 ?_
  refine g_if_ne X 11 d_TU_leastSecondsFrom_6 (by decide) (fun c6 => ?_) (fun c6 => ?_)
  · skip
    refine g_aload_n X d_TU_leastSecondsFrom_11 0 rfl ?_
    refine g_aload_n X d_TU_leastSecondsFrom_12 0 rfl ?_
    refine g_callV (ci := 2) (As := []) (rest := [.ref t]) X (z_ok eA eM) rfl rfl hT (c_TU_shownByAny hR hB) v_TU_shownByAny q_458 q_459 q_528 rfl rfl (Nat.le_of_ble_eq_true rfl) d_TU_leastSecondsFrom_13 ⟨(Nat.le_of_ble_eq_true rfl), (Nat.le_of_ble_eq_true rfl)⟩ ⟨(Nat.le_of_ble_eq_true rfl), (Nat.le_of_ble_eq_true rfl)⟩ (g_K.no (fun _ h => h)) (fun r_ f2_ hp => ?_)
    obtain ⟨rfl, hf_⟩ := hp
    subst f2_
    refine g_st (st2 := [.int (nI (orS S (2 ^ n - 1) n)), .ref t]) rfl ?_
    refine g_callV (ci := 2) (As := [.int (nI (orS S (2 ^ n - 1) n))]) (rest := []) X (z_ok eA eM) rfl rfl hT (c_TU_weighRests hR hB hRe hI (need := orS S (2 ^ n - 1) n) (Nat.lt_trans (orS_lt hS _ n) (by decide))) v_TU_weighRests q_471 q_s10 q_469 rfl rfl (Nat.le_of_ble_eq_true rfl) d_TU_leastSecondsFrom_16 ⟨(Nat.le_of_ble_eq_true rfl), (Nat.le_of_ble_eq_true rfl)⟩ ⟨(Nat.le_of_ble_eq_true rfl), (Nat.le_of_ble_eq_true rfl)⟩ (g_K.no (fun _ h => h)) (fun r_ f2_ hp => ?_)
    obtain ⟨rfl, Re2, hA, rfl⟩ := hp
    refine g_st (st2 := []) rfl ?_
    refine g_aload_n X d_TU_leastSecondsFrom_19 0 rfl ?_
    refine g_iload_n X d_TU_leastSecondsFrom_20 1 rfl ?_
    have hR2 := tu_w_R hR hI Re2
    have hT2 := hR2.1
    refine g_callV (ci := 2) (As := [.int (nI i)]) (rest := []) X (z_ok eA eM) rfl rfl hT2 (c_TU_weightOfFirst hR2 hB hA.1 (i := i) hi) v_TU_weightOfFirst q_500 q_s16 q_498 rfl rfl (Nat.le_of_ble_eq_true rfl) d_TU_leastSecondsFrom_21 ⟨(Nat.le_of_ble_eq_true rfl), (Nat.le_of_ble_eq_true rfl)⟩ ⟨(Nat.le_of_ble_eq_true rfl), (Nat.le_of_ble_eq_true rfl)⟩ (g_K.no (fun _ h => h)) (fun r_ f2_ hp => ?_)
    obtain ⟨rfl, hf_⟩ := hp
    subst f2_
    refine g_st (st2 := [.int (nI (wF Du Re2 i))]) rfl ?_
    refine g_iconst (v := 4) X d_TU_leastSecondsFrom_24 (by decide) ?_
    refine g_ishr X d_TU_leastSecondsFrom_25 ?_
    refine g_eqi (y := nI (wF Du Re2 i / 16)) (pk_shrN (wF_lt hB hA.1 i) _ 4 (by decide)) ?_
    exact g_iret X rfl (Or.inr ⟨fun z => c6 ((nI_z (Nat.lt_trans (hS i) (by decide))).mpr z), Re2, hA, rfl, rfl⟩) (Nat.le_of_ble_eq_true rfl) (Nat.le_of_ble_eq_true rfl) d_TU_leastSecondsFrom_26
  · skip
    refine g_iconst (v := (-1)) X d_TU_leastSecondsFrom_9 (by decide) ?_
    exact g_iret X rfl (Or.inl ⟨(nI_z (Nat.lt_trans (hS i) (by decide))).mp c6, rfl, rfl⟩) (Nat.le_of_ble_eq_true rfl) (Nat.le_of_ble_eq_true rfl) d_TU_leastSecondsFrom_10
