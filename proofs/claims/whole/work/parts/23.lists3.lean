set_option maxHeartbeats 4000000 in
set_option maxRecDepth 100000 in
theorem c_CL_act {l : Launch} {D : va_G} {cI cZ cO cJ : ClassId} {eA eM : Nat} (hl : l.stackTraces = false) {f : g_F} {ad : Nat → Nat} {L nc : Nat} {pt ot : Nat → Int32} {per dy : Nat → Nat → Nat} {gd : Nat → Nat → Bool} {ct : Nat → Nat} {td ts : Nat → Nat} {tn : Nat} {P Du S Wy Re : Nat → Nat} {n : Nat} {O : Nat → Nat} {pl ps cap : Nat} {mc : Int32} (hR : cl_R cI cZ cO f ad L nc pt ot per dy gd ct td ts tn P Du S Wy Re n O pl ps cap mc) (hB : cl_B L nc per dy ct td ts tn P Du S Wy Re n O pl ps) (hIn : ∀ i j, i < 13 + 4 * nc → j < 13 + 4 * nc → ad i = ad j → i = j) {x y : Int32} : g_C l y_CL_act b_CL_act 3 (some .int) { frames := 8, cells := 3, slots := 18, locals := 125 } D g_cl (g_tys cI cZ cO cJ) (z_Z eA eM) [.ref (ad 0), .int x, .int y] f (fun r f2 => ∃ p_ s_, p_ < 10 ∧ 1 ≤ s_ ∧ s_ ≤ 10000 ∧ x = nI p_ ∧ y = nI s_ ∧ n < 8 ∧ r = some (.int (nI n)) ∧ f2 = g_u (g_u (g_u f (ad 7) (.inl (cI, 8, .inl (fun q9 => nI ((va_up P n p_) q9))))) (ad 8) (.inl (cI, 8, .inl (fun q9 => nI ((va_up Du n s_) q9))))) (ad 6) (.inr (2, [.ref (ad 7), .ref (ad 8), .ref (ad 9), .ref (ad 10), .ref (ad 11), .int (nI (n + 1))]))) (fun E => (E = "java/lang/IllegalArgumentException" ∧ ¬ (inR x 10 ∧ inW y 1 10000)) ∨ (E = "java/lang/IllegalStateException" ∧ (inR x 10 ∧ inW y 1 10000) ∧ ¬ n < 8)) := by
  refine g_ofW [(0, .ref (ad 0)), (1, .int x), (2, .int y)] (by decide +kernel) (Nat.le_of_ble_eq_true rfl) rfl ?_
  intro p e s m args below meth c X ht hin
  obtain ⟨hO0, hAL, hTL, hTU, hPL, hCS⟩ := id hR
  obtain ⟨⟨hL1, hL5⟩, hnc, hCB, hTB, hUB, hRe, hpl8, hO8, hps⟩ := id hB
  obtain ⟨hQ, hn, hcap, hE⟩ := id hAL
  have hG := hTL.1
  have hT := hTU.1
  have hn8 := hUB.1
  have hI : ∀ i j, i < 5 → j < 5 → ad (7 + i) = ad (7 + j) → i = j := fun i j h1 h2 h3 => by have := hIn (7 + i) (7 + j) (by omega) (by omega) h3; omega
  refine g_iload_n X d_CL_act_0 1 rfl ?_
  refine g_bipush (v := 10) X d_CL_act_1 (by decide) ?_
  refine g_callS (As := [.int x, .int 10]) (rest := []) X (z_ok eA eM) (c_CL_needBelow hl (f := f) (x := x) (b := 10)) v_CL_needBelow q_142 q_141 rfl rfl (Nat.le_of_ble_eq_true rfl) d_CL_act_3 ⟨(Nat.le_of_ble_eq_true rfl), (Nat.le_of_ble_eq_true rfl)⟩ ⟨(Nat.le_of_ble_eq_true rfl), (Nat.le_of_ble_eq_true rfl)⟩ (g_K.out X ht (fun E_ h_ => Or.inl ⟨h_.1, fun z => h_.2.elim ((inR_iff (n := 10) (by decide)).mpr z.1).1 (fun v_ => v_ ((inR_iff (n := 10) (by decide)).mpr z.1).2)⟩) (Nat.le_of_ble_eq_true rfl) (Nat.le_of_ble_eq_true rfl)) (fun r_ f2_ hp => ?_)
  obtain ⟨⟨rfl, hf_⟩, hw_⟩ := hp
  refine g_st (st2 := []) rfl ?_
  have hf_ := hf_.symm
  subst hf_
  obtain ⟨p_, hp_, rfl⟩ := (inR_iff (n := 10) (by decide)).mp hw_
  refine g_iload_n X d_CL_act_6 2 rfl ?_
  refine g_iconst (v := 1) X d_CL_act_7 (by decide) ?_
  refine g_sipush (v := 10000) X d_CL_act_8 (by decide) ?_
  refine g_callS (As := [.int y, .int 1, .int 10000]) (rest := []) X (z_ok eA eM) (c_CL_needWithin hl (f := f) (x := y) (a := 1) (b := 10000)) v_CL_needWithin q_145 q_144 rfl rfl (Nat.le_of_ble_eq_true rfl) d_CL_act_11 ⟨(Nat.le_of_ble_eq_true rfl), (Nat.le_of_ble_eq_true rfl)⟩ ⟨(Nat.le_of_ble_eq_true rfl), (Nat.le_of_ble_eq_true rfl)⟩ (g_K.out X ht (fun E_ h_ => Or.inl ⟨h_.1, fun z => h_.2.elim ((inW_iff (lo := 1) (hi := 10000) (by decide) (by decide)).mpr z.2).1 (fun v_ => v_ ((inW_iff (lo := 1) (hi := 10000) (by decide) (by decide)).mpr z.2).2)⟩) (Nat.le_of_ble_eq_true rfl) (Nat.le_of_ble_eq_true rfl)) (fun r_ f2_ hp => ?_)
  obtain ⟨⟨rfl, hf_⟩, hw_⟩ := hp
  refine g_st (st2 := []) rfl ?_
  have hf_ := hf_.symm
  subst hf_
  obtain ⟨s_, hs_1, hs_2, rfl⟩ := (inW_iff (lo := 1) (hi := 10000) (by decide) (by decide)).mp hw_
  refine g_aload_n X d_CL_act_14 0 rfl ?_
  refine g_get (ci := 3) (C := R_CL) (T := F_CL) (N := 7) (v := .ref (ad 6)) X i_CL rfl hO0 3 (by decide) q_106 (fun _ h9 => h9) rfl d_CL_act_15 ?_
  refine g_callV (ci := 2) (As := []) (rest := []) X (z_ok eA eM) rfl rfl hT (c_TU_actCount hTU hUB) v_TU_actCount q_348 q_349 q_347 rfl rfl (Nat.le_of_ble_eq_true rfl) d_CL_act_18 ⟨(Nat.le_of_ble_eq_true rfl), (Nat.le_of_ble_eq_true rfl)⟩ ⟨(Nat.le_of_ble_eq_true rfl), (Nat.le_of_ble_eq_true rfl)⟩ (g_K.no (fun _ h => h)) (fun r_ f2_ hp => ?_)
  obtain ⟨rfl, hf_⟩ := hp
  subst f2_
  refine g_st (st2 := [.int (nI n)]) rfl ?_
  refine g_bipush (v := 8) X d_CL_act_21 (by decide) ?_
  refine g_callS (As := [.int (nI n), .int 8]) (rest := []) X (z_ok eA eM) (c_CL_needRoom hl (f := f) (x := nI n) (y := 8)) v_CL_needRoom q_246 q_245 rfl rfl (Nat.le_of_ble_eq_true rfl) d_CL_act_23 ⟨(Nat.le_of_ble_eq_true rfl), (Nat.le_of_ble_eq_true rfl)⟩ ⟨(Nat.le_of_ble_eq_true rfl), (Nat.le_of_ble_eq_true rfl)⟩ (g_K.out X ht (fun E_ h_ => Or.inr ⟨h_.1, ⟨⟨p_, hp_, rfl⟩, ⟨s_, hs_1, hs_2, rfl⟩⟩, fun z => h_.2 ((nI_ltI (b := 8) (by omega) (by decide)).mpr z)⟩) (Nat.le_of_ble_eq_true rfl) (Nat.le_of_ble_eq_true rfl)) (fun r_ f2_ hp => ?_)
  obtain ⟨⟨rfl, hf_⟩, hw_⟩ := hp
  refine g_st (st2 := []) rfl ?_
  have hf_ := hf_.symm
  subst hf_
  have hn9 : n < 8 := (nI_ltI (b := 8) (by omega) (by decide)).mp hw_
  refine g_aload_n X d_CL_act_26 0 rfl ?_
  refine g_get (ci := 3) (C := R_CL) (T := F_CL) (N := 7) (v := .ref (ad 6)) X i_CL rfl hO0 3 (by decide) q_106 (fun _ h9 => h9) rfl d_CL_act_27 ?_
  refine g_iload_n X d_CL_act_30 1 rfl ?_
  refine g_iload_n X d_CL_act_31 2 rfl ?_
  refine g_callV (ci := 2) (As := [.int (nI p_), .int (nI s_)]) (rest := []) X (z_ok eA eM) rfl rfl hT (c_TU_addAct hTU hUB hI hn9 (x := p_) (y := s_)) v_TU_addAct q_352 q_353 q_351 rfl rfl (Nat.le_of_ble_eq_true rfl) d_CL_act_32 ⟨(Nat.le_of_ble_eq_true rfl), (Nat.le_of_ble_eq_true rfl)⟩ ⟨(Nat.le_of_ble_eq_true rfl), (Nat.le_of_ble_eq_true rfl)⟩ (g_K.no (fun _ h => h)) (fun r_ f2_ hp => ?_)
  obtain ⟨rfl, rfl⟩ := hp
  refine g_st (st2 := [.int (nI n)]) rfl ?_
  exact g_iret X rfl (⟨p_, s_, hp_, hs_1, hs_2, rfl, rfl, hn9, rfl, rfl⟩) (Nat.le_of_ble_eq_true rfl) (Nat.le_of_ble_eq_true rfl) d_CL_act_35
set_option maxHeartbeats 4000000 in
set_option maxRecDepth 100000 in
theorem c_CL_shows {l : Launch} {D : va_G} {cI cZ cO cJ : ClassId} {eA eM : Nat} (hl : l.stackTraces = false) {f : g_F} {ad : Nat → Nat} {L nc : Nat} {pt ot : Nat → Int32} {per dy : Nat → Nat → Nat} {gd : Nat → Nat → Bool} {ct : Nat → Nat} {td ts : Nat → Nat} {tn : Nat} {P Du S Wy Re : Nat → Nat} {n : Nat} {O : Nat → Nat} {pl ps cap : Nat} {mc : Int32} (hR : cl_R cI cZ cO f ad L nc pt ot per dy gd ct td ts tn P Du S Wy Re n O pl ps cap mc) (hB : cl_B L nc per dy ct td ts tn P Du S Wy Re n O pl ps) (hIn : ∀ i j, i < 13 + 4 * nc → j < 13 + 4 * nc → ad i = ad j → i = j) {x y : Int32} {b : Bool} : g_C l y_CL_shows b_CL_shows 4 (some .boolean) { frames := 8, cells := 2, slots := 12, locals := 125 } D g_cl (g_tys cI cZ cO cJ) (z_Z eA eM) [.ref (ad 0), .int x, .int y, .int (bI b)] f (fun r f2 => ∃ i k, i < n ∧ k < nc ∧ x = nI i ∧ y = nI k ∧ r = some (.int (bI ((S i).testBit k))) ∧ f2 = g_u f (ad 9) (.inl (cI, 8, .inl (fun q9 => nI ((va_up S i (shw S i k b)) q9))))) (fun E => E = "java/lang/IllegalArgumentException" ∧ ¬ (inR x n ∧ inR y nc)) := by
  refine g_ofW [(0, .ref (ad 0)), (1, .int x), (2, .int y), (3, .int (bI b))] (by decide +kernel) (Nat.le_of_ble_eq_true rfl) rfl ?_
  intro p e s m args below meth c X ht hin
  obtain ⟨hO0, hAL, hTL, hTU, hPL, hCS⟩ := id hR
  obtain ⟨⟨hL1, hL5⟩, hnc, hCB, hTB, hUB, hRe, hpl8, hO8, hps⟩ := id hB
  obtain ⟨hQ, hn, hcap, hE⟩ := id hAL
  have hG := hTL.1
  have hT := hTU.1
  have hn8 := hUB.1
  have hI : ∀ i j, i < 5 → j < 5 → ad (7 + i) = ad (7 + j) → i = j := fun i j h1 h2 h3 => by have := hIn (7 + i) (7 + j) (by omega) (by omega) h3; omega
  refine g_iload_n X d_CL_shows_0 1 rfl ?_
  refine g_aload_n X d_CL_shows_1 0 rfl ?_
  refine g_get (ci := 3) (C := R_CL) (T := F_CL) (N := 7) (v := .ref (ad 6)) X i_CL rfl hO0 3 (by decide) q_106 (fun _ h9 => h9) rfl d_CL_shows_2 ?_
  refine g_callV (ci := 2) (As := []) (rest := [.int x]) X (z_ok eA eM) rfl rfl hT (c_TU_actCount hTU hUB) v_TU_actCount q_348 q_349 q_347 rfl rfl (Nat.le_of_ble_eq_true rfl) d_CL_shows_5 ⟨(Nat.le_of_ble_eq_true rfl), (Nat.le_of_ble_eq_true rfl)⟩ ⟨(Nat.le_of_ble_eq_true rfl), (Nat.le_of_ble_eq_true rfl)⟩ (g_K.no (fun _ h => h)) (fun r_ f2_ hp => ?_)
  obtain ⟨rfl, hf_⟩ := hp
  subst f2_
  refine g_st (st2 := [.int (nI n), .int x]) rfl ?_
  refine g_callS (As := [.int x, .int (nI n)]) (rest := []) X (z_ok eA eM) (c_CL_needBelow hl (f := f) (x := x) (b := nI (n))) v_CL_needBelow q_142 q_141 rfl rfl (Nat.le_of_ble_eq_true rfl) d_CL_shows_8 ⟨(Nat.le_of_ble_eq_true rfl), (Nat.le_of_ble_eq_true rfl)⟩ ⟨(Nat.le_of_ble_eq_true rfl), (Nat.le_of_ble_eq_true rfl)⟩ (g_K.out X ht (fun E_ h_ => ⟨h_.1, fun z => h_.2.elim ((inR_iff (n := n) (by omega)).mpr z.1).1 (fun v_ => v_ ((inR_iff (n := n) (by omega)).mpr z.1).2)⟩) (Nat.le_of_ble_eq_true rfl) (Nat.le_of_ble_eq_true rfl)) (fun r_ f2_ hp => ?_)
  obtain ⟨⟨rfl, hf_⟩, hw_⟩ := hp
  refine g_st (st2 := []) rfl ?_
  have hf_ := hf_.symm
  subst hf_
  obtain ⟨i, hi, rfl⟩ := (inR_iff (n := n) (by omega)).mp hw_
  refine g_iload_n X d_CL_shows_11 2 rfl ?_
  refine g_aload_n X d_CL_shows_12 0 rfl ?_
  refine g_get (ci := 3) (C := R_CL) (T := F_CL) (N := 7) (v := .ref (ad 1)) X i_CL rfl hO0 1 (by decide) q_104 (fun _ h9 => h9) rfl d_CL_shows_13 ?_
  refine g_callV (ci := 0) (As := []) (rest := [.int y]) X (z_ok eA eM) rfl rfl hQ (c_AL_size hAL) v_AL_size q_223 q_224 q_222 rfl rfl (Nat.le_of_ble_eq_true rfl) d_CL_shows_16 ⟨(Nat.le_of_ble_eq_true rfl), (Nat.le_of_ble_eq_true rfl)⟩ ⟨(Nat.le_of_ble_eq_true rfl), (Nat.le_of_ble_eq_true rfl)⟩ (g_K.no (fun _ h => h)) (fun r_ f2_ hp => ?_)
  obtain ⟨rfl, hf_⟩ := hp
  subst f2_
  refine g_st (st2 := [.int (nI nc), .int y]) rfl ?_
  refine g_callS (As := [.int y, .int (nI nc)]) (rest := []) X (z_ok eA eM) (c_CL_needBelow hl (f := f) (x := y) (b := nI (nc))) v_CL_needBelow q_142 q_141 rfl rfl (Nat.le_of_ble_eq_true rfl) d_CL_shows_19 ⟨(Nat.le_of_ble_eq_true rfl), (Nat.le_of_ble_eq_true rfl)⟩ ⟨(Nat.le_of_ble_eq_true rfl), (Nat.le_of_ble_eq_true rfl)⟩ (g_K.out X ht (fun E_ h_ => ⟨h_.1, fun z => h_.2.elim ((inR_iff (n := nc) (by omega)).mpr z.2).1 (fun v_ => v_ ((inR_iff (n := nc) (by omega)).mpr z.2).2)⟩) (Nat.le_of_ble_eq_true rfl) (Nat.le_of_ble_eq_true rfl)) (fun r_ f2_ hp => ?_)
  obtain ⟨⟨rfl, hf_⟩, hw_⟩ := hp
  refine g_st (st2 := []) rfl ?_
  have hf_ := hf_.symm
  subst hf_
  obtain ⟨k, hk, rfl⟩ := (inR_iff (n := nc) (by omega)).mp hw_
  refine g_aload_n X d_CL_shows_22 0 rfl ?_
  refine g_get (ci := 3) (C := R_CL) (T := F_CL) (N := 7) (v := .ref (ad 6)) X i_CL rfl hO0 3 (by decide) q_106 (fun _ h9 => h9) rfl d_CL_shows_23 ?_
  refine g_iload_n X d_CL_shows_26 1 rfl ?_
  refine g_iload_n X d_CL_shows_27 2 rfl ?_
  refine g_iload_n X d_CL_shows_28 3 rfl ?_
  refine g_callV (ci := 2) (As := [.int (nI i), .int (nI k), .int (bI b)]) (rest := []) X (z_ok eA eM) rfl rfl hT (c_TU_setShown hTU hUB hI (i := i) (k := k) (b := b) (by omega) (by omega)) v_TU_setShown q_363 q_364 q_362 rfl rfl (Nat.le_of_ble_eq_true rfl) d_CL_shows_29 ⟨(Nat.le_of_ble_eq_true rfl), (Nat.le_of_ble_eq_true rfl)⟩ ⟨(Nat.le_of_ble_eq_true rfl), (Nat.le_of_ble_eq_true rfl)⟩ (g_K.no (fun _ h => h)) (fun r_ f2_ hp => ?_)
  obtain ⟨rfl, rfl⟩ := hp
  refine g_st (st2 := [.int (bI ((S i).testBit k))]) rfl ?_
  exact g_zret X rfl (bI_nar _) (⟨i, k, hi, hk, rfl, rfl, rfl, rfl⟩) (Nat.le_of_ble_eq_true rfl) (Nat.le_of_ble_eq_true rfl) d_CL_shows_32
set_option maxHeartbeats 4000000 in
set_option maxRecDepth 100000 in
theorem c_CL_way {l : Launch} {D : va_G} {cI cZ cO cJ : ClassId} {eA eM : Nat} (hl : l.stackTraces = false) {f : g_F} {ad : Nat → Nat} {L nc : Nat} {pt ot : Nat → Int32} {per dy : Nat → Nat → Nat} {gd : Nat → Nat → Bool} {ct : Nat → Nat} {td ts : Nat → Nat} {tn : Nat} {P Du S Wy Re : Nat → Nat} {n : Nat} {O : Nat → Nat} {pl ps cap : Nat} {mc : Int32} (hR : cl_R cI cZ cO f ad L nc pt ot per dy gd ct td ts tn P Du S Wy Re n O pl ps cap mc) (hB : cl_B L nc per dy ct td ts tn P Du S Wy Re n O pl ps) (hIn : ∀ i j, i < 13 + 4 * nc → j < 13 + 4 * nc → ad i = ad j → i = j) {x y w : Int32} : g_C l y_CL_way b_CL_way 4 (some .int) { frames := 8, cells := 4, slots := 24, locals := 125 } D g_cl (g_tys cI cZ cO cJ) (z_Z eA eM) [.ref (ad 0), .int x, .int y, .int w] f (fun r f2 => ∃ i j s_, i < 10 ∧ j < 10 ∧ i ≠ j ∧ s_ ≤ 10000 ∧ x = nI i ∧ y = nI j ∧ w = nI s_ ∧ r = some (.int (nI (Wy (i * 10 + j)))) ∧ f2 = g_u f (ad 10) (.inl (cI, 100, .inl (fun q9 => nI ((va_up (va_up Wy (i * 10 + j) s_) (j * 10 + i) s_) q9))))) (fun E => E = "java/lang/IllegalArgumentException" ∧ ¬ (inR x 10 ∧ inR y 10 ∧ ¬ x = y ∧ inW w 0 10000)) := by
  refine g_ofW [(0, .ref (ad 0)), (1, .int x), (2, .int y), (3, .int w)] (by decide +kernel) (Nat.le_of_ble_eq_true rfl) rfl ?_
  intro p e s m args below meth c X ht hin
  obtain ⟨hO0, hAL, hTL, hTU, hPL, hCS⟩ := id hR
  obtain ⟨⟨hL1, hL5⟩, hnc, hCB, hTB, hUB, hRe, hpl8, hO8, hps⟩ := id hB
  obtain ⟨hQ, hn, hcap, hE⟩ := id hAL
  have hG := hTL.1
  have hT := hTU.1
  have hn8 := hUB.1
  have hI : ∀ i j, i < 5 → j < 5 → ad (7 + i) = ad (7 + j) → i = j := fun i j h1 h2 h3 => by have := hIn (7 + i) (7 + j) (by omega) (by omega) h3; omega
  refine g_iload_n X d_CL_way_0 1 rfl ?_
  refine g_bipush (v := 10) X d_CL_way_1 (by decide) ?_
  refine g_callS (As := [.int x, .int 10]) (rest := []) X (z_ok eA eM) (c_CL_needBelow hl (f := f) (x := x) (b := 10)) v_CL_needBelow q_142 q_141 rfl rfl (Nat.le_of_ble_eq_true rfl) d_CL_way_3 ⟨(Nat.le_of_ble_eq_true rfl), (Nat.le_of_ble_eq_true rfl)⟩ ⟨(Nat.le_of_ble_eq_true rfl), (Nat.le_of_ble_eq_true rfl)⟩ (g_K.out X ht (fun E_ h_ => ⟨h_.1, fun z => h_.2.elim ((inR_iff (n := 10) (by decide)).mpr z.1).1 (fun v_ => v_ ((inR_iff (n := 10) (by decide)).mpr z.1).2)⟩) (Nat.le_of_ble_eq_true rfl) (Nat.le_of_ble_eq_true rfl)) (fun r_ f2_ hp => ?_)
  obtain ⟨⟨rfl, hf_⟩, hw_⟩ := hp
  refine g_st (st2 := []) rfl ?_
  have hf_ := hf_.symm
  subst hf_
  obtain ⟨i, hi, rfl⟩ := (inR_iff (n := 10) (by decide)).mp hw_
  refine g_iload_n X d_CL_way_6 2 rfl ?_
  refine g_bipush (v := 10) X d_CL_way_7 (by decide) ?_
  refine g_callS (As := [.int y, .int 10]) (rest := []) X (z_ok eA eM) (c_CL_needBelow hl (f := f) (x := y) (b := 10)) v_CL_needBelow q_142 q_141 rfl rfl (Nat.le_of_ble_eq_true rfl) d_CL_way_9 ⟨(Nat.le_of_ble_eq_true rfl), (Nat.le_of_ble_eq_true rfl)⟩ ⟨(Nat.le_of_ble_eq_true rfl), (Nat.le_of_ble_eq_true rfl)⟩ (g_K.out X ht (fun E_ h_ => ⟨h_.1, fun z => h_.2.elim ((inR_iff (n := 10) (by decide)).mpr z.2.1).1 (fun v_ => v_ ((inR_iff (n := 10) (by decide)).mpr z.2.1).2)⟩) (Nat.le_of_ble_eq_true rfl) (Nat.le_of_ble_eq_true rfl)) (fun r_ f2_ hp => ?_)
  obtain ⟨⟨rfl, hf_⟩, hw_⟩ := hp
  refine g_st (st2 := []) rfl ?_
  have hf_ := hf_.symm
  subst hf_
  obtain ⟨j, hj, rfl⟩ := (inR_iff (n := 10) (by decide)).mp hw_
  refine g_iload_n X d_CL_way_12 1 rfl ?_
  refine g_iload_n X d_CL_way_13 2 rfl ?_
  refine g_callS (As := [.int (nI i), .int (nI j)]) (rest := []) X (z_ok eA eM) (c_CL_needOther hl (f := f) (x := nI i) (y := nI j)) v_CL_needOther q_215 q_214 rfl rfl (Nat.le_of_ble_eq_true rfl) d_CL_way_14 ⟨(Nat.le_of_ble_eq_true rfl), (Nat.le_of_ble_eq_true rfl)⟩ ⟨(Nat.le_of_ble_eq_true rfl), (Nat.le_of_ble_eq_true rfl)⟩ (g_K.out X ht (fun E_ h_ => ⟨h_.1, fun z => z.2.2.1 h_.2⟩) (Nat.le_of_ble_eq_true rfl) (Nat.le_of_ble_eq_true rfl)) (fun r_ f2_ hp => ?_)
  obtain ⟨⟨rfl, hf_⟩, hw_⟩ := hp
  refine g_st (st2 := []) rfl ?_
  have hf_ := hf_.symm
  subst hf_
  have hij : i ≠ j := fun z => hw_ (by rw [z])
  refine g_iload_n X d_CL_way_17 3 rfl ?_
  refine g_iconst (v := 0) X d_CL_way_18 (by decide) ?_
  refine g_sipush (v := 10000) X d_CL_way_19 (by decide) ?_
  refine g_callS (As := [.int w, .int 0, .int 10000]) (rest := []) X (z_ok eA eM) (c_CL_needWithin hl (f := f) (x := w) (a := 0) (b := 10000)) v_CL_needWithin q_145 q_144 rfl rfl (Nat.le_of_ble_eq_true rfl) d_CL_way_22 ⟨(Nat.le_of_ble_eq_true rfl), (Nat.le_of_ble_eq_true rfl)⟩ ⟨(Nat.le_of_ble_eq_true rfl), (Nat.le_of_ble_eq_true rfl)⟩ (g_K.out X ht (fun E_ h_ => ⟨h_.1, fun z => h_.2.elim ((inW_iff (lo := 0) (hi := 10000) (by decide) (by decide)).mpr z.2.2.2).1 (fun v_ => v_ ((inW_iff (lo := 0) (hi := 10000) (by decide) (by decide)).mpr z.2.2.2).2)⟩) (Nat.le_of_ble_eq_true rfl) (Nat.le_of_ble_eq_true rfl)) (fun r_ f2_ hp => ?_)
  obtain ⟨⟨rfl, hf_⟩, hw_⟩ := hp
  refine g_st (st2 := []) rfl ?_
  have hf_ := hf_.symm
  subst hf_
  obtain ⟨s_, hs_1, hs_2, rfl⟩ := (inW_iff (lo := 0) (hi := 10000) (by decide) (by decide)).mp hw_
  refine g_aload_n X d_CL_way_25 0 rfl ?_
  refine g_get (ci := 3) (C := R_CL) (T := F_CL) (N := 7) (v := .ref (ad 6)) X i_CL rfl hO0 3 (by decide) q_106 (fun _ h9 => h9) rfl d_CL_way_26 ?_
  refine g_iload_n X d_CL_way_29 1 rfl ?_
  refine g_iload_n X d_CL_way_30 2 rfl ?_
  refine g_iload_n X d_CL_way_31 3 rfl ?_
  refine g_callV (ci := 2) (As := [.int (nI i), .int (nI j), .int (nI s_)]) (rest := []) X (z_ok eA eM) rfl rfl hT (c_TU_setWay hTU hUB hI (x := i) (y := j) (z := s_) hi hj) v_TU_setWay q_377 q_378 q_376 rfl rfl (Nat.le_of_ble_eq_true rfl) d_CL_way_32 ⟨(Nat.le_of_ble_eq_true rfl), (Nat.le_of_ble_eq_true rfl)⟩ ⟨(Nat.le_of_ble_eq_true rfl), (Nat.le_of_ble_eq_true rfl)⟩ (g_K.no (fun _ h => h)) (fun r_ f2_ hp => ?_)
  obtain ⟨rfl, rfl⟩ := hp
  refine g_st (st2 := [.int (nI (Wy (i * 10 + j)))]) rfl ?_
  exact g_iret X rfl (⟨i, j, s_, hi, hj, hij, hs_2, rfl, rfl, rfl, rfl, rfl⟩) (Nat.le_of_ble_eq_true rfl) (Nat.le_of_ble_eq_true rfl) d_CL_way_35
set_option maxHeartbeats 4000000 in
set_option maxRecDepth 100000 in
theorem c_CL_result {l : Launch} {D : va_G} {cI cZ cO cJ : ClassId} {eA eM : Nat} (hl : l.stackTraces = false) {f : g_F} {ad : Nat → Nat} {L nc : Nat} {pt ot : Nat → Int32} {per dy : Nat → Nat → Nat} {gd : Nat → Nat → Bool} {ct : Nat → Nat} {td ts : Nat → Nat} {tn : Nat} {P Du S Wy Re : Nat → Nat} {n : Nat} {O : Nat → Nat} {pl ps cap : Nat} {mc : Int32} (hR : cl_R cI cZ cO f ad L nc pt ot per dy gd ct td ts tn P Du S Wy Re n O pl ps cap mc) (hB : cl_B L nc per dy ct td ts tn P Du S Wy Re n O pl ps) (hIn : ∀ i j, i < 13 + 4 * nc → j < 13 + 4 * nc → ad i = ad j → i = j) {x y w : Int32} {b : Bool} : g_C l y_CL_result b_CL_result 7 (some .int) { frames := 8, cells := 4, slots := 24, locals := 125 } D g_cl (g_tys cI cZ cO cJ) (z_Z eA eM) [.ref (ad 0), .int x, .int y, .int w, .int (bI b)] f (fun r f2 => ∃ k pe dd i, k < nc ∧ pe < 10 ∧ dd < 100001 ∧ x = nI k ∧ y = nI pe ∧ w = nI dd ∧ i < 32 ∧ i ≤ ct k ∧ (∀ j, j < i → ¬ (per k j = pe ∧ dy k j = dd)) ∧ (i < ct k → per k i = pe ∧ dy k i = dd) ∧ r = some (.int (nI (max (ct k) (i + 1)))) ∧ f2 = g_u (g_u (g_u (g_u f (ad (14 + 4 * k)) (.inl (cI, 32, .inl (fun q9 => nI ((va_up (per k) i pe) q9))))) (ad (15 + 4 * k)) (.inl (cI, 32, .inl (fun q9 => nI ((va_up (dy k) i dd) q9))))) (ad (16 + 4 * k)) (.inl (cZ, 32, .inl (fun q9 => bI ((va_up (gd k) i b) q9))))) (ad (13 + 4 * k)) (.inr (4, [.int (pt k), .int (ot k), .ref (ad (14 + 4 * k)), .ref (ad (15 + 4 * k)), .ref (ad (16 + 4 * k)), .int (nI (max (ct k) (i + 1)))]))) (fun E => (E = "java/lang/IllegalArgumentException" ∧ ¬ (inR x nc ∧ inR y 10 ∧ inR w 100001)) ∨ (E = "java/lang/IllegalStateException" ∧ (inR x nc ∧ inR y 10 ∧ inR w 100001) ∧ (∃ k pe dd, x = nI k ∧ y = nI pe ∧ w = nI dd ∧ k < nc ∧ pe < 10 ∧ dd < 100001 ∧ ct k = 32 ∧ ∀ j, j < 32 → ¬ (per k j = pe ∧ dy k j = dd)))) := by
  refine g_ofW [(0, .ref (ad 0)), (1, .int x), (2, .int y), (3, .int w), (4, .int (bI b))] (by decide +kernel) (Nat.le_of_ble_eq_true rfl) rfl ?_
  intro p e s m args below meth c X ht hin
  obtain ⟨hO0, hAL, hTL, hTU, hPL, hCS⟩ := id hR
  obtain ⟨⟨hL1, hL5⟩, hnc, hCB, hTB, hUB, hRe, hpl8, hO8, hps⟩ := id hB
  obtain ⟨hQ, hn, hcap, hE⟩ := id hAL
  have hG := hTL.1
  have hT := hTU.1
  have hn8 := hUB.1
  have hI : ∀ i j, i < 5 → j < 5 → ad (7 + i) = ad (7 + j) → i = j := fun i j h1 h2 h3 => by have := hIn (7 + i) (7 + j) (by omega) (by omega) h3; omega
  refine g_iload_n X d_CL_result_0 1 rfl ?_
  refine g_aload_n X d_CL_result_1 0 rfl ?_
  refine g_get (ci := 3) (C := R_CL) (T := F_CL) (N := 7) (v := .ref (ad 1)) X i_CL rfl hO0 1 (by decide) q_104 (fun _ h9 => h9) rfl d_CL_result_2 ?_
  refine g_callV (ci := 0) (As := []) (rest := [.int x]) X (z_ok eA eM) rfl rfl hQ (c_AL_size hAL) v_AL_size q_223 q_224 q_222 rfl rfl (Nat.le_of_ble_eq_true rfl) d_CL_result_5 ⟨(Nat.le_of_ble_eq_true rfl), (Nat.le_of_ble_eq_true rfl)⟩ ⟨(Nat.le_of_ble_eq_true rfl), (Nat.le_of_ble_eq_true rfl)⟩ (g_K.no (fun _ h => h)) (fun r_ f2_ hp => ?_)
  obtain ⟨rfl, hf_⟩ := hp
  subst f2_
  refine g_st (st2 := [.int (nI nc), .int x]) rfl ?_
  refine g_callS (As := [.int x, .int (nI nc)]) (rest := []) X (z_ok eA eM) (c_CL_needBelow hl (f := f) (x := x) (b := nI (nc))) v_CL_needBelow q_142 q_141 rfl rfl (Nat.le_of_ble_eq_true rfl) d_CL_result_8 ⟨(Nat.le_of_ble_eq_true rfl), (Nat.le_of_ble_eq_true rfl)⟩ ⟨(Nat.le_of_ble_eq_true rfl), (Nat.le_of_ble_eq_true rfl)⟩ (g_K.out X ht (fun E_ h_ => Or.inl ⟨h_.1, fun z => h_.2.elim ((inR_iff (n := nc) (by omega)).mpr z.1).1 (fun v_ => v_ ((inR_iff (n := nc) (by omega)).mpr z.1).2)⟩) (Nat.le_of_ble_eq_true rfl) (Nat.le_of_ble_eq_true rfl)) (fun r_ f2_ hp => ?_)
  obtain ⟨⟨rfl, hf_⟩, hw_⟩ := hp
  refine g_st (st2 := []) rfl ?_
  have hf_ := hf_.symm
  subst hf_
  obtain ⟨k, hk, rfl⟩ := (inR_iff (n := nc) (by omega)).mp hw_
  refine g_iload_n X d_CL_result_11 2 rfl ?_
  refine g_bipush (v := 10) X d_CL_result_12 (by decide) ?_
  refine g_callS (As := [.int y, .int 10]) (rest := []) X (z_ok eA eM) (c_CL_needBelow hl (f := f) (x := y) (b := 10)) v_CL_needBelow q_142 q_141 rfl rfl (Nat.le_of_ble_eq_true rfl) d_CL_result_14 ⟨(Nat.le_of_ble_eq_true rfl), (Nat.le_of_ble_eq_true rfl)⟩ ⟨(Nat.le_of_ble_eq_true rfl), (Nat.le_of_ble_eq_true rfl)⟩ (g_K.out X ht (fun E_ h_ => Or.inl ⟨h_.1, fun z => h_.2.elim ((inR_iff (n := 10) (by decide)).mpr z.2.1).1 (fun v_ => v_ ((inR_iff (n := 10) (by decide)).mpr z.2.1).2)⟩) (Nat.le_of_ble_eq_true rfl) (Nat.le_of_ble_eq_true rfl)) (fun r_ f2_ hp => ?_)
  obtain ⟨⟨rfl, hf_⟩, hw_⟩ := hp
  refine g_st (st2 := []) rfl ?_
  have hf_ := hf_.symm
  subst hf_
  obtain ⟨pe, hpe, rfl⟩ := (inR_iff (n := 10) (by decide)).mp hw_
  refine g_iload_n X d_CL_result_17 3 rfl ?_
  refine g_callS (As := [.int w]) (rest := []) X (z_ok eA eM) (c_CL_needDay hl (f := f) (x := w)) v_CL_needDay q_388 q_387 rfl rfl (Nat.le_of_ble_eq_true rfl) d_CL_result_18 ⟨(Nat.le_of_ble_eq_true rfl), (Nat.le_of_ble_eq_true rfl)⟩ ⟨(Nat.le_of_ble_eq_true rfl), (Nat.le_of_ble_eq_true rfl)⟩ (g_K.out X ht (fun E_ h_ => Or.inl ⟨h_.1, fun z => h_.2.elim (inD_iff.mpr z.2.2).1 (fun v_ => v_ (inD_iff.mpr z.2.2).2)⟩) (Nat.le_of_ble_eq_true rfl) (Nat.le_of_ble_eq_true rfl)) (fun r_ f2_ hp => ?_)
  obtain ⟨⟨rfl, hf_⟩, hw_⟩ := hp
  refine g_st (st2 := []) rfl ?_
  have hf_ := hf_.symm
  subst hf_
  obtain ⟨dd, hd, rfl⟩ := inD_iff.mp hw_
  refine g_aload_n X d_CL_result_21 0 rfl ?_
  refine g_get (ci := 3) (C := R_CL) (T := F_CL) (N := 7) (v := .ref (ad 1)) X i_CL rfl hO0 1 (by decide) q_104 (fun _ h9 => h9) rfl d_CL_result_22 ?_
  refine g_iload_n X d_CL_result_25 1 rfl ?_
  refine g_callV (ci := 0) (As := [.int (nI k)]) (rest := []) X (z_ok eA eM) rfl rfl hQ (c_AL_get hAL (i := k) (hk)) v_AL_get q_227 q_228 q_226 rfl rfl (Nat.le_of_ble_eq_true rfl) d_CL_result_26 ⟨(Nat.le_of_ble_eq_true rfl), (Nat.le_of_ble_eq_true rfl)⟩ ⟨(Nat.le_of_ble_eq_true rfl), (Nat.le_of_ble_eq_true rfl)⟩ (g_K.no (fun _ h => h)) (fun r_ f2_ hp => ?_)
  obtain ⟨rfl, hf_⟩ := hp
  subst f2_
  refine g_st (st2 := [.ref (ad (13 + 4 * k))]) rfl ?_
  have hcs := hCS k (hk)
  have hcq := hcs.1
  refine g_cast (ci := 4) (nm := "CaseLists$Case") X q_240 rfl X.2.2.2.2.2.2.2.2.1.1 hcq d_CL_result_29 ?_
  refine g_astore (lv' := [(5, .ref (ad (13 + 4 * k))), (0, .ref (ad 0)), (1, .int (nI k)), (2, .int (nI pe)), (3, .int (nI dd)), (4, .int (bI b))]) X d_CL_result_32 (by decide) rfl ?_
  refine g_aload X d_CL_result_34 0 rfl ?_
  refine g_iload_n X d_CL_result_36 3 rfl ?_
  refine g_iload_n X d_CL_result_37 4 rfl ?_
  refine g_callV (ci := 4) (As := [.int (nI pe), .int (nI dd)]) (rest := []) X (z_ok eA eM) rfl rfl hcq (c_CS_rowOf hcs (hCB k) (pe := pe) (dd := dd) hpe (by omega)) v_CS_rowOf q_417 q_418 q_416 rfl rfl (Nat.le_of_ble_eq_true rfl) d_CL_result_38 ⟨(Nat.le_of_ble_eq_true rfl), (Nat.le_of_ble_eq_true rfl)⟩ ⟨(Nat.le_of_ble_eq_true rfl), (Nat.le_of_ble_eq_true rfl)⟩ (g_K.no (fun _ h => h)) (fun r_ f2_ hp => ?_)
  obtain ⟨⟨i, hi1, hi2, hi3, rfl⟩, hf_⟩ := hp
  subst f2_
  refine g_st (st2 := [.int (nI i)]) rfl ?_
  refine g_istore (lv' := [(6, .int (nI i)), (5, .ref (ad (13 + 4 * k))), (0, .ref (ad 0)), (1, .int (nI k)), (2, .int (nI pe)), (3, .int (nI dd)), (4, .int (bI b))]) X d_CL_result_41 (by decide) rfl ?_
  refine g_iload X d_CL_result_43 0 rfl ?_
  refine g_bipush (v := 32) X d_CL_result_45 (by decide) ?_
  refine g_callS (As := [.int (nI i), .int 32]) (rest := []) X (z_ok eA eM) (c_CL_needRoom hl (f := f) (x := nI i) (y := 32)) v_CL_needRoom q_246 q_245 rfl rfl (Nat.le_of_ble_eq_true rfl) d_CL_result_47 ⟨(Nat.le_of_ble_eq_true rfl), (Nat.le_of_ble_eq_true rfl)⟩ ⟨(Nat.le_of_ble_eq_true rfl), (Nat.le_of_ble_eq_true rfl)⟩ (g_K.out X ht (fun E_ h_ => Or.inr ⟨h_.1, ⟨⟨k, hk, rfl⟩, ⟨pe, hpe, rfl⟩, ⟨dd, hd, rfl⟩⟩, k, pe, dd, rfl, rfl, rfl, hk, hpe, hd, by have := (hCB k).1; have h32 : ¬ i < 32 := fun z => h_.2 ((nI_ltI (b := 32) (by omega) (by decide)).mpr z); omega, fun j hj => hi2 j (by have := (hCB k).1; have h32 : ¬ i < 32 := fun z => h_.2 ((nI_ltI (b := 32) (by omega) (by decide)).mpr z); omega)⟩) (Nat.le_of_ble_eq_true rfl) (Nat.le_of_ble_eq_true rfl)) (fun r_ f2_ hp => ?_)
  obtain ⟨⟨rfl, hf_⟩, hw_⟩ := hp
  refine g_st (st2 := []) rfl ?_
  have hf_ := hf_.symm
  subst hf_
  have hi9 : i < 32 := (nI_ltI (b := 32) (by have := (hCB k).1; omega) (by decide)).mp hw_
  refine g_aload X d_CL_result_50 1 rfl ?_
  refine g_iload X d_CL_result_52 0 rfl ?_
  refine g_iload_n X d_CL_result_54 4 rfl ?_
  refine g_iload_n X d_CL_result_55 5 rfl ?_
  refine g_iload X d_CL_result_56 6 rfl ?_
  have hA1 : ad (14 + 4 * k) ≠ ad (15 + 4 * k) := fun z => absurd (hIn _ _ (by omega) (by omega) z) (by omega)
  have hA2 : ad (14 + 4 * k) ≠ ad (16 + 4 * k) := fun z => absurd (hIn _ _ (by omega) (by omega) z) (by omega)
  have hA3 : ad (15 + 4 * k) ≠ ad (16 + 4 * k) := fun z => absurd (hIn _ _ (by omega) (by omega) z) (by omega)
  refine g_callV (ci := 4) (As := [.int (nI i), .int (nI pe), .int (nI dd), .int (bI b)]) (rest := []) X (z_ok eA eM) rfl rfl hcq (c_CS_tell hcs (hCB k) hA1 hA2 hA3 (i := i) (pe := pe) (dd := dd) (b := b) hi9) v_CS_tell q_421 q_422 q_420 rfl rfl (Nat.le_of_ble_eq_true rfl) d_CL_result_58 ⟨(Nat.le_of_ble_eq_true rfl), (Nat.le_of_ble_eq_true rfl)⟩ ⟨(Nat.le_of_ble_eq_true rfl), (Nat.le_of_ble_eq_true rfl)⟩ (g_K.no (fun _ h => h)) (fun r_ f2_ hp => ?_)
  obtain ⟨rfl, rfl⟩ := hp
  refine g_st (st2 := []) rfl ?_
  have hcs9 : cs_R cI cZ (g_u (g_u (g_u (g_u f (ad (14 + 4 * k)) (.inl (cI, 32, .inl (fun q9 => nI ((va_up (per k) i pe) q9))))) (ad (15 + 4 * k)) (.inl (cI, 32, .inl (fun q9 => nI ((va_up (dy k) i dd) q9))))) (ad (16 + 4 * k)) (.inl (cZ, 32, .inl (fun q9 => bI ((va_up (gd k) i b) q9))))) (ad (13 + 4 * k)) (.inr (4, [.int (pt k), .int (ot k), .ref (ad (14 + 4 * k)), .ref (ad (15 + 4 * k)), .ref (ad (16 + 4 * k)), .int (nI (max (ct k) (i + 1)))]))) (ad (13 + 4 * k)) (ad (14 + 4 * k)) (ad (15 + 4 * k)) (ad (16 + 4 * k)) (pt k) (ot k) (va_up (per k) i pe) (va_up (dy k) i dd) (va_up (gd k) i b) (max (ct k) (i + 1)) := ⟨g_u_s, (g_u_n (Ne.symm (tu_ne hcs.1 hcs.2.1))).trans ((g_u_n hA2).trans ((g_u_n hA1).trans g_u_s)), (g_u_n (Ne.symm (tu_ne hcs.1 hcs.2.2.1))).trans ((g_u_n hA3).trans g_u_s), (g_u_n (Ne.symm (tu_ne hcs.1 hcs.2.2.2))).trans g_u_s⟩
  have hq9 := hcs9.1
  have hcb9 : cs_B (va_up (per k) i pe) (va_up (dy k) i dd) (max (ct k) (i + 1)) := ⟨by have := (hCB k).1; omega, fun j => by unfold va_up; split; exact hpe; exact (hCB k).2.1 j, fun j => by unfold va_up; split; omega; exact (hCB k).2.2 j⟩
  refine g_aload X d_CL_result_61 1 rfl ?_
  refine g_callV (ci := 4) (As := []) (rest := []) X (z_ok eA eM) rfl rfl hq9 (c_CS_resultCount hcs9 hcb9) v_CS_resultCount q_426 q_427 q_425 rfl rfl (Nat.le_of_ble_eq_true rfl) d_CL_result_63 ⟨(Nat.le_of_ble_eq_true rfl), (Nat.le_of_ble_eq_true rfl)⟩ ⟨(Nat.le_of_ble_eq_true rfl), (Nat.le_of_ble_eq_true rfl)⟩ (g_K.no (fun _ h => h)) (fun r_ f2_ hp => ?_)
  obtain ⟨rfl, hf_⟩ := hp
  subst f2_
  refine g_st (st2 := [.int (nI (max (ct k) (i + 1)))]) rfl ?_
  exact g_iret X rfl (⟨k, pe, dd, i, hk, hpe, hd, rfl, rfl, rfl, hi9, hi1, hi2, hi3, rfl, rfl⟩) (Nat.le_of_ble_eq_true rfl) (Nat.le_of_ble_eq_true rfl) d_CL_result_66
theorem fo_lt {P Du S Wy Re : Nat → Nat} {n need : Nat} (hn : n ≤ 8) : ∀ (d done : Nat) (O : Nat → Nat) (k : Nat), (∀ i, O i < 8) → (∀ i, (fo P Du S Wy Re n need d done O k).1 i < 8) ∧ (fo P Du S Wy Re n need d done O k).2 ≤ k + d
  | 0, _, _, k, h => ⟨h, Nat.le_refl _⟩
  | d + 1, done, O, k, h => by
    rw [fo_s]
    split
    · exact ⟨h, by show k ≤ _; omega⟩
    · split
      · exact ⟨h, by show k ≤ _; omega⟩
      · rename_i hx
        obtain ⟨j, h1, h2⟩ := foN_cases P Du Wy Re n done O k hx
        have h3 : (foN P Du Wy Re n done O k).toNatClampNeg = j := by rw [h2]; exact nI_clamp (by omega)
        rw [h3]
        have ih := fo_lt (P := P) (Du := Du) (S := S) (Wy := Wy) (Re := Re) (need := need) hn d (done ||| 2 ^ j) (va_up O k j) (k + 1) (fun i => by unfold va_up; split; omega; exact h i)
        exact ⟨ih.1, by have := ih.2; omega⟩
theorem tu_keep {cI : ClassId} {f : g_F} {t q : Nat} {x : va_E} {a : Nat → Nat} {P Du S Wy Re : Nat → Nat} {n : Nat} (hR : tu_R cI f t a P Du S Wy Re n) (ht : t ≠ q) (ha : ∀ i, i < 5 → a i ≠ q) : tu_R cI (g_u f q x) t a P Du S Wy Re n := by
  obtain ⟨hT, h0, h1, h2, h3, h4⟩ := hR
  exact ⟨(g_u_n ht).trans hT, (g_u_n (ha 0 (by decide))).trans h0, (g_u_n (ha 1 (by decide))).trans h1, (g_u_n (ha 2 (by decide))).trans h2, (g_u_n (ha 3 (by decide))).trans h3, (g_u_n (ha 4 (by decide))).trans h4⟩
set_option maxHeartbeats 4000000 in
set_option maxRecDepth 100000 in
theorem c_CL_plan {l : Launch} {D : va_G} {cI cZ cO cJ : ClassId} {eA eM : Nat} (hl : l.stackTraces = false) {f : g_F} {ad : Nat → Nat} {L nc : Nat} {pt ot : Nat → Int32} {per dy : Nat → Nat → Nat} {gd : Nat → Nat → Bool} {ct : Nat → Nat} {td ts : Nat → Nat} {tn : Nat} {P Du S Wy Re : Nat → Nat} {n : Nat} {O : Nat → Nat} {pl ps cap : Nat} {mc : Int32} (hR : cl_R cI cZ cO f ad L nc pt ot per dy gd ct td ts tn P Du S Wy Re n O pl ps cap mc) (hB : cl_B L nc per dy ct td ts tn P Du S Wy Re n O pl ps) (hIn : ∀ i j, i < 13 + 4 * nc → j < 13 + 4 * nc → ad i = ad j → i = j) {y : Int32} : g_C l y_CL_plan b_CL_plan 3 (some .int) { frames := 8, cells := 1, slots := 6, locals := 124 } D g_cl (g_tys cI cZ cO cJ) (z_Z eA eM) [.ref (ad 0), .int y] f (fun r f2 => ∃ (dd : Nat) (Re2 O2 : Nat → Nat) (k : Nat), dd < 100001 ∧ y = nI dd ∧ bellA P Du S Wy n (bset (fun k => decide (sta L per dy gd ct td ts tn k dd ≠ 3)) nc &&& orS S (2 ^ n - 1) n) Re2 0 ∧ fo P Du S Wy Re2 n (bset (fun k => decide (sta L per dy gd ct td ts tn k dd ≠ 3)) nc &&& orS S (2 ^ n - 1) n) n 0 O 0 = (O2, k) ∧ r = some (.int (nI k)) ∧ f2 = g_u (fo_w cI (tu_w cI f (fun i => ad (7 + i)) Re2) (ad 12) O2) (ad 0) (.inr (3, [.int (nI L), .ref (ad 1), .ref (ad 3), .ref (ad 6), .ref (ad 12), .int (nI k), .int (nI (secs P Du Wy O2 k))]))) (fun E => E = "java/lang/IllegalArgumentException" ∧ ¬ (inR y 100001)) := by
  refine g_ofW [(0, .ref (ad 0)), (1, .int y)] (by decide +kernel) (Nat.le_of_ble_eq_true rfl) rfl ?_
  intro p e s m args below meth c X ht hin
  obtain ⟨hO0, hAL, hTL, hTU, hPL, hCS⟩ := id hR
  obtain ⟨⟨hL1, hL5⟩, hnc, hCB, hTB, hUB, hRe, hpl8, hO8, hps⟩ := id hB
  obtain ⟨hQ, hn, hcap, hE⟩ := id hAL
  have hG := hTL.1
  have hT := hTU.1
  have hn8 := hUB.1
  have hI : ∀ i j, i < 5 → j < 5 → ad (7 + i) = ad (7 + j) → i = j := fun i j h1 h2 h3 => by have := hIn (7 + i) (7 + j) (by omega) (by omega) h3; omega
  have hrp : ∀ i, i < 5 → ad (7 + i) ≠ ad 12 := fun i hi z => absurd (hIn (7 + i) 12 (by omega) (by omega) z) (by omega)
  refine g_iload_n X d_CL_plan_0 1 rfl ?_
  refine g_callS (As := [.int y]) (rest := []) X (z_ok eA eM) (c_CL_needDay hl (f := f) (x := y)) v_CL_needDay q_388 q_387 rfl rfl (Nat.le_of_ble_eq_true rfl) d_CL_plan_1 ⟨(Nat.le_of_ble_eq_true rfl), (Nat.le_of_ble_eq_true rfl)⟩ ⟨(Nat.le_of_ble_eq_true rfl), (Nat.le_of_ble_eq_true rfl)⟩ (g_K.out X ht (fun E_ h_ => ⟨h_.1, fun z => h_.2.elim (inD_iff.mpr z).1 (fun v_ => v_ (inD_iff.mpr z).2)⟩) (Nat.le_of_ble_eq_true rfl) (Nat.le_of_ble_eq_true rfl)) (fun r_ f2_ hp => ?_)
  obtain ⟨⟨rfl, hf_⟩, hw_⟩ := hp
  refine g_st (st2 := []) rfl ?_
  have hf_ := hf_.symm
  subst hf_
  obtain ⟨dd, hd, rfl⟩ := inD_iff.mp hw_
  refine g_aload_n X d_CL_plan_4 0 rfl ?_
  refine g_iload_n X d_CL_plan_5 1 rfl ?_
  refine g_callV (ci := 3) (As := [.int (nI dd)]) (rest := []) X (z_ok eA eM) rfl rfl hO0 (c_CL_unprovedCases hR hB (dd := dd) (by omega)) v_CL_unprovedCases q_438 q_s6 q_436 rfl rfl (Nat.le_of_ble_eq_true rfl) d_CL_plan_6 ⟨(Nat.le_of_ble_eq_true rfl), (Nat.le_of_ble_eq_true rfl)⟩ ⟨(Nat.le_of_ble_eq_true rfl), (Nat.le_of_ble_eq_true rfl)⟩ (g_K.no (fun _ h => h)) (fun r_ f2_ hp => ?_)
  obtain ⟨rfl, hf_⟩ := hp
  subst f2_
  refine g_st (st2 := [.int (nI (bset (fun k => decide (sta L per dy gd ct td ts tn k dd ≠ 3)) nc))]) rfl ?_
  refine g_aload_n X d_CL_plan_9 0 rfl ?_
  refine g_get (ci := 3) (C := R_CL) (T := F_CL) (N := 7) (v := .ref (ad 6)) X i_CL rfl hO0 3 (by decide) q_106 (fun _ h9 => h9) rfl d_CL_plan_10 ?_
  refine g_callV (ci := 2) (As := []) (rest := [.int (nI (bset (fun k => decide (sta L per dy gd ct td ts tn k dd ≠ 3)) nc))]) X (z_ok eA eM) rfl rfl hT (c_TU_shownByAny hTU hUB) v_TU_shownByAny q_458 q_459 q_457 rfl rfl (Nat.le_of_ble_eq_true rfl) d_CL_plan_13 ⟨(Nat.le_of_ble_eq_true rfl), (Nat.le_of_ble_eq_true rfl)⟩ ⟨(Nat.le_of_ble_eq_true rfl), (Nat.le_of_ble_eq_true rfl)⟩ (g_K.no (fun _ h => h)) (fun r_ f2_ hp => ?_)
  obtain ⟨rfl, hf_⟩ := hp
  subst f2_
  refine g_st (st2 := [.int (nI (orS S (2 ^ n - 1) n)), .int (nI (bset (fun k => decide (sta L per dy gd ct td ts tn k dd ≠ 3)) nc))]) rfl ?_
  refine g_iand X d_CL_plan_16 ?_
  refine g_eqi (y := nI (bset (fun k => decide (sta L per dy gd ct td ts tn k dd ≠ 3)) nc &&& orS S (2 ^ n - 1) n)) (nI_and _ _) ?_
  have hnd : (bset (fun k => decide (sta L per dy gd ct td ts tn k dd ≠ 3)) nc &&& orS S (2 ^ n - 1) n) < 2 ^ 31 := Nat.lt_of_le_of_lt Nat.and_le_left (Nat.lt_trans (bset_lt31 _ hnc) (by decide))
  refine g_istore_n (lv' := [(2, .int (nI (bset (fun k => decide (sta L per dy gd ct td ts tn k dd ≠ 3)) nc &&& orS S (2 ^ n - 1) n))), (0, .ref (ad 0)), (1, .int (nI dd))]) X d_CL_plan_17 rfl (by decide) rfl ?_
  refine g_aload_n X d_CL_plan_18 1 rfl ?_
  refine g_aload_n X d_CL_plan_19 1 rfl ?_
  refine g_get (ci := 3) (C := R_CL) (T := F_CL) (N := 7) (v := .ref (ad 6)) X i_CL rfl hO0 3 (by decide) q_106 (fun _ h9 => h9) rfl d_CL_plan_20 ?_
  refine g_iload_n X d_CL_plan_23 0 rfl ?_
  refine g_aload_n X d_CL_plan_24 1 rfl ?_
  refine g_get (ci := 3) (C := R_CL) (T := F_CL) (N := 7) (v := .ref (ad 12)) X i_CL rfl hO0 4 (by decide) q_107 (fun _ h9 => h9) rfl d_CL_plan_25 ?_
  refine g_callV (ci := 2) (As := [.int (nI (bset (fun k => decide (sta L per dy gd ct td ts tn k dd ≠ 3)) nc &&& orS S (2 ^ n - 1) n)), .ref (ad 12)]) (rest := [.ref (ad 0)]) X (z_ok eA eM) rfl rfl hT (c_TU_findOrder hTU hUB hRe hI (need := (bset (fun k => decide (sta L per dy gd ct td ts tn k dd ≠ 3)) nc &&& orS S (2 ^ n - 1) n)) hnd hPL hrp) v_TU_findOrder q_466 q_467 q_465 rfl rfl (Nat.le_of_ble_eq_true rfl) d_CL_plan_28 ⟨(Nat.le_of_ble_eq_true rfl), (Nat.le_of_ble_eq_true rfl)⟩ ⟨(Nat.le_of_ble_eq_true rfl), (Nat.le_of_ble_eq_true rfl)⟩ (g_K.no (fun _ h => h)) (fun r_ f2_ hp => ?_)
  obtain ⟨Re2, O2, k, hA, hfo, rfl, rfl⟩ := hp
  refine g_st (st2 := [.int (nI k), .ref (ad 0)]) rfl ?_
  have hTU1 : tu_R cI (fo_w cI (tu_w cI f (fun i => ad (7 + i)) Re2) (ad 12) O2) (ad 6) (fun i => ad (7 + i)) P Du S Wy Re2 n := fo_w_R (tu_w_R hTU hI Re2) ⟨_, (g_u_n (Ne.symm (hrp 4 (by decide)))).trans hPL⟩ hrp
  have hO1 : (fo_w cI (tu_w cI f (fun i => ad (7 + i)) Re2) (ad 12) O2) (ad 0) = some (.inr (3, [.int (nI L), .ref (ad 1), .ref (ad 3), .ref (ad 6), .ref (ad 12), .int (nI pl), .int (nI ps)])) := (g_u_n (tu_ne hO0 hPL)).trans ((g_u_n (tu_ne hO0 hTU.2.2.2.2.2)).trans hO0)
  have hP1 : (fo_w cI (tu_w cI f (fun i => ad (7 + i)) Re2) (ad 12) O2) (ad 12) = some (.inl (cI, 8, .inl (fun q9 => nI (O2 q9)))) := g_u_s
  have hT1 := hTU1.1
  have hO2l : ∀ i, O2 i < 8 := by have h9 := (fo_lt (P := P) (Du := Du) (S := S) (Wy := Wy) (Re := Re2) (need := (bset (fun k => decide (sta L per dy gd ct td ts tn k dd ≠ 3)) nc &&& orS S (2 ^ n - 1) n)) hn8 n 0 O 0 hO8).1; rw [hfo] at h9; exact h9
  have hk8 : k ≤ 8 := by have h9 := (fo_lt (P := P) (Du := Du) (S := S) (Wy := Wy) (Re := Re2) (need := (bset (fun k => decide (sta L per dy gd ct td ts tn k dd ≠ 3)) nc &&& orS S (2 ^ n - 1) n)) hn8 n 0 O 0 hO8).2; rw [hfo] at h9; have h10 : k ≤ 0 + n := h9; omega
  refine g_put (ci := 3) (C := R_CL) (T := F_CL) (N := 7) (ty := .int) (fs2 := [.int (nI L), .ref (ad 1), .ref (ad 3), .ref (ad 6), .ref (ad 12), .int (nI k), .int (nI ps)]) X i_CL t_CL t_CL_ok n_CL rfl hO1 5 (by decide) q_108 (fun _ h9 => h9) rfl (by decide +kernel) rfl rfl (Nat.le_of_ble_eq_true rfl) rfl d_CL_plan_31 ?_
  generalize ef_1 : g_u (fo_w cI (tu_w cI f (fun i => ad (7 + i)) Re2) (ad 12) O2) (ad 0) (.inr (3, [.int (nI L), .ref (ad 1), .ref (ad 3), .ref (ad 6), .ref (ad 12), .int (nI k), .int (nI ps)])) = f_1
  have h_2 : f_1 (ad 0) = some (.inr (3, [.int (nI L), .ref (ad 1), .ref (ad 3), .ref (ad 6), .ref (ad 12), .int (nI k), .int (nI ps)])) := by rw [← ef_1]; exact g_u_s
  have h_3 : f_1 (ad 12) = some (.inl (cI, 8, .inl (fun q9 => nI (O2 q9)))) := by rw [← ef_1]; exact (g_u_n (fun z => absurd (hIn 12 0 (by omega) (by omega) z) (by decide))).trans hP1
  have h_4 : f_1 (ad 6) = some (.inr (2, [.ref (ad 7), .ref (ad 8), .ref (ad 9), .ref (ad 10), .ref (ad 11), .int (nI n)])) := by rw [← ef_1]; exact (g_u_n (fun z => absurd (hIn 6 0 (by omega) (by omega) z) (by decide))).trans hT1
  refine g_aload_n X d_CL_plan_34 1 rfl ?_
  refine g_aload_n X d_CL_plan_35 1 rfl ?_
  refine g_get (ci := 3) (C := R_CL) (T := F_CL) (N := 7) (v := .ref (ad 6)) X i_CL rfl h_2 3 (by decide) q_106 (fun _ h9 => h9) rfl d_CL_plan_36 ?_
  refine g_aload_n X d_CL_plan_39 1 rfl ?_
  refine g_get (ci := 3) (C := R_CL) (T := F_CL) (N := 7) (v := .ref (ad 12)) X i_CL rfl h_2 4 (by decide) q_107 (fun _ h9 => h9) rfl d_CL_plan_40 ?_
  refine g_aload_n X d_CL_plan_43 1 rfl ?_
  refine g_get (ci := 3) (C := R_CL) (T := F_CL) (N := 7) (v := .int (nI k)) X i_CL rfl h_2 5 (by decide) q_108 (fun _ h9 => h9) rfl d_CL_plan_44 ?_
  have hTU2 : tu_R cI f_1 (ad 6) (fun i => ad (7 + i)) P Du S Wy Re2 n := by rw [← ef_1]; exact tu_keep hTU1 (fun z => absurd (hIn 6 0 (by omega) (by omega) z) (by decide)) (fun i hi z => absurd (hIn (7 + i) 0 (by omega) (by omega) z) (by omega))
  refine g_callV (ci := 2) (As := [.ref (ad 12), .int (nI k)]) (rest := [.ref (ad 0)]) X (z_ok eA eM) rfl rfl h_4 (c_TU_secondsOf hTU2 hUB (rp := ad 12) (len := k) (O := O2) h_3 hk8 (fun i _ => hO2l i)) v_TU_secondsOf q_507 q_508 q_506 rfl rfl (Nat.le_of_ble_eq_true rfl) d_CL_plan_47 ⟨(Nat.le_of_ble_eq_true rfl), (Nat.le_of_ble_eq_true rfl)⟩ ⟨(Nat.le_of_ble_eq_true rfl), (Nat.le_of_ble_eq_true rfl)⟩ (g_K.no (fun _ h => h)) (fun r_ f2_ hp => ?_)
  obtain ⟨rfl, hf_⟩ := hp
  subst f2_
  refine g_st (st2 := [.int (nI (secs P Du Wy O2 k)), .ref (ad 0)]) rfl ?_
  refine g_put (ci := 3) (C := R_CL) (T := F_CL) (N := 7) (ty := .int) (fs2 := [.int (nI L), .ref (ad 1), .ref (ad 3), .ref (ad 6), .ref (ad 12), .int (nI k), .int (nI (secs P Du Wy O2 k))]) X i_CL t_CL t_CL_ok n_CL rfl h_2 6 (by decide) q_109 (fun _ h9 => h9) rfl (by decide +kernel) rfl rfl (Nat.le_of_ble_eq_true rfl) rfl d_CL_plan_50 ?_
  generalize ef_5 : g_u f_1 (ad 0) (.inr (3, [.int (nI L), .ref (ad 1), .ref (ad 3), .ref (ad 6), .ref (ad 12), .int (nI k), .int (nI (secs P Du Wy O2 k))])) = f_5
  have h_6 : f_5 (ad 0) = some (.inr (3, [.int (nI L), .ref (ad 1), .ref (ad 3), .ref (ad 6), .ref (ad 12), .int (nI k), .int (nI (secs P Du Wy O2 k))])) := by rw [← ef_5]; exact g_u_s
  have h_7 : f_5 (ad 12) = some (.inl (cI, 8, .inl (fun q9 => nI (O2 q9)))) := by rw [← ef_5]; exact (g_u_n (fun z => absurd (hIn 12 0 (by omega) (by omega) z) (by decide))).trans h_3
  have h_8 : f_5 (ad 6) = some (.inr (2, [.ref (ad 7), .ref (ad 8), .ref (ad 9), .ref (ad 10), .ref (ad 11), .int (nI n)])) := by rw [← ef_5]; exact (g_u_n (fun z => absurd (hIn 6 0 (by omega) (by omega) z) (by decide))).trans h_4
  refine g_aload_n X d_CL_plan_53 1 rfl ?_
  refine g_get (ci := 3) (C := R_CL) (T := F_CL) (N := 7) (v := .int (nI k)) X i_CL rfl h_6 5 (by decide) q_108 (fun _ h9 => h9) rfl d_CL_plan_54 ?_
  exact g_iret X rfl (⟨dd, Re2, O2, k, hd, rfl, hA, hfo, rfl, by rw [← ef_5, ← ef_1, g_u_u]⟩) (Nat.le_of_ble_eq_true rfl) (Nat.le_of_ble_eq_true rfl) d_CL_plan_57
