set_option maxHeartbeats 4000000 in
set_option maxRecDepth 100000 in
theorem c_LW_fault {l : Launch} {D : va_G} {cI cZ cO cJ : ClassId} {eA eM : Nat} {f : g_F} {a0 ob : Nat} {fs : List Value} {g : Nat → Int64} {x : Int32} {y : Int32} {post : Option Value → g_F → Prop} {px : String → Prop} (h0 : f a0 = some (.inr (3, fs))) (hM : g_C l y_CL_fault b_CL_fault 4 (some .int) { frames := 8, cells := 9, slots := 166, locals := 191 } D g_cl (g_tys cI cZ cO cJ) (z_Z eA eM) [.ref a0, .int x, .int y] f post px) (hpx : ∀ E, px E → E = "java/lang/IllegalArgumentException" ∨ E = "java/lang/IllegalStateException") (hko : ∀ r f2, post r f2 → (∃ v, r = some (.int v)) ∧ f2 ob = some (.inl (cJ, 1, .inr (.inl g))) ∧ ∃ z, f2 a0 = some (.inr z)) : g_CH l y_LW_fault b_LW_fault 5 (some .int) [(0, 10, 13, 13), (0, 10, 17, 15)] { frames := 9, cells := 9, slots := 166, locals := 214 } D g_cl (g_tys cI cZ cO cJ) (z_Z eA eM) [.ref a0, .int x, .int y, .ref ob] f (fun r f2 => (∃ v f1, post (some (.int v)) f1 ∧ r = some (.int 0) ∧ f2 = g_u f1 ob (.inl (cJ, 1, .inr (.inl (vp_updL g 0 v.toInt64))))) ∨ (px "java/lang/IllegalArgumentException" ∧ r = some (.int 1) ∧ f2 = f) ∨ (px "java/lang/IllegalStateException" ∧ r = some (.int 2) ∧ f2 = f)) := by
  refine g_ofWH [(0, .ref a0), (1, .int x), (2, .int y), (3, .ref ob)] (by decide +kernel) (Nat.le_of_ble_eq_true rfl) rfl ?_
  intro p e s m args below meth c X ht
  have kIA : px "java/lang/IllegalArgumentException" → g_K p l e { frames := 9, cells := 9, slots := 166, locals := 214 } s m args below meth c 5 D g_cl (g_A f s.heap.size) f (0 + 9) (0 + 166) (g_End below D g_cl f (fun r f2 => (∃ v f1, post (some (.int v)) f1 ∧ r = some (.int 0) ∧ f2 = g_u f1 ob (.inl (cJ, 1, .inr (.inl (vp_updL g 0 v.toInt64))))) ∨ (px "java/lang/IllegalArgumentException" ∧ r = some (.int 1) ∧ f2 = f) ∨ (px "java/lang/IllegalStateException" ∧ r = some (.int 2) ∧ f2 = f)) (fun _ => False) args s { frames := 9, cells := 9, slots := 166, locals := 214 }) 5 [(0, .ref a0), (1, .int x), (2, .int y), (3, .ref ob)] [.int 0, .ref ob] (fun E => E = "java/lang/IllegalArgumentException") := fun hq => g_K.catchIA X ht rfl (fun q9 => by
    refine g_astore (lv' := [(4, .ref q9), (0, .ref a0), (1, .int x), (2, .int y), (3, .ref ob)]) X d_LW_fault_13 (by decide) rfl ?_
    refine g_iconst (v := 1) X d_LW_fault_15 (by decide) ?_
    exact g_iret X rfl (Or.inr (Or.inl ⟨hq, rfl, rfl⟩)) (Nat.le_of_ble_eq_true rfl) (Nat.le_of_ble_eq_true rfl) d_LW_fault_16)
  have kIS : px "java/lang/IllegalStateException" → g_K p l e { frames := 9, cells := 9, slots := 166, locals := 214 } s m args below meth c 5 D g_cl (g_A f s.heap.size) f (0 + 9) (0 + 166) (g_End below D g_cl f (fun r f2 => (∃ v f1, post (some (.int v)) f1 ∧ r = some (.int 0) ∧ f2 = g_u f1 ob (.inl (cJ, 1, .inr (.inl (vp_updL g 0 v.toInt64))))) ∨ (px "java/lang/IllegalArgumentException" ∧ r = some (.int 1) ∧ f2 = f) ∨ (px "java/lang/IllegalStateException" ∧ r = some (.int 2) ∧ f2 = f)) (fun _ => False) args s { frames := 9, cells := 9, slots := 166, locals := 214 }) 5 [(0, .ref a0), (1, .int x), (2, .int y), (3, .ref ob)] [.int 0, .ref ob] (fun E => E = "java/lang/IllegalStateException") := fun hq => g_K.catchIS X ht rfl (fun q9 => by
    refine g_astore (lv' := [(4, .ref q9), (0, .ref a0), (1, .int x), (2, .int y), (3, .ref ob)]) X d_LW_fault_17 (by decide) rfl ?_
    refine g_iconst (v := 2) X d_LW_fault_19 (by decide) ?_
    exact g_iret X rfl (Or.inr (Or.inr ⟨hq, rfl, rfl⟩)) (Nat.le_of_ble_eq_true rfl) (Nat.le_of_ble_eq_true rfl) d_LW_fault_20)
  have hsp : ∀ E, px E → (E = "java/lang/IllegalArgumentException" ∧ px E) ∨ (E = "java/lang/IllegalStateException" ∧ px E) := fun E h => (hpx E h).imp (fun z => ⟨z, h⟩) (fun z => ⟨z, h⟩)
  refine g_aload_n X d_LW_fault_0 3 rfl ?_
  refine g_iconst (v := 0) X d_LW_fault_1 (by decide) ?_
  refine g_aload_n X d_LW_fault_2 0 rfl ?_
  refine g_iload_n X d_LW_fault_3 1 rfl ?_
  refine g_iload_n X d_LW_fault_4 2 rfl ?_
  refine g_callV (ci := 3) (As := [.int x, .int y]) (rest := [.int 0, .ref ob]) X (z_ok eA eM) rfl rfl h0 (hM) v_CL_fault q_138 q_139 q_137 rfl rfl (Nat.le_of_ble_eq_true rfl) d_LW_fault_5 ⟨(Nat.le_of_ble_eq_true rfl), (Nat.le_of_ble_eq_true rfl)⟩ ⟨(Nat.le_of_ble_eq_true rfl), (Nat.le_of_ble_eq_true rfl)⟩ (g_K.split hsp (g_K.imp kIA) (g_K.imp kIS)) (fun r_ f1 hp => ?_)
  have hp9 := hp
  obtain ⟨⟨v, rfl⟩, ho9, z9, hz9⟩ := hko _ _ hp9
  refine g_st (st2 := [.int v, .int 0, .ref ob]) rfl ?_
  refine g_i2l X d_LW_fault_8 ?_
  refine g_last (g2 := vp_updL g 0 (Int32.toInt64 v)) X hz9 ho9 (nI_ix (j := 0) (n := 1) (by decide) (by decide)) rfl d_LW_fault_9 ?_
  refine g_goto X 21 d_LW_fault_10 (by decide) ?_
  refine g_iconst (v := 0) X d_LW_fault_21 (by decide) ?_
  exact g_iret X rfl (Or.inl ⟨v, f1, hp9, rfl, rfl⟩) (Nat.le_of_ble_eq_true rfl) (Nat.le_of_ble_eq_true rfl) d_LW_fault_22
theorem v_LW_fault : g_yH y_LW_fault b_LW_fault 5 (some .int) [(0, 10, 13, 13), (0, 10, 17, 15)] 4 := ⟨g_in 166 (by decide +kernel) (by decide +kernel), q_0, by decide +kernel, by decide +kernel, by decide +kernel⟩
set_option maxHeartbeats 4000000 in
set_option maxRecDepth 100000 in
theorem c_LW_act {l : Launch} {D : va_G} {cI cZ cO cJ : ClassId} {eA eM : Nat} {f : g_F} {a0 ob : Nat} {fs : List Value} {g : Nat → Int64} {x : Int32} {y : Int32} {post : Option Value → g_F → Prop} {px : String → Prop} (h0 : f a0 = some (.inr (3, fs))) (hM : g_C l y_CL_act b_CL_act 3 (some .int) { frames := 8, cells := 3, slots := 18, locals := 125 } D g_cl (g_tys cI cZ cO cJ) (z_Z eA eM) [.ref a0, .int x, .int y] f post px) (hpx : ∀ E, px E → E = "java/lang/IllegalArgumentException" ∨ E = "java/lang/IllegalStateException") (hko : ∀ r f2, post r f2 → (∃ v, r = some (.int v)) ∧ f2 ob = some (.inl (cJ, 1, .inr (.inl g))) ∧ ∃ z, f2 a0 = some (.inr z)) : g_CH l y_LW_act b_LW_act 5 (some .int) [(0, 10, 13, 13), (0, 10, 17, 15)] { frames := 9, cells := 3, slots := 18, locals := 147 } D g_cl (g_tys cI cZ cO cJ) (z_Z eA eM) [.ref a0, .int x, .int y, .ref ob] f (fun r f2 => (∃ v f1, post (some (.int v)) f1 ∧ r = some (.int 0) ∧ f2 = g_u f1 ob (.inl (cJ, 1, .inr (.inl (vp_updL g 0 v.toInt64))))) ∨ (px "java/lang/IllegalArgumentException" ∧ r = some (.int 1) ∧ f2 = f) ∨ (px "java/lang/IllegalStateException" ∧ r = some (.int 2) ∧ f2 = f)) := by
  refine g_ofWH [(0, .ref a0), (1, .int x), (2, .int y), (3, .ref ob)] (by decide +kernel) (Nat.le_of_ble_eq_true rfl) rfl ?_
  intro p e s m args below meth c X ht
  have kIA : px "java/lang/IllegalArgumentException" → g_K p l e { frames := 9, cells := 3, slots := 18, locals := 147 } s m args below meth c 5 D g_cl (g_A f s.heap.size) f (0 + 3) (0 + 18) (g_End below D g_cl f (fun r f2 => (∃ v f1, post (some (.int v)) f1 ∧ r = some (.int 0) ∧ f2 = g_u f1 ob (.inl (cJ, 1, .inr (.inl (vp_updL g 0 v.toInt64))))) ∨ (px "java/lang/IllegalArgumentException" ∧ r = some (.int 1) ∧ f2 = f) ∨ (px "java/lang/IllegalStateException" ∧ r = some (.int 2) ∧ f2 = f)) (fun _ => False) args s { frames := 9, cells := 3, slots := 18, locals := 147 }) 5 [(0, .ref a0), (1, .int x), (2, .int y), (3, .ref ob)] [.int 0, .ref ob] (fun E => E = "java/lang/IllegalArgumentException") := fun hq => g_K.catchIA X ht rfl (fun q9 => by
    refine g_astore (lv' := [(4, .ref q9), (0, .ref a0), (1, .int x), (2, .int y), (3, .ref ob)]) X d_LW_act_13 (by decide) rfl ?_
    refine g_iconst (v := 1) X d_LW_act_15 (by decide) ?_
    exact g_iret X rfl (Or.inr (Or.inl ⟨hq, rfl, rfl⟩)) (Nat.le_of_ble_eq_true rfl) (Nat.le_of_ble_eq_true rfl) d_LW_act_16)
  have kIS : px "java/lang/IllegalStateException" → g_K p l e { frames := 9, cells := 3, slots := 18, locals := 147 } s m args below meth c 5 D g_cl (g_A f s.heap.size) f (0 + 3) (0 + 18) (g_End below D g_cl f (fun r f2 => (∃ v f1, post (some (.int v)) f1 ∧ r = some (.int 0) ∧ f2 = g_u f1 ob (.inl (cJ, 1, .inr (.inl (vp_updL g 0 v.toInt64))))) ∨ (px "java/lang/IllegalArgumentException" ∧ r = some (.int 1) ∧ f2 = f) ∨ (px "java/lang/IllegalStateException" ∧ r = some (.int 2) ∧ f2 = f)) (fun _ => False) args s { frames := 9, cells := 3, slots := 18, locals := 147 }) 5 [(0, .ref a0), (1, .int x), (2, .int y), (3, .ref ob)] [.int 0, .ref ob] (fun E => E = "java/lang/IllegalStateException") := fun hq => g_K.catchIS X ht rfl (fun q9 => by
    refine g_astore (lv' := [(4, .ref q9), (0, .ref a0), (1, .int x), (2, .int y), (3, .ref ob)]) X d_LW_act_17 (by decide) rfl ?_
    refine g_iconst (v := 2) X d_LW_act_19 (by decide) ?_
    exact g_iret X rfl (Or.inr (Or.inr ⟨hq, rfl, rfl⟩)) (Nat.le_of_ble_eq_true rfl) (Nat.le_of_ble_eq_true rfl) d_LW_act_20)
  have hsp : ∀ E, px E → (E = "java/lang/IllegalArgumentException" ∧ px E) ∨ (E = "java/lang/IllegalStateException" ∧ px E) := fun E h => (hpx E h).imp (fun z => ⟨z, h⟩) (fun z => ⟨z, h⟩)
  refine g_aload_n X d_LW_act_0 3 rfl ?_
  refine g_iconst (v := 0) X d_LW_act_1 (by decide) ?_
  refine g_aload_n X d_LW_act_2 0 rfl ?_
  refine g_iload_n X d_LW_act_3 1 rfl ?_
  refine g_iload_n X d_LW_act_4 2 rfl ?_
  refine g_callV (ci := 3) (As := [.int x, .int y]) (rest := [.int 0, .ref ob]) X (z_ok eA eM) rfl rfl h0 (hM) v_CL_act q_344 q_345 q_343 rfl rfl (Nat.le_of_ble_eq_true rfl) d_LW_act_5 ⟨(Nat.le_of_ble_eq_true rfl), (Nat.le_of_ble_eq_true rfl)⟩ ⟨(Nat.le_of_ble_eq_true rfl), (Nat.le_of_ble_eq_true rfl)⟩ (g_K.split hsp (g_K.imp kIA) (g_K.imp kIS)) (fun r_ f1 hp => ?_)
  have hp9 := hp
  obtain ⟨⟨v, rfl⟩, ho9, z9, hz9⟩ := hko _ _ hp9
  refine g_st (st2 := [.int v, .int 0, .ref ob]) rfl ?_
  refine g_i2l X d_LW_act_8 ?_
  refine g_last (g2 := vp_updL g 0 (Int32.toInt64 v)) X hz9 ho9 (nI_ix (j := 0) (n := 1) (by decide) (by decide)) rfl d_LW_act_9 ?_
  refine g_goto X 21 d_LW_act_10 (by decide) ?_
  refine g_iconst (v := 0) X d_LW_act_21 (by decide) ?_
  exact g_iret X rfl (Or.inl ⟨v, f1, hp9, rfl, rfl⟩) (Nat.le_of_ble_eq_true rfl) (Nat.le_of_ble_eq_true rfl) d_LW_act_22
theorem v_LW_act : g_yH y_LW_act b_LW_act 5 (some .int) [(0, 10, 13, 13), (0, 10, 17, 15)] 4 := ⟨g_in 374 (by decide +kernel) (by decide +kernel), q_0, by decide +kernel, by decide +kernel, by decide +kernel⟩
set_option maxHeartbeats 4000000 in
set_option maxRecDepth 100000 in
theorem c_LW_shows {l : Launch} {D : va_G} {cI cZ cO cJ : ClassId} {eA eM : Nat} {f : g_F} {a0 ob : Nat} {fs : List Value} {g : Nat → Int64} {x : Int32} {y : Int32} {w : Bool} {post : Option Value → g_F → Prop} {px : String → Prop} (h0 : f a0 = some (.inr (3, fs))) (hM : g_C l y_CL_shows b_CL_shows 4 (some .boolean) { frames := 8, cells := 2, slots := 12, locals := 125 } D g_cl (g_tys cI cZ cO cJ) (z_Z eA eM) [.ref a0, .int x, .int y, .int (bI w)] f post px) (hpx : ∀ E, px E → E = "java/lang/IllegalArgumentException") (hko : ∀ r f2, post r f2 → (∃ v, r = some (.int v)) ∧ f2 ob = some (.inl (cJ, 1, .inr (.inl g))) ∧ ∃ z, f2 a0 = some (.inr z)) : g_CH l y_LW_shows b_LW_shows 6 (some .int) [(0, 19, 22, 13)] { frames := 9, cells := 2, slots := 12, locals := 148 } D g_cl (g_tys cI cZ cO cJ) (z_Z eA eM) [.ref a0, .int x, .int y, .int (bI w), .ref ob] f (fun r f2 => (∃ v f1, post (some (.int v)) f1 ∧ r = some (.int 0) ∧ f2 = g_u f1 ob (.inl (cJ, 1, .inr (.inl (vp_updL g 0 (if v = 0 then 0 else 1)))))) ∨ (px "java/lang/IllegalArgumentException" ∧ r = some (.int 1) ∧ f2 = f)) := by
  refine g_ofWH [(0, .ref a0), (1, .int x), (2, .int y), (3, .int (bI w)), (4, .ref ob)] (by decide +kernel) (Nat.le_of_ble_eq_true rfl) rfl ?_
  intro p e s m args below meth c X ht
  have kIA : px "java/lang/IllegalArgumentException" → g_K p l e { frames := 9, cells := 2, slots := 12, locals := 148 } s m args below meth c 6 D g_cl (g_A f s.heap.size) f (0 + 2) (0 + 12) (g_End below D g_cl f (fun r f2 => (∃ v f1, post (some (.int v)) f1 ∧ r = some (.int 0) ∧ f2 = g_u f1 ob (.inl (cJ, 1, .inr (.inl (vp_updL g 0 (if v = 0 then 0 else 1)))))) ∨ (px "java/lang/IllegalArgumentException" ∧ r = some (.int 1) ∧ f2 = f)) (fun _ => False) args s { frames := 9, cells := 2, slots := 12, locals := 148 }) 7 [(0, .ref a0), (1, .int x), (2, .int y), (3, .int (bI w)), (4, .ref ob)] [.int 0, .ref ob] (fun E => E = "java/lang/IllegalArgumentException") := fun hq => g_K.catchIA X ht rfl (fun q9 => by
    refine g_astore (lv' := [(5, .ref q9), (0, .ref a0), (1, .int x), (2, .int y), (3, .int (bI w)), (4, .ref ob)]) X d_LW_shows_22 (by decide) rfl ?_
    refine g_iconst (v := 1) X d_LW_shows_24 (by decide) ?_
    exact g_iret X rfl (Or.inr ⟨hq, rfl, rfl⟩) (Nat.le_of_ble_eq_true rfl) (Nat.le_of_ble_eq_true rfl) d_LW_shows_25)
  have hsp : ∀ E, px E → (E = "java/lang/IllegalArgumentException" ∧ px E) ∨ (E = "java/lang/IllegalArgumentException" ∧ px E) := fun E h => Or.inl ⟨hpx E h, h⟩
  refine g_aload X d_LW_shows_0 4 rfl ?_
  refine g_iconst (v := 0) X d_LW_shows_2 (by decide) ?_
  refine g_aload_n X d_LW_shows_3 0 rfl ?_
  refine g_iload_n X d_LW_shows_4 1 rfl ?_
  refine g_iload_n X d_LW_shows_5 2 rfl ?_
  refine g_iload_n X d_LW_shows_6 3 rfl ?_
  refine g_callV (ci := 3) (As := [.int x, .int y, .int (bI w)]) (rest := [.int 0, .ref ob]) X (z_ok eA eM) rfl rfl h0 (hM) v_CL_shows q_359 q_360 q_358 rfl rfl (Nat.le_of_ble_eq_true rfl) d_LW_shows_7 ⟨(Nat.le_of_ble_eq_true rfl), (Nat.le_of_ble_eq_true rfl)⟩ ⟨(Nat.le_of_ble_eq_true rfl), (Nat.le_of_ble_eq_true rfl)⟩ (g_K.split hsp (g_K.imp kIA) (g_K.imp kIA)) (fun r_ f1 hp => ?_)
  have hp9 := hp
  obtain ⟨⟨v, rfl⟩, ho9, z9, hz9⟩ := hko _ _ hp9
  refine g_st (st2 := [.int v, .int 0, .ref ob]) rfl ?_
  refine g_if_eq X 17 d_LW_shows_10 (by decide) (fun c10 => ?_) (fun c10 => ?_)
  · skip
    refine g_lconst (v := 0) X d_LW_shows_17 (by decide) ?_
    refine g_last (g2 := vp_updL g 0 0) X hz9 ho9 (nI_ix (j := 0) (n := 1) (by decide) (by decide)) rfl d_LW_shows_18 ?_
    refine g_eqf (f2 := g_u f1 ob (.inl (cJ, 1, .inr (.inl (vp_updL g 0 (if v = 0 then 0 else 1)))))) (by rw [if_pos c10]) ?_
    refine g_goto X 26 d_LW_shows_19 (by decide) ?_
    refine g_iconst (v := 0) X d_LW_shows_26 (by decide) ?_
    exact g_iret X rfl (Or.inl ⟨v, f1, hp9, rfl, rfl⟩) (Nat.le_of_ble_eq_true rfl) (Nat.le_of_ble_eq_true rfl) d_LW_shows_27
  · skip
    refine g_lconst (v := 1) X d_LW_shows_13 (by decide) ?_
    refine g_goto X 18 d_LW_shows_14 (by decide) ?_
    refine g_last (g2 := vp_updL g 0 1) X hz9 ho9 (nI_ix (j := 0) (n := 1) (by decide) (by decide)) rfl d_LW_shows_18 ?_
    refine g_eqf (f2 := g_u f1 ob (.inl (cJ, 1, .inr (.inl (vp_updL g 0 (if v = 0 then 0 else 1)))))) (by rw [if_neg c10]) ?_
    refine g_goto X 26 d_LW_shows_19 (by decide) ?_
    refine g_iconst (v := 0) X d_LW_shows_26 (by decide) ?_
    exact g_iret X rfl (Or.inl ⟨v, f1, hp9, rfl, rfl⟩) (Nat.le_of_ble_eq_true rfl) (Nat.le_of_ble_eq_true rfl) d_LW_shows_27
theorem v_LW_shows : g_yH y_LW_shows b_LW_shows 6 (some .int) [(0, 19, 22, 13)] 5 := ⟨g_in 389 (by decide +kernel) (by decide +kernel), q_0, by decide +kernel, by decide +kernel, by decide +kernel⟩
set_option maxHeartbeats 4000000 in
set_option maxRecDepth 100000 in
theorem c_LW_way {l : Launch} {D : va_G} {cI cZ cO cJ : ClassId} {eA eM : Nat} {f : g_F} {a0 ob : Nat} {fs : List Value} {g : Nat → Int64} {x : Int32} {y : Int32} {w : Int32} {post : Option Value → g_F → Prop} {px : String → Prop} (h0 : f a0 = some (.inr (3, fs))) (hM : g_C l y_CL_way b_CL_way 4 (some .int) { frames := 8, cells := 4, slots := 24, locals := 125 } D g_cl (g_tys cI cZ cO cJ) (z_Z eA eM) [.ref a0, .int x, .int y, .int w] f post px) (hpx : ∀ E, px E → E = "java/lang/IllegalArgumentException") (hko : ∀ r f2, post r f2 → (∃ v, r = some (.int v)) ∧ f2 ob = some (.inl (cJ, 1, .inr (.inl g))) ∧ ∃ z, f2 a0 = some (.inr z)) : g_CH l y_LW_way b_LW_way 6 (some .int) [(0, 12, 15, 13)] { frames := 9, cells := 4, slots := 24, locals := 148 } D g_cl (g_tys cI cZ cO cJ) (z_Z eA eM) [.ref a0, .int x, .int y, .int w, .ref ob] f (fun r f2 => (∃ v f1, post (some (.int v)) f1 ∧ r = some (.int 0) ∧ f2 = g_u f1 ob (.inl (cJ, 1, .inr (.inl (vp_updL g 0 v.toInt64))))) ∨ (px "java/lang/IllegalArgumentException" ∧ r = some (.int 1) ∧ f2 = f)) := by
  refine g_ofWH [(0, .ref a0), (1, .int x), (2, .int y), (3, .int w), (4, .ref ob)] (by decide +kernel) (Nat.le_of_ble_eq_true rfl) rfl ?_
  intro p e s m args below meth c X ht
  have kIA : px "java/lang/IllegalArgumentException" → g_K p l e { frames := 9, cells := 4, slots := 24, locals := 148 } s m args below meth c 6 D g_cl (g_A f s.heap.size) f (0 + 4) (0 + 24) (g_End below D g_cl f (fun r f2 => (∃ v f1, post (some (.int v)) f1 ∧ r = some (.int 0) ∧ f2 = g_u f1 ob (.inl (cJ, 1, .inr (.inl (vp_updL g 0 v.toInt64))))) ∨ (px "java/lang/IllegalArgumentException" ∧ r = some (.int 1) ∧ f2 = f)) (fun _ => False) args s { frames := 9, cells := 4, slots := 24, locals := 148 }) 7 [(0, .ref a0), (1, .int x), (2, .int y), (3, .int w), (4, .ref ob)] [.int 0, .ref ob] (fun E => E = "java/lang/IllegalArgumentException") := fun hq => g_K.catchIA X ht rfl (fun q9 => by
    refine g_astore (lv' := [(5, .ref q9), (0, .ref a0), (1, .int x), (2, .int y), (3, .int w), (4, .ref ob)]) X d_LW_way_15 (by decide) rfl ?_
    refine g_iconst (v := 1) X d_LW_way_17 (by decide) ?_
    exact g_iret X rfl (Or.inr ⟨hq, rfl, rfl⟩) (Nat.le_of_ble_eq_true rfl) (Nat.le_of_ble_eq_true rfl) d_LW_way_18)
  have hsp : ∀ E, px E → (E = "java/lang/IllegalArgumentException" ∧ px E) ∨ (E = "java/lang/IllegalArgumentException" ∧ px E) := fun E h => Or.inl ⟨hpx E h, h⟩
  refine g_aload X d_LW_way_0 4 rfl ?_
  refine g_iconst (v := 0) X d_LW_way_2 (by decide) ?_
  refine g_aload_n X d_LW_way_3 0 rfl ?_
  refine g_iload_n X d_LW_way_4 1 rfl ?_
  refine g_iload_n X d_LW_way_5 2 rfl ?_
  refine g_iload_n X d_LW_way_6 3 rfl ?_
  refine g_callV (ci := 3) (As := [.int x, .int y, .int w]) (rest := [.int 0, .ref ob]) X (z_ok eA eM) rfl rfl h0 (hM) v_CL_way q_373 q_374 q_372 rfl rfl (Nat.le_of_ble_eq_true rfl) d_LW_way_7 ⟨(Nat.le_of_ble_eq_true rfl), (Nat.le_of_ble_eq_true rfl)⟩ ⟨(Nat.le_of_ble_eq_true rfl), (Nat.le_of_ble_eq_true rfl)⟩ (g_K.split hsp (g_K.imp kIA) (g_K.imp kIA)) (fun r_ f1 hp => ?_)
  have hp9 := hp
  obtain ⟨⟨v, rfl⟩, ho9, z9, hz9⟩ := hko _ _ hp9
  refine g_st (st2 := [.int v, .int 0, .ref ob]) rfl ?_
  refine g_i2l X d_LW_way_10 ?_
  refine g_last (g2 := vp_updL g 0 (Int32.toInt64 v)) X hz9 ho9 (nI_ix (j := 0) (n := 1) (by decide) (by decide)) rfl d_LW_way_11 ?_
  refine g_goto X 19 d_LW_way_12 (by decide) ?_
  refine g_iconst (v := 0) X d_LW_way_19 (by decide) ?_
  exact g_iret X rfl (Or.inl ⟨v, f1, hp9, rfl, rfl⟩) (Nat.le_of_ble_eq_true rfl) (Nat.le_of_ble_eq_true rfl) d_LW_way_20
theorem v_LW_way : g_yH y_LW_way b_LW_way 6 (some .int) [(0, 12, 15, 13)] 5 := ⟨g_in 403 (by decide +kernel) (by decide +kernel), q_0, by decide +kernel, by decide +kernel, by decide +kernel⟩
set_option maxHeartbeats 4000000 in
set_option maxRecDepth 100000 in
theorem c_LW_change {l : Launch} {D : va_G} {cI cZ cO cJ : ClassId} {eA eM : Nat} {f : g_F} {a0 ob : Nat} {fs : List Value} {g : Nat → Int64} {x : Int32} {y : Int32} {post : Option Value → g_F → Prop} {px : String → Prop} (h0 : f a0 = some (.inr (3, fs))) (hM : g_C l y_CL_change b_CL_change 4 (some .int) { frames := 8, cells := 2, slots := 12, locals := 125 } D g_cl (g_tys cI cZ cO cJ) (z_Z eA eM) [.ref a0, .int x, .int y] f post px) (hpx : ∀ E, px E → E = "java/lang/IllegalArgumentException") (hko : ∀ r f2, post r f2 → (∃ v, r = some (.int v)) ∧ f2 ob = some (.inl (cJ, 1, .inr (.inl g))) ∧ ∃ z, f2 a0 = some (.inr z)) : g_CH l y_LW_change b_LW_change 5 (some .int) [(0, 10, 13, 13)] { frames := 9, cells := 2, slots := 12, locals := 148 } D g_cl (g_tys cI cZ cO cJ) (z_Z eA eM) [.ref a0, .int x, .int y, .ref ob] f (fun r f2 => (∃ v f1, post (some (.int v)) f1 ∧ r = some (.int 0) ∧ f2 = g_u f1 ob (.inl (cJ, 1, .inr (.inl (vp_updL g 0 v.toInt64))))) ∨ (px "java/lang/IllegalArgumentException" ∧ r = some (.int 1) ∧ f2 = f)) := by
  refine g_ofWH [(0, .ref a0), (1, .int x), (2, .int y), (3, .ref ob)] (by decide +kernel) (Nat.le_of_ble_eq_true rfl) rfl ?_
  intro p e s m args below meth c X ht
  have kIA : px "java/lang/IllegalArgumentException" → g_K p l e { frames := 9, cells := 2, slots := 12, locals := 148 } s m args below meth c 5 D g_cl (g_A f s.heap.size) f (0 + 2) (0 + 12) (g_End below D g_cl f (fun r f2 => (∃ v f1, post (some (.int v)) f1 ∧ r = some (.int 0) ∧ f2 = g_u f1 ob (.inl (cJ, 1, .inr (.inl (vp_updL g 0 v.toInt64))))) ∨ (px "java/lang/IllegalArgumentException" ∧ r = some (.int 1) ∧ f2 = f)) (fun _ => False) args s { frames := 9, cells := 2, slots := 12, locals := 148 }) 5 [(0, .ref a0), (1, .int x), (2, .int y), (3, .ref ob)] [.int 0, .ref ob] (fun E => E = "java/lang/IllegalArgumentException") := fun hq => g_K.catchIA X ht rfl (fun q9 => by
    refine g_astore (lv' := [(4, .ref q9), (0, .ref a0), (1, .int x), (2, .int y), (3, .ref ob)]) X d_LW_change_13 (by decide) rfl ?_
    refine g_iconst (v := 1) X d_LW_change_15 (by decide) ?_
    exact g_iret X rfl (Or.inr ⟨hq, rfl, rfl⟩) (Nat.le_of_ble_eq_true rfl) (Nat.le_of_ble_eq_true rfl) d_LW_change_16)
  have hsp : ∀ E, px E → (E = "java/lang/IllegalArgumentException" ∧ px E) ∨ (E = "java/lang/IllegalArgumentException" ∧ px E) := fun E h => Or.inl ⟨hpx E h, h⟩
  refine g_aload_n X d_LW_change_0 3 rfl ?_
  refine g_iconst (v := 0) X d_LW_change_1 (by decide) ?_
  refine g_aload_n X d_LW_change_2 0 rfl ?_
  refine g_iload_n X d_LW_change_3 1 rfl ?_
  refine g_iload_n X d_LW_change_4 2 rfl ?_
  refine g_callV (ci := 3) (As := [.int x, .int y]) (rest := [.int 0, .ref ob]) X (z_ok eA eM) rfl rfl h0 (hM) v_CL_change q_384 q_385 q_383 rfl rfl (Nat.le_of_ble_eq_true rfl) d_LW_change_5 ⟨(Nat.le_of_ble_eq_true rfl), (Nat.le_of_ble_eq_true rfl)⟩ ⟨(Nat.le_of_ble_eq_true rfl), (Nat.le_of_ble_eq_true rfl)⟩ (g_K.split hsp (g_K.imp kIA) (g_K.imp kIA)) (fun r_ f1 hp => ?_)
  have hp9 := hp
  obtain ⟨⟨v, rfl⟩, ho9, z9, hz9⟩ := hko _ _ hp9
  refine g_st (st2 := [.int v, .int 0, .ref ob]) rfl ?_
  refine g_i2l X d_LW_change_8 ?_
  refine g_last (g2 := vp_updL g 0 (Int32.toInt64 v)) X hz9 ho9 (nI_ix (j := 0) (n := 1) (by decide) (by decide)) rfl d_LW_change_9 ?_
  refine g_goto X 17 d_LW_change_10 (by decide) ?_
  refine g_iconst (v := 0) X d_LW_change_17 (by decide) ?_
  exact g_iret X rfl (Or.inl ⟨v, f1, hp9, rfl, rfl⟩) (Nat.le_of_ble_eq_true rfl) (Nat.le_of_ble_eq_true rfl) d_LW_change_18
theorem v_LW_change : g_yH y_LW_change b_LW_change 5 (some .int) [(0, 10, 13, 13)] 4 := ⟨g_in 414 (by decide +kernel) (by decide +kernel), q_0, by decide +kernel, by decide +kernel, by decide +kernel⟩
set_option maxHeartbeats 4000000 in
set_option maxRecDepth 100000 in
theorem c_LW_result {l : Launch} {D : va_G} {cI cZ cO cJ : ClassId} {eA eM : Nat} {f : g_F} {a0 ob : Nat} {fs : List Value} {g : Nat → Int64} {x : Int32} {y : Int32} {w : Int32} {u : Bool} {post : Option Value → g_F → Prop} {px : String → Prop} (h0 : f a0 = some (.inr (3, fs))) (hM : g_C l y_CL_result b_CL_result 7 (some .int) { frames := 8, cells := 4, slots := 24, locals := 125 } D g_cl (g_tys cI cZ cO cJ) (z_Z eA eM) [.ref a0, .int x, .int y, .int w, .int (bI u)] f post px) (hpx : ∀ E, px E → E = "java/lang/IllegalArgumentException" ∨ E = "java/lang/IllegalStateException") (hko : ∀ r f2, post r f2 → (∃ v, r = some (.int v)) ∧ f2 ob = some (.inl (cJ, 1, .inr (.inl g))) ∧ ∃ z, f2 a0 = some (.inr z)) : g_CH l y_LW_result b_LW_result 7 (some .int) [(0, 14, 17, 13), (0, 14, 21, 15)] { frames := 9, cells := 4, slots := 24, locals := 151 } D g_cl (g_tys cI cZ cO cJ) (z_Z eA eM) [.ref a0, .int x, .int y, .int w, .int (bI u), .ref ob] f (fun r f2 => (∃ v f1, post (some (.int v)) f1 ∧ r = some (.int 0) ∧ f2 = g_u f1 ob (.inl (cJ, 1, .inr (.inl (vp_updL g 0 v.toInt64))))) ∨ (px "java/lang/IllegalArgumentException" ∧ r = some (.int 1) ∧ f2 = f) ∨ (px "java/lang/IllegalStateException" ∧ r = some (.int 2) ∧ f2 = f)) := by
  refine g_ofWH [(0, .ref a0), (1, .int x), (2, .int y), (3, .int w), (4, .int (bI u)), (5, .ref ob)] (by decide +kernel) (Nat.le_of_ble_eq_true rfl) rfl ?_
  intro p e s m args below meth c X ht
  have kIA : px "java/lang/IllegalArgumentException" → g_K p l e { frames := 9, cells := 4, slots := 24, locals := 151 } s m args below meth c 7 D g_cl (g_A f s.heap.size) f (0 + 4) (0 + 24) (g_End below D g_cl f (fun r f2 => (∃ v f1, post (some (.int v)) f1 ∧ r = some (.int 0) ∧ f2 = g_u f1 ob (.inl (cJ, 1, .inr (.inl (vp_updL g 0 v.toInt64))))) ∨ (px "java/lang/IllegalArgumentException" ∧ r = some (.int 1) ∧ f2 = f) ∨ (px "java/lang/IllegalStateException" ∧ r = some (.int 2) ∧ f2 = f)) (fun _ => False) args s { frames := 9, cells := 4, slots := 24, locals := 151 }) 9 [(0, .ref a0), (1, .int x), (2, .int y), (3, .int w), (4, .int (bI u)), (5, .ref ob)] [.int 0, .ref ob] (fun E => E = "java/lang/IllegalArgumentException") := fun hq => g_K.catchIA X ht rfl (fun q9 => by
    refine g_astore (lv' := [(6, .ref q9), (0, .ref a0), (1, .int x), (2, .int y), (3, .int w), (4, .int (bI u)), (5, .ref ob)]) X d_LW_result_17 (by decide) rfl ?_
    refine g_iconst (v := 1) X d_LW_result_19 (by decide) ?_
    exact g_iret X rfl (Or.inr (Or.inl ⟨hq, rfl, rfl⟩)) (Nat.le_of_ble_eq_true rfl) (Nat.le_of_ble_eq_true rfl) d_LW_result_20)
  have kIS : px "java/lang/IllegalStateException" → g_K p l e { frames := 9, cells := 4, slots := 24, locals := 151 } s m args below meth c 7 D g_cl (g_A f s.heap.size) f (0 + 4) (0 + 24) (g_End below D g_cl f (fun r f2 => (∃ v f1, post (some (.int v)) f1 ∧ r = some (.int 0) ∧ f2 = g_u f1 ob (.inl (cJ, 1, .inr (.inl (vp_updL g 0 v.toInt64))))) ∨ (px "java/lang/IllegalArgumentException" ∧ r = some (.int 1) ∧ f2 = f) ∨ (px "java/lang/IllegalStateException" ∧ r = some (.int 2) ∧ f2 = f)) (fun _ => False) args s { frames := 9, cells := 4, slots := 24, locals := 151 }) 9 [(0, .ref a0), (1, .int x), (2, .int y), (3, .int w), (4, .int (bI u)), (5, .ref ob)] [.int 0, .ref ob] (fun E => E = "java/lang/IllegalStateException") := fun hq => g_K.catchIS X ht rfl (fun q9 => by
    refine g_astore (lv' := [(6, .ref q9), (0, .ref a0), (1, .int x), (2, .int y), (3, .int w), (4, .int (bI u)), (5, .ref ob)]) X d_LW_result_21 (by decide) rfl ?_
    refine g_iconst (v := 2) X d_LW_result_23 (by decide) ?_
    exact g_iret X rfl (Or.inr (Or.inr ⟨hq, rfl, rfl⟩)) (Nat.le_of_ble_eq_true rfl) (Nat.le_of_ble_eq_true rfl) d_LW_result_24)
  have hsp : ∀ E, px E → (E = "java/lang/IllegalArgumentException" ∧ px E) ∨ (E = "java/lang/IllegalStateException" ∧ px E) := fun E h => (hpx E h).imp (fun z => ⟨z, h⟩) (fun z => ⟨z, h⟩)
  refine g_aload X d_LW_result_0 5 rfl ?_
  refine g_iconst (v := 0) X d_LW_result_2 (by decide) ?_
  refine g_aload_n X d_LW_result_3 0 rfl ?_
  refine g_iload_n X d_LW_result_4 1 rfl ?_
  refine g_iload_n X d_LW_result_5 2 rfl ?_
  refine g_iload_n X d_LW_result_6 3 rfl ?_
  refine g_iload X d_LW_result_7 4 rfl ?_
  refine g_callV (ci := 3) (As := [.int x, .int y, .int w, .int (bI u)]) (rest := [.int 0, .ref ob]) X (z_ok eA eM) rfl rfl h0 (hM) v_CL_result q_413 q_414 q_412 rfl rfl (Nat.le_of_ble_eq_true rfl) d_LW_result_9 ⟨(Nat.le_of_ble_eq_true rfl), (Nat.le_of_ble_eq_true rfl)⟩ ⟨(Nat.le_of_ble_eq_true rfl), (Nat.le_of_ble_eq_true rfl)⟩ (g_K.split hsp (g_K.imp kIA) (g_K.imp kIS)) (fun r_ f1 hp => ?_)
  have hp9 := hp
  obtain ⟨⟨v, rfl⟩, ho9, z9, hz9⟩ := hko _ _ hp9
  refine g_st (st2 := [.int v, .int 0, .ref ob]) rfl ?_
  refine g_i2l X d_LW_result_12 ?_
  refine g_last (g2 := vp_updL g 0 (Int32.toInt64 v)) X hz9 ho9 (nI_ix (j := 0) (n := 1) (by decide) (by decide)) rfl d_LW_result_13 ?_
  refine g_goto X 25 d_LW_result_14 (by decide) ?_
  refine g_iconst (v := 0) X d_LW_result_25 (by decide) ?_
  exact g_iret X rfl (Or.inl ⟨v, f1, hp9, rfl, rfl⟩) (Nat.le_of_ble_eq_true rfl) (Nat.le_of_ble_eq_true rfl) d_LW_result_26
theorem v_LW_result : g_yH y_LW_result b_LW_result 7 (some .int) [(0, 14, 17, 13), (0, 14, 21, 15)] 6 := ⟨g_in 443 (by decide +kernel) (by decide +kernel), q_0, by decide +kernel, by decide +kernel, by decide +kernel⟩
set_option maxHeartbeats 4000000 in
set_option maxRecDepth 100000 in
theorem c_LW_plan {l : Launch} {D : va_G} {cI cZ cO cJ : ClassId} {eA eM : Nat} {f : g_F} {a0 ob : Nat} {fs : List Value} {g : Nat → Int64} {x : Int32} {post : Option Value → g_F → Prop} {px : String → Prop} (h0 : f a0 = some (.inr (3, fs))) (hM : g_C l y_CL_plan b_CL_plan 3 (some .int) { frames := 8, cells := 1, slots := 6, locals := 124 } D g_cl (g_tys cI cZ cO cJ) (z_Z eA eM) [.ref a0, .int x] f post px) (hpx : ∀ E, px E → E = "java/lang/IllegalArgumentException") (hko : ∀ r f2, post r f2 → (∃ v, r = some (.int v)) ∧ f2 ob = some (.inl (cJ, 1, .inr (.inl g))) ∧ ∃ z, f2 a0 = some (.inr z)) : g_CH l y_LW_plan b_LW_plan 4 (some .int) [(0, 9, 12, 13)] { frames := 9, cells := 1, slots := 6, locals := 146 } D g_cl (g_tys cI cZ cO cJ) (z_Z eA eM) [.ref a0, .int x, .ref ob] f (fun r f2 => (∃ v f1, post (some (.int v)) f1 ∧ r = some (.int 0) ∧ f2 = g_u f1 ob (.inl (cJ, 1, .inr (.inl (vp_updL g 0 v.toInt64))))) ∨ (px "java/lang/IllegalArgumentException" ∧ r = some (.int 1) ∧ f2 = f)) := by
  refine g_ofWH [(0, .ref a0), (1, .int x), (2, .ref ob)] (by decide +kernel) (Nat.le_of_ble_eq_true rfl) rfl ?_
  intro p e s m args below meth c X ht
  have kIA : px "java/lang/IllegalArgumentException" → g_K p l e { frames := 9, cells := 1, slots := 6, locals := 146 } s m args below meth c 4 D g_cl (g_A f s.heap.size) f (0 + 1) (0 + 6) (g_End below D g_cl f (fun r f2 => (∃ v f1, post (some (.int v)) f1 ∧ r = some (.int 0) ∧ f2 = g_u f1 ob (.inl (cJ, 1, .inr (.inl (vp_updL g 0 v.toInt64))))) ∨ (px "java/lang/IllegalArgumentException" ∧ r = some (.int 1) ∧ f2 = f)) (fun _ => False) args s { frames := 9, cells := 1, slots := 6, locals := 146 }) 4 [(0, .ref a0), (1, .int x), (2, .ref ob)] [.int 0, .ref ob] (fun E => E = "java/lang/IllegalArgumentException") := fun hq => g_K.catchIA X ht rfl (fun q9 => by
    refine g_astore_n (lv' := [(3, .ref q9), (0, .ref a0), (1, .int x), (2, .ref ob)]) X d_LW_plan_12 rfl (by decide) rfl ?_
    refine g_iconst (v := 1) X d_LW_plan_13 (by decide) ?_
    exact g_iret X rfl (Or.inr ⟨hq, rfl, rfl⟩) (Nat.le_of_ble_eq_true rfl) (Nat.le_of_ble_eq_true rfl) d_LW_plan_14)
  have hsp : ∀ E, px E → (E = "java/lang/IllegalArgumentException" ∧ px E) ∨ (E = "java/lang/IllegalArgumentException" ∧ px E) := fun E h => Or.inl ⟨hpx E h, h⟩
  refine g_aload_n X d_LW_plan_0 2 rfl ?_
  refine g_iconst (v := 0) X d_LW_plan_1 (by decide) ?_
  refine g_aload_n X d_LW_plan_2 0 rfl ?_
  refine g_iload_n X d_LW_plan_3 1 rfl ?_
  refine g_callV (ci := 3) (As := [.int x]) (rest := [.int 0, .ref ob]) X (z_ok eA eM) rfl rfl h0 (hM) v_CL_plan q_433 q_434 q_432 rfl rfl (Nat.le_of_ble_eq_true rfl) d_LW_plan_4 ⟨(Nat.le_of_ble_eq_true rfl), (Nat.le_of_ble_eq_true rfl)⟩ ⟨(Nat.le_of_ble_eq_true rfl), (Nat.le_of_ble_eq_true rfl)⟩ (g_K.split hsp (g_K.imp kIA) (g_K.imp kIA)) (fun r_ f1 hp => ?_)
  have hp9 := hp
  obtain ⟨⟨v, rfl⟩, ho9, z9, hz9⟩ := hko _ _ hp9
  refine g_st (st2 := [.int v, .int 0, .ref ob]) rfl ?_
  refine g_i2l X d_LW_plan_7 ?_
  refine g_last (g2 := vp_updL g 0 (Int32.toInt64 v)) X hz9 ho9 (nI_ix (j := 0) (n := 1) (by decide) (by decide)) rfl d_LW_plan_8 ?_
  refine g_goto X 15 d_LW_plan_9 (by decide) ?_
  refine g_iconst (v := 0) X d_LW_plan_15 (by decide) ?_
  exact g_iret X rfl (Or.inl ⟨v, f1, hp9, rfl, rfl⟩) (Nat.le_of_ble_eq_true rfl) (Nat.le_of_ble_eq_true rfl) d_LW_plan_16
theorem v_LW_plan : g_yH y_LW_plan b_LW_plan 4 (some .int) [(0, 9, 12, 13)] 3 := ⟨g_in 463 (by decide +kernel) (by decide +kernel), q_0, by decide +kernel, by decide +kernel, by decide +kernel⟩
set_option maxHeartbeats 4000000 in
set_option maxRecDepth 100000 in
theorem c_LW_planned {l : Launch} {D : va_G} {cI cZ cO cJ : ClassId} {eA eM : Nat} {f : g_F} {a0 ob : Nat} {fs : List Value} {g : Nat → Int64} {x : Int32} {post : Option Value → g_F → Prop} {px : String → Prop} (h0 : f a0 = some (.inr (3, fs))) (hM : g_C l y_CL_planned b_CL_planned 2 (some .int) { frames := 8, cells := 1, slots := 6, locals := 125 } D g_cl (g_tys cI cZ cO cJ) (z_Z eA eM) [.ref a0, .int x] f post px) (hpx : ∀ E, px E → E = "java/lang/IllegalArgumentException") (hko : ∀ r f2, post r f2 → (∃ v, r = some (.int v)) ∧ f2 ob = some (.inl (cJ, 1, .inr (.inl g))) ∧ ∃ z, f2 a0 = some (.inr z)) : g_CH l y_LW_planned b_LW_planned 4 (some .int) [(0, 9, 12, 13)] { frames := 9, cells := 1, slots := 6, locals := 146 } D g_cl (g_tys cI cZ cO cJ) (z_Z eA eM) [.ref a0, .int x, .ref ob] f (fun r f2 => (∃ v f1, post (some (.int v)) f1 ∧ r = some (.int 0) ∧ f2 = g_u f1 ob (.inl (cJ, 1, .inr (.inl (vp_updL g 0 v.toInt64))))) ∨ (px "java/lang/IllegalArgumentException" ∧ r = some (.int 1) ∧ f2 = f)) := by
  refine g_ofWH [(0, .ref a0), (1, .int x), (2, .ref ob)] (by decide +kernel) (Nat.le_of_ble_eq_true rfl) rfl ?_
  intro p e s m args below meth c X ht
  have kIA : px "java/lang/IllegalArgumentException" → g_K p l e { frames := 9, cells := 1, slots := 6, locals := 146 } s m args below meth c 4 D g_cl (g_A f s.heap.size) f (0 + 1) (0 + 6) (g_End below D g_cl f (fun r f2 => (∃ v f1, post (some (.int v)) f1 ∧ r = some (.int 0) ∧ f2 = g_u f1 ob (.inl (cJ, 1, .inr (.inl (vp_updL g 0 v.toInt64))))) ∨ (px "java/lang/IllegalArgumentException" ∧ r = some (.int 1) ∧ f2 = f)) (fun _ => False) args s { frames := 9, cells := 1, slots := 6, locals := 146 }) 4 [(0, .ref a0), (1, .int x), (2, .ref ob)] [.int 0, .ref ob] (fun E => E = "java/lang/IllegalArgumentException") := fun hq => g_K.catchIA X ht rfl (fun q9 => by
    refine g_astore_n (lv' := [(3, .ref q9), (0, .ref a0), (1, .int x), (2, .ref ob)]) X d_LW_planned_12 rfl (by decide) rfl ?_
    refine g_iconst (v := 1) X d_LW_planned_13 (by decide) ?_
    exact g_iret X rfl (Or.inr ⟨hq, rfl, rfl⟩) (Nat.le_of_ble_eq_true rfl) (Nat.le_of_ble_eq_true rfl) d_LW_planned_14)
  have hsp : ∀ E, px E → (E = "java/lang/IllegalArgumentException" ∧ px E) ∨ (E = "java/lang/IllegalArgumentException" ∧ px E) := fun E h => Or.inl ⟨hpx E h, h⟩
  refine g_aload_n X d_LW_planned_0 2 rfl ?_
  refine g_iconst (v := 0) X d_LW_planned_1 (by decide) ?_
  refine g_aload_n X d_LW_planned_2 0 rfl ?_
  refine g_iload_n X d_LW_planned_3 1 rfl ?_
  refine g_callV (ci := 3) (As := [.int x]) (rest := [.int 0, .ref ob]) X (z_ok eA eM) rfl rfl h0 (hM) v_CL_planned q_514 q_515 q_513 rfl rfl (Nat.le_of_ble_eq_true rfl) d_LW_planned_4 ⟨(Nat.le_of_ble_eq_true rfl), (Nat.le_of_ble_eq_true rfl)⟩ ⟨(Nat.le_of_ble_eq_true rfl), (Nat.le_of_ble_eq_true rfl)⟩ (g_K.split hsp (g_K.imp kIA) (g_K.imp kIA)) (fun r_ f1 hp => ?_)
  have hp9 := hp
  obtain ⟨⟨v, rfl⟩, ho9, z9, hz9⟩ := hko _ _ hp9
  refine g_st (st2 := [.int v, .int 0, .ref ob]) rfl ?_
  refine g_i2l X d_LW_planned_7 ?_
  refine g_last (g2 := vp_updL g 0 (Int32.toInt64 v)) X hz9 ho9 (nI_ix (j := 0) (n := 1) (by decide) (by decide)) rfl d_LW_planned_8 ?_
  refine g_goto X 15 d_LW_planned_9 (by decide) ?_
  refine g_iconst (v := 0) X d_LW_planned_15 (by decide) ?_
  exact g_iret X rfl (Or.inl ⟨v, f1, hp9, rfl, rfl⟩) (Nat.le_of_ble_eq_true rfl) (Nat.le_of_ble_eq_true rfl) d_LW_planned_16
theorem v_LW_planned : g_yH y_LW_planned b_LW_planned 4 (some .int) [(0, 9, 12, 13)] 3 := ⟨g_in 544 (by decide +kernel) (by decide +kernel), q_0, by decide +kernel, by decide +kernel, by decide +kernel⟩
set_option maxHeartbeats 4000000 in
set_option maxRecDepth 100000 in
theorem c_LW_from {l : Launch} {D : va_G} {cI cZ cO cJ : ClassId} {eA eM : Nat} {f : g_F} {a0 ob : Nat} {fs : List Value} {g : Nat → Int64} {x : Int32} {post : Option Value → g_F → Prop} {px : String → Prop} (h0 : f a0 = some (.inr (3, fs))) (hM : g_C l y_CL_from b_CL_from 2 (some .int) { frames := 8, cells := 1, slots := 6, locals := 125 } D g_cl (g_tys cI cZ cO cJ) (z_Z eA eM) [.ref a0, .int x] f post px) (hpx : ∀ E, px E → E = "java/lang/IllegalArgumentException") (hko : ∀ r f2, post r f2 → (∃ v, r = some (.int v)) ∧ f2 ob = some (.inl (cJ, 1, .inr (.inl g))) ∧ ∃ z, f2 a0 = some (.inr z)) : g_CH l y_LW_from b_LW_from 4 (some .int) [(0, 9, 12, 13)] { frames := 9, cells := 1, slots := 6, locals := 146 } D g_cl (g_tys cI cZ cO cJ) (z_Z eA eM) [.ref a0, .int x, .ref ob] f (fun r f2 => (∃ v f1, post (some (.int v)) f1 ∧ r = some (.int 0) ∧ f2 = g_u f1 ob (.inl (cJ, 1, .inr (.inl (vp_updL g 0 v.toInt64))))) ∨ (px "java/lang/IllegalArgumentException" ∧ r = some (.int 1) ∧ f2 = f)) := by
  refine g_ofWH [(0, .ref a0), (1, .int x), (2, .ref ob)] (by decide +kernel) (Nat.le_of_ble_eq_true rfl) rfl ?_
  intro p e s m args below meth c X ht
  have kIA : px "java/lang/IllegalArgumentException" → g_K p l e { frames := 9, cells := 1, slots := 6, locals := 146 } s m args below meth c 4 D g_cl (g_A f s.heap.size) f (0 + 1) (0 + 6) (g_End below D g_cl f (fun r f2 => (∃ v f1, post (some (.int v)) f1 ∧ r = some (.int 0) ∧ f2 = g_u f1 ob (.inl (cJ, 1, .inr (.inl (vp_updL g 0 v.toInt64))))) ∨ (px "java/lang/IllegalArgumentException" ∧ r = some (.int 1) ∧ f2 = f)) (fun _ => False) args s { frames := 9, cells := 1, slots := 6, locals := 146 }) 4 [(0, .ref a0), (1, .int x), (2, .ref ob)] [.int 0, .ref ob] (fun E => E = "java/lang/IllegalArgumentException") := fun hq => g_K.catchIA X ht rfl (fun q9 => by
    refine g_astore_n (lv' := [(3, .ref q9), (0, .ref a0), (1, .int x), (2, .ref ob)]) X d_LW_from_12 rfl (by decide) rfl ?_
    refine g_iconst (v := 1) X d_LW_from_13 (by decide) ?_
    exact g_iret X rfl (Or.inr ⟨hq, rfl, rfl⟩) (Nat.le_of_ble_eq_true rfl) (Nat.le_of_ble_eq_true rfl) d_LW_from_14)
  have hsp : ∀ E, px E → (E = "java/lang/IllegalArgumentException" ∧ px E) ∨ (E = "java/lang/IllegalArgumentException" ∧ px E) := fun E h => Or.inl ⟨hpx E h, h⟩
  refine g_aload_n X d_LW_from_0 2 rfl ?_
  refine g_iconst (v := 0) X d_LW_from_1 (by decide) ?_
  refine g_aload_n X d_LW_from_2 0 rfl ?_
  refine g_iload_n X d_LW_from_3 1 rfl ?_
  refine g_callV (ci := 3) (As := [.int x]) (rest := [.int 0, .ref ob]) X (z_ok eA eM) rfl rfl h0 (hM) v_CL_from q_521 q_522 q_520 rfl rfl (Nat.le_of_ble_eq_true rfl) d_LW_from_4 ⟨(Nat.le_of_ble_eq_true rfl), (Nat.le_of_ble_eq_true rfl)⟩ ⟨(Nat.le_of_ble_eq_true rfl), (Nat.le_of_ble_eq_true rfl)⟩ (g_K.split hsp (g_K.imp kIA) (g_K.imp kIA)) (fun r_ f1 hp => ?_)
  have hp9 := hp
  obtain ⟨⟨v, rfl⟩, ho9, z9, hz9⟩ := hko _ _ hp9
  refine g_st (st2 := [.int v, .int 0, .ref ob]) rfl ?_
  refine g_i2l X d_LW_from_7 ?_
  refine g_last (g2 := vp_updL g 0 (Int32.toInt64 v)) X hz9 ho9 (nI_ix (j := 0) (n := 1) (by decide) (by decide)) rfl d_LW_from_8 ?_
  refine g_goto X 15 d_LW_from_9 (by decide) ?_
  refine g_iconst (v := 0) X d_LW_from_15 (by decide) ?_
  exact g_iret X rfl (Or.inl ⟨v, f1, hp9, rfl, rfl⟩) (Nat.le_of_ble_eq_true rfl) (Nat.le_of_ble_eq_true rfl) d_LW_from_16
theorem v_LW_from : g_yH y_LW_from b_LW_from 4 (some .int) [(0, 9, 12, 13)] 3 := ⟨g_in 551 (by decide +kernel) (by decide +kernel), q_0, by decide +kernel, by decide +kernel, by decide +kernel⟩
set_option maxHeartbeats 4000000 in
set_option maxRecDepth 100000 in
theorem c_LW_state {l : Launch} {D : va_G} {cI cZ cO cJ : ClassId} {eA eM : Nat} {f : g_F} {a0 ob : Nat} {fs : List Value} {g : Nat → Int64} {x : Int32} {y : Int32} {post : Option Value → g_F → Prop} {px : String → Prop} (h0 : f a0 = some (.inr (3, fs))) (hM : g_C l y_CL_state b_CL_state 3 (some .int) { frames := 8, cells := 2, slots := 12, locals := 125 } D g_cl (g_tys cI cZ cO cJ) (z_Z eA eM) [.ref a0, .int x, .int y] f post px) (hpx : ∀ E, px E → E = "java/lang/IllegalArgumentException") (hko : ∀ r f2, post r f2 → (∃ v, r = some (.int v)) ∧ f2 ob = some (.inl (cJ, 1, .inr (.inl g))) ∧ ∃ z, f2 a0 = some (.inr z)) : g_CH l y_LW_state b_LW_state 5 (some .int) [(0, 10, 13, 13)] { frames := 9, cells := 2, slots := 12, locals := 147 } D g_cl (g_tys cI cZ cO cJ) (z_Z eA eM) [.ref a0, .int x, .int y, .ref ob] f (fun r f2 => (∃ v f1, post (some (.int v)) f1 ∧ r = some (.int 0) ∧ f2 = g_u f1 ob (.inl (cJ, 1, .inr (.inl (vp_updL g 0 v.toInt64))))) ∨ (px "java/lang/IllegalArgumentException" ∧ r = some (.int 1) ∧ f2 = f)) := by
  refine g_ofWH [(0, .ref a0), (1, .int x), (2, .int y), (3, .ref ob)] (by decide +kernel) (Nat.le_of_ble_eq_true rfl) rfl ?_
  intro p e s m args below meth c X ht
  have kIA : px "java/lang/IllegalArgumentException" → g_K p l e { frames := 9, cells := 2, slots := 12, locals := 147 } s m args below meth c 5 D g_cl (g_A f s.heap.size) f (0 + 2) (0 + 12) (g_End below D g_cl f (fun r f2 => (∃ v f1, post (some (.int v)) f1 ∧ r = some (.int 0) ∧ f2 = g_u f1 ob (.inl (cJ, 1, .inr (.inl (vp_updL g 0 v.toInt64))))) ∨ (px "java/lang/IllegalArgumentException" ∧ r = some (.int 1) ∧ f2 = f)) (fun _ => False) args s { frames := 9, cells := 2, slots := 12, locals := 147 }) 5 [(0, .ref a0), (1, .int x), (2, .int y), (3, .ref ob)] [.int 0, .ref ob] (fun E => E = "java/lang/IllegalArgumentException") := fun hq => g_K.catchIA X ht rfl (fun q9 => by
    refine g_astore (lv' := [(4, .ref q9), (0, .ref a0), (1, .int x), (2, .int y), (3, .ref ob)]) X d_LW_state_13 (by decide) rfl ?_
    refine g_iconst (v := 1) X d_LW_state_15 (by decide) ?_
    exact g_iret X rfl (Or.inr ⟨hq, rfl, rfl⟩) (Nat.le_of_ble_eq_true rfl) (Nat.le_of_ble_eq_true rfl) d_LW_state_16)
  have hsp : ∀ E, px E → (E = "java/lang/IllegalArgumentException" ∧ px E) ∨ (E = "java/lang/IllegalArgumentException" ∧ px E) := fun E h => Or.inl ⟨hpx E h, h⟩
  refine g_aload_n X d_LW_state_0 3 rfl ?_
  refine g_iconst (v := 0) X d_LW_state_1 (by decide) ?_
  refine g_aload_n X d_LW_state_2 0 rfl ?_
  refine g_iload_n X d_LW_state_3 1 rfl ?_
  refine g_iload_n X d_LW_state_4 2 rfl ?_
  refine g_callV (ci := 3) (As := [.int x, .int y]) (rest := [.int 0, .ref ob]) X (z_ok eA eM) rfl rfl h0 (hM) v_CL_state q_533 q_534 q_532 rfl rfl (Nat.le_of_ble_eq_true rfl) d_LW_state_5 ⟨(Nat.le_of_ble_eq_true rfl), (Nat.le_of_ble_eq_true rfl)⟩ ⟨(Nat.le_of_ble_eq_true rfl), (Nat.le_of_ble_eq_true rfl)⟩ (g_K.split hsp (g_K.imp kIA) (g_K.imp kIA)) (fun r_ f1 hp => ?_)
  have hp9 := hp
  obtain ⟨⟨v, rfl⟩, ho9, z9, hz9⟩ := hko _ _ hp9
  refine g_st (st2 := [.int v, .int 0, .ref ob]) rfl ?_
  refine g_i2l X d_LW_state_8 ?_
  refine g_last (g2 := vp_updL g 0 (Int32.toInt64 v)) X hz9 ho9 (nI_ix (j := 0) (n := 1) (by decide) (by decide)) rfl d_LW_state_9 ?_
  refine g_goto X 17 d_LW_state_10 (by decide) ?_
  refine g_iconst (v := 0) X d_LW_state_17 (by decide) ?_
  exact g_iret X rfl (Or.inl ⟨v, f1, hp9, rfl, rfl⟩) (Nat.le_of_ble_eq_true rfl) (Nat.le_of_ble_eq_true rfl) d_LW_state_18
theorem v_LW_state : g_yH y_LW_state b_LW_state 5 (some .int) [(0, 10, 13, 13)] 4 := ⟨g_in 563 (by decide +kernel) (by decide +kernel), q_0, by decide +kernel, by decide +kernel, by decide +kernel⟩
set_option maxHeartbeats 4000000 in
set_option maxRecDepth 100000 in
theorem c_LW_word {l : Launch} {D : va_G} {cI cZ cO cJ : ClassId} {eA eM : Nat} {f : g_F} {a0 ob : Nat} {fs : List Value} {g : Nat → Int64} {x : Int32} {y : Int32} {w : Int32} {post : Option Value → g_F → Prop} {px : String → Prop} (h0 : f a0 = some (.inr (3, fs))) (hM : g_C l y_CL_word b_CL_word 4 (some .int) { frames := 8, cells := 3, slots := 18, locals := 125 } D g_cl (g_tys cI cZ cO cJ) (z_Z eA eM) [.ref a0, .int x, .int y, .int w] f post px) (hpx : ∀ E, px E → E = "java/lang/IllegalArgumentException") (hko : ∀ r f2, post r f2 → (∃ v, r = some (.int v)) ∧ f2 ob = some (.inl (cJ, 1, .inr (.inl g))) ∧ ∃ z, f2 a0 = some (.inr z)) : g_CH l y_LW_word b_LW_word 6 (some .int) [(0, 12, 15, 13)] { frames := 9, cells := 3, slots := 18, locals := 148 } D g_cl (g_tys cI cZ cO cJ) (z_Z eA eM) [.ref a0, .int x, .int y, .int w, .ref ob] f (fun r f2 => (∃ v f1, post (some (.int v)) f1 ∧ r = some (.int 0) ∧ f2 = g_u f1 ob (.inl (cJ, 1, .inr (.inl (vp_updL g 0 v.toInt64))))) ∨ (px "java/lang/IllegalArgumentException" ∧ r = some (.int 1) ∧ f2 = f)) := by
  refine g_ofWH [(0, .ref a0), (1, .int x), (2, .int y), (3, .int w), (4, .ref ob)] (by decide +kernel) (Nat.le_of_ble_eq_true rfl) rfl ?_
  intro p e s m args below meth c X ht
  have kIA : px "java/lang/IllegalArgumentException" → g_K p l e { frames := 9, cells := 3, slots := 18, locals := 148 } s m args below meth c 6 D g_cl (g_A f s.heap.size) f (0 + 3) (0 + 18) (g_End below D g_cl f (fun r f2 => (∃ v f1, post (some (.int v)) f1 ∧ r = some (.int 0) ∧ f2 = g_u f1 ob (.inl (cJ, 1, .inr (.inl (vp_updL g 0 v.toInt64))))) ∨ (px "java/lang/IllegalArgumentException" ∧ r = some (.int 1) ∧ f2 = f)) (fun _ => False) args s { frames := 9, cells := 3, slots := 18, locals := 148 }) 7 [(0, .ref a0), (1, .int x), (2, .int y), (3, .int w), (4, .ref ob)] [.int 0, .ref ob] (fun E => E = "java/lang/IllegalArgumentException") := fun hq => g_K.catchIA X ht rfl (fun q9 => by
    refine g_astore (lv' := [(5, .ref q9), (0, .ref a0), (1, .int x), (2, .int y), (3, .int w), (4, .ref ob)]) X d_LW_word_15 (by decide) rfl ?_
    refine g_iconst (v := 1) X d_LW_word_17 (by decide) ?_
    exact g_iret X rfl (Or.inr ⟨hq, rfl, rfl⟩) (Nat.le_of_ble_eq_true rfl) (Nat.le_of_ble_eq_true rfl) d_LW_word_18)
  have hsp : ∀ E, px E → (E = "java/lang/IllegalArgumentException" ∧ px E) ∨ (E = "java/lang/IllegalArgumentException" ∧ px E) := fun E h => Or.inl ⟨hpx E h, h⟩
  refine g_aload X d_LW_word_0 4 rfl ?_
  refine g_iconst (v := 0) X d_LW_word_2 (by decide) ?_
  refine g_aload_n X d_LW_word_3 0 rfl ?_
  refine g_iload_n X d_LW_word_4 1 rfl ?_
  refine g_iload_n X d_LW_word_5 2 rfl ?_
  refine g_iload_n X d_LW_word_6 3 rfl ?_
  refine g_callV (ci := 3) (As := [.int x, .int y, .int w]) (rest := [.int 0, .ref ob]) X (z_ok eA eM) rfl rfl h0 (hM) v_CL_word q_540 q_541 q_539 rfl rfl (Nat.le_of_ble_eq_true rfl) d_LW_word_7 ⟨(Nat.le_of_ble_eq_true rfl), (Nat.le_of_ble_eq_true rfl)⟩ ⟨(Nat.le_of_ble_eq_true rfl), (Nat.le_of_ble_eq_true rfl)⟩ (g_K.split hsp (g_K.imp kIA) (g_K.imp kIA)) (fun r_ f1 hp => ?_)
  have hp9 := hp
  obtain ⟨⟨v, rfl⟩, ho9, z9, hz9⟩ := hko _ _ hp9
  refine g_st (st2 := [.int v, .int 0, .ref ob]) rfl ?_
  refine g_i2l X d_LW_word_10 ?_
  refine g_last (g2 := vp_updL g 0 (Int32.toInt64 v)) X hz9 ho9 (nI_ix (j := 0) (n := 1) (by decide) (by decide)) rfl d_LW_word_11 ?_
  refine g_goto X 19 d_LW_word_12 (by decide) ?_
  refine g_iconst (v := 0) X d_LW_word_19 (by decide) ?_
  exact g_iret X rfl (Or.inl ⟨v, f1, hp9, rfl, rfl⟩) (Nat.le_of_ble_eq_true rfl) (Nat.le_of_ble_eq_true rfl) d_LW_word_20
theorem v_LW_word : g_yH y_LW_word b_LW_word 6 (some .int) [(0, 12, 15, 13)] 5 := ⟨g_in 570 (by decide +kernel) (by decide +kernel), q_0, by decide +kernel, by decide +kernel, by decide +kernel⟩
set_option maxHeartbeats 4000000 in
set_option maxRecDepth 100000 in
theorem c_LW_listed {l : Launch} {D : va_G} {cI cZ cO cJ : ClassId} {eA eM : Nat} {f : g_F} {a0 ob : Nat} {fs : List Value} {g : Nat → Int64} {x : Int32} {y : Int32} {w : Int32} {post : Option Value → g_F → Prop} {px : String → Prop} (h0 : f a0 = some (.inr (3, fs))) (hM : g_C l y_CL_listed b_CL_listed 6 (some .int) { frames := 8, cells := 3, slots := 18, locals := 125 } D g_cl (g_tys cI cZ cO cJ) (z_Z eA eM) [.ref a0, .int x, .int y, .int w] f post px) (hpx : ∀ E, px E → E = "java/lang/IllegalArgumentException") (hko : ∀ r f2, post r f2 → (∃ v, r = some (.int v)) ∧ f2 ob = some (.inl (cJ, 1, .inr (.inl g))) ∧ ∃ z, f2 a0 = some (.inr z)) : g_CH l y_LW_listed b_LW_listed 6 (some .int) [(0, 12, 15, 13)] { frames := 9, cells := 3, slots := 18, locals := 150 } D g_cl (g_tys cI cZ cO cJ) (z_Z eA eM) [.ref a0, .int x, .int y, .int w, .ref ob] f (fun r f2 => (∃ v f1, post (some (.int v)) f1 ∧ r = some (.int 0) ∧ f2 = g_u f1 ob (.inl (cJ, 1, .inr (.inl (vp_updL g 0 v.toInt64))))) ∨ (px "java/lang/IllegalArgumentException" ∧ r = some (.int 1) ∧ f2 = f)) := by
  refine g_ofWH [(0, .ref a0), (1, .int x), (2, .int y), (3, .int w), (4, .ref ob)] (by decide +kernel) (Nat.le_of_ble_eq_true rfl) rfl ?_
  intro p e s m args below meth c X ht
  have kIA : px "java/lang/IllegalArgumentException" → g_K p l e { frames := 9, cells := 3, slots := 18, locals := 150 } s m args below meth c 6 D g_cl (g_A f s.heap.size) f (0 + 3) (0 + 18) (g_End below D g_cl f (fun r f2 => (∃ v f1, post (some (.int v)) f1 ∧ r = some (.int 0) ∧ f2 = g_u f1 ob (.inl (cJ, 1, .inr (.inl (vp_updL g 0 v.toInt64))))) ∨ (px "java/lang/IllegalArgumentException" ∧ r = some (.int 1) ∧ f2 = f)) (fun _ => False) args s { frames := 9, cells := 3, slots := 18, locals := 150 }) 7 [(0, .ref a0), (1, .int x), (2, .int y), (3, .int w), (4, .ref ob)] [.int 0, .ref ob] (fun E => E = "java/lang/IllegalArgumentException") := fun hq => g_K.catchIA X ht rfl (fun q9 => by
    refine g_astore (lv' := [(5, .ref q9), (0, .ref a0), (1, .int x), (2, .int y), (3, .int w), (4, .ref ob)]) X d_LW_listed_15 (by decide) rfl ?_
    refine g_iconst (v := 1) X d_LW_listed_17 (by decide) ?_
    exact g_iret X rfl (Or.inr ⟨hq, rfl, rfl⟩) (Nat.le_of_ble_eq_true rfl) (Nat.le_of_ble_eq_true rfl) d_LW_listed_18)
  have hsp : ∀ E, px E → (E = "java/lang/IllegalArgumentException" ∧ px E) ∨ (E = "java/lang/IllegalArgumentException" ∧ px E) := fun E h => Or.inl ⟨hpx E h, h⟩
  refine g_aload X d_LW_listed_0 4 rfl ?_
  refine g_iconst (v := 0) X d_LW_listed_2 (by decide) ?_
  refine g_aload_n X d_LW_listed_3 0 rfl ?_
  refine g_iload_n X d_LW_listed_4 1 rfl ?_
  refine g_iload_n X d_LW_listed_5 2 rfl ?_
  refine g_iload_n X d_LW_listed_6 3 rfl ?_
  refine g_callV (ci := 3) (As := [.int x, .int y, .int w]) (rest := [.int 0, .ref ob]) X (z_ok eA eM) rfl rfl h0 (hM) v_CL_listed q_547 q_548 q_546 rfl rfl (Nat.le_of_ble_eq_true rfl) d_LW_listed_7 ⟨(Nat.le_of_ble_eq_true rfl), (Nat.le_of_ble_eq_true rfl)⟩ ⟨(Nat.le_of_ble_eq_true rfl), (Nat.le_of_ble_eq_true rfl)⟩ (g_K.split hsp (g_K.imp kIA) (g_K.imp kIA)) (fun r_ f1 hp => ?_)
  have hp9 := hp
  obtain ⟨⟨v, rfl⟩, ho9, z9, hz9⟩ := hko _ _ hp9
  refine g_st (st2 := [.int v, .int 0, .ref ob]) rfl ?_
  refine g_i2l X d_LW_listed_10 ?_
  refine g_last (g2 := vp_updL g 0 (Int32.toInt64 v)) X hz9 ho9 (nI_ix (j := 0) (n := 1) (by decide) (by decide)) rfl d_LW_listed_11 ?_
  refine g_goto X 19 d_LW_listed_12 (by decide) ?_
  refine g_iconst (v := 0) X d_LW_listed_19 (by decide) ?_
  exact g_iret X rfl (Or.inl ⟨v, f1, hp9, rfl, rfl⟩) (Nat.le_of_ble_eq_true rfl) (Nat.le_of_ble_eq_true rfl) d_LW_listed_20
theorem v_LW_listed : g_yH y_LW_listed b_LW_listed 6 (some .int) [(0, 12, 15, 13)] 5 := ⟨g_in 577 (by decide +kernel) (by decide +kernel), q_0, by decide +kernel, by decide +kernel, by decide +kernel⟩
set_option maxHeartbeats 4000000 in
set_option maxRecDepth 100000 in
theorem c_LW_hidden {l : Launch} {D : va_G} {cI cZ cO cJ : ClassId} {eA eM : Nat} {f : g_F} {a0 ob : Nat} {fs : List Value} {g : Nat → Int64} {x : Int32} {post : Option Value → g_F → Prop} {px : String → Prop} (h0 : f a0 = some (.inr (3, fs))) (hM : g_C l y_CL_hidden b_CL_hidden 5 (some .int) { frames := 7, cells := 1, slots := 6, locals := 102 } D g_cl (g_tys cI cZ cO cJ) (z_Z eA eM) [.ref a0, .int x] f post px) (hpx : ∀ E, px E → E = "java/lang/IllegalArgumentException") (hko : ∀ r f2, post r f2 → (∃ v, r = some (.int v)) ∧ f2 ob = some (.inl (cJ, 1, .inr (.inl g))) ∧ ∃ z, f2 a0 = some (.inr z)) : g_CH l y_LW_hidden b_LW_hidden 4 (some .int) [(0, 9, 12, 13)] { frames := 8, cells := 1, slots := 6, locals := 126 } D g_cl (g_tys cI cZ cO cJ) (z_Z eA eM) [.ref a0, .int x, .ref ob] f (fun r f2 => (∃ v f1, post (some (.int v)) f1 ∧ r = some (.int 0) ∧ f2 = g_u f1 ob (.inl (cJ, 1, .inr (.inl (vp_updL g 0 v.toInt64))))) ∨ (px "java/lang/IllegalArgumentException" ∧ r = some (.int 1) ∧ f2 = f)) := by
  refine g_ofWH [(0, .ref a0), (1, .int x), (2, .ref ob)] (by decide +kernel) (Nat.le_of_ble_eq_true rfl) rfl ?_
  intro p e s m args below meth c X ht
  have kIA : px "java/lang/IllegalArgumentException" → g_K p l e { frames := 8, cells := 1, slots := 6, locals := 126 } s m args below meth c 4 D g_cl (g_A f s.heap.size) f (0 + 1) (0 + 6) (g_End below D g_cl f (fun r f2 => (∃ v f1, post (some (.int v)) f1 ∧ r = some (.int 0) ∧ f2 = g_u f1 ob (.inl (cJ, 1, .inr (.inl (vp_updL g 0 v.toInt64))))) ∨ (px "java/lang/IllegalArgumentException" ∧ r = some (.int 1) ∧ f2 = f)) (fun _ => False) args s { frames := 8, cells := 1, slots := 6, locals := 126 }) 4 [(0, .ref a0), (1, .int x), (2, .ref ob)] [.int 0, .ref ob] (fun E => E = "java/lang/IllegalArgumentException") := fun hq => g_K.catchIA X ht rfl (fun q9 => by
    refine g_astore_n (lv' := [(3, .ref q9), (0, .ref a0), (1, .int x), (2, .ref ob)]) X d_LW_hidden_12 rfl (by decide) rfl ?_
    refine g_iconst (v := 1) X d_LW_hidden_13 (by decide) ?_
    exact g_iret X rfl (Or.inr ⟨hq, rfl, rfl⟩) (Nat.le_of_ble_eq_true rfl) (Nat.le_of_ble_eq_true rfl) d_LW_hidden_14)
  have hsp : ∀ E, px E → (E = "java/lang/IllegalArgumentException" ∧ px E) ∨ (E = "java/lang/IllegalArgumentException" ∧ px E) := fun E h => Or.inl ⟨hpx E h, h⟩
  refine g_aload_n X d_LW_hidden_0 2 rfl ?_
  refine g_iconst (v := 0) X d_LW_hidden_1 (by decide) ?_
  refine g_aload_n X d_LW_hidden_2 0 rfl ?_
  refine g_iload_n X d_LW_hidden_3 1 rfl ?_
  refine g_callV (ci := 3) (As := [.int x]) (rest := [.int 0, .ref ob]) X (z_ok eA eM) rfl rfl h0 (hM) v_CL_hidden q_558 q_559 q_557 rfl rfl (Nat.le_of_ble_eq_true rfl) d_LW_hidden_4 ⟨(Nat.le_of_ble_eq_true rfl), (Nat.le_of_ble_eq_true rfl)⟩ ⟨(Nat.le_of_ble_eq_true rfl), (Nat.le_of_ble_eq_true rfl)⟩ (g_K.split hsp (g_K.imp kIA) (g_K.imp kIA)) (fun r_ f1 hp => ?_)
  have hp9 := hp
  obtain ⟨⟨v, rfl⟩, ho9, z9, hz9⟩ := hko _ _ hp9
  refine g_st (st2 := [.int v, .int 0, .ref ob]) rfl ?_
  refine g_i2l X d_LW_hidden_7 ?_
  refine g_last (g2 := vp_updL g 0 (Int32.toInt64 v)) X hz9 ho9 (nI_ix (j := 0) (n := 1) (by decide) (by decide)) rfl d_LW_hidden_8 ?_
  refine g_goto X 15 d_LW_hidden_9 (by decide) ?_
  refine g_iconst (v := 0) X d_LW_hidden_15 (by decide) ?_
  exact g_iret X rfl (Or.inl ⟨v, f1, hp9, rfl, rfl⟩) (Nat.le_of_ble_eq_true rfl) (Nat.le_of_ble_eq_true rfl) d_LW_hidden_16
theorem v_LW_hidden : g_yH y_LW_hidden b_LW_hidden 4 (some .int) [(0, 9, 12, 13)] 3 := ⟨g_in 588 (by decide +kernel) (by decide +kernel), q_0, by decide +kernel, by decide +kernel, by decide +kernel⟩
set_option maxHeartbeats 4000000 in
set_option maxRecDepth 100000 in
theorem c_LW_proves {l : Launch} {D : va_G} {cI cZ cO cJ : ClassId} {eA eM : Nat} {f : g_F} {a0 ob : Nat} {fs : List Value} {g : Nat → Int64} {x : Int32} {y : Int32} {post : Option Value → g_F → Prop} {px : String → Prop} (h0 : f a0 = some (.inr (3, fs))) (hM : g_C l y_CL_proves b_CL_proves 5 (some .int) { frames := 8, cells := 2, slots := 12, locals := 125 } D g_cl (g_tys cI cZ cO cJ) (z_Z eA eM) [.ref a0, .int x, .int y] f post px) (hpx : ∀ E, px E → E = "java/lang/IllegalArgumentException") (hko : ∀ r f2, post r f2 → (∃ v, r = some (.int v)) ∧ f2 ob = some (.inl (cJ, 1, .inr (.inl g))) ∧ ∃ z, f2 a0 = some (.inr z)) : g_CH l y_LW_proves b_LW_proves 5 (some .int) [(0, 10, 13, 13)] { frames := 9, cells := 2, slots := 12, locals := 149 } D g_cl (g_tys cI cZ cO cJ) (z_Z eA eM) [.ref a0, .int x, .int y, .ref ob] f (fun r f2 => (∃ v f1, post (some (.int v)) f1 ∧ r = some (.int 0) ∧ f2 = g_u f1 ob (.inl (cJ, 1, .inr (.inl (vp_updL g 0 v.toInt64))))) ∨ (px "java/lang/IllegalArgumentException" ∧ r = some (.int 1) ∧ f2 = f)) := by
  refine g_ofWH [(0, .ref a0), (1, .int x), (2, .int y), (3, .ref ob)] (by decide +kernel) (Nat.le_of_ble_eq_true rfl) rfl ?_
  intro p e s m args below meth c X ht
  have kIA : px "java/lang/IllegalArgumentException" → g_K p l e { frames := 9, cells := 2, slots := 12, locals := 149 } s m args below meth c 5 D g_cl (g_A f s.heap.size) f (0 + 2) (0 + 12) (g_End below D g_cl f (fun r f2 => (∃ v f1, post (some (.int v)) f1 ∧ r = some (.int 0) ∧ f2 = g_u f1 ob (.inl (cJ, 1, .inr (.inl (vp_updL g 0 v.toInt64))))) ∨ (px "java/lang/IllegalArgumentException" ∧ r = some (.int 1) ∧ f2 = f)) (fun _ => False) args s { frames := 9, cells := 2, slots := 12, locals := 149 }) 5 [(0, .ref a0), (1, .int x), (2, .int y), (3, .ref ob)] [.int 0, .ref ob] (fun E => E = "java/lang/IllegalArgumentException") := fun hq => g_K.catchIA X ht rfl (fun q9 => by
    refine g_astore (lv' := [(4, .ref q9), (0, .ref a0), (1, .int x), (2, .int y), (3, .ref ob)]) X d_LW_proves_13 (by decide) rfl ?_
    refine g_iconst (v := 1) X d_LW_proves_15 (by decide) ?_
    exact g_iret X rfl (Or.inr ⟨hq, rfl, rfl⟩) (Nat.le_of_ble_eq_true rfl) (Nat.le_of_ble_eq_true rfl) d_LW_proves_16)
  have hsp : ∀ E, px E → (E = "java/lang/IllegalArgumentException" ∧ px E) ∨ (E = "java/lang/IllegalArgumentException" ∧ px E) := fun E h => Or.inl ⟨hpx E h, h⟩
  refine g_aload_n X d_LW_proves_0 3 rfl ?_
  refine g_iconst (v := 0) X d_LW_proves_1 (by decide) ?_
  refine g_aload_n X d_LW_proves_2 0 rfl ?_
  refine g_iload_n X d_LW_proves_3 1 rfl ?_
  refine g_iload_n X d_LW_proves_4 2 rfl ?_
  refine g_callV (ci := 3) (As := [.int x, .int y]) (rest := [.int 0, .ref ob]) X (z_ok eA eM) rfl rfl h0 (hM) v_CL_proves q_566 q_567 q_565 rfl rfl (Nat.le_of_ble_eq_true rfl) d_LW_proves_5 ⟨(Nat.le_of_ble_eq_true rfl), (Nat.le_of_ble_eq_true rfl)⟩ ⟨(Nat.le_of_ble_eq_true rfl), (Nat.le_of_ble_eq_true rfl)⟩ (g_K.split hsp (g_K.imp kIA) (g_K.imp kIA)) (fun r_ f1 hp => ?_)
  have hp9 := hp
  obtain ⟨⟨v, rfl⟩, ho9, z9, hz9⟩ := hko _ _ hp9
  refine g_st (st2 := [.int v, .int 0, .ref ob]) rfl ?_
  refine g_i2l X d_LW_proves_8 ?_
  refine g_last (g2 := vp_updL g 0 (Int32.toInt64 v)) X hz9 ho9 (nI_ix (j := 0) (n := 1) (by decide) (by decide)) rfl d_LW_proves_9 ?_
  refine g_goto X 17 d_LW_proves_10 (by decide) ?_
  refine g_iconst (v := 0) X d_LW_proves_17 (by decide) ?_
  exact g_iret X rfl (Or.inl ⟨v, f1, hp9, rfl, rfl⟩) (Nat.le_of_ble_eq_true rfl) (Nat.le_of_ble_eq_true rfl) d_LW_proves_18
theorem v_LW_proves : g_yH y_LW_proves b_LW_proves 5 (some .int) [(0, 10, 13, 13)] 4 := ⟨g_in 596 (by decide +kernel) (by decide +kernel), q_0, by decide +kernel, by decide +kernel, by decide +kernel⟩
set_option maxHeartbeats 4000000 in
set_option maxRecDepth 100000 in
theorem c_LW_touched {l : Launch} {D : va_G} {cI cZ cO cJ : ClassId} {eA eM : Nat} {f : g_F} {a0 ob : Nat} {fs : List Value} {g : Nat → Int64} {x : Int32} {y : Int32} {post : Option Value → g_F → Prop} {px : String → Prop} (h0 : f a0 = some (.inr (3, fs))) (hM : g_C l y_CL_touched b_CL_touched 3 (some .int) { frames := 8, cells := 2, slots := 12, locals := 125 } D g_cl (g_tys cI cZ cO cJ) (z_Z eA eM) [.ref a0, .int x, .int y] f post px) (hpx : ∀ E, px E → E = "java/lang/IllegalArgumentException") (hko : ∀ r f2, post r f2 → (∃ v, r = some (.int v)) ∧ f2 ob = some (.inl (cJ, 1, .inr (.inl g))) ∧ ∃ z, f2 a0 = some (.inr z)) : g_CH l y_LW_touched b_LW_touched 5 (some .int) [(0, 10, 13, 13)] { frames := 9, cells := 2, slots := 12, locals := 147 } D g_cl (g_tys cI cZ cO cJ) (z_Z eA eM) [.ref a0, .int x, .int y, .ref ob] f (fun r f2 => (∃ v f1, post (some (.int v)) f1 ∧ r = some (.int 0) ∧ f2 = g_u f1 ob (.inl (cJ, 1, .inr (.inl (vp_updL g 0 v.toInt64))))) ∨ (px "java/lang/IllegalArgumentException" ∧ r = some (.int 1) ∧ f2 = f)) := by
  refine g_ofWH [(0, .ref a0), (1, .int x), (2, .int y), (3, .ref ob)] (by decide +kernel) (Nat.le_of_ble_eq_true rfl) rfl ?_
  intro p e s m args below meth c X ht
  have kIA : px "java/lang/IllegalArgumentException" → g_K p l e { frames := 9, cells := 2, slots := 12, locals := 147 } s m args below meth c 5 D g_cl (g_A f s.heap.size) f (0 + 2) (0 + 12) (g_End below D g_cl f (fun r f2 => (∃ v f1, post (some (.int v)) f1 ∧ r = some (.int 0) ∧ f2 = g_u f1 ob (.inl (cJ, 1, .inr (.inl (vp_updL g 0 v.toInt64))))) ∨ (px "java/lang/IllegalArgumentException" ∧ r = some (.int 1) ∧ f2 = f)) (fun _ => False) args s { frames := 9, cells := 2, slots := 12, locals := 147 }) 5 [(0, .ref a0), (1, .int x), (2, .int y), (3, .ref ob)] [.int 0, .ref ob] (fun E => E = "java/lang/IllegalArgumentException") := fun hq => g_K.catchIA X ht rfl (fun q9 => by
    refine g_astore (lv' := [(4, .ref q9), (0, .ref a0), (1, .int x), (2, .int y), (3, .ref ob)]) X d_LW_touched_13 (by decide) rfl ?_
    refine g_iconst (v := 1) X d_LW_touched_15 (by decide) ?_
    exact g_iret X rfl (Or.inr ⟨hq, rfl, rfl⟩) (Nat.le_of_ble_eq_true rfl) (Nat.le_of_ble_eq_true rfl) d_LW_touched_16)
  have hsp : ∀ E, px E → (E = "java/lang/IllegalArgumentException" ∧ px E) ∨ (E = "java/lang/IllegalArgumentException" ∧ px E) := fun E h => Or.inl ⟨hpx E h, h⟩
  refine g_aload_n X d_LW_touched_0 3 rfl ?_
  refine g_iconst (v := 0) X d_LW_touched_1 (by decide) ?_
  refine g_aload_n X d_LW_touched_2 0 rfl ?_
  refine g_iload_n X d_LW_touched_3 1 rfl ?_
  refine g_iload_n X d_LW_touched_4 2 rfl ?_
  refine g_callV (ci := 3) (As := [.int x, .int y]) (rest := [.int 0, .ref ob]) X (z_ok eA eM) rfl rfl h0 (hM) v_CL_touched q_587 q_588 q_586 rfl rfl (Nat.le_of_ble_eq_true rfl) d_LW_touched_5 ⟨(Nat.le_of_ble_eq_true rfl), (Nat.le_of_ble_eq_true rfl)⟩ ⟨(Nat.le_of_ble_eq_true rfl), (Nat.le_of_ble_eq_true rfl)⟩ (g_K.split hsp (g_K.imp kIA) (g_K.imp kIA)) (fun r_ f1 hp => ?_)
  have hp9 := hp
  obtain ⟨⟨v, rfl⟩, ho9, z9, hz9⟩ := hko _ _ hp9
  refine g_st (st2 := [.int v, .int 0, .ref ob]) rfl ?_
  refine g_i2l X d_LW_touched_8 ?_
  refine g_last (g2 := vp_updL g 0 (Int32.toInt64 v)) X hz9 ho9 (nI_ix (j := 0) (n := 1) (by decide) (by decide)) rfl d_LW_touched_9 ?_
  refine g_goto X 17 d_LW_touched_10 (by decide) ?_
  refine g_iconst (v := 0) X d_LW_touched_17 (by decide) ?_
  exact g_iret X rfl (Or.inl ⟨v, f1, hp9, rfl, rfl⟩) (Nat.le_of_ble_eq_true rfl) (Nat.le_of_ble_eq_true rfl) d_LW_touched_18
theorem v_LW_touched : g_yH y_LW_touched b_LW_touched 5 (some .int) [(0, 10, 13, 13)] 4 := ⟨g_in 617 (by decide +kernel) (by decide +kernel), q_0, by decide +kernel, by decide +kernel, by decide +kernel⟩
