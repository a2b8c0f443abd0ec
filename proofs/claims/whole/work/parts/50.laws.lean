theorem g_CH.weaken {l : Launch} {y : MethodName} {bytes : ByteArray} {maxL : Nat} {ret : Option FieldType} {hh : List (Nat × Nat × Nat × Nat)} {rm : Room} {D : va_G} {cl : List vw_C} {tys : List (ClassId × FieldType)} {Z : (Nat → Prop) → State → Heap → Prop} {av : List Value} {f : g_F} {post post2 : Option Value → g_F → Prop} (h : g_CH l y bytes maxL ret hh rm D cl tys Z av f post) (h1 : ∀ r f2, post r f2 → post2 r f2) : g_CH l y bytes maxL ret hh rm D cl tys Z av f post2 := by
  intro sz p e a1 a2 a3 s m args below a4 a5 a6 a7
  obtain ⟨n, o, b1, b2, b3, b4⟩ := h sz p e a1 a2 a3 s m args below a4 a5 a6 a7
  refine ⟨n, o, b1, b2, b3, ?_⟩
  rcases b4 with ⟨⟨⟨r, f2, c1, c2, c3⟩, c4⟩, c5⟩ | b4
  · exact Or.inl ⟨⟨⟨r, f2, c1, h1 r f2 c2, c3⟩, c4⟩, c5⟩
  · exact Or.inr b4
theorem sim_ob {cI cZ cO cJ : ClassId} {eA : Nat} {f : g_F} {a0 b0 ob cnt : Nat} {g : Nat → Int64} {th : Int32} (h : SIM cI cZ cO cJ eA f a0 b0 ob cnt g th) : f ob = some (.inl (cJ, 1, .inr (.inl g))) := by
  obtain ⟨ad, bd, L, nc, pt, ot, per, dy, gd, ct, td, ts, tn, P, Du, S, Wy, Re, n, O, pl, ps, cap, mc, tw, PF, DF, GF, Le, Sl, ⟨e0, e1, htn⟩, hR, hM, hG, hB, hMB, hIn, hInM, hE0, ⟨hD1, hD2, hD3⟩, hT, hRS, hUR, hUC⟩ := h
  exact hG
theorem sim_mo {cI cZ cO cJ : ClassId} {eA : Nat} {f : g_F} {a0 b0 ob cnt : Nat} {g : Nat → Int64} {th : Int32} (h : SIM cI cZ cO cJ eA f a0 b0 ob cnt g th) : ∃ fs, f b0 = some (.inr (5, fs)) := by
  obtain ⟨ad, bd, L, nc, pt, ot, per, dy, gd, ct, td, ts, tn, P, Du, S, Wy, Re, n, O, pl, ps, cap, mc, tw, PF, DF, GF, Le, Sl, ⟨e0, e1, htn⟩, hR, hM, hG, hB, hMB, hIn, hInM, hE0, ⟨hD1, hD2, hD3⟩, hT, hRS, hUR, hUC⟩ := h
  subst e1; exact ⟨_, hM.1⟩
theorem sim_cl {cI cZ cO cJ : ClassId} {eA : Nat} {f : g_F} {a0 b0 ob cnt : Nat} {g : Nat → Int64} {th : Int32} (h : SIM cI cZ cO cJ eA f a0 b0 ob cnt g th) : ∃ fs, f a0 = some (.inr (3, fs)) := by
  obtain ⟨ad, bd, L, nc, pt, ot, per, dy, gd, ct, td, ts, tn, P, Du, S, Wy, Re, n, O, pl, ps, cap, mc, tw, PF, DF, GF, Le, Sl, ⟨e0, e1, htn⟩, hR, hM, hG, hB, hMB, hIn, hInM, hE0, ⟨hD1, hD2, hD3⟩, hT, hRS, hUR, hUC⟩ := h
  subst e0; exact ⟨_, hR.1⟩
theorem sim_thrown {l : Launch} {D : va_G} {cI cZ cO cJ : ClassId} {eA eM : Nat} {f : g_F} {a0 b0 ob cnt : Nat} {g : Nat → Int64} {th : Int32} (h : SIM cI cZ cO cJ eA f a0 b0 ob cnt g th) : g_C l y_MO_thrown b_MO_thrown 1 (some .int) { frames := 0, cells := 0, slots := 0, locals := 0 } D g_cl (g_tys cI cZ cO cJ) (z_Z eA eM) [.ref b0] f (fun r f2 => r = some (.int th) ∧ f2 = f) (fun _ => False) := by
  obtain ⟨ad, bd, L, nc, pt, ot, per, dy, gd, ct, td, ts, tn, P, Du, S, Wy, Re, n, O, pl, ps, cap, mc, tw, PF, DF, GF, Le, Sl, ⟨e0, e1, htn⟩, hR, hM, hG, hB, hMB, hIn, hInM, hE0, ⟨hD1, hD2, hD3⟩, hT, hRS, hUR, hUC⟩ := h
  subst e1; exact c_MO_thrown hM hMB
theorem sim_secs {l : Launch} {D : va_G} {cI cZ cO cJ : ClassId} {eA eM : Nat} {f : g_F} {a0 b0 ob cnt : Nat} {g : Nat → Int64} {th : Int32} (h : SIM cI cZ cO cJ eA f a0 b0 ob cnt g th) : g_C l y_CL_seconds b_CL_seconds 1 (some .int) { frames := 0, cells := 0, slots := 0, locals := 0 } D g_cl (g_tys cI cZ cO cJ) (z_Z eA eM) [.ref a0] f (fun r f2 => ∃ v, r = some (.int v) ∧ f2 = f ∧ g_C l y_MO_seconds b_MO_seconds 1 (some .int) { frames := 0, cells := 0, slots := 0, locals := 0 } D g_cl (g_tys cI cZ cO cJ) (z_Z eA eM) [.ref b0] f (fun r2 f3 => r2 = some (.int v) ∧ SIM cI cZ cO cJ eA f3 a0 b0 ob (cnt + 1) g 0) (fun _ => False)) (fun _ => False) := by
  obtain ⟨ad, bd, L, nc, pt, ot, per, dy, gd, ct, td, ts, tn, P, Du, S, Wy, Re, n, O, pl, ps, cap, mc, tw, PF, DF, GF, Le, Sl, hsv⟩ := h
  obtain ⟨⟨e0, e1, htn⟩, hR, hM, hG, hB, hMB, hIn, hInM, hE0, ⟨hD1, hD2, hD3⟩, hT, hRS, hUR, hUC⟩ := id hsv
  subst e0; subst e1
  refine g_C.weaken (c_CL_seconds hR hB) (fun r f2 hp => ?_) (fun _ h => h)
  obtain ⟨hp1, hp2⟩ := hp
  refine ⟨_, hp1, hp2, g_C.weaken (c_MO_seconds hM hMB) (fun r2 f3 hq => ?_) (fun _ h => h)⟩
  obtain ⟨hq1, hq2⟩ := hq
  subst hq2
  exact ⟨hq1, sim_no hsv 0⟩
set_option maxHeartbeats 4000000 in
set_option maxRecDepth 100000 in
theorem lw_fault {l : Launch} {D : va_G} {cI cZ cO cJ : ClassId} {eA eM : Nat} (hl : l.stackTraces = false) {f : g_F} {a0 b0 ob cnt : Nat} {g : Nat → Int64} {th : Int32} {x : Int32} {y : Int32} (h : SIM cI cZ cO cJ eA f a0 b0 ob cnt g th) (h5 : cnt < 512) : g_CH l y_LW_fault b_LW_fault 5 (some .int) [(0, 10, 13, 13), (0, 10, 17, 15)] { frames := 9, cells := 9, slots := 166, locals := 214 } D g_cl (g_tys cI cZ cO cJ) (z_Z eA eM) [.ref a0, .int x, .int y, .ref ob] f (fun r f2 => ∃ k_, r = some (.int k_) ∧ (∃ fs, f2 b0 = some (.inr (5, fs))) ∧ g_C l y_MO_fault b_MO_fault 7 (some .int) { frames := 1, cells := 0, slots := 0, locals := 22 } D g_cl (g_tys cI cZ cO cJ) (z_Z eA eM) [.ref b0, .int x, .int y] f2 (fun r2 f3 => ∃ w_, r2 = some (.int w_) ∧ ∃ g2, SIM cI cZ cO cJ eA f3 a0 b0 ob (cnt + 1) g2 k_ ∧ (k_ = 0 → g2 0 = Int32.toInt64 w_)) (fun _ => False)) := by
  obtain ⟨ad, bd, L, nc, pt, ot, per, dy, gd, ct, td, ts, tn, P, Du, S, Wy, Re, n, O, pl, ps, cap, mc, tw, PF, DF, GF, Le, Sl, hsv⟩ := h
  obtain ⟨⟨e0, e1, htn⟩, hR, hM, hG, hB, hMB, hIn, hInM, hE0, ⟨hD1, hD2, hD3⟩, hT, hRS, hUR, hUC⟩ := id hsv
  obtain ⟨⟨hL1, hL5⟩, hnc, hCB, hTB, hUB, hRe, hpl8, hO8, hps⟩ := id hB
  obtain ⟨-, -, -, htw, hct, hPF, hDF, ⟨hpz, hpm, -⟩, hLe⟩ := id hMB
  obtain ⟨hn8, hP, hDu, hS, hWy⟩ := id hUB
  obtain ⟨ht5, htd, hts⟩ := id hTB
  subst e0; subst e1
  refine g_CH.weaken (c_LW_fault (g := g) hR.1 (c_CL_fault hl hR hB hIn hE0) (fun E h => h.elim (fun z => Or.inl z.1) (fun z => Or.inr z.1)) (fun r f1 hp => ⟨(opm_fault hsv hp).1, (opm_fault hsv hp).2.1, (opm_fault hsv hp).2.2.1⟩)) (fun r f2 hp => ?_)
  rcases hp with ⟨v, f1, hp, rfl, rfl⟩ | ⟨hx, rfl, rfl⟩ | ⟨hx, rfl, rfl⟩
  · have hm2 := opm_fault hsv hp
    have hM2 : mo_R cI cZ (g_u f1 ob (.inl (cJ, 1, .inr (.inl (vp_updL g 0 v.toInt64))))) bd th L nc pt ot n P Du S Wy tw ct PF DF GF pl ps O Le Sl := mo_move hM (fun i hi x hx => (g_u_n (hD3 i hi)).trans (hm2.2.2.2 i hi x hx))
    refine ⟨0, rfl, ⟨_, hM2.1⟩, g_C.weaken (c_MO_fault hM2 hMB hInM) (fun r2 f3 hq => ?_) (fun _ h => h)⟩
    have hz := op_fault hsv hp hq
    exact ⟨v, hz.1, _, hz.2, fun _ => rfl⟩
  · refine ⟨1, rfl, ⟨_, hM.1⟩, g_C.weaken (c_MO_fault hM hMB hInM) (fun r2 f3 hq => ?_) (fun _ h => h)⟩
    have hz := opn_fault hsv hx hq
    exact ⟨0, hz.1, _, hz.2, fun z => absurd z (by decide)⟩
  · refine ⟨2, rfl, ⟨_, hM.1⟩, g_C.weaken (c_MO_fault hM hMB hInM) (fun r2 f3 hq => ?_) (fun _ h => h)⟩
    have hz := ops_fault hsv hx hq
    exact ⟨0, hz.1, _, hz.2, fun z => absurd z (by decide)⟩
set_option maxHeartbeats 4000000 in
set_option maxRecDepth 100000 in
theorem lw_act {l : Launch} {D : va_G} {cI cZ cO cJ : ClassId} {eA eM : Nat} (hl : l.stackTraces = false) {f : g_F} {a0 b0 ob cnt : Nat} {g : Nat → Int64} {th : Int32} {x : Int32} {y : Int32} (h : SIM cI cZ cO cJ eA f a0 b0 ob cnt g th) (h5 : cnt < 512) : g_CH l y_LW_act b_LW_act 5 (some .int) [(0, 10, 13, 13), (0, 10, 17, 15)] { frames := 9, cells := 3, slots := 18, locals := 147 } D g_cl (g_tys cI cZ cO cJ) (z_Z eA eM) [.ref a0, .int x, .int y, .ref ob] f (fun r f2 => ∃ k_, r = some (.int k_) ∧ (∃ fs, f2 b0 = some (.inr (5, fs))) ∧ g_C l y_MO_act b_MO_act 3 (some .int) { frames := 1, cells := 0, slots := 0, locals := 22 } D g_cl (g_tys cI cZ cO cJ) (z_Z eA eM) [.ref b0, .int x, .int y] f2 (fun r2 f3 => ∃ w_, r2 = some (.int w_) ∧ ∃ g2, SIM cI cZ cO cJ eA f3 a0 b0 ob (cnt + 1) g2 k_ ∧ (k_ = 0 → g2 0 = Int32.toInt64 w_)) (fun _ => False)) := by
  obtain ⟨ad, bd, L, nc, pt, ot, per, dy, gd, ct, td, ts, tn, P, Du, S, Wy, Re, n, O, pl, ps, cap, mc, tw, PF, DF, GF, Le, Sl, hsv⟩ := h
  obtain ⟨⟨e0, e1, htn⟩, hR, hM, hG, hB, hMB, hIn, hInM, hE0, ⟨hD1, hD2, hD3⟩, hT, hRS, hUR, hUC⟩ := id hsv
  obtain ⟨⟨hL1, hL5⟩, hnc, hCB, hTB, hUB, hRe, hpl8, hO8, hps⟩ := id hB
  obtain ⟨-, -, -, htw, hct, hPF, hDF, ⟨hpz, hpm, -⟩, hLe⟩ := id hMB
  obtain ⟨hn8, hP, hDu, hS, hWy⟩ := id hUB
  obtain ⟨ht5, htd, hts⟩ := id hTB
  subst e0; subst e1
  refine g_CH.weaken (c_LW_act (g := g) hR.1 (c_CL_act hl hR hB hIn) (fun E h => h.elim (fun z => Or.inl z.1) (fun z => Or.inr z.1)) (fun r f1 hp => ⟨(opm_act hsv hp).1, (opm_act hsv hp).2.1, (opm_act hsv hp).2.2.1⟩)) (fun r f2 hp => ?_)
  rcases hp with ⟨v, f1, hp, rfl, rfl⟩ | ⟨hx, rfl, rfl⟩ | ⟨hx, rfl, rfl⟩
  · have hm2 := opm_act hsv hp
    have hM2 : mo_R cI cZ (g_u f1 ob (.inl (cJ, 1, .inr (.inl (vp_updL g 0 v.toInt64))))) bd th L nc pt ot n P Du S Wy tw ct PF DF GF pl ps O Le Sl := mo_move hM (fun i hi x hx => (g_u_n (hD3 i hi)).trans (hm2.2.2.2 i hi x hx))
    refine ⟨0, rfl, ⟨_, hM2.1⟩, g_C.weaken (c_MO_act hM2 hMB hInM) (fun r2 f3 hq => ?_) (fun _ h => h)⟩
    have hz := op_act hsv hp hq
    exact ⟨v, hz.1, _, hz.2, fun _ => rfl⟩
  · refine ⟨1, rfl, ⟨_, hM.1⟩, g_C.weaken (c_MO_act hM hMB hInM) (fun r2 f3 hq => ?_) (fun _ h => h)⟩
    have hz := opn_act hsv hx hq
    exact ⟨0, hz.1, _, hz.2, fun z => absurd z (by decide)⟩
  · refine ⟨2, rfl, ⟨_, hM.1⟩, g_C.weaken (c_MO_act hM hMB hInM) (fun r2 f3 hq => ?_) (fun _ h => h)⟩
    have hz := ops_act hsv hx hq
    exact ⟨0, hz.1, _, hz.2, fun z => absurd z (by decide)⟩
set_option maxHeartbeats 4000000 in
set_option maxRecDepth 100000 in
theorem lw_shows {l : Launch} {D : va_G} {cI cZ cO cJ : ClassId} {eA eM : Nat} (hl : l.stackTraces = false) {f : g_F} {a0 b0 ob cnt : Nat} {g : Nat → Int64} {th : Int32} {x : Int32} {y : Int32} {b : Bool} (h : SIM cI cZ cO cJ eA f a0 b0 ob cnt g th) (h5 : cnt < 512) : g_CH l y_LW_shows b_LW_shows 6 (some .int) [(0, 19, 22, 13)] { frames := 9, cells := 2, slots := 12, locals := 148 } D g_cl (g_tys cI cZ cO cJ) (z_Z eA eM) [.ref a0, .int x, .int y, .int (bI b), .ref ob] f (fun r f2 => ∃ k_, r = some (.int k_) ∧ (∃ fs, f2 b0 = some (.inr (5, fs))) ∧ g_C l y_MO_shows b_MO_shows 5 (some .boolean) { frames := 2, cells := 0, slots := 0, locals := 43 } D g_cl (g_tys cI cZ cO cJ) (z_Z eA eM) [.ref b0, .int x, .int y, .int (bI b)] f2 (fun r2 f3 => ∃ w_, r2 = some (.int w_) ∧ ∃ g2, SIM cI cZ cO cJ eA f3 a0 b0 ob (cnt + 1) g2 k_ ∧ (k_ = 0 → g2 0 = (if w_ = 0 then 0 else 1))) (fun _ => False)) := by
  obtain ⟨ad, bd, L, nc, pt, ot, per, dy, gd, ct, td, ts, tn, P, Du, S, Wy, Re, n, O, pl, ps, cap, mc, tw, PF, DF, GF, Le, Sl, hsv⟩ := h
  obtain ⟨⟨e0, e1, htn⟩, hR, hM, hG, hB, hMB, hIn, hInM, hE0, ⟨hD1, hD2, hD3⟩, hT, hRS, hUR, hUC⟩ := id hsv
  obtain ⟨⟨hL1, hL5⟩, hnc, hCB, hTB, hUB, hRe, hpl8, hO8, hps⟩ := id hB
  obtain ⟨-, -, -, htw, hct, hPF, hDF, ⟨hpz, hpm, -⟩, hLe⟩ := id hMB
  obtain ⟨hn8, hP, hDu, hS, hWy⟩ := id hUB
  obtain ⟨ht5, htd, hts⟩ := id hTB
  subst e0; subst e1
  refine g_CH.weaken (c_LW_shows (g := g) hR.1 (c_CL_shows hl hR hB hIn) (fun E h => h.1) (fun r f1 hp => ⟨(opm_shows hsv hp).1, (opm_shows hsv hp).2.1, (opm_shows hsv hp).2.2.1⟩)) (fun r f2 hp => ?_)
  rcases hp with ⟨v, f1, hp, rfl, rfl⟩ | ⟨hx, rfl, rfl⟩
  · have hm2 := opm_shows hsv hp
    have hM2 : mo_R cI cZ (g_u f1 ob (.inl (cJ, 1, .inr (.inl (vp_updL g 0 (if v = 0 then 0 else 1)))))) bd th L nc pt ot n P Du S Wy tw ct PF DF GF pl ps O Le Sl := mo_move hM (fun i hi x hx => (g_u_n (hD3 i hi)).trans (hm2.2.2.2 i hi x hx))
    refine ⟨0, rfl, ⟨_, hM2.1⟩, g_C.weaken (c_MO_shows hM2 hMB hInM) (fun r2 f3 hq => ?_) (fun _ h => h)⟩
    have hz := op_shows hsv hp hq
    exact ⟨v, hz.1, _, hz.2, fun _ => rfl⟩
  · refine ⟨1, rfl, ⟨_, hM.1⟩, g_C.weaken (c_MO_shows hM hMB hInM) (fun r2 f3 hq => ?_) (fun _ h => h)⟩
    have hz := opn_shows hsv hx hq
    exact ⟨0, hz.1, _, hz.2, fun z => absurd z (by decide)⟩
set_option maxHeartbeats 4000000 in
set_option maxRecDepth 100000 in
theorem lw_way {l : Launch} {D : va_G} {cI cZ cO cJ : ClassId} {eA eM : Nat} (hl : l.stackTraces = false) {f : g_F} {a0 b0 ob cnt : Nat} {g : Nat → Int64} {th : Int32} {x : Int32} {y : Int32} {w : Int32} (h : SIM cI cZ cO cJ eA f a0 b0 ob cnt g th) (h5 : cnt < 512) : g_CH l y_LW_way b_LW_way 6 (some .int) [(0, 12, 15, 13)] { frames := 9, cells := 4, slots := 24, locals := 148 } D g_cl (g_tys cI cZ cO cJ) (z_Z eA eM) [.ref a0, .int x, .int y, .int w, .ref ob] f (fun r f2 => ∃ k_, r = some (.int k_) ∧ (∃ fs, f2 b0 = some (.inr (5, fs))) ∧ g_C l y_MO_way b_MO_way 5 (some .int) { frames := 1, cells := 0, slots := 0, locals := 22 } D g_cl (g_tys cI cZ cO cJ) (z_Z eA eM) [.ref b0, .int x, .int y, .int w] f2 (fun r2 f3 => ∃ w_, r2 = some (.int w_) ∧ ∃ g2, SIM cI cZ cO cJ eA f3 a0 b0 ob (cnt + 1) g2 k_ ∧ (k_ = 0 → g2 0 = Int32.toInt64 w_)) (fun _ => False)) := by
  obtain ⟨ad, bd, L, nc, pt, ot, per, dy, gd, ct, td, ts, tn, P, Du, S, Wy, Re, n, O, pl, ps, cap, mc, tw, PF, DF, GF, Le, Sl, hsv⟩ := h
  obtain ⟨⟨e0, e1, htn⟩, hR, hM, hG, hB, hMB, hIn, hInM, hE0, ⟨hD1, hD2, hD3⟩, hT, hRS, hUR, hUC⟩ := id hsv
  obtain ⟨⟨hL1, hL5⟩, hnc, hCB, hTB, hUB, hRe, hpl8, hO8, hps⟩ := id hB
  obtain ⟨-, -, -, htw, hct, hPF, hDF, ⟨hpz, hpm, -⟩, hLe⟩ := id hMB
  obtain ⟨hn8, hP, hDu, hS, hWy⟩ := id hUB
  obtain ⟨ht5, htd, hts⟩ := id hTB
  subst e0; subst e1
  refine g_CH.weaken (c_LW_way (g := g) hR.1 (c_CL_way hl hR hB hIn) (fun E h => h.1) (fun r f1 hp => ⟨(opm_way hsv hp).1, (opm_way hsv hp).2.1, (opm_way hsv hp).2.2.1⟩)) (fun r f2 hp => ?_)
  rcases hp with ⟨v, f1, hp, rfl, rfl⟩ | ⟨hx, rfl, rfl⟩
  · have hm2 := opm_way hsv hp
    have hM2 : mo_R cI cZ (g_u f1 ob (.inl (cJ, 1, .inr (.inl (vp_updL g 0 v.toInt64))))) bd th L nc pt ot n P Du S Wy tw ct PF DF GF pl ps O Le Sl := mo_move hM (fun i hi x hx => (g_u_n (hD3 i hi)).trans (hm2.2.2.2 i hi x hx))
    refine ⟨0, rfl, ⟨_, hM2.1⟩, g_C.weaken (c_MO_way hM2 hMB hInM) (fun r2 f3 hq => ?_) (fun _ h => h)⟩
    have hz := op_way hsv hp hq
    exact ⟨v, hz.1, _, hz.2, fun _ => rfl⟩
  · refine ⟨1, rfl, ⟨_, hM.1⟩, g_C.weaken (c_MO_way hM hMB hInM) (fun r2 f3 hq => ?_) (fun _ h => h)⟩
    have hz := opn_way hsv hx hq
    exact ⟨0, hz.1, _, hz.2, fun z => absurd z (by decide)⟩
set_option maxHeartbeats 4000000 in
set_option maxRecDepth 100000 in
theorem lw_change {l : Launch} {D : va_G} {cI cZ cO cJ : ClassId} {eA eM : Nat} (hl : l.stackTraces = false) {f : g_F} {a0 b0 ob cnt : Nat} {g : Nat → Int64} {th : Int32} {x : Int32} {y : Int32} (h : SIM cI cZ cO cJ eA f a0 b0 ob cnt g th) (h5 : cnt < 512) : g_CH l y_LW_change b_LW_change 5 (some .int) [(0, 10, 13, 13)] { frames := 9, cells := 2, slots := 12, locals := 148 } D g_cl (g_tys cI cZ cO cJ) (z_Z eA eM) [.ref a0, .int x, .int y, .ref ob] f (fun r f2 => ∃ k_, r = some (.int k_) ∧ (∃ fs, f2 b0 = some (.inr (5, fs))) ∧ g_C l y_MO_change b_MO_change 5 (some .int) { frames := 2, cells := 0, slots := 0, locals := 42 } D g_cl (g_tys cI cZ cO cJ) (z_Z eA eM) [.ref b0, .int x, .int y] f2 (fun r2 f3 => ∃ w_, r2 = some (.int w_) ∧ ∃ g2, SIM cI cZ cO cJ eA f3 a0 b0 ob (cnt + 1) g2 k_ ∧ (k_ = 0 → g2 0 = Int32.toInt64 w_)) (fun _ => False)) := by
  obtain ⟨ad, bd, L, nc, pt, ot, per, dy, gd, ct, td, ts, tn, P, Du, S, Wy, Re, n, O, pl, ps, cap, mc, tw, PF, DF, GF, Le, Sl, hsv⟩ := h
  obtain ⟨⟨e0, e1, htn⟩, hR, hM, hG, hB, hMB, hIn, hInM, hE0, ⟨hD1, hD2, hD3⟩, hT, hRS, hUR, hUC⟩ := id hsv
  obtain ⟨⟨hL1, hL5⟩, hnc, hCB, hTB, hUB, hRe, hpl8, hO8, hps⟩ := id hB
  obtain ⟨-, -, -, htw, hct, hPF, hDF, ⟨hpz, hpm, -⟩, hLe⟩ := id hMB
  obtain ⟨hn8, hP, hDu, hS, hWy⟩ := id hUB
  obtain ⟨ht5, htd, hts⟩ := id hTB
  subst e0; subst e1
  refine g_CH.weaken (c_LW_change (g := g) hR.1 (c_CL_change hl hR hB hIn (by omega)) (fun E h => h.1) (fun r f1 hp => ⟨(opm_change hsv hp).1, (opm_change hsv hp).2.1, (opm_change hsv hp).2.2.1⟩)) (fun r f2 hp => ?_)
  rcases hp with ⟨v, f1, hp, rfl, rfl⟩ | ⟨hx, rfl, rfl⟩
  · have hm2 := opm_change hsv hp
    have hM2 : mo_R cI cZ (g_u f1 ob (.inl (cJ, 1, .inr (.inl (vp_updL g 0 v.toInt64))))) bd th L nc pt ot n P Du S Wy tw ct PF DF GF pl ps O Le Sl := mo_move hM (fun i hi x hx => (g_u_n (hD3 i hi)).trans (hm2.2.2.2 i hi x hx))
    refine ⟨0, rfl, ⟨_, hM2.1⟩, g_C.weaken (c_MO_change hM2 hMB hInM) (fun r2 f3 hq => ?_) (fun _ h => h)⟩
    have hz := op_change h5 hsv hp hq
    exact ⟨v, hz.1, _, hz.2, fun _ => rfl⟩
  · refine ⟨1, rfl, ⟨_, hM.1⟩, g_C.weaken (c_MO_change hM hMB hInM) (fun r2 f3 hq => ?_) (fun _ h => h)⟩
    have hz := opn_change h5 hsv hx hq
    exact ⟨0, hz.1, _, hz.2, fun z => absurd z (by decide)⟩
set_option maxHeartbeats 4000000 in
set_option maxRecDepth 100000 in
theorem lw_result {l : Launch} {D : va_G} {cI cZ cO cJ : ClassId} {eA eM : Nat} (hl : l.stackTraces = false) {f : g_F} {a0 b0 ob cnt : Nat} {g : Nat → Int64} {th : Int32} {x : Int32} {y : Int32} {w : Int32} {b : Bool} (h : SIM cI cZ cO cJ eA f a0 b0 ob cnt g th) (h5 : cnt < 512) : g_CH l y_LW_result b_LW_result 7 (some .int) [(0, 14, 17, 13), (0, 14, 21, 15)] { frames := 9, cells := 4, slots := 24, locals := 151 } D g_cl (g_tys cI cZ cO cJ) (z_Z eA eM) [.ref a0, .int x, .int y, .int w, .int (bI b), .ref ob] f (fun r f2 => ∃ k_, r = some (.int k_) ∧ (∃ fs, f2 b0 = some (.inr (5, fs))) ∧ g_C l y_MO_result b_MO_result 9 (some .int) { frames := 2, cells := 0, slots := 0, locals := 43 } D g_cl (g_tys cI cZ cO cJ) (z_Z eA eM) [.ref b0, .int x, .int y, .int w, .int (bI b)] f2 (fun r2 f3 => ∃ w_, r2 = some (.int w_) ∧ ∃ g2, SIM cI cZ cO cJ eA f3 a0 b0 ob (cnt + 1) g2 k_ ∧ (k_ = 0 → g2 0 = Int32.toInt64 w_)) (fun _ => False)) := by
  obtain ⟨ad, bd, L, nc, pt, ot, per, dy, gd, ct, td, ts, tn, P, Du, S, Wy, Re, n, O, pl, ps, cap, mc, tw, PF, DF, GF, Le, Sl, hsv⟩ := h
  obtain ⟨⟨e0, e1, htn⟩, hR, hM, hG, hB, hMB, hIn, hInM, hE0, ⟨hD1, hD2, hD3⟩, hT, hRS, hUR, hUC⟩ := id hsv
  obtain ⟨⟨hL1, hL5⟩, hnc, hCB, hTB, hUB, hRe, hpl8, hO8, hps⟩ := id hB
  obtain ⟨-, -, -, htw, hct, hPF, hDF, ⟨hpz, hpm, -⟩, hLe⟩ := id hMB
  obtain ⟨hn8, hP, hDu, hS, hWy⟩ := id hUB
  obtain ⟨ht5, htd, hts⟩ := id hTB
  subst e0; subst e1
  refine g_CH.weaken (c_LW_result (g := g) hR.1 (c_CL_result hl hR hB hIn) (fun E h => h.elim (fun z => Or.inl z.1) (fun z => Or.inr z.1)) (fun r f1 hp => ⟨(opm_result hsv hp).1, (opm_result hsv hp).2.1, (opm_result hsv hp).2.2.1⟩)) (fun r f2 hp => ?_)
  rcases hp with ⟨v, f1, hp, rfl, rfl⟩ | ⟨hx, rfl, rfl⟩ | ⟨hx, rfl, rfl⟩
  · have hm2 := opm_result hsv hp
    have hM2 : mo_R cI cZ (g_u f1 ob (.inl (cJ, 1, .inr (.inl (vp_updL g 0 v.toInt64))))) bd th L nc pt ot n P Du S Wy tw ct PF DF GF pl ps O Le Sl := mo_move hM (fun i hi x hx => (g_u_n (hD3 i hi)).trans (hm2.2.2.2 i hi x hx))
    refine ⟨0, rfl, ⟨_, hM2.1⟩, g_C.weaken (c_MO_result hM2 hMB hInM) (fun r2 f3 hq => ?_) (fun _ h => h)⟩
    have hz := op_result hsv hp hq
    exact ⟨v, hz.1, _, hz.2, fun _ => rfl⟩
  · refine ⟨1, rfl, ⟨_, hM.1⟩, g_C.weaken (c_MO_result hM hMB hInM) (fun r2 f3 hq => ?_) (fun _ h => h)⟩
    have hz := opn_result hsv hx hq
    exact ⟨0, hz.1, _, hz.2, fun z => absurd z (by decide)⟩
  · refine ⟨2, rfl, ⟨_, hM.1⟩, g_C.weaken (c_MO_result hM hMB hInM) (fun r2 f3 hq => ?_) (fun _ h => h)⟩
    have hz := ops_result hsv hx hq
    exact ⟨0, hz.1, _, hz.2, fun z => absurd z (by decide)⟩
set_option maxHeartbeats 4000000 in
set_option maxRecDepth 100000 in
theorem lw_plan {l : Launch} {D : va_G} {cI cZ cO cJ : ClassId} {eA eM : Nat} (hl : l.stackTraces = false) {f : g_F} {a0 b0 ob cnt : Nat} {g : Nat → Int64} {th : Int32} {y : Int32} (h : SIM cI cZ cO cJ eA f a0 b0 ob cnt g th) (h5 : cnt < 512) : g_CH l y_LW_plan b_LW_plan 4 (some .int) [(0, 9, 12, 13)] { frames := 9, cells := 1, slots := 6, locals := 146 } D g_cl (g_tys cI cZ cO cJ) (z_Z eA eM) [.ref a0, .int y, .ref ob] f (fun r f2 => ∃ k_, r = some (.int k_) ∧ (∃ fs, f2 b0 = some (.inr (5, fs))) ∧ g_C l y_MO_plan b_MO_plan 7 (some .int) { frames := 3, cells := 0, slots := 0, locals := 72 } D g_cl (g_tys cI cZ cO cJ) (z_Z eA eM) [.ref b0, .int y] f2 (fun r2 f3 => ∃ w_, r2 = some (.int w_) ∧ ∃ g2, SIM cI cZ cO cJ eA f3 a0 b0 ob (cnt + 1) g2 k_ ∧ (k_ = 0 → g2 0 = Int32.toInt64 w_)) (fun _ => False)) := by
  obtain ⟨ad, bd, L, nc, pt, ot, per, dy, gd, ct, td, ts, tn, P, Du, S, Wy, Re, n, O, pl, ps, cap, mc, tw, PF, DF, GF, Le, Sl, hsv⟩ := h
  obtain ⟨⟨e0, e1, htn⟩, hR, hM, hG, hB, hMB, hIn, hInM, hE0, ⟨hD1, hD2, hD3⟩, hT, hRS, hUR, hUC⟩ := id hsv
  obtain ⟨⟨hL1, hL5⟩, hnc, hCB, hTB, hUB, hRe, hpl8, hO8, hps⟩ := id hB
  obtain ⟨-, -, -, htw, hct, hPF, hDF, ⟨hpz, hpm, -⟩, hLe⟩ := id hMB
  obtain ⟨hn8, hP, hDu, hS, hWy⟩ := id hUB
  obtain ⟨ht5, htd, hts⟩ := id hTB
  subst e0; subst e1
  refine g_CH.weaken (c_LW_plan (g := g) hR.1 (c_CL_plan hl hR hB hIn) (fun E h => h.1) (fun r f1 hp => ⟨(opm_plan hsv hp).1, (opm_plan hsv hp).2.1, (opm_plan hsv hp).2.2.1⟩)) (fun r f2 hp => ?_)
  rcases hp with ⟨v, f1, hp, rfl, rfl⟩ | ⟨hx, rfl, rfl⟩
  · have hm2 := opm_plan hsv hp
    have hM2 : mo_R cI cZ (g_u f1 ob (.inl (cJ, 1, .inr (.inl (vp_updL g 0 v.toInt64))))) bd th L nc pt ot n P Du S Wy tw ct PF DF GF pl ps O Le Sl := mo_move hM (fun i hi x hx => (g_u_n (hD3 i hi)).trans (hm2.2.2.2 i hi x hx))
    obtain ⟨Re9, HA, hop⟩ := op_plan hsv hp
    refine ⟨0, rfl, ⟨_, hM2.1⟩, g_C.weaken (c_MO_plan hM2 hMB hInM HA) (fun r2 f3 hq => ?_) (fun _ h => h)⟩
    have hz := hop f3 r2 hq
    exact ⟨v, hz.1, _, hz.2, fun _ => rfl⟩
  · have HA : ∀ dd, dd < 100001 → y = nI dd → bellA P Du S Wy n (bset (fun k => decide (mst L tw ct PF DF GF k dd ≠ 3)) nc &&& orA S n) Re 0 := fun d2 h1 h2 => absurd ⟨d2, h1, h2⟩ hx.2
    refine ⟨1, rfl, ⟨_, hM.1⟩, g_C.weaken (c_MO_plan hM hMB hInM HA) (fun r2 f3 hq => ?_) (fun _ h => h)⟩
    have hz := opn_plan hsv hx hq
    exact ⟨0, hz.1, _, hz.2, fun z => absurd z (by decide)⟩
set_option maxHeartbeats 4000000 in
set_option maxRecDepth 100000 in
theorem lw_planned {l : Launch} {D : va_G} {cI cZ cO cJ : ClassId} {eA eM : Nat} (hl : l.stackTraces = false) {f : g_F} {a0 b0 ob cnt : Nat} {g : Nat → Int64} {th : Int32} {x : Int32} (h : SIM cI cZ cO cJ eA f a0 b0 ob cnt g th) (h5 : cnt < 512) : g_CH l y_LW_planned b_LW_planned 4 (some .int) [(0, 9, 12, 13)] { frames := 9, cells := 1, slots := 6, locals := 146 } D g_cl (g_tys cI cZ cO cJ) (z_Z eA eM) [.ref a0, .int x, .ref ob] f (fun r f2 => ∃ k_, r = some (.int k_) ∧ (∃ fs, f2 b0 = some (.inr (5, fs))) ∧ g_C l y_MO_planned b_MO_planned 2 (some .int) { frames := 1, cells := 0, slots := 0, locals := 22 } D g_cl (g_tys cI cZ cO cJ) (z_Z eA eM) [.ref b0, .int x] f2 (fun r2 f3 => ∃ w_, r2 = some (.int w_) ∧ ∃ g2, SIM cI cZ cO cJ eA f3 a0 b0 ob (cnt + 1) g2 k_ ∧ (k_ = 0 → g2 0 = Int32.toInt64 w_)) (fun _ => False)) := by
  obtain ⟨ad, bd, L, nc, pt, ot, per, dy, gd, ct, td, ts, tn, P, Du, S, Wy, Re, n, O, pl, ps, cap, mc, tw, PF, DF, GF, Le, Sl, hsv⟩ := h
  obtain ⟨⟨e0, e1, htn⟩, hR, hM, hG, hB, hMB, hIn, hInM, hE0, ⟨hD1, hD2, hD3⟩, hT, hRS, hUR, hUC⟩ := id hsv
  obtain ⟨⟨hL1, hL5⟩, hnc, hCB, hTB, hUB, hRe, hpl8, hO8, hps⟩ := id hB
  obtain ⟨-, -, -, htw, hct, hPF, hDF, ⟨hpz, hpm, -⟩, hLe⟩ := id hMB
  obtain ⟨hn8, hP, hDu, hS, hWy⟩ := id hUB
  obtain ⟨ht5, htd, hts⟩ := id hTB
  subst e0; subst e1
  refine g_CH.weaken (c_LW_planned (g := g) hR.1 (c_CL_planned hl hR hB) (fun E h => h.1) (fun r f1 hp => ⟨(opm_planned hsv hp).1, (opm_planned hsv hp).2.1, (opm_planned hsv hp).2.2.1⟩)) (fun r f2 hp => ?_)
  rcases hp with ⟨v, f1, hp, rfl, rfl⟩ | ⟨hx, rfl, rfl⟩
  · have hm2 := opm_planned hsv hp
    have hM2 : mo_R cI cZ (g_u f1 ob (.inl (cJ, 1, .inr (.inl (vp_updL g 0 v.toInt64))))) bd th L nc pt ot n P Du S Wy tw ct PF DF GF pl ps O Le Sl := mo_move hM (fun i hi x hx => (g_u_n (hD3 i hi)).trans (hm2.2.2.2 i hi x hx))
    refine ⟨0, rfl, ⟨_, hM2.1⟩, g_C.weaken (c_MO_planned hM2 hMB hpl8) (fun r2 f3 hq => ?_) (fun _ h => h)⟩
    have hz := op_planned hsv hp hq
    exact ⟨v, hz.1, _, hz.2, fun _ => rfl⟩
  · refine ⟨1, rfl, ⟨_, hM.1⟩, g_C.weaken (c_MO_planned hM hMB hpl8) (fun r2 f3 hq => ?_) (fun _ h => h)⟩
    have hz := opn_planned hsv hx hq
    exact ⟨0, hz.1, _, hz.2, fun z => absurd z (by decide)⟩
set_option maxHeartbeats 4000000 in
set_option maxRecDepth 100000 in
theorem lw_from {l : Launch} {D : va_G} {cI cZ cO cJ : ClassId} {eA eM : Nat} (hl : l.stackTraces = false) {f : g_F} {a0 b0 ob cnt : Nat} {g : Nat → Int64} {th : Int32} {x : Int32} (h : SIM cI cZ cO cJ eA f a0 b0 ob cnt g th) (h5 : cnt < 512) : g_CH l y_LW_from b_LW_from 4 (some .int) [(0, 9, 12, 13)] { frames := 9, cells := 1, slots := 6, locals := 146 } D g_cl (g_tys cI cZ cO cJ) (z_Z eA eM) [.ref a0, .int x, .ref ob] f (fun r f2 => ∃ k_, r = some (.int k_) ∧ (∃ fs, f2 b0 = some (.inr (5, fs))) ∧ g_C l y_MO_from b_MO_from 5 (some .int) { frames := 2, cells := 0, slots := 0, locals := 48 } D g_cl (g_tys cI cZ cO cJ) (z_Z eA eM) [.ref b0, .int x] f2 (fun r2 f3 => ∃ w_, r2 = some (.int w_) ∧ ∃ g2, SIM cI cZ cO cJ eA f3 a0 b0 ob (cnt + 1) g2 k_ ∧ (k_ = 0 → g2 0 = Int32.toInt64 w_)) (fun _ => False)) := by
  obtain ⟨ad, bd, L, nc, pt, ot, per, dy, gd, ct, td, ts, tn, P, Du, S, Wy, Re, n, O, pl, ps, cap, mc, tw, PF, DF, GF, Le, Sl, hsv⟩ := h
  obtain ⟨⟨e0, e1, htn⟩, hR, hM, hG, hB, hMB, hIn, hInM, hE0, ⟨hD1, hD2, hD3⟩, hT, hRS, hUR, hUC⟩ := id hsv
  obtain ⟨⟨hL1, hL5⟩, hnc, hCB, hTB, hUB, hRe, hpl8, hO8, hps⟩ := id hB
  obtain ⟨-, -, -, htw, hct, hPF, hDF, ⟨hpz, hpm, -⟩, hLe⟩ := id hMB
  obtain ⟨hn8, hP, hDu, hS, hWy⟩ := id hUB
  obtain ⟨ht5, htd, hts⟩ := id hTB
  subst e0; subst e1
  refine g_CH.weaken (c_LW_from (g := g) hR.1 (c_CL_from hl hR hB hIn) (fun E h => h.1) (fun r f1 hp => ⟨(opm_from hsv hp).1, (opm_from hsv hp).2.1, (opm_from hsv hp).2.2.1⟩)) (fun r f2 hp => ?_)
  rcases hp with ⟨v, f1, hp, rfl, rfl⟩ | ⟨hx, rfl, rfl⟩
  · have hm2 := opm_from hsv hp
    have hM2 : mo_R cI cZ (g_u f1 ob (.inl (cJ, 1, .inr (.inl (vp_updL g 0 v.toInt64))))) bd th L nc pt ot n P Du S Wy tw ct PF DF GF pl ps O Le Sl := mo_move hM (fun i hi x hx => (g_u_n (hD3 i hi)).trans (hm2.2.2.2 i hi x hx))
    refine ⟨0, rfl, ⟨_, hM2.1⟩, g_C.weaken (c_MO_from hM2 hMB hInM) (fun r2 f3 hq => ?_) (fun _ h => h)⟩
    have hz := op_from hsv hp hq
    exact ⟨v, hz.1, _, hz.2, fun _ => rfl⟩
  · refine ⟨1, rfl, ⟨_, hM.1⟩, g_C.weaken (c_MO_from hM hMB hInM) (fun r2 f3 hq => ?_) (fun _ h => h)⟩
    have hz := opn_from hsv hx hq
    exact ⟨0, hz.1, _, hz.2, fun z => absurd z (by decide)⟩
set_option maxHeartbeats 4000000 in
set_option maxRecDepth 100000 in
theorem lw_state {l : Launch} {D : va_G} {cI cZ cO cJ : ClassId} {eA eM : Nat} (hl : l.stackTraces = false) {f : g_F} {a0 b0 ob cnt : Nat} {g : Nat → Int64} {th : Int32} {x : Int32} {y : Int32} (h : SIM cI cZ cO cJ eA f a0 b0 ob cnt g th) (h5 : cnt < 512) : g_CH l y_LW_state b_LW_state 5 (some .int) [(0, 10, 13, 13)] { frames := 9, cells := 2, slots := 12, locals := 147 } D g_cl (g_tys cI cZ cO cJ) (z_Z eA eM) [.ref a0, .int x, .int y, .ref ob] f (fun r f2 => ∃ k_, r = some (.int k_) ∧ (∃ fs, f2 b0 = some (.inr (5, fs))) ∧ g_C l y_MO_state b_MO_state 3 (some .int) { frames := 3, cells := 0, slots := 0, locals := 72 } D g_cl (g_tys cI cZ cO cJ) (z_Z eA eM) [.ref b0, .int x, .int y] f2 (fun r2 f3 => ∃ w_, r2 = some (.int w_) ∧ ∃ g2, SIM cI cZ cO cJ eA f3 a0 b0 ob (cnt + 1) g2 k_ ∧ (k_ = 0 → g2 0 = Int32.toInt64 w_)) (fun _ => False)) := by
  obtain ⟨ad, bd, L, nc, pt, ot, per, dy, gd, ct, td, ts, tn, P, Du, S, Wy, Re, n, O, pl, ps, cap, mc, tw, PF, DF, GF, Le, Sl, hsv⟩ := h
  obtain ⟨⟨e0, e1, htn⟩, hR, hM, hG, hB, hMB, hIn, hInM, hE0, ⟨hD1, hD2, hD3⟩, hT, hRS, hUR, hUC⟩ := id hsv
  obtain ⟨⟨hL1, hL5⟩, hnc, hCB, hTB, hUB, hRe, hpl8, hO8, hps⟩ := id hB
  obtain ⟨-, -, -, htw, hct, hPF, hDF, ⟨hpz, hpm, -⟩, hLe⟩ := id hMB
  obtain ⟨hn8, hP, hDu, hS, hWy⟩ := id hUB
  obtain ⟨ht5, htd, hts⟩ := id hTB
  subst e0; subst e1
  refine g_CH.weaken (c_LW_state (g := g) hR.1 (c_CL_state hl hR hB) (fun E h => h.1) (fun r f1 hp => ⟨(opm_state hsv hp).1, (opm_state hsv hp).2.1, (opm_state hsv hp).2.2.1⟩)) (fun r f2 hp => ?_)
  rcases hp with ⟨v, f1, hp, rfl, rfl⟩ | ⟨hx, rfl, rfl⟩
  · have hm2 := opm_state hsv hp
    have hM2 : mo_R cI cZ (g_u f1 ob (.inl (cJ, 1, .inr (.inl (vp_updL g 0 v.toInt64))))) bd th L nc pt ot n P Du S Wy tw ct PF DF GF pl ps O Le Sl := mo_move hM (fun i hi x hx => (g_u_n (hD3 i hi)).trans (hm2.2.2.2 i hi x hx))
    refine ⟨0, rfl, ⟨_, hM2.1⟩, g_C.weaken (c_MO_state hM2 hMB) (fun r2 f3 hq => ?_) (fun _ h => h)⟩
    have hz := op_state hsv hp hq
    exact ⟨v, hz.1, _, hz.2, fun _ => rfl⟩
  · refine ⟨1, rfl, ⟨_, hM.1⟩, g_C.weaken (c_MO_state hM hMB) (fun r2 f3 hq => ?_) (fun _ h => h)⟩
    have hz := opn_state hsv hx hq
    exact ⟨0, hz.1, _, hz.2, fun z => absurd z (by decide)⟩
set_option maxHeartbeats 4000000 in
set_option maxRecDepth 100000 in
theorem lw_word {l : Launch} {D : va_G} {cI cZ cO cJ : ClassId} {eA eM : Nat} (hl : l.stackTraces = false) {f : g_F} {a0 b0 ob cnt : Nat} {g : Nat → Int64} {th : Int32} {x : Int32} {y : Int32} {w : Int32} (h : SIM cI cZ cO cJ eA f a0 b0 ob cnt g th) (h5 : cnt < 512) : g_CH l y_LW_word b_LW_word 6 (some .int) [(0, 12, 15, 13)] { frames := 9, cells := 3, slots := 18, locals := 148 } D g_cl (g_tys cI cZ cO cJ) (z_Z eA eM) [.ref a0, .int x, .int y, .int w, .ref ob] f (fun r f2 => ∃ k_, r = some (.int k_) ∧ (∃ fs, f2 b0 = some (.inr (5, fs))) ∧ g_C l y_MO_word b_MO_word 4 (some .int) { frames := 2, cells := 0, slots := 0, locals := 45 } D g_cl (g_tys cI cZ cO cJ) (z_Z eA eM) [.ref b0, .int x, .int y, .int w] f2 (fun r2 f3 => ∃ w_, r2 = some (.int w_) ∧ ∃ g2, SIM cI cZ cO cJ eA f3 a0 b0 ob (cnt + 1) g2 k_ ∧ (k_ = 0 → g2 0 = Int32.toInt64 w_)) (fun _ => False)) := by
  obtain ⟨ad, bd, L, nc, pt, ot, per, dy, gd, ct, td, ts, tn, P, Du, S, Wy, Re, n, O, pl, ps, cap, mc, tw, PF, DF, GF, Le, Sl, hsv⟩ := h
  obtain ⟨⟨e0, e1, htn⟩, hR, hM, hG, hB, hMB, hIn, hInM, hE0, ⟨hD1, hD2, hD3⟩, hT, hRS, hUR, hUC⟩ := id hsv
  obtain ⟨⟨hL1, hL5⟩, hnc, hCB, hTB, hUB, hRe, hpl8, hO8, hps⟩ := id hB
  obtain ⟨-, -, -, htw, hct, hPF, hDF, ⟨hpz, hpm, -⟩, hLe⟩ := id hMB
  obtain ⟨hn8, hP, hDu, hS, hWy⟩ := id hUB
  obtain ⟨ht5, htd, hts⟩ := id hTB
  subst e0; subst e1
  refine g_CH.weaken (c_LW_word (g := g) hR.1 (c_CL_word hl hR hB) (fun E h => h.1) (fun r f1 hp => ⟨(opm_word hsv hp).1, (opm_word hsv hp).2.1, (opm_word hsv hp).2.2.1⟩)) (fun r f2 hp => ?_)
  rcases hp with ⟨v, f1, hp, rfl, rfl⟩ | ⟨hx, rfl, rfl⟩
  · have hm2 := opm_word hsv hp
    have hM2 : mo_R cI cZ (g_u f1 ob (.inl (cJ, 1, .inr (.inl (vp_updL g 0 v.toInt64))))) bd th L nc pt ot n P Du S Wy tw ct PF DF GF pl ps O Le Sl := mo_move hM (fun i hi x hx => (g_u_n (hD3 i hi)).trans (hm2.2.2.2 i hi x hx))
    refine ⟨0, rfl, ⟨_, hM2.1⟩, g_C.weaken (c_MO_word hM2 hMB) (fun r2 f3 hq => ?_) (fun _ h => h)⟩
    have hz := op_word hsv hp hq
    exact ⟨v, hz.1, _, hz.2, fun _ => rfl⟩
  · refine ⟨1, rfl, ⟨_, hM.1⟩, g_C.weaken (c_MO_word hM hMB) (fun r2 f3 hq => ?_) (fun _ h => h)⟩
    have hz := opn_word hsv hx hq
    exact ⟨0, hz.1, _, hz.2, fun z => absurd z (by decide)⟩
set_option maxHeartbeats 4000000 in
set_option maxRecDepth 100000 in
theorem lw_listed {l : Launch} {D : va_G} {cI cZ cO cJ : ClassId} {eA eM : Nat} (hl : l.stackTraces = false) {f : g_F} {a0 b0 ob cnt : Nat} {g : Nat → Int64} {th : Int32} {x : Int32} {y : Int32} {w : Int32} (h : SIM cI cZ cO cJ eA f a0 b0 ob cnt g th) (h5 : cnt < 512) : g_CH l y_LW_listed b_LW_listed 6 (some .int) [(0, 12, 15, 13)] { frames := 9, cells := 3, slots := 18, locals := 150 } D g_cl (g_tys cI cZ cO cJ) (z_Z eA eM) [.ref a0, .int x, .int y, .int w, .ref ob] f (fun r f2 => ∃ k_, r = some (.int k_) ∧ (∃ fs, f2 b0 = some (.inr (5, fs))) ∧ g_C l y_MO_listed b_MO_listed 6 (some .int) { frames := 3, cells := 0, slots := 0, locals := 72 } D g_cl (g_tys cI cZ cO cJ) (z_Z eA eM) [.ref b0, .int x, .int y, .int w] f2 (fun r2 f3 => ∃ w_, r2 = some (.int w_) ∧ ∃ g2, SIM cI cZ cO cJ eA f3 a0 b0 ob (cnt + 1) g2 k_ ∧ (k_ = 0 → g2 0 = Int32.toInt64 w_)) (fun _ => False)) := by
  obtain ⟨ad, bd, L, nc, pt, ot, per, dy, gd, ct, td, ts, tn, P, Du, S, Wy, Re, n, O, pl, ps, cap, mc, tw, PF, DF, GF, Le, Sl, hsv⟩ := h
  obtain ⟨⟨e0, e1, htn⟩, hR, hM, hG, hB, hMB, hIn, hInM, hE0, ⟨hD1, hD2, hD3⟩, hT, hRS, hUR, hUC⟩ := id hsv
  obtain ⟨⟨hL1, hL5⟩, hnc, hCB, hTB, hUB, hRe, hpl8, hO8, hps⟩ := id hB
  obtain ⟨-, -, -, htw, hct, hPF, hDF, ⟨hpz, hpm, -⟩, hLe⟩ := id hMB
  obtain ⟨hn8, hP, hDu, hS, hWy⟩ := id hUB
  obtain ⟨ht5, htd, hts⟩ := id hTB
  subst e0; subst e1
  refine g_CH.weaken (c_LW_listed (g := g) hR.1 (c_CL_listed hl hR hB) (fun E h => h.1) (fun r f1 hp => ⟨(opm_listed hsv hp).1, (opm_listed hsv hp).2.1, (opm_listed hsv hp).2.2.1⟩)) (fun r f2 hp => ?_)
  rcases hp with ⟨v, f1, hp, rfl, rfl⟩ | ⟨hx, rfl, rfl⟩
  · have hm2 := opm_listed hsv hp
    have hM2 : mo_R cI cZ (g_u f1 ob (.inl (cJ, 1, .inr (.inl (vp_updL g 0 v.toInt64))))) bd th L nc pt ot n P Du S Wy tw ct PF DF GF pl ps O Le Sl := mo_move hM (fun i hi x hx => (g_u_n (hD3 i hi)).trans (hm2.2.2.2 i hi x hx))
    refine ⟨0, rfl, ⟨_, hM2.1⟩, g_C.weaken (c_MO_listed hM2 hMB) (fun r2 f3 hq => ?_) (fun _ h => h)⟩
    have hz := op_listed hsv hp hq
    exact ⟨v, hz.1, _, hz.2, fun _ => rfl⟩
  · refine ⟨1, rfl, ⟨_, hM.1⟩, g_C.weaken (c_MO_listed hM hMB) (fun r2 f3 hq => ?_) (fun _ h => h)⟩
    have hz := opn_listed hsv hx hq
    exact ⟨0, hz.1, _, hz.2, fun z => absurd z (by decide)⟩
set_option maxHeartbeats 4000000 in
set_option maxRecDepth 100000 in
theorem lw_hidden {l : Launch} {D : va_G} {cI cZ cO cJ : ClassId} {eA eM : Nat} (hl : l.stackTraces = false) {f : g_F} {a0 b0 ob cnt : Nat} {g : Nat → Int64} {th : Int32} {w : Int32} (h : SIM cI cZ cO cJ eA f a0 b0 ob cnt g th) (h5 : cnt < 512) : g_CH l y_LW_hidden b_LW_hidden 4 (some .int) [(0, 9, 12, 13)] { frames := 8, cells := 1, slots := 6, locals := 126 } D g_cl (g_tys cI cZ cO cJ) (z_Z eA eM) [.ref a0, .int w, .ref ob] f (fun r f2 => ∃ k_, r = some (.int k_) ∧ (∃ fs, f2 b0 = some (.inr (5, fs))) ∧ g_C l y_MO_hidden b_MO_hidden 4 (some .int) { frames := 1, cells := 0, slots := 0, locals := 22 } D g_cl (g_tys cI cZ cO cJ) (z_Z eA eM) [.ref b0, .int w] f2 (fun r2 f3 => ∃ w_, r2 = some (.int w_) ∧ ∃ g2, SIM cI cZ cO cJ eA f3 a0 b0 ob (cnt + 1) g2 k_ ∧ (k_ = 0 → g2 0 = Int32.toInt64 w_)) (fun _ => False)) := by
  obtain ⟨ad, bd, L, nc, pt, ot, per, dy, gd, ct, td, ts, tn, P, Du, S, Wy, Re, n, O, pl, ps, cap, mc, tw, PF, DF, GF, Le, Sl, hsv⟩ := h
  obtain ⟨⟨e0, e1, htn⟩, hR, hM, hG, hB, hMB, hIn, hInM, hE0, ⟨hD1, hD2, hD3⟩, hT, hRS, hUR, hUC⟩ := id hsv
  obtain ⟨⟨hL1, hL5⟩, hnc, hCB, hTB, hUB, hRe, hpl8, hO8, hps⟩ := id hB
  obtain ⟨-, -, -, htw, hct, hPF, hDF, ⟨hpz, hpm, -⟩, hLe⟩ := id hMB
  obtain ⟨hn8, hP, hDu, hS, hWy⟩ := id hUB
  obtain ⟨ht5, htd, hts⟩ := id hTB
  subst e0; subst e1
  refine g_CH.weaken (c_LW_hidden (g := g) hR.1 (c_CL_hidden hl hR hB) (fun E h => h.1) (fun r f1 hp => ⟨(opm_hidden hsv hp).1, (opm_hidden hsv hp).2.1, (opm_hidden hsv hp).2.2.1⟩)) (fun r f2 hp => ?_)
  rcases hp with ⟨v, f1, hp, rfl, rfl⟩ | ⟨hx, rfl, rfl⟩
  · have hm2 := opm_hidden hsv hp
    have hM2 : mo_R cI cZ (g_u f1 ob (.inl (cJ, 1, .inr (.inl (vp_updL g 0 v.toInt64))))) bd th L nc pt ot n P Du S Wy tw ct PF DF GF pl ps O Le Sl := mo_move hM (fun i hi x hx => (g_u_n (hD3 i hi)).trans (hm2.2.2.2 i hi x hx))
    refine ⟨0, rfl, ⟨_, hM2.1⟩, g_C.weaken (c_MO_hidden hM2 hMB) (fun r2 f3 hq => ?_) (fun _ h => h)⟩
    have hz := op_hidden hsv hp hq
    exact ⟨v, hz.1, _, hz.2, fun _ => rfl⟩
  · refine ⟨1, rfl, ⟨_, hM.1⟩, g_C.weaken (c_MO_hidden hM hMB) (fun r2 f3 hq => ?_) (fun _ h => h)⟩
    have hz := opn_hidden hsv hx hq
    exact ⟨0, hz.1, _, hz.2, fun z => absurd z (by decide)⟩
set_option maxHeartbeats 4000000 in
set_option maxRecDepth 100000 in
theorem lw_proves {l : Launch} {D : va_G} {cI cZ cO cJ : ClassId} {eA eM : Nat} (hl : l.stackTraces = false) {f : g_F} {a0 b0 ob cnt : Nat} {g : Nat → Int64} {th : Int32} {x : Int32} {y : Int32} (h : SIM cI cZ cO cJ eA f a0 b0 ob cnt g th) (h5 : cnt < 512) : g_CH l y_LW_proves b_LW_proves 5 (some .int) [(0, 10, 13, 13)] { frames := 9, cells := 2, slots := 12, locals := 149 } D g_cl (g_tys cI cZ cO cJ) (z_Z eA eM) [.ref a0, .int x, .int y, .ref ob] f (fun r f2 => ∃ k_, r = some (.int k_) ∧ (∃ fs, f2 b0 = some (.inr (5, fs))) ∧ g_C l y_MO_proves b_MO_proves 4 (some .int) { frames := 3, cells := 0, slots := 0, locals := 72 } D g_cl (g_tys cI cZ cO cJ) (z_Z eA eM) [.ref b0, .int x, .int y] f2 (fun r2 f3 => ∃ w_, r2 = some (.int w_) ∧ ∃ g2, SIM cI cZ cO cJ eA f3 a0 b0 ob (cnt + 1) g2 k_ ∧ (k_ = 0 → g2 0 = Int32.toInt64 w_)) (fun _ => False)) := by
  obtain ⟨ad, bd, L, nc, pt, ot, per, dy, gd, ct, td, ts, tn, P, Du, S, Wy, Re, n, O, pl, ps, cap, mc, tw, PF, DF, GF, Le, Sl, hsv⟩ := h
  obtain ⟨⟨e0, e1, htn⟩, hR, hM, hG, hB, hMB, hIn, hInM, hE0, ⟨hD1, hD2, hD3⟩, hT, hRS, hUR, hUC⟩ := id hsv
  obtain ⟨⟨hL1, hL5⟩, hnc, hCB, hTB, hUB, hRe, hpl8, hO8, hps⟩ := id hB
  obtain ⟨-, -, -, htw, hct, hPF, hDF, ⟨hpz, hpm, -⟩, hLe⟩ := id hMB
  obtain ⟨hn8, hP, hDu, hS, hWy⟩ := id hUB
  obtain ⟨ht5, htd, hts⟩ := id hTB
  subst e0; subst e1
  refine g_CH.weaken (c_LW_proves (g := g) hR.1 (c_CL_proves hl hR hB) (fun E h => h.1) (fun r f1 hp => ⟨(opm_proves hsv hp).1, (opm_proves hsv hp).2.1, (opm_proves hsv hp).2.2.1⟩)) (fun r f2 hp => ?_)
  rcases hp with ⟨v, f1, hp, rfl, rfl⟩ | ⟨hx, rfl, rfl⟩
  · have hm2 := opm_proves hsv hp
    have hM2 : mo_R cI cZ (g_u f1 ob (.inl (cJ, 1, .inr (.inl (vp_updL g 0 v.toInt64))))) bd th L nc pt ot n P Du S Wy tw ct PF DF GF pl ps O Le Sl := mo_move hM (fun i hi x hx => (g_u_n (hD3 i hi)).trans (hm2.2.2.2 i hi x hx))
    refine ⟨0, rfl, ⟨_, hM2.1⟩, g_C.weaken (c_MO_proves hM2 hMB) (fun r2 f3 hq => ?_) (fun _ h => h)⟩
    have hz := op_proves hsv hp hq
    exact ⟨v, hz.1, _, hz.2, fun _ => rfl⟩
  · refine ⟨1, rfl, ⟨_, hM.1⟩, g_C.weaken (c_MO_proves hM hMB) (fun r2 f3 hq => ?_) (fun _ h => h)⟩
    have hz := opn_proves hsv hx hq
    exact ⟨0, hz.1, _, hz.2, fun z => absurd z (by decide)⟩
set_option maxHeartbeats 4000000 in
set_option maxRecDepth 100000 in
theorem lw_touched {l : Launch} {D : va_G} {cI cZ cO cJ : ClassId} {eA eM : Nat} (hl : l.stackTraces = false) {f : g_F} {a0 b0 ob cnt : Nat} {g : Nat → Int64} {th : Int32} {x : Int32} {y : Int32} (h : SIM cI cZ cO cJ eA f a0 b0 ob cnt g th) (h5 : cnt < 512) : g_CH l y_LW_touched b_LW_touched 5 (some .int) [(0, 10, 13, 13)] { frames := 9, cells := 2, slots := 12, locals := 147 } D g_cl (g_tys cI cZ cO cJ) (z_Z eA eM) [.ref a0, .int x, .int y, .ref ob] f (fun r f2 => ∃ k_, r = some (.int k_) ∧ (∃ fs, f2 b0 = some (.inr (5, fs))) ∧ g_C l y_MO_touched b_MO_touched 3 (some .int) { frames := 2, cells := 0, slots := 0, locals := 45 } D g_cl (g_tys cI cZ cO cJ) (z_Z eA eM) [.ref b0, .int x, .int y] f2 (fun r2 f3 => ∃ w_, r2 = some (.int w_) ∧ ∃ g2, SIM cI cZ cO cJ eA f3 a0 b0 ob (cnt + 1) g2 k_ ∧ (k_ = 0 → g2 0 = Int32.toInt64 w_)) (fun _ => False)) := by
  obtain ⟨ad, bd, L, nc, pt, ot, per, dy, gd, ct, td, ts, tn, P, Du, S, Wy, Re, n, O, pl, ps, cap, mc, tw, PF, DF, GF, Le, Sl, hsv⟩ := h
  obtain ⟨⟨e0, e1, htn⟩, hR, hM, hG, hB, hMB, hIn, hInM, hE0, ⟨hD1, hD2, hD3⟩, hT, hRS, hUR, hUC⟩ := id hsv
  obtain ⟨⟨hL1, hL5⟩, hnc, hCB, hTB, hUB, hRe, hpl8, hO8, hps⟩ := id hB
  obtain ⟨-, -, -, htw, hct, hPF, hDF, ⟨hpz, hpm, -⟩, hLe⟩ := id hMB
  obtain ⟨hn8, hP, hDu, hS, hWy⟩ := id hUB
  obtain ⟨ht5, htd, hts⟩ := id hTB
  subst e0; subst e1
  refine g_CH.weaken (c_LW_touched (g := g) hR.1 (c_CL_touched hl hR hB) (fun E h => h.1) (fun r f1 hp => ⟨(opm_touched hsv hp).1, (opm_touched hsv hp).2.1, (opm_touched hsv hp).2.2.1⟩)) (fun r f2 hp => ?_)
  rcases hp with ⟨v, f1, hp, rfl, rfl⟩ | ⟨hx, rfl, rfl⟩
  · have hm2 := opm_touched hsv hp
    have hM2 : mo_R cI cZ (g_u f1 ob (.inl (cJ, 1, .inr (.inl (vp_updL g 0 v.toInt64))))) bd th L nc pt ot n P Du S Wy tw ct PF DF GF pl ps O Le Sl := mo_move hM (fun i hi x hx => (g_u_n (hD3 i hi)).trans (hm2.2.2.2 i hi x hx))
    refine ⟨0, rfl, ⟨_, hM2.1⟩, g_C.weaken (c_MO_touched hM2 hMB) (fun r2 f3 hq => ?_) (fun _ h => h)⟩
    have hz := op_touched hsv hp hq
    exact ⟨v, hz.1, _, hz.2, fun _ => rfl⟩
  · refine ⟨1, rfl, ⟨_, hM.1⟩, g_C.weaken (c_MO_touched hM hMB) (fun r2 f3 hq => ?_) (fun _ h => h)⟩
    have hz := opn_touched hsv hx hq
    exact ⟨0, hz.1, _, hz.2, fun z => absurd z (by decide)⟩
