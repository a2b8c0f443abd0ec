/-! both sides at once -/
def SV (cI cZ cO cJ : ClassId) (eA : Nat) (f : g_F) (a0 b0 ob cnt : Nat) (ad bd : Nat → Nat) (L nc : Nat) (pt ot : Nat → Int32) (per dy : Nat → Nat → Nat) (gd : Nat → Nat → Bool) (ct td ts : Nat → Nat) (tn : Nat) (P Du S Wy Re : Nat → Nat) (n : Nat) (O : Nat → Nat) (pl ps cap : Nat) (mc th : Int32) (tw PF DF : Nat → Nat) (GF : Nat → Bool) (Le : Nat → Nat) (Sl : Nat → Bool) (g : Nat → Int64) : Prop :=
  (ad 0 = a0 ∧ bd 0 = b0 ∧ tn ≤ cnt) ∧ cl_R cI cZ cO f ad L nc pt ot per dy gd ct td ts tn P Du S Wy Re n O pl ps cap mc ∧ mo_R cI cZ f bd th L nc pt ot n P Du S Wy tw ct PF DF GF pl ps O Le Sl ∧ f ob = some (.inl (cJ, 1, .inr (.inl g))) ∧ cl_B L nc per dy ct td ts tn P Du S Wy Re n O pl ps ∧ mo_B L nc n P Du S Wy tw ct PF DF pl ps O Le ∧ (∀ i j, i < 13 + 4 * nc → j < 13 + 4 * nc → ad i = ad j → i = j) ∧ (∀ i j, i < 15 → j < 15 → bd i = bd j → i = j) ∧ (nc = 0 → ad 2 = eA ∧ cap = 0) ∧
  ((∀ i j, i < 13 + 4 * nc → j < 15 → ad i ≠ bd j) ∧ (∀ i, i < 13 + 4 * nc → ad i ≠ ob) ∧ ∀ j, j < 15 → bd j ≠ ob) ∧ (∀ k, k < 24 → tsim tw td ts tn k) ∧ (∀ k, k < nc → rsim per dy gd ct PF DF GF k) ∧ (∀ k, k < nc → ∀ i j, i < ct k → j < ct k → per k i = per k j → dy k i = dy k j → i = j) ∧ ∀ i j, i < nc → j < nc → ∀ x y, mtc pt ot x y i = true → mtc pt ot x y j = true → i = j
def SIM (cI cZ cO cJ : ClassId) (eA : Nat) (f : g_F) (a0 b0 ob cnt : Nat) (g : Nat → Int64) (th : Int32) : Prop := ∃ (ad bd : Nat → Nat) (L nc : Nat) (pt ot : Nat → Int32) (per dy : Nat → Nat → Nat) (gd : Nat → Nat → Bool) (ct td ts : Nat → Nat) (tn : Nat) (P Du S Wy Re : Nat → Nat) (n : Nat) (O : Nat → Nat) (pl ps cap : Nat) (mc : Int32) (tw PF DF : Nat → Nat) (GF : Nat → Bool) (Le : Nat → Nat) (Sl : Nat → Bool), SV cI cZ cO cJ eA f a0 b0 ob cnt ad bd L nc pt ot per dy gd ct td ts tn P Du S Wy Re n O pl ps cap mc th tw PF DF GF Le Sl g
theorem cl_move {cI cZ cO : ClassId} {f : g_F} {ad : Nat → Nat} {L nc : Nat} {pt ot : Nat → Int32} {per dy : Nat → Nat → Nat} {gd : Nat → Nat → Bool} {ct : Nat → Nat} {td ts : Nat → Nat} {tn : Nat} {P Du S Wy Re : Nat → Nat} {n : Nat} {O : Nat → Nat} {pl ps cap : Nat} {mc : Int32} {f2 : g_F} (hR : cl_R cI cZ cO f ad L nc pt ot per dy gd ct td ts tn P Du S Wy Re n O pl ps cap mc) (hm : ∀ i, i < 13 + 4 * nc → ∀ x, f (ad i) = some x → f2 (ad i) = some x) : cl_R cI cZ cO f2 ad L nc pt ot per dy gd ct td ts tn P Du S Wy Re n O pl ps cap mc := by
  obtain ⟨hO0, hAL, hTL, hTU, hPL, hCS⟩ := hR
  refine ⟨hm 0 (by omega) _ hO0, ⟨hm 1 (by omega) _ hAL.1, hAL.2.1, hAL.2.2.1, fun h0 => (hAL.2.2.2 h0).imp (fun g hg => ⟨hm 2 (by omega) _ hg.1, hg.2⟩)⟩, ⟨hm 3 (by omega) _ hTL.1, hm 4 (by omega) _ hTL.2.1, hm 5 (by omega) _ hTL.2.2⟩, ⟨hm 6 (by omega) _ hTU.1, hm 7 (by omega) _ hTU.2.1, hm 8 (by omega) _ hTU.2.2.1, hm 9 (by omega) _ hTU.2.2.2.1, hm 10 (by omega) _ hTU.2.2.2.2.1, hm 11 (by omega) _ hTU.2.2.2.2.2⟩, hm 12 (by omega) _ hPL, fun k hk => ?_⟩
  have hc := hCS k hk
  exact ⟨hm _ (by omega) _ hc.1, hm _ (by omega) _ hc.2.1, hm _ (by omega) _ hc.2.2.1, hm _ (by omega) _ hc.2.2.2⟩
theorem mo_move {cI cZ : ClassId} {f : g_F} {bd : Nat → Nat} {th : Int32} {L nc : Nat} {pt ot : Nat → Int32} {n : Nat} {P Du S Wy tw ct PF DF : Nat → Nat} {GF : Nat → Bool} {pz pm : Nat} {O Le : Nat → Nat} {Sl : Nat → Bool} {f2 : g_F} (hR : mo_R cI cZ f bd th L nc pt ot n P Du S Wy tw ct PF DF GF pz pm O Le Sl) (hm : ∀ i, i < 15 → ∀ x, f (bd i) = some x → f2 (bd i) = some x) : mo_R cI cZ f2 bd th L nc pt ot n P Du S Wy tw ct PF DF GF pz pm O Le Sl := by
  obtain ⟨hM, h1, h2, h3, h4, h5, h6, h7, h8, h9, h10, h11, h12, h13, h14⟩ := hR
  exact ⟨hm 0 (by decide) _ hM, hm 1 (by decide) _ h1, hm 2 (by decide) _ h2, hm 3 (by decide) _ h3, hm 4 (by decide) _ h4, hm 5 (by decide) _ h5, hm 6 (by decide) _ h6, hm 7 (by decide) _ h7, hm 8 (by decide) _ h8, hm 9 (by decide) _ h9, hm 10 (by decide) _ h10, hm 11 (by decide) _ h11, hm 12 (by decide) _ h12, hm 13 (by decide) _ h13, hm 14 (by decide) _ h14⟩
theorem va_up_all {α : Type} {Q : α → Prop} {g : Nat → α} {j : Nat} {x : α} (h : ∀ i, Q (g i)) (hx : Q x) : ∀ i, Q (va_up g j x i) := fun i => by
  unfold va_up
  split
  · exact hx
  · exact h i
theorem nI_inj {a b : Nat} (ha : a < 2 ^ 31) (hb : b < 2 ^ 31) (h : nI a = nI b) : a = b := (nI_eq ha hb).mp h
theorem sv_out {cI cZ cO cJ : ClassId} {eA : Nat} {f : g_F} {a0 b0 ob cnt : Nat} {ad bd : Nat → Nat} {L nc : Nat} {pt ot : Nat → Int32} {per dy : Nat → Nat → Nat} {gd : Nat → Nat → Bool} {ct td ts : Nat → Nat} {tn : Nat} {P Du S Wy Re : Nat → Nat} {n : Nat} {O : Nat → Nat} {pl ps cap : Nat} {mc th : Int32} {tw PF DF : Nat → Nat} {GF : Nat → Bool} {Le : Nat → Nat} {Sl : Nat → Bool} {g : Nat → Int64} (h : SV cI cZ cO cJ eA f a0 b0 ob cnt ad bd L nc pt ot per dy gd ct td ts tn P Du S Wy Re n O pl ps cap mc th tw PF DF GF Le Sl g) (g2 : Nat → Int64) : SV cI cZ cO cJ eA (g_u f ob (.inl (cJ, 1, .inr (.inl g2)))) a0 b0 ob cnt ad bd L nc pt ot per dy gd ct td ts tn P Du S Wy Re n O pl ps cap mc th tw PF DF GF Le Sl g2 := by
  obtain ⟨⟨e0, e1, htn⟩, hR, hM, hG, hB, hMB, hIn, hInM, hE0, ⟨hD1, hD2, hD3⟩, hT, hRS, hUR, hUC⟩ := h
  exact ⟨⟨e0, e1, htn⟩, cl_move hR (fun i hi x hx => (g_u_n (hD2 i hi)).trans hx), mo_move hM (fun i hi x hx => (g_u_n (hD3 i hi)).trans hx), g_u_s, hB, hMB, hIn, hInM, hE0, ⟨hD1, hD2, hD3⟩, hT, hRS, hUR, hUC⟩
theorem sv_th {cI cZ cO cJ : ClassId} {eA : Nat} {f : g_F} {a0 b0 ob cnt : Nat} {ad bd : Nat → Nat} {L nc : Nat} {pt ot : Nat → Int32} {per dy : Nat → Nat → Nat} {gd : Nat → Nat → Bool} {ct td ts : Nat → Nat} {tn : Nat} {P Du S Wy Re : Nat → Nat} {n : Nat} {O : Nat → Nat} {pl ps cap : Nat} {mc th : Int32} {tw PF DF : Nat → Nat} {GF : Nat → Bool} {Le : Nat → Nat} {Sl : Nat → Bool} {g : Nat → Int64} (h : SV cI cZ cO cJ eA f a0 b0 ob cnt ad bd L nc pt ot per dy gd ct td ts tn P Du S Wy Re n O pl ps cap mc th tw PF DF GF Le Sl g) (v : Int32) : SV cI cZ cO cJ eA (m_th f bd v L nc n pl ps) a0 b0 ob (cnt + 1) ad bd L nc pt ot per dy gd ct td ts tn P Du S Wy Re n O pl ps cap mc v tw PF DF GF Le Sl g := by
  obtain ⟨⟨e0, e1, htn⟩, hR, hM, hG, hB, hMB, hIn, hInM, hE0, ⟨hD1, hD2, hD3⟩, hT, hRS, hUR, hUC⟩ := h
  exact ⟨⟨e0, e1, by omega⟩, cl_move hR (fun i hi x hx => (g_u_n (hD1 i 0 hi (by decide))).trans hx), mo_th hM v, (g_u_n (Ne.symm (hD3 0 (by decide)))).trans hG, hB, hMB, hIn, hInM, hE0, ⟨hD1, hD2, hD3⟩, hT, hRS, hUR, hUC⟩
theorem sv_sim {cI cZ cO cJ : ClassId} {eA : Nat} {f : g_F} {a0 b0 ob cnt : Nat} {ad bd : Nat → Nat} {L nc : Nat} {pt ot : Nat → Int32} {per dy : Nat → Nat → Nat} {gd : Nat → Nat → Bool} {ct td ts : Nat → Nat} {tn : Nat} {P Du S Wy Re : Nat → Nat} {n : Nat} {O : Nat → Nat} {pl ps cap : Nat} {mc th : Int32} {tw PF DF : Nat → Nat} {GF : Nat → Bool} {Le : Nat → Nat} {Sl : Nat → Bool} {g : Nat → Int64} (h : SV cI cZ cO cJ eA f a0 b0 ob cnt ad bd L nc pt ot per dy gd ct td ts tn P Du S Wy Re n O pl ps cap mc th tw PF DF GF Le Sl g) : SIM cI cZ cO cJ eA f a0 b0 ob cnt g th := ⟨ad, bd, L, nc, pt, ot, per, dy, gd, ct, td, ts, tn, P, Du, S, Wy, Re, n, O, pl, ps, cap, mc, tw, PF, DF, GF, Le, Sl, h⟩
theorem sim_no {cI cZ cO cJ : ClassId} {eA : Nat} {f : g_F} {a0 b0 ob cnt : Nat} {ad bd : Nat → Nat} {L nc : Nat} {pt ot : Nat → Int32} {per dy : Nat → Nat → Nat} {gd : Nat → Nat → Bool} {ct td ts : Nat → Nat} {tn : Nat} {P Du S Wy Re : Nat → Nat} {n : Nat} {O : Nat → Nat} {pl ps cap : Nat} {mc th : Int32} {tw PF DF : Nat → Nat} {GF : Nat → Bool} {Le : Nat → Nat} {Sl : Nat → Bool} {g : Nat → Int64} (h : SV cI cZ cO cJ eA f a0 b0 ob cnt ad bd L nc pt ot per dy gd ct td ts tn P Du S Wy Re n O pl ps cap mc th tw PF DF GF Le Sl g) (v : Int32) : SIM cI cZ cO cJ eA (m_th f bd v L nc n pl ps) a0 b0 ob (cnt + 1) g v := sv_sim (sv_th h v)
theorem sim_ok {cI cZ cO cJ : ClassId} {eA : Nat} {f : g_F} {a0 b0 ob cnt : Nat} {ad bd : Nat → Nat} {L nc : Nat} {pt ot : Nat → Int32} {per dy : Nat → Nat → Nat} {gd : Nat → Nat → Bool} {ct td ts : Nat → Nat} {tn : Nat} {P Du S Wy Re : Nat → Nat} {n : Nat} {O : Nat → Nat} {pl ps cap : Nat} {mc th : Int32} {tw PF DF : Nat → Nat} {GF : Nat → Bool} {Le : Nat → Nat} {Sl : Nat → Bool} {g : Nat → Int64} (h : SV cI cZ cO cJ eA f a0 b0 ob cnt ad bd L nc pt ot per dy gd ct td ts tn P Du S Wy Re n O pl ps cap mc th tw PF DF GF Le Sl g) (v : Int32) (g2 : Nat → Int64) : SIM cI cZ cO cJ eA (m_th (g_u f ob (.inl (cJ, 1, .inr (.inl g2)))) bd v L nc n pl ps) a0 b0 ob (cnt + 1) g2 v := sv_sim (sv_th (sv_out h g2) v)
theorem opm_state {cI cZ cO cJ : ClassId} {eA : Nat} {f1 : g_F} {f : g_F} {a0 b0 ob cnt : Nat} {ad bd : Nat → Nat} {L nc : Nat} {pt ot : Nat → Int32} {per dy : Nat → Nat → Nat} {gd : Nat → Nat → Bool} {ct td ts : Nat → Nat} {tn : Nat} {P Du S Wy Re : Nat → Nat} {n : Nat} {O : Nat → Nat} {pl ps cap : Nat} {mc th : Int32} {tw PF DF : Nat → Nat} {GF : Nat → Bool} {Le : Nat → Nat} {Sl : Nat → Bool} {g : Nat → Int64} {x : Int32} {y : Int32} (h : SV cI cZ cO cJ eA f a0 b0 ob cnt ad bd L nc pt ot per dy gd ct td ts tn P Du S Wy Re n O pl ps cap mc th tw PF DF GF Le Sl g) {r : Option Value} (hp : (fun (r : Option Value) (f2 : g_F) => (∃ k dd, k < nc ∧ dd < 100001 ∧ x = nI k ∧ y = nI dd ∧ r = some (.int (nI (sta L per dy gd ct td ts tn k dd)))) ∧ f2 = f) (r) f1) : (∃ v, r = some (.int v)) ∧ f1 ob = some (.inl (cJ, 1, .inr (.inl g))) ∧ (∃ z, f1 a0 = some (.inr z)) ∧ ∀ i, i < 15 → ∀ x, f (bd i) = some x → f1 (bd i) = some x := by
  obtain ⟨⟨e0, e1, htn⟩, hR, hM, hG, hB, hMB, hIn, hInM, hE0, ⟨hD1, hD2, hD3⟩, hT, hRS, hUR, hUC⟩ := id h
  obtain ⟨⟨hL1, hL5⟩, hnc, hCB, hTB, hUB, hRe, hpl8, hO8, hps⟩ := id hB
  obtain ⟨-, -, -, htw, hct, hPF, hDF, ⟨hpz, hpm, -⟩, hLe⟩ := id hMB
  obtain ⟨hn8, hP, hDu, hS, hWy⟩ := id hUB
  obtain ⟨ht5, htd, hts⟩ := id hTB
  obtain ⟨⟨k, dd, c1, c2, c3, c4, hr⟩, hf⟩ := hp
  subst hf
  exact ⟨⟨_, hr⟩, hG, ⟨_, by rw [← e0]; exact hR.1⟩, fun i hi x hx => hx⟩
set_option maxHeartbeats 4000000 in
set_option maxRecDepth 100000 in
theorem op_state {cI cZ cO cJ : ClassId} {eA : Nat} {f1 f3 : g_F} {f : g_F} {a0 b0 ob cnt : Nat} {ad bd : Nat → Nat} {L nc : Nat} {pt ot : Nat → Int32} {per dy : Nat → Nat → Nat} {gd : Nat → Nat → Bool} {ct td ts : Nat → Nat} {tn : Nat} {P Du S Wy Re : Nat → Nat} {n : Nat} {O : Nat → Nat} {pl ps cap : Nat} {mc th : Int32} {tw PF DF : Nat → Nat} {GF : Nat → Bool} {Le : Nat → Nat} {Sl : Nat → Bool} {g : Nat → Int64} {x : Int32} {y : Int32} (h : SV cI cZ cO cJ eA f a0 b0 ob cnt ad bd L nc pt ot per dy gd ct td ts tn P Du S Wy Re n O pl ps cap mc th tw PF DF GF Le Sl g) {v : Int32} {r2 : Option Value} (hp : (fun (r : Option Value) (f2 : g_F) => (∃ k dd, k < nc ∧ dd < 100001 ∧ x = nI k ∧ y = nI dd ∧ r = some (.int (nI (sta L per dy gd ct td ts tn k dd)))) ∧ f2 = f) (some (.int v)) f1) (hq : (fun (f : g_F) (r : Option Value) (f2 : g_F) => (¬ (inR x nc ∧ inR y 100001) ∧ r = some (.int 0) ∧ f2 = (m_th f bd 1 L nc n pl ps)) ∨ (∃ k dd, k < nc ∧ dd < 100001 ∧ x = nI k ∧ y = nI dd ∧ r = some (.int (nI (mst L tw ct PF DF GF k dd))) ∧ f2 = (m_th f bd 0 L nc n pl ps))) (g_u f1 ob (.inl (cJ, 1, .inr (.inl (vp_updL g 0 v.toInt64))))) r2 f3) : r2 = some (.int v) ∧ SIM cI cZ cO cJ eA f3 a0 b0 ob (cnt + 1) (vp_updL g 0 v.toInt64) 0 := by
  obtain ⟨⟨e0, e1, htn⟩, hR, hM, hG, hB, hMB, hIn, hInM, hE0, ⟨hD1, hD2, hD3⟩, hT, hRS, hUR, hUC⟩ := id h
  obtain ⟨⟨hL1, hL5⟩, hnc, hCB, hTB, hUB, hRe, hpl8, hO8, hps⟩ := id hB
  obtain ⟨-, -, -, htw, hct, hPF, hDF, ⟨hpz, hpm, -⟩, hLe⟩ := id hMB
  obtain ⟨hn8, hP, hDu, hS, hWy⟩ := id hUB
  obtain ⟨ht5, htd, hts⟩ := id hTB
  obtain ⟨⟨k, dd, c1, c2, c3, c4, hr⟩, hf⟩ := hp
  subst hf
  have hv := Value.int.inj (Option.some.inj hr)
  rcases hq with ⟨hn, -, -⟩ | ⟨k2, d2, q1, q2, q3, q4, q5, q6⟩
  · exact absurd ⟨⟨k, c1, c3⟩, ⟨dd, c2, c4⟩⟩ hn
  · have ek : k = k2 := nI_inj (by omega) (by omega) (c3.symm.trans q3)
    have ed : dd = d2 := nI_inj (by omega) (by omega) (c4.symm.trans q4)
    subst ek; subst ed
    rw [q6]
    refine ⟨?_, sim_ok h 0 _⟩
    rw [q5, hv]
    rw [sta_eq (by omega) hL5 hDF htd (hT k (by omega)) (hRS k c1)]
theorem opn_state {cI cZ cO cJ : ClassId} {eA : Nat} {f3 : g_F} {f : g_F} {a0 b0 ob cnt : Nat} {ad bd : Nat → Nat} {L nc : Nat} {pt ot : Nat → Int32} {per dy : Nat → Nat → Nat} {gd : Nat → Nat → Bool} {ct td ts : Nat → Nat} {tn : Nat} {P Du S Wy Re : Nat → Nat} {n : Nat} {O : Nat → Nat} {pl ps cap : Nat} {mc th : Int32} {tw PF DF : Nat → Nat} {GF : Nat → Bool} {Le : Nat → Nat} {Sl : Nat → Bool} {g : Nat → Int64} {x : Int32} {y : Int32} (h : SV cI cZ cO cJ eA f a0 b0 ob cnt ad bd L nc pt ot per dy gd ct td ts tn P Du S Wy Re n O pl ps cap mc th tw PF DF GF Le Sl g) {r2 : Option Value} (hx : (fun E : String => E = "java/lang/IllegalArgumentException" ∧ ¬ (inR x nc ∧ inR y 100001)) "java/lang/IllegalArgumentException") (hq : (fun (f : g_F) (r : Option Value) (f2 : g_F) => (¬ (inR x nc ∧ inR y 100001) ∧ r = some (.int 0) ∧ f2 = (m_th f bd 1 L nc n pl ps)) ∨ (∃ k dd, k < nc ∧ dd < 100001 ∧ x = nI k ∧ y = nI dd ∧ r = some (.int (nI (mst L tw ct PF DF GF k dd))) ∧ f2 = (m_th f bd 0 L nc n pl ps))) (f) r2 f3) : r2 = some (.int 0) ∧ SIM cI cZ cO cJ eA f3 a0 b0 ob (cnt + 1) g 1 := by
  obtain ⟨⟨e0, e1, htn⟩, hR, hM, hG, hB, hMB, hIn, hInM, hE0, ⟨hD1, hD2, hD3⟩, hT, hRS, hUR, hUC⟩ := id h
  obtain ⟨⟨hL1, hL5⟩, hnc, hCB, hTB, hUB, hRe, hpl8, hO8, hps⟩ := id hB
  obtain ⟨-, -, -, htw, hct, hPF, hDF, ⟨hpz, hpm, -⟩, hLe⟩ := id hMB
  obtain ⟨hn8, hP, hDu, hS, hWy⟩ := id hUB
  obtain ⟨ht5, htd, hts⟩ := id hTB
  obtain ⟨-, hn⟩ := hx
  rcases hq with ⟨-, q1, q2⟩ | q
  · rw [q2]; exact ⟨q1, sim_no h 1⟩
  · exact absurd ((by obtain ⟨k2, d2, q1, q2, q3, q4, -⟩ := q; exact ⟨⟨k2, q1, q3⟩, ⟨d2, q2, q4⟩⟩)) hn
theorem opm_touched {cI cZ cO cJ : ClassId} {eA : Nat} {f1 : g_F} {f : g_F} {a0 b0 ob cnt : Nat} {ad bd : Nat → Nat} {L nc : Nat} {pt ot : Nat → Int32} {per dy : Nat → Nat → Nat} {gd : Nat → Nat → Bool} {ct td ts : Nat → Nat} {tn : Nat} {P Du S Wy Re : Nat → Nat} {n : Nat} {O : Nat → Nat} {pl ps cap : Nat} {mc th : Int32} {tw PF DF : Nat → Nat} {GF : Nat → Bool} {Le : Nat → Nat} {Sl : Nat → Bool} {g : Nat → Int64} {x : Int32} {y : Int32} (h : SV cI cZ cO cJ eA f a0 b0 ob cnt ad bd L nc pt ot per dy gd ct td ts tn P Du S Wy Re n O pl ps cap mc th tw PF DF GF Le Sl g) {r : Option Value} (hp : (fun (r : Option Value) (f2 : g_F) => (∃ k dd, k < nc ∧ dd < 100001 ∧ x = nI k ∧ y = nI dd ∧ r = some (.int (fI (ltst td ts k dd tn)))) ∧ f2 = f) (r) f1) : (∃ v, r = some (.int v)) ∧ f1 ob = some (.inl (cJ, 1, .inr (.inl g))) ∧ (∃ z, f1 a0 = some (.inr z)) ∧ ∀ i, i < 15 → ∀ x, f (bd i) = some x → f1 (bd i) = some x := by
  obtain ⟨⟨e0, e1, htn⟩, hR, hM, hG, hB, hMB, hIn, hInM, hE0, ⟨hD1, hD2, hD3⟩, hT, hRS, hUR, hUC⟩ := id h
  obtain ⟨⟨hL1, hL5⟩, hnc, hCB, hTB, hUB, hRe, hpl8, hO8, hps⟩ := id hB
  obtain ⟨-, -, -, htw, hct, hPF, hDF, ⟨hpz, hpm, -⟩, hLe⟩ := id hMB
  obtain ⟨hn8, hP, hDu, hS, hWy⟩ := id hUB
  obtain ⟨ht5, htd, hts⟩ := id hTB
  obtain ⟨⟨k, dd, c1, c2, c3, c4, hr⟩, hf⟩ := hp
  subst hf
  exact ⟨⟨_, hr⟩, hG, ⟨_, by rw [← e0]; exact hR.1⟩, fun i hi x hx => hx⟩
set_option maxHeartbeats 4000000 in
set_option maxRecDepth 100000 in
theorem op_touched {cI cZ cO cJ : ClassId} {eA : Nat} {f1 f3 : g_F} {f : g_F} {a0 b0 ob cnt : Nat} {ad bd : Nat → Nat} {L nc : Nat} {pt ot : Nat → Int32} {per dy : Nat → Nat → Nat} {gd : Nat → Nat → Bool} {ct td ts : Nat → Nat} {tn : Nat} {P Du S Wy Re : Nat → Nat} {n : Nat} {O : Nat → Nat} {pl ps cap : Nat} {mc th : Int32} {tw PF DF : Nat → Nat} {GF : Nat → Bool} {Le : Nat → Nat} {Sl : Nat → Bool} {g : Nat → Int64} {x : Int32} {y : Int32} (h : SV cI cZ cO cJ eA f a0 b0 ob cnt ad bd L nc pt ot per dy gd ct td ts tn P Du S Wy Re n O pl ps cap mc th tw PF DF GF Le Sl g) {v : Int32} {r2 : Option Value} (hp : (fun (r : Option Value) (f2 : g_F) => (∃ k dd, k < nc ∧ dd < 100001 ∧ x = nI k ∧ y = nI dd ∧ r = some (.int (fI (ltst td ts k dd tn)))) ∧ f2 = f) (some (.int v)) f1) (hq : (fun (f : g_F) (r : Option Value) (f2 : g_F) => (¬ (inR x nc ∧ inR y 100001) ∧ r = some (.int 0) ∧ f2 = (m_th f bd 1 L nc n pl ps)) ∨ (∃ k dd, k < nc ∧ dd < 100001 ∧ x = nI k ∧ y = nI dd ∧ r = some (.int (fI (lx (tb tw k) (min dd 100000 + 1)))) ∧ f2 = (m_th f bd 0 L nc n pl ps))) (g_u f1 ob (.inl (cJ, 1, .inr (.inl (vp_updL g 0 v.toInt64))))) r2 f3) : r2 = some (.int v) ∧ SIM cI cZ cO cJ eA f3 a0 b0 ob (cnt + 1) (vp_updL g 0 v.toInt64) 0 := by
  obtain ⟨⟨e0, e1, htn⟩, hR, hM, hG, hB, hMB, hIn, hInM, hE0, ⟨hD1, hD2, hD3⟩, hT, hRS, hUR, hUC⟩ := id h
  obtain ⟨⟨hL1, hL5⟩, hnc, hCB, hTB, hUB, hRe, hpl8, hO8, hps⟩ := id hB
  obtain ⟨-, -, -, htw, hct, hPF, hDF, ⟨hpz, hpm, -⟩, hLe⟩ := id hMB
  obtain ⟨hn8, hP, hDu, hS, hWy⟩ := id hUB
  obtain ⟨ht5, htd, hts⟩ := id hTB
  obtain ⟨⟨k, dd, c1, c2, c3, c4, hr⟩, hf⟩ := hp
  subst hf
  have hv := Value.int.inj (Option.some.inj hr)
  rcases hq with ⟨hn, -, -⟩ | ⟨k2, d2, q1, q2, q3, q4, q5, q6⟩
  · exact absurd ⟨⟨k, c1, c3⟩, ⟨dd, c2, c4⟩⟩ hn
  · have ek : k = k2 := nI_inj (by omega) (by omega) (c3.symm.trans q3)
    have ed : dd = d2 := nI_inj (by omega) (by omega) (c4.symm.trans q4)
    subst ek; subst ed
    rw [q6]
    refine ⟨?_, sim_ok h 0 _⟩
    rw [q5, hv]
    rw [lt_eq (hT k (by omega)) htd]
theorem opn_touched {cI cZ cO cJ : ClassId} {eA : Nat} {f3 : g_F} {f : g_F} {a0 b0 ob cnt : Nat} {ad bd : Nat → Nat} {L nc : Nat} {pt ot : Nat → Int32} {per dy : Nat → Nat → Nat} {gd : Nat → Nat → Bool} {ct td ts : Nat → Nat} {tn : Nat} {P Du S Wy Re : Nat → Nat} {n : Nat} {O : Nat → Nat} {pl ps cap : Nat} {mc th : Int32} {tw PF DF : Nat → Nat} {GF : Nat → Bool} {Le : Nat → Nat} {Sl : Nat → Bool} {g : Nat → Int64} {x : Int32} {y : Int32} (h : SV cI cZ cO cJ eA f a0 b0 ob cnt ad bd L nc pt ot per dy gd ct td ts tn P Du S Wy Re n O pl ps cap mc th tw PF DF GF Le Sl g) {r2 : Option Value} (hx : (fun E : String => E = "java/lang/IllegalArgumentException" ∧ ¬ (inR x nc ∧ inR y 100001)) "java/lang/IllegalArgumentException") (hq : (fun (f : g_F) (r : Option Value) (f2 : g_F) => (¬ (inR x nc ∧ inR y 100001) ∧ r = some (.int 0) ∧ f2 = (m_th f bd 1 L nc n pl ps)) ∨ (∃ k dd, k < nc ∧ dd < 100001 ∧ x = nI k ∧ y = nI dd ∧ r = some (.int (fI (lx (tb tw k) (min dd 100000 + 1)))) ∧ f2 = (m_th f bd 0 L nc n pl ps))) (f) r2 f3) : r2 = some (.int 0) ∧ SIM cI cZ cO cJ eA f3 a0 b0 ob (cnt + 1) g 1 := by
  obtain ⟨⟨e0, e1, htn⟩, hR, hM, hG, hB, hMB, hIn, hInM, hE0, ⟨hD1, hD2, hD3⟩, hT, hRS, hUR, hUC⟩ := id h
  obtain ⟨⟨hL1, hL5⟩, hnc, hCB, hTB, hUB, hRe, hpl8, hO8, hps⟩ := id hB
  obtain ⟨-, -, -, htw, hct, hPF, hDF, ⟨hpz, hpm, -⟩, hLe⟩ := id hMB
  obtain ⟨hn8, hP, hDu, hS, hWy⟩ := id hUB
  obtain ⟨ht5, htd, hts⟩ := id hTB
  obtain ⟨-, hn⟩ := hx
  rcases hq with ⟨-, q1, q2⟩ | q
  · rw [q2]; exact ⟨q1, sim_no h 1⟩
  · exact absurd ((by obtain ⟨k2, d2, q1, q2, q3, q4, -⟩ := q; exact ⟨⟨k2, q1, q3⟩, ⟨d2, q2, q4⟩⟩)) hn
theorem opm_proves {cI cZ cO cJ : ClassId} {eA : Nat} {f1 : g_F} {f : g_F} {a0 b0 ob cnt : Nat} {ad bd : Nat → Nat} {L nc : Nat} {pt ot : Nat → Int32} {per dy : Nat → Nat → Nat} {gd : Nat → Nat → Bool} {ct td ts : Nat → Nat} {tn : Nat} {P Du S Wy Re : Nat → Nat} {n : Nat} {O : Nat → Nat} {pl ps cap : Nat} {mc th : Int32} {tw PF DF : Nat → Nat} {GF : Nat → Bool} {Le : Nat → Nat} {Sl : Nat → Bool} {g : Nat → Int64} {x : Int32} {y : Int32} (h : SV cI cZ cO cJ eA f a0 b0 ob cnt ad bd L nc pt ot per dy gd ct td ts tn P Du S Wy Re n O pl ps cap mc th tw PF DF GF Le Sl g) {r : Option Value} (hp : (fun (r : Option Value) (f2 : g_F) => (∃ k dd, k < nc ∧ dd < 100001 ∧ x = nI k ∧ y = nI dd ∧ r = some (.int (nI (prv (fun a_ => sta L per dy gd ct td ts tn k a_) (fun a_ => nxt L dy ct td ts tn k a_) 577 dd)))) ∧ f2 = f) (r) f1) : (∃ v, r = some (.int v)) ∧ f1 ob = some (.inl (cJ, 1, .inr (.inl g))) ∧ (∃ z, f1 a0 = some (.inr z)) ∧ ∀ i, i < 15 → ∀ x, f (bd i) = some x → f1 (bd i) = some x := by
  obtain ⟨⟨e0, e1, htn⟩, hR, hM, hG, hB, hMB, hIn, hInM, hE0, ⟨hD1, hD2, hD3⟩, hT, hRS, hUR, hUC⟩ := id h
  obtain ⟨⟨hL1, hL5⟩, hnc, hCB, hTB, hUB, hRe, hpl8, hO8, hps⟩ := id hB
  obtain ⟨-, -, -, htw, hct, hPF, hDF, ⟨hpz, hpm, -⟩, hLe⟩ := id hMB
  obtain ⟨hn8, hP, hDu, hS, hWy⟩ := id hUB
  obtain ⟨ht5, htd, hts⟩ := id hTB
  obtain ⟨⟨k, dd, c1, c2, c3, c4, hr⟩, hf⟩ := hp
  subst hf
  exact ⟨⟨_, hr⟩, hG, ⟨_, by rw [← e0]; exact hR.1⟩, fun i hi x hx => hx⟩
set_option maxHeartbeats 4000000 in
set_option maxRecDepth 100000 in
theorem op_proves {cI cZ cO cJ : ClassId} {eA : Nat} {f1 f3 : g_F} {f : g_F} {a0 b0 ob cnt : Nat} {ad bd : Nat → Nat} {L nc : Nat} {pt ot : Nat → Int32} {per dy : Nat → Nat → Nat} {gd : Nat → Nat → Bool} {ct td ts : Nat → Nat} {tn : Nat} {P Du S Wy Re : Nat → Nat} {n : Nat} {O : Nat → Nat} {pl ps cap : Nat} {mc th : Int32} {tw PF DF : Nat → Nat} {GF : Nat → Bool} {Le : Nat → Nat} {Sl : Nat → Bool} {g : Nat → Int64} {x : Int32} {y : Int32} (h : SV cI cZ cO cJ eA f a0 b0 ob cnt ad bd L nc pt ot per dy gd ct td ts tn P Du S Wy Re n O pl ps cap mc th tw PF DF GF Le Sl g) {v : Int32} {r2 : Option Value} (hp : (fun (r : Option Value) (f2 : g_F) => (∃ k dd, k < nc ∧ dd < 100001 ∧ x = nI k ∧ y = nI dd ∧ r = some (.int (nI (prv (fun a_ => sta L per dy gd ct td ts tn k a_) (fun a_ => nxt L dy ct td ts tn k a_) 577 dd)))) ∧ f2 = f) (some (.int v)) f1) (hq : (fun (f : g_F) (r : Option Value) (f2 : g_F) => (¬ (inR x nc ∧ inR y 100001) ∧ r = some (.int 0) ∧ f2 = (m_th f bd 1 L nc n pl ps)) ∨ (∃ k dd r_, k < nc ∧ dd < 100001 ∧ x = nI k ∧ y = nI dd ∧ fup (fun e_ => mst L tw ct PF DF GF k e_) dd r_ ∧ r_ < 2 ^ 30 ∧ r = some (.int (nI r_)) ∧ f2 = (m_th f bd 0 L nc n pl ps))) (g_u f1 ob (.inl (cJ, 1, .inr (.inl (vp_updL g 0 v.toInt64))))) r2 f3) : r2 = some (.int v) ∧ SIM cI cZ cO cJ eA f3 a0 b0 ob (cnt + 1) (vp_updL g 0 v.toInt64) 0 := by
  obtain ⟨⟨e0, e1, htn⟩, hR, hM, hG, hB, hMB, hIn, hInM, hE0, ⟨hD1, hD2, hD3⟩, hT, hRS, hUR, hUC⟩ := id h
  obtain ⟨⟨hL1, hL5⟩, hnc, hCB, hTB, hUB, hRe, hpl8, hO8, hps⟩ := id hB
  obtain ⟨-, -, -, htw, hct, hPF, hDF, ⟨hpz, hpm, -⟩, hLe⟩ := id hMB
  obtain ⟨hn8, hP, hDu, hS, hWy⟩ := id hUB
  obtain ⟨ht5, htd, hts⟩ := id hTB
  obtain ⟨⟨k, dd, c1, c2, c3, c4, hr⟩, hf⟩ := hp
  subst hf
  have hv := Value.int.inj (Option.some.inj hr)
  rcases hq with ⟨hn, -, -⟩ | ⟨k2, d2, r9, q1, q2, q3, q4, q7, q8, q5, q6⟩
  · exact absurd ⟨⟨k, c1, c3⟩, ⟨dd, c2, c4⟩⟩ hn
  · have ek : k = k2 := nI_inj (by omega) (by omega) (c3.symm.trans q3)
    have ed : dd = d2 := nI_inj (by omega) (by omega) (c4.symm.trans q4)
    subst ek; subst ed
    rw [q6]
    refine ⟨?_, sim_ok h 0 _⟩
    have ht9 := turns_le (L := L) (dy := dy) (ct := ct) (td := td) (tn := tn) (k := k) (hct k) ht5 dd
    have := fup_one (prv_fup hL5 hDF htd (hT k (by omega)) (hRS k c1) 577 dd (by omega) (by omega)) q7
    rw [q5, hv, this]
theorem opn_proves {cI cZ cO cJ : ClassId} {eA : Nat} {f3 : g_F} {f : g_F} {a0 b0 ob cnt : Nat} {ad bd : Nat → Nat} {L nc : Nat} {pt ot : Nat → Int32} {per dy : Nat → Nat → Nat} {gd : Nat → Nat → Bool} {ct td ts : Nat → Nat} {tn : Nat} {P Du S Wy Re : Nat → Nat} {n : Nat} {O : Nat → Nat} {pl ps cap : Nat} {mc th : Int32} {tw PF DF : Nat → Nat} {GF : Nat → Bool} {Le : Nat → Nat} {Sl : Nat → Bool} {g : Nat → Int64} {x : Int32} {y : Int32} (h : SV cI cZ cO cJ eA f a0 b0 ob cnt ad bd L nc pt ot per dy gd ct td ts tn P Du S Wy Re n O pl ps cap mc th tw PF DF GF Le Sl g) {r2 : Option Value} (hx : (fun E : String => E = "java/lang/IllegalArgumentException" ∧ ¬ (inR x nc ∧ inR y 100001)) "java/lang/IllegalArgumentException") (hq : (fun (f : g_F) (r : Option Value) (f2 : g_F) => (¬ (inR x nc ∧ inR y 100001) ∧ r = some (.int 0) ∧ f2 = (m_th f bd 1 L nc n pl ps)) ∨ (∃ k dd r_, k < nc ∧ dd < 100001 ∧ x = nI k ∧ y = nI dd ∧ fup (fun e_ => mst L tw ct PF DF GF k e_) dd r_ ∧ r_ < 2 ^ 30 ∧ r = some (.int (nI r_)) ∧ f2 = (m_th f bd 0 L nc n pl ps))) (f) r2 f3) : r2 = some (.int 0) ∧ SIM cI cZ cO cJ eA f3 a0 b0 ob (cnt + 1) g 1 := by
  obtain ⟨⟨e0, e1, htn⟩, hR, hM, hG, hB, hMB, hIn, hInM, hE0, ⟨hD1, hD2, hD3⟩, hT, hRS, hUR, hUC⟩ := id h
  obtain ⟨⟨hL1, hL5⟩, hnc, hCB, hTB, hUB, hRe, hpl8, hO8, hps⟩ := id hB
  obtain ⟨-, -, -, htw, hct, hPF, hDF, ⟨hpz, hpm, -⟩, hLe⟩ := id hMB
  obtain ⟨hn8, hP, hDu, hS, hWy⟩ := id hUB
  obtain ⟨ht5, htd, hts⟩ := id hTB
  obtain ⟨-, hn⟩ := hx
  rcases hq with ⟨-, q1, q2⟩ | q
  · rw [q2]; exact ⟨q1, sim_no h 1⟩
  · exact absurd ((by obtain ⟨k2, d2, r9, q1, q2, q3, q4, -⟩ := q; exact ⟨⟨k2, q1, q3⟩, ⟨d2, q2, q4⟩⟩)) hn
theorem opm_word {cI cZ cO cJ : ClassId} {eA : Nat} {f1 : g_F} {f : g_F} {a0 b0 ob cnt : Nat} {ad bd : Nat → Nat} {L nc : Nat} {pt ot : Nat → Int32} {per dy : Nat → Nat → Nat} {gd : Nat → Nat → Bool} {ct td ts : Nat → Nat} {tn : Nat} {P Du S Wy Re : Nat → Nat} {n : Nat} {O : Nat → Nat} {pl ps cap : Nat} {mc th : Int32} {tw PF DF : Nat → Nat} {GF : Nat → Bool} {Le : Nat → Nat} {Sl : Nat → Bool} {g : Nat → Int64} {x : Int32} {y : Int32} {w : Int32} (h : SV cI cZ cO cJ eA f a0 b0 ob cnt ad bd L nc pt ot per dy gd ct td ts tn P Du S Wy Re n O pl ps cap mc th tw PF DF GF Le Sl g) {r : Option Value} (hp : (fun (r : Option Value) (f2 : g_F) => (∃ k pe dd, k < nc ∧ pe < 10 ∧ dd < 100001 ∧ x = nI k ∧ y = nI pe ∧ w = nI dd ∧ r = some (.int (wrd L per dy gd ct td ts tn k dd pe))) ∧ f2 = f) (r) f1) : (∃ v, r = some (.int v)) ∧ f1 ob = some (.inl (cJ, 1, .inr (.inl g))) ∧ (∃ z, f1 a0 = some (.inr z)) ∧ ∀ i, i < 15 → ∀ x, f (bd i) = some x → f1 (bd i) = some x := by
  obtain ⟨⟨e0, e1, htn⟩, hR, hM, hG, hB, hMB, hIn, hInM, hE0, ⟨hD1, hD2, hD3⟩, hT, hRS, hUR, hUC⟩ := id h
  obtain ⟨⟨hL1, hL5⟩, hnc, hCB, hTB, hUB, hRe, hpl8, hO8, hps⟩ := id hB
  obtain ⟨-, -, -, htw, hct, hPF, hDF, ⟨hpz, hpm, -⟩, hLe⟩ := id hMB
  obtain ⟨hn8, hP, hDu, hS, hWy⟩ := id hUB
  obtain ⟨ht5, htd, hts⟩ := id hTB
  obtain ⟨⟨k, pe, dd, c1, c2, c3, c4, c5, c6, hr⟩, hf⟩ := hp
  subst hf
  exact ⟨⟨_, hr⟩, hG, ⟨_, by rw [← e0]; exact hR.1⟩, fun i hi x hx => hx⟩
set_option maxHeartbeats 4000000 in
set_option maxRecDepth 100000 in
theorem op_word {cI cZ cO cJ : ClassId} {eA : Nat} {f1 f3 : g_F} {f : g_F} {a0 b0 ob cnt : Nat} {ad bd : Nat → Nat} {L nc : Nat} {pt ot : Nat → Int32} {per dy : Nat → Nat → Nat} {gd : Nat → Nat → Bool} {ct td ts : Nat → Nat} {tn : Nat} {P Du S Wy Re : Nat → Nat} {n : Nat} {O : Nat → Nat} {pl ps cap : Nat} {mc th : Int32} {tw PF DF : Nat → Nat} {GF : Nat → Bool} {Le : Nat → Nat} {Sl : Nat → Bool} {g : Nat → Int64} {x : Int32} {y : Int32} {w : Int32} (h : SV cI cZ cO cJ eA f a0 b0 ob cnt ad bd L nc pt ot per dy gd ct td ts tn P Du S Wy Re n O pl ps cap mc th tw PF DF GF Le Sl g) {v : Int32} {r2 : Option Value} (hp : (fun (r : Option Value) (f2 : g_F) => (∃ k pe dd, k < nc ∧ pe < 10 ∧ dd < 100001 ∧ x = nI k ∧ y = nI pe ∧ w = nI dd ∧ r = some (.int (wrd L per dy gd ct td ts tn k dd pe))) ∧ f2 = f) (some (.int v)) f1) (hq : (fun (f : g_F) (r : Option Value) (f2 : g_F) => (¬ (inR x nc ∧ inR y 10 ∧ inR w 100001) ∧ r = some (.int 0) ∧ f2 = (m_th f bd 1 L nc n pl ps)) ∨ (∃ k pe dd, k < nc ∧ pe < 10 ∧ dd < 100001 ∧ x = nI k ∧ y = nI pe ∧ w = nI dd ∧ r = some (.int (mwr L tw ct PF DF GF k dd pe)) ∧ f2 = (m_th f bd 0 L nc n pl ps))) (g_u f1 ob (.inl (cJ, 1, .inr (.inl (vp_updL g 0 v.toInt64))))) r2 f3) : r2 = some (.int v) ∧ SIM cI cZ cO cJ eA f3 a0 b0 ob (cnt + 1) (vp_updL g 0 v.toInt64) 0 := by
  obtain ⟨⟨e0, e1, htn⟩, hR, hM, hG, hB, hMB, hIn, hInM, hE0, ⟨hD1, hD2, hD3⟩, hT, hRS, hUR, hUC⟩ := id h
  obtain ⟨⟨hL1, hL5⟩, hnc, hCB, hTB, hUB, hRe, hpl8, hO8, hps⟩ := id hB
  obtain ⟨-, -, -, htw, hct, hPF, hDF, ⟨hpz, hpm, -⟩, hLe⟩ := id hMB
  obtain ⟨hn8, hP, hDu, hS, hWy⟩ := id hUB
  obtain ⟨ht5, htd, hts⟩ := id hTB
  obtain ⟨⟨k, pe, dd, c1, c2, c3, c4, c5, c6, hr⟩, hf⟩ := hp
  subst hf
  have hv := Value.int.inj (Option.some.inj hr)
  rcases hq with ⟨hn, -, -⟩ | ⟨k2, p2, d2, q1, q2, q3, q4, q5, q6, q7, q8⟩
  · exact absurd ⟨⟨k, c1, c4⟩, ⟨pe, c2, c5⟩, ⟨dd, c3, c6⟩⟩ hn
  · have ek : k = k2 := nI_inj (by omega) (by omega) (c4.symm.trans q4)
    have ep : pe = p2 := nI_inj (by omega) (by omega) (c5.symm.trans q5)
    have ed : dd = d2 := nI_inj (by omega) (by omega) (c6.symm.trans q6)
    subst ek; subst ep; subst ed
    rw [q8]
    refine ⟨?_, sim_ok h 0 _⟩
    rw [q7, hv, wrd_eq (by omega) hL5 hDF htd (hT k (by omega)) (hRS k c1)]
theorem opn_word {cI cZ cO cJ : ClassId} {eA : Nat} {f3 : g_F} {f : g_F} {a0 b0 ob cnt : Nat} {ad bd : Nat → Nat} {L nc : Nat} {pt ot : Nat → Int32} {per dy : Nat → Nat → Nat} {gd : Nat → Nat → Bool} {ct td ts : Nat → Nat} {tn : Nat} {P Du S Wy Re : Nat → Nat} {n : Nat} {O : Nat → Nat} {pl ps cap : Nat} {mc th : Int32} {tw PF DF : Nat → Nat} {GF : Nat → Bool} {Le : Nat → Nat} {Sl : Nat → Bool} {g : Nat → Int64} {x : Int32} {y : Int32} {w : Int32} (h : SV cI cZ cO cJ eA f a0 b0 ob cnt ad bd L nc pt ot per dy gd ct td ts tn P Du S Wy Re n O pl ps cap mc th tw PF DF GF Le Sl g) {r2 : Option Value} (hx : (fun E : String => E = "java/lang/IllegalArgumentException" ∧ ¬ (inR x nc ∧ inR y 10 ∧ inR w 100001)) "java/lang/IllegalArgumentException") (hq : (fun (f : g_F) (r : Option Value) (f2 : g_F) => (¬ (inR x nc ∧ inR y 10 ∧ inR w 100001) ∧ r = some (.int 0) ∧ f2 = (m_th f bd 1 L nc n pl ps)) ∨ (∃ k pe dd, k < nc ∧ pe < 10 ∧ dd < 100001 ∧ x = nI k ∧ y = nI pe ∧ w = nI dd ∧ r = some (.int (mwr L tw ct PF DF GF k dd pe)) ∧ f2 = (m_th f bd 0 L nc n pl ps))) (f) r2 f3) : r2 = some (.int 0) ∧ SIM cI cZ cO cJ eA f3 a0 b0 ob (cnt + 1) g 1 := by
  obtain ⟨⟨e0, e1, htn⟩, hR, hM, hG, hB, hMB, hIn, hInM, hE0, ⟨hD1, hD2, hD3⟩, hT, hRS, hUR, hUC⟩ := id h
  obtain ⟨⟨hL1, hL5⟩, hnc, hCB, hTB, hUB, hRe, hpl8, hO8, hps⟩ := id hB
  obtain ⟨-, -, -, htw, hct, hPF, hDF, ⟨hpz, hpm, -⟩, hLe⟩ := id hMB
  obtain ⟨hn8, hP, hDu, hS, hWy⟩ := id hUB
  obtain ⟨ht5, htd, hts⟩ := id hTB
  obtain ⟨-, hn⟩ := hx
  rcases hq with ⟨-, q1, q2⟩ | q
  · rw [q2]; exact ⟨q1, sim_no h 1⟩
  · exact absurd ((by obtain ⟨k2, p2, d2, q1, q2, q3, q4, q5, q6, -⟩ := q; exact ⟨⟨k2, q1, q4⟩, ⟨p2, q2, q5⟩, ⟨d2, q3, q6⟩⟩)) hn
theorem opm_listed {cI cZ cO cJ : ClassId} {eA : Nat} {f1 : g_F} {f : g_F} {a0 b0 ob cnt : Nat} {ad bd : Nat → Nat} {L nc : Nat} {pt ot : Nat → Int32} {per dy : Nat → Nat → Nat} {gd : Nat → Nat → Bool} {ct td ts : Nat → Nat} {tn : Nat} {P Du S Wy Re : Nat → Nat} {n : Nat} {O : Nat → Nat} {pl ps cap : Nat} {mc th : Int32} {tw PF DF : Nat → Nat} {GF : Nat → Bool} {Le : Nat → Nat} {Sl : Nat → Bool} {g : Nat → Int64} {x : Int32} {y : Int32} {w : Int32} (h : SV cI cZ cO cJ eA f a0 b0 ob cnt ad bd L nc pt ot per dy gd ct td ts tn P Du S Wy Re n O pl ps cap mc th tw PF DF GF Le Sl g) {r : Option Value} (hp : (fun (r : Option Value) (f2 : g_F) => (∃ v dd kk, v < 4 ∧ dd < 100001 ∧ kk < 2 ^ 31 ∧ x = nI v ∧ y = nI dd ∧ w = nI kk ∧ r = some (.int (nthc (fun k => decide (sta L per dy gd ct td ts tn k dd = v)) nc 0 kk))) ∧ f2 = f) (r) f1) : (∃ v, r = some (.int v)) ∧ f1 ob = some (.inl (cJ, 1, .inr (.inl g))) ∧ (∃ z, f1 a0 = some (.inr z)) ∧ ∀ i, i < 15 → ∀ x, f (bd i) = some x → f1 (bd i) = some x := by
  obtain ⟨⟨e0, e1, htn⟩, hR, hM, hG, hB, hMB, hIn, hInM, hE0, ⟨hD1, hD2, hD3⟩, hT, hRS, hUR, hUC⟩ := id h
  obtain ⟨⟨hL1, hL5⟩, hnc, hCB, hTB, hUB, hRe, hpl8, hO8, hps⟩ := id hB
  obtain ⟨-, -, -, htw, hct, hPF, hDF, ⟨hpz, hpm, -⟩, hLe⟩ := id hMB
  obtain ⟨hn8, hP, hDu, hS, hWy⟩ := id hUB
  obtain ⟨ht5, htd, hts⟩ := id hTB
  obtain ⟨⟨sv, dd, kk, c1, c2, c3, c4, c5, c6, hr⟩, hf⟩ := hp
  subst hf
  exact ⟨⟨_, hr⟩, hG, ⟨_, by rw [← e0]; exact hR.1⟩, fun i hi x hx => hx⟩
set_option maxHeartbeats 4000000 in
set_option maxRecDepth 100000 in
theorem op_listed {cI cZ cO cJ : ClassId} {eA : Nat} {f1 f3 : g_F} {f : g_F} {a0 b0 ob cnt : Nat} {ad bd : Nat → Nat} {L nc : Nat} {pt ot : Nat → Int32} {per dy : Nat → Nat → Nat} {gd : Nat → Nat → Bool} {ct td ts : Nat → Nat} {tn : Nat} {P Du S Wy Re : Nat → Nat} {n : Nat} {O : Nat → Nat} {pl ps cap : Nat} {mc th : Int32} {tw PF DF : Nat → Nat} {GF : Nat → Bool} {Le : Nat → Nat} {Sl : Nat → Bool} {g : Nat → Int64} {x : Int32} {y : Int32} {w : Int32} (h : SV cI cZ cO cJ eA f a0 b0 ob cnt ad bd L nc pt ot per dy gd ct td ts tn P Du S Wy Re n O pl ps cap mc th tw PF DF GF Le Sl g) {v : Int32} {r2 : Option Value} (hp : (fun (r : Option Value) (f2 : g_F) => (∃ v dd kk, v < 4 ∧ dd < 100001 ∧ kk < 2 ^ 31 ∧ x = nI v ∧ y = nI dd ∧ w = nI kk ∧ r = some (.int (nthc (fun k => decide (sta L per dy gd ct td ts tn k dd = v)) nc 0 kk))) ∧ f2 = f) (some (.int v)) f1) (hq : (fun (f : g_F) (r : Option Value) (f2 : g_F) => (¬ (inR x 4 ∧ inR y 100001 ∧ ¬ w < 0) ∧ r = some (.int 0) ∧ f2 = (m_th f bd 1 L nc n pl ps)) ∨ (∃ v dd kk, v < 4 ∧ dd < 100001 ∧ kk < 2 ^ 31 ∧ x = nI v ∧ y = nI dd ∧ w = nI kk ∧ r = some (.int (nthc (fun k => decide (mst L tw ct PF DF GF k dd = v)) nc 0 kk)) ∧ f2 = (m_th f bd 0 L nc n pl ps))) (g_u f1 ob (.inl (cJ, 1, .inr (.inl (vp_updL g 0 v.toInt64))))) r2 f3) : r2 = some (.int v) ∧ SIM cI cZ cO cJ eA f3 a0 b0 ob (cnt + 1) (vp_updL g 0 v.toInt64) 0 := by
  obtain ⟨⟨e0, e1, htn⟩, hR, hM, hG, hB, hMB, hIn, hInM, hE0, ⟨hD1, hD2, hD3⟩, hT, hRS, hUR, hUC⟩ := id h
  obtain ⟨⟨hL1, hL5⟩, hnc, hCB, hTB, hUB, hRe, hpl8, hO8, hps⟩ := id hB
  obtain ⟨-, -, -, htw, hct, hPF, hDF, ⟨hpz, hpm, -⟩, hLe⟩ := id hMB
  obtain ⟨hn8, hP, hDu, hS, hWy⟩ := id hUB
  obtain ⟨ht5, htd, hts⟩ := id hTB
  obtain ⟨⟨sv, dd, kk, c1, c2, c3, c4, c5, c6, hr⟩, hf⟩ := hp
  subst hf
  have hv := Value.int.inj (Option.some.inj hr)
  rcases hq with ⟨hn, -, -⟩ | ⟨v2, d2, k2, q1, q2, q3, q4, q5, q6, q7, q8⟩
  · exact absurd ⟨⟨sv, c1, c4⟩, ⟨dd, c2, c5⟩, by rw [c6]; exact nI_pos c3⟩ hn
  · have ek : sv = v2 := nI_inj (by omega) (by omega) (c4.symm.trans q4)
    have ed : dd = d2 := nI_inj (by omega) (by omega) (c5.symm.trans q5)
    have ep : kk = k2 := nI_inj (by omega) (by omega) (c6.symm.trans q6)
    subst ek; subst ep; subst ed
    rw [q8]
    refine ⟨?_, sim_ok h 0 _⟩
    rw [q7, hv]
    rw [nthc_congr (p := fun k => decide (sta L per dy gd ct td ts tn k dd = sv)) (q := fun k => decide (mst L tw ct PF DF GF k dd = sv)) nc 0 kk (fun k h1 h2 => by
      show decide (_ = _) = decide (_ = _)
      rw [sta_eq (by omega) hL5 hDF htd (hT k (by omega)) (hRS k (by omega))])]
theorem opn_listed {cI cZ cO cJ : ClassId} {eA : Nat} {f3 : g_F} {f : g_F} {a0 b0 ob cnt : Nat} {ad bd : Nat → Nat} {L nc : Nat} {pt ot : Nat → Int32} {per dy : Nat → Nat → Nat} {gd : Nat → Nat → Bool} {ct td ts : Nat → Nat} {tn : Nat} {P Du S Wy Re : Nat → Nat} {n : Nat} {O : Nat → Nat} {pl ps cap : Nat} {mc th : Int32} {tw PF DF : Nat → Nat} {GF : Nat → Bool} {Le : Nat → Nat} {Sl : Nat → Bool} {g : Nat → Int64} {x : Int32} {y : Int32} {w : Int32} (h : SV cI cZ cO cJ eA f a0 b0 ob cnt ad bd L nc pt ot per dy gd ct td ts tn P Du S Wy Re n O pl ps cap mc th tw PF DF GF Le Sl g) {r2 : Option Value} (hx : (fun E : String => E = "java/lang/IllegalArgumentException" ∧ ¬ (inR x 4 ∧ inR y 100001 ∧ ¬ w < 0)) "java/lang/IllegalArgumentException") (hq : (fun (f : g_F) (r : Option Value) (f2 : g_F) => (¬ (inR x 4 ∧ inR y 100001 ∧ ¬ w < 0) ∧ r = some (.int 0) ∧ f2 = (m_th f bd 1 L nc n pl ps)) ∨ (∃ v dd kk, v < 4 ∧ dd < 100001 ∧ kk < 2 ^ 31 ∧ x = nI v ∧ y = nI dd ∧ w = nI kk ∧ r = some (.int (nthc (fun k => decide (mst L tw ct PF DF GF k dd = v)) nc 0 kk)) ∧ f2 = (m_th f bd 0 L nc n pl ps))) (f) r2 f3) : r2 = some (.int 0) ∧ SIM cI cZ cO cJ eA f3 a0 b0 ob (cnt + 1) g 1 := by
  obtain ⟨⟨e0, e1, htn⟩, hR, hM, hG, hB, hMB, hIn, hInM, hE0, ⟨hD1, hD2, hD3⟩, hT, hRS, hUR, hUC⟩ := id h
  obtain ⟨⟨hL1, hL5⟩, hnc, hCB, hTB, hUB, hRe, hpl8, hO8, hps⟩ := id hB
  obtain ⟨-, -, -, htw, hct, hPF, hDF, ⟨hpz, hpm, -⟩, hLe⟩ := id hMB
  obtain ⟨hn8, hP, hDu, hS, hWy⟩ := id hUB
  obtain ⟨ht5, htd, hts⟩ := id hTB
  obtain ⟨-, hn⟩ := hx
  rcases hq with ⟨-, q1, q2⟩ | q
  · rw [q2]; exact ⟨q1, sim_no h 1⟩
  · exact absurd ((by obtain ⟨v2, d2, k2, q1, q2, q3, q4, q5, q6, -⟩ := q; exact ⟨⟨v2, q1, q4⟩, ⟨d2, q2, q5⟩, by rw [q6]; exact nI_pos q3⟩)) hn
theorem opm_hidden {cI cZ cO cJ : ClassId} {eA : Nat} {f1 : g_F} {f : g_F} {a0 b0 ob cnt : Nat} {ad bd : Nat → Nat} {L nc : Nat} {pt ot : Nat → Int32} {per dy : Nat → Nat → Nat} {gd : Nat → Nat → Bool} {ct td ts : Nat → Nat} {tn : Nat} {P Du S Wy Re : Nat → Nat} {n : Nat} {O : Nat → Nat} {pl ps cap : Nat} {mc th : Int32} {tw PF DF : Nat → Nat} {GF : Nat → Bool} {Le : Nat → Nat} {Sl : Nat → Bool} {g : Nat → Int64} {w : Int32} (h : SV cI cZ cO cJ eA f a0 b0 ob cnt ad bd L nc pt ot per dy gd ct td ts tn P Du S Wy Re n O pl ps cap mc th tw PF DF GF Le Sl g) {r : Option Value} (hp : (fun (r : Option Value) (f2 : g_F) => (∃ kk, kk < 2 ^ 31 ∧ w = nI kk ∧ r = some (.int (nthc (fun k => !(Nat.testBit (orS S (2 ^ n - 1) n) k)) nc 0 kk))) ∧ f2 = f) (r) f1) : (∃ v, r = some (.int v)) ∧ f1 ob = some (.inl (cJ, 1, .inr (.inl g))) ∧ (∃ z, f1 a0 = some (.inr z)) ∧ ∀ i, i < 15 → ∀ x, f (bd i) = some x → f1 (bd i) = some x := by
  obtain ⟨⟨e0, e1, htn⟩, hR, hM, hG, hB, hMB, hIn, hInM, hE0, ⟨hD1, hD2, hD3⟩, hT, hRS, hUR, hUC⟩ := id h
  obtain ⟨⟨hL1, hL5⟩, hnc, hCB, hTB, hUB, hRe, hpl8, hO8, hps⟩ := id hB
  obtain ⟨-, -, -, htw, hct, hPF, hDF, ⟨hpz, hpm, -⟩, hLe⟩ := id hMB
  obtain ⟨hn8, hP, hDu, hS, hWy⟩ := id hUB
  obtain ⟨ht5, htd, hts⟩ := id hTB
  obtain ⟨⟨kk, c3, c6, hr⟩, hf⟩ := hp
  subst hf
  exact ⟨⟨_, hr⟩, hG, ⟨_, by rw [← e0]; exact hR.1⟩, fun i hi x hx => hx⟩
set_option maxHeartbeats 4000000 in
set_option maxRecDepth 100000 in
theorem op_hidden {cI cZ cO cJ : ClassId} {eA : Nat} {f1 f3 : g_F} {f : g_F} {a0 b0 ob cnt : Nat} {ad bd : Nat → Nat} {L nc : Nat} {pt ot : Nat → Int32} {per dy : Nat → Nat → Nat} {gd : Nat → Nat → Bool} {ct td ts : Nat → Nat} {tn : Nat} {P Du S Wy Re : Nat → Nat} {n : Nat} {O : Nat → Nat} {pl ps cap : Nat} {mc th : Int32} {tw PF DF : Nat → Nat} {GF : Nat → Bool} {Le : Nat → Nat} {Sl : Nat → Bool} {g : Nat → Int64} {w : Int32} (h : SV cI cZ cO cJ eA f a0 b0 ob cnt ad bd L nc pt ot per dy gd ct td ts tn P Du S Wy Re n O pl ps cap mc th tw PF DF GF Le Sl g) {v : Int32} {r2 : Option Value} (hp : (fun (r : Option Value) (f2 : g_F) => (∃ kk, kk < 2 ^ 31 ∧ w = nI kk ∧ r = some (.int (nthc (fun k => !(Nat.testBit (orS S (2 ^ n - 1) n) k)) nc 0 kk))) ∧ f2 = f) (some (.int v)) f1) (hq : (fun (f : g_F) (r : Option Value) (f2 : g_F) => (¬ (¬ w < 0) ∧ r = some (.int 0) ∧ f2 = (m_th f bd 1 L nc n pl ps)) ∨ (∃ kk, kk < 2 ^ 31 ∧ w = nI kk ∧ r = some (.int (nthc (fun k => !(Nat.testBit (orA S n) k)) nc 0 kk)) ∧ f2 = (m_th f bd 0 L nc n pl ps))) (g_u f1 ob (.inl (cJ, 1, .inr (.inl (vp_updL g 0 v.toInt64))))) r2 f3) : r2 = some (.int v) ∧ SIM cI cZ cO cJ eA f3 a0 b0 ob (cnt + 1) (vp_updL g 0 v.toInt64) 0 := by
  obtain ⟨⟨e0, e1, htn⟩, hR, hM, hG, hB, hMB, hIn, hInM, hE0, ⟨hD1, hD2, hD3⟩, hT, hRS, hUR, hUC⟩ := id h
  obtain ⟨⟨hL1, hL5⟩, hnc, hCB, hTB, hUB, hRe, hpl8, hO8, hps⟩ := id hB
  obtain ⟨-, -, -, htw, hct, hPF, hDF, ⟨hpz, hpm, -⟩, hLe⟩ := id hMB
  obtain ⟨hn8, hP, hDu, hS, hWy⟩ := id hUB
  obtain ⟨ht5, htd, hts⟩ := id hTB
  obtain ⟨⟨kk, c3, c6, hr⟩, hf⟩ := hp
  subst hf
  have hv := Value.int.inj (Option.some.inj hr)
  rcases hq with ⟨hn, -, -⟩ | ⟨k2, q3, q6, q7, q8⟩
  · exact absurd (by rw [c6]; exact nI_pos c3) hn
  · have ep : kk = k2 := nI_inj (by omega) (by omega) (c6.symm.trans q6)
    subst ep
    rw [q8]
    refine ⟨?_, sim_ok h 0 _⟩
    rw [q7, hv, orS_full n (Nat.le_refl _)]
theorem opn_hidden {cI cZ cO cJ : ClassId} {eA : Nat} {f3 : g_F} {f : g_F} {a0 b0 ob cnt : Nat} {ad bd : Nat → Nat} {L nc : Nat} {pt ot : Nat → Int32} {per dy : Nat → Nat → Nat} {gd : Nat → Nat → Bool} {ct td ts : Nat → Nat} {tn : Nat} {P Du S Wy Re : Nat → Nat} {n : Nat} {O : Nat → Nat} {pl ps cap : Nat} {mc th : Int32} {tw PF DF : Nat → Nat} {GF : Nat → Bool} {Le : Nat → Nat} {Sl : Nat → Bool} {g : Nat → Int64} {w : Int32} (h : SV cI cZ cO cJ eA f a0 b0 ob cnt ad bd L nc pt ot per dy gd ct td ts tn P Du S Wy Re n O pl ps cap mc th tw PF DF GF Le Sl g) {r2 : Option Value} (hx : (fun E : String => E = "java/lang/IllegalArgumentException" ∧ ¬ (¬ w < 0)) "java/lang/IllegalArgumentException") (hq : (fun (f : g_F) (r : Option Value) (f2 : g_F) => (¬ (¬ w < 0) ∧ r = some (.int 0) ∧ f2 = (m_th f bd 1 L nc n pl ps)) ∨ (∃ kk, kk < 2 ^ 31 ∧ w = nI kk ∧ r = some (.int (nthc (fun k => !(Nat.testBit (orA S n) k)) nc 0 kk)) ∧ f2 = (m_th f bd 0 L nc n pl ps))) (f) r2 f3) : r2 = some (.int 0) ∧ SIM cI cZ cO cJ eA f3 a0 b0 ob (cnt + 1) g 1 := by
  obtain ⟨⟨e0, e1, htn⟩, hR, hM, hG, hB, hMB, hIn, hInM, hE0, ⟨hD1, hD2, hD3⟩, hT, hRS, hUR, hUC⟩ := id h
  obtain ⟨⟨hL1, hL5⟩, hnc, hCB, hTB, hUB, hRe, hpl8, hO8, hps⟩ := id hB
  obtain ⟨-, -, -, htw, hct, hPF, hDF, ⟨hpz, hpm, -⟩, hLe⟩ := id hMB
  obtain ⟨hn8, hP, hDu, hS, hWy⟩ := id hUB
  obtain ⟨ht5, htd, hts⟩ := id hTB
  obtain ⟨-, hn⟩ := hx
  rcases hq with ⟨-, q1, q2⟩ | q
  · rw [q2]; exact ⟨q1, sim_no h 1⟩
  · exact absurd ((by obtain ⟨k2, q3, q6, -⟩ := q; rw [q6]; exact nI_pos q3)) hn
theorem opm_planned {cI cZ cO cJ : ClassId} {eA : Nat} {f1 : g_F} {f : g_F} {a0 b0 ob cnt : Nat} {ad bd : Nat → Nat} {L nc : Nat} {pt ot : Nat → Int32} {per dy : Nat → Nat → Nat} {gd : Nat → Nat → Bool} {ct td ts : Nat → Nat} {tn : Nat} {P Du S Wy Re : Nat → Nat} {n : Nat} {O : Nat → Nat} {pl ps cap : Nat} {mc th : Int32} {tw PF DF : Nat → Nat} {GF : Nat → Bool} {Le : Nat → Nat} {Sl : Nat → Bool} {g : Nat → Int64} {x : Int32} (h : SV cI cZ cO cJ eA f a0 b0 ob cnt ad bd L nc pt ot per dy gd ct td ts tn P Du S Wy Re n O pl ps cap mc th tw PF DF GF Le Sl g) {r : Option Value} (hp : (fun (r : Option Value) (f2 : g_F) => (∃ k, k < pl ∧ x = nI k ∧ r = some (.int (nI (O k)))) ∧ f2 = f) (r) f1) : (∃ v, r = some (.int v)) ∧ f1 ob = some (.inl (cJ, 1, .inr (.inl g))) ∧ (∃ z, f1 a0 = some (.inr z)) ∧ ∀ i, i < 15 → ∀ x, f (bd i) = some x → f1 (bd i) = some x := by
  obtain ⟨⟨e0, e1, htn⟩, hR, hM, hG, hB, hMB, hIn, hInM, hE0, ⟨hD1, hD2, hD3⟩, hT, hRS, hUR, hUC⟩ := id h
  obtain ⟨⟨hL1, hL5⟩, hnc, hCB, hTB, hUB, hRe, hpl8, hO8, hps⟩ := id hB
  obtain ⟨-, -, -, htw, hct, hPF, hDF, ⟨hpz, hpm, -⟩, hLe⟩ := id hMB
  obtain ⟨hn8, hP, hDu, hS, hWy⟩ := id hUB
  obtain ⟨ht5, htd, hts⟩ := id hTB
  obtain ⟨⟨k, c1, c3, hr⟩, hf⟩ := hp
  subst hf
  exact ⟨⟨_, hr⟩, hG, ⟨_, by rw [← e0]; exact hR.1⟩, fun i hi x hx => hx⟩
set_option maxHeartbeats 4000000 in
set_option maxRecDepth 100000 in
theorem op_planned {cI cZ cO cJ : ClassId} {eA : Nat} {f1 f3 : g_F} {f : g_F} {a0 b0 ob cnt : Nat} {ad bd : Nat → Nat} {L nc : Nat} {pt ot : Nat → Int32} {per dy : Nat → Nat → Nat} {gd : Nat → Nat → Bool} {ct td ts : Nat → Nat} {tn : Nat} {P Du S Wy Re : Nat → Nat} {n : Nat} {O : Nat → Nat} {pl ps cap : Nat} {mc th : Int32} {tw PF DF : Nat → Nat} {GF : Nat → Bool} {Le : Nat → Nat} {Sl : Nat → Bool} {g : Nat → Int64} {x : Int32} (h : SV cI cZ cO cJ eA f a0 b0 ob cnt ad bd L nc pt ot per dy gd ct td ts tn P Du S Wy Re n O pl ps cap mc th tw PF DF GF Le Sl g) {v : Int32} {r2 : Option Value} (hp : (fun (r : Option Value) (f2 : g_F) => (∃ k, k < pl ∧ x = nI k ∧ r = some (.int (nI (O k)))) ∧ f2 = f) (some (.int v)) f1) (hq : (fun (f : g_F) (r : Option Value) (f2 : g_F) => (¬ inR x pl ∧ r = some (.int 0) ∧ f2 = (m_th f bd 1 L nc n pl ps)) ∨ (∃ k, k < pl ∧ x = nI k ∧ r = some (.int (nI (O k))) ∧ f2 = (m_th f bd 0 L nc n pl ps))) (g_u f1 ob (.inl (cJ, 1, .inr (.inl (vp_updL g 0 v.toInt64))))) r2 f3) : r2 = some (.int v) ∧ SIM cI cZ cO cJ eA f3 a0 b0 ob (cnt + 1) (vp_updL g 0 v.toInt64) 0 := by
  obtain ⟨⟨e0, e1, htn⟩, hR, hM, hG, hB, hMB, hIn, hInM, hE0, ⟨hD1, hD2, hD3⟩, hT, hRS, hUR, hUC⟩ := id h
  obtain ⟨⟨hL1, hL5⟩, hnc, hCB, hTB, hUB, hRe, hpl8, hO8, hps⟩ := id hB
  obtain ⟨-, -, -, htw, hct, hPF, hDF, ⟨hpz, hpm, -⟩, hLe⟩ := id hMB
  obtain ⟨hn8, hP, hDu, hS, hWy⟩ := id hUB
  obtain ⟨ht5, htd, hts⟩ := id hTB
  obtain ⟨⟨k, c1, c3, hr⟩, hf⟩ := hp
  subst hf
  have hv := Value.int.inj (Option.some.inj hr)
  rcases hq with ⟨hn, -, -⟩ | ⟨k2, q1, q3, q5, q6⟩
  · exact absurd ⟨k, c1, c3⟩ hn
  · have ek : k = k2 := nI_inj (by omega) (by omega) (c3.symm.trans q3)
    subst ek
    rw [q6]
    refine ⟨?_, sim_ok h 0 _⟩
    rw [q5, hv]
theorem opn_planned {cI cZ cO cJ : ClassId} {eA : Nat} {f3 : g_F} {f : g_F} {a0 b0 ob cnt : Nat} {ad bd : Nat → Nat} {L nc : Nat} {pt ot : Nat → Int32} {per dy : Nat → Nat → Nat} {gd : Nat → Nat → Bool} {ct td ts : Nat → Nat} {tn : Nat} {P Du S Wy Re : Nat → Nat} {n : Nat} {O : Nat → Nat} {pl ps cap : Nat} {mc th : Int32} {tw PF DF : Nat → Nat} {GF : Nat → Bool} {Le : Nat → Nat} {Sl : Nat → Bool} {g : Nat → Int64} {x : Int32} (h : SV cI cZ cO cJ eA f a0 b0 ob cnt ad bd L nc pt ot per dy gd ct td ts tn P Du S Wy Re n O pl ps cap mc th tw PF DF GF Le Sl g) {r2 : Option Value} (hx : (fun E : String => E = "java/lang/IllegalArgumentException" ∧ ¬ (inR x pl)) "java/lang/IllegalArgumentException") (hq : (fun (f : g_F) (r : Option Value) (f2 : g_F) => (¬ inR x pl ∧ r = some (.int 0) ∧ f2 = (m_th f bd 1 L nc n pl ps)) ∨ (∃ k, k < pl ∧ x = nI k ∧ r = some (.int (nI (O k))) ∧ f2 = (m_th f bd 0 L nc n pl ps))) (f) r2 f3) : r2 = some (.int 0) ∧ SIM cI cZ cO cJ eA f3 a0 b0 ob (cnt + 1) g 1 := by
  obtain ⟨⟨e0, e1, htn⟩, hR, hM, hG, hB, hMB, hIn, hInM, hE0, ⟨hD1, hD2, hD3⟩, hT, hRS, hUR, hUC⟩ := id h
  obtain ⟨⟨hL1, hL5⟩, hnc, hCB, hTB, hUB, hRe, hpl8, hO8, hps⟩ := id hB
  obtain ⟨-, -, -, htw, hct, hPF, hDF, ⟨hpz, hpm, -⟩, hLe⟩ := id hMB
  obtain ⟨hn8, hP, hDu, hS, hWy⟩ := id hUB
  obtain ⟨ht5, htd, hts⟩ := id hTB
  obtain ⟨-, hn⟩ := hx
  rcases hq with ⟨-, q1, q2⟩ | q
  · rw [q2]; exact ⟨q1, sim_no h 1⟩
  · exact absurd ((by obtain ⟨k2, q1, q3, -⟩ := q; exact ⟨k2, q1, q3⟩)) hn
