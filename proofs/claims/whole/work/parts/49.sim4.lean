theorem cl_fin {cI cZ cO cJ : ClassId} {f : g_F} {ad : Nat → Nat} {L nc : Nat} {pt ot : Nat → Int32} {per dy : Nat → Nat → Nat} {gd : Nat → Nat → Bool} {ct : Nat → Nat} {td ts : Nat → Nat} {tn : Nat} {P Du S Wy Re : Nat → Nat} {n : Nat} {O : Nat → Nat} {pl ps cap : Nat} {mc : Int32} {f3 : g_F} {bd : Nat → Nat} {ob : Nat} {z : va_E} (hR : cl_R cI cZ cO f ad L nc pt ot per dy gd ct td ts tn P Du S Wy Re n O pl ps cap mc) (hD1 : ∀ i j, i < 13 + 4 * nc → j < 15 → ad i ≠ bd j) (hD2 : ∀ i, i < 13 + 4 * nc → ad i ≠ ob) (hm : m_fr bd (g_u f ob z) f3) : cl_R cI cZ cO f3 ad L nc pt ot per dy gd ct td ts tn P Du S Wy Re n O pl ps cap mc :=
  cl_move hR (fun i hi x hx => (hm _ (fun j hj => hD1 i j hi hj)).trans ((g_u_n (hD2 i hi)).trans hx))
theorem ob_fin {f f3 : g_F} {bd : Nat → Nat} {ob : Nat} {z : va_E} (hD3 : ∀ j, j < 15 → bd j ≠ ob) (hm : m_fr bd (g_u f ob z) f3) : f3 ob = some z := (hm ob (fun j hj => Ne.symm (hD3 j hj))).trans g_u_s
theorem shw_lt {S : Nat → Nat} {i k : Nat} {b : Bool} (hS : ∀ i, S i < 2 ^ 24) (hk : k < 24) : shw S i k b < 2 ^ 24 := by
  cases b with
  | true => exact or_lt (hS i) (Nat.pow_lt_pow_right (by decide) hk)
  | false => exact Nat.xor_lt_two_pow (hS i) (Nat.lt_of_le_of_lt Nat.and_le_left (hS i))
theorem opm_act {cI cZ cO cJ : ClassId} {eA : Nat} {f1 : g_F} {f : g_F} {a0 b0 ob cnt : Nat} {ad bd : Nat → Nat} {L nc : Nat} {pt ot : Nat → Int32} {per dy : Nat → Nat → Nat} {gd : Nat → Nat → Bool} {ct td ts : Nat → Nat} {tn : Nat} {P Du S Wy Re : Nat → Nat} {n : Nat} {O : Nat → Nat} {pl ps cap : Nat} {mc th : Int32} {tw PF DF : Nat → Nat} {GF : Nat → Bool} {Le : Nat → Nat} {Sl : Nat → Bool} {g : Nat → Int64} {x : Int32} {y : Int32} (h : SV cI cZ cO cJ eA f a0 b0 ob cnt ad bd L nc pt ot per dy gd ct td ts tn P Du S Wy Re n O pl ps cap mc th tw PF DF GF Le Sl g) {r : Option Value} (hp : (fun (r : Option Value) (f2 : g_F) => ∃ p_ s_, p_ < 10 ∧ 1 ≤ s_ ∧ s_ ≤ 10000 ∧ x = nI p_ ∧ y = nI s_ ∧ n < 8 ∧ r = some (.int (nI n)) ∧ f2 = g_u (g_u (g_u f (ad 7) (.inl (cI, 8, .inl (fun q9 => nI ((va_up P n p_) q9))))) (ad 8) (.inl (cI, 8, .inl (fun q9 => nI ((va_up Du n s_) q9))))) (ad 6) (.inr (2, [.ref (ad 7), .ref (ad 8), .ref (ad 9), .ref (ad 10), .ref (ad 11), .int (nI (n + 1))]))) (r) f1) : (∃ v, r = some (.int v)) ∧ f1 ob = some (.inl (cJ, 1, .inr (.inl g))) ∧ (∃ z, f1 a0 = some (.inr z)) ∧ ∀ i, i < 15 → ∀ x, f (bd i) = some x → f1 (bd i) = some x := by
  obtain ⟨⟨e0, e1, htn⟩, hR, hM, hG, hB, hMB, hIn, hInM, hE0, ⟨hD1, hD2, hD3⟩, hT, hRS, hUR, hUC⟩ := id h
  obtain ⟨⟨hL1, hL5⟩, hnc, hCB, hTB, hUB, hRe, hpl8, hO8, hps⟩ := id hB
  obtain ⟨-, -, -, htw, hct, hPF, hDF, ⟨hpz, hpm, -⟩, hLe⟩ := id hMB
  obtain ⟨hn8, hP, hDu, hS, hWy⟩ := id hUB
  obtain ⟨ht5, htd, hts⟩ := id hTB
  obtain ⟨p_, s_, c1, c2, c3, c4, c5, c6, hr, hf⟩ := hp
  subst hf
  obtain ⟨hO0, hAL, hTL, hTU, hPL, hCS⟩ := id hR
  exact ⟨⟨_, hr⟩, (g_u_n (Ne.symm (hD2 6 (by omega)))).trans ((g_u_n (Ne.symm (hD2 8 (by omega)))).trans ((g_u_n (Ne.symm (hD2 7 (by omega)))).trans (hG))), ⟨_, by rw [← e0]; exact (g_u_n (fun z => absurd (hIn 0 6 (by omega) (by omega) z) (by omega))).trans ((g_u_n (fun z => absurd (hIn 0 8 (by omega) (by omega) z) (by omega))).trans ((g_u_n (fun z => absurd (hIn 0 7 (by omega) (by omega) z) (by omega))).trans (hO0)))⟩, fun i hi x hx => (g_u_n (Ne.symm (hD1 6 i (by omega) hi))).trans ((g_u_n (Ne.symm (hD1 8 i (by omega) hi))).trans ((g_u_n (Ne.symm (hD1 7 i (by omega) hi))).trans (hx)))⟩
set_option maxHeartbeats 4000000 in
set_option maxRecDepth 100000 in
theorem op_act {cI cZ cO cJ : ClassId} {eA : Nat} {f1 f3 : g_F} {f : g_F} {a0 b0 ob cnt : Nat} {ad bd : Nat → Nat} {L nc : Nat} {pt ot : Nat → Int32} {per dy : Nat → Nat → Nat} {gd : Nat → Nat → Bool} {ct td ts : Nat → Nat} {tn : Nat} {P Du S Wy Re : Nat → Nat} {n : Nat} {O : Nat → Nat} {pl ps cap : Nat} {mc th : Int32} {tw PF DF : Nat → Nat} {GF : Nat → Bool} {Le : Nat → Nat} {Sl : Nat → Bool} {g : Nat → Int64} {x : Int32} {y : Int32} (h : SV cI cZ cO cJ eA f a0 b0 ob cnt ad bd L nc pt ot per dy gd ct td ts tn P Du S Wy Re n O pl ps cap mc th tw PF DF GF Le Sl g) {v : Int32} {r2 : Option Value} (hp : (fun (r : Option Value) (f2 : g_F) => ∃ p_ s_, p_ < 10 ∧ 1 ≤ s_ ∧ s_ ≤ 10000 ∧ x = nI p_ ∧ y = nI s_ ∧ n < 8 ∧ r = some (.int (nI n)) ∧ f2 = g_u (g_u (g_u f (ad 7) (.inl (cI, 8, .inl (fun q9 => nI ((va_up P n p_) q9))))) (ad 8) (.inl (cI, 8, .inl (fun q9 => nI ((va_up Du n s_) q9))))) (ad 6) (.inr (2, [.ref (ad 7), .ref (ad 8), .ref (ad 9), .ref (ad 10), .ref (ad 11), .int (nI (n + 1))]))) (some (.int v)) f1) (hq : (fun (f : g_F) (r : Option Value) (f2 : g_F) => (¬ (inR x 10 ∧ inW y 1 10000) ∧ r = some (.int 0) ∧ f2 = (m_th f bd 1 L nc n pl ps)) ∨ ((inR x 10 ∧ inW y 1 10000) ∧ ¬ n < 8 ∧ r = some (.int 0) ∧ f2 = (m_th f bd 2 L nc n pl ps)) ∨ (∃ p_ s_, p_ < 10 ∧ 1 ≤ s_ ∧ s_ ≤ 10000 ∧ x = nI p_ ∧ y = nI s_ ∧ n < 8 ∧ r = some (.int (nI n)) ∧ mo_R cI cZ f2 bd 0 L nc pt ot (n + 1) (va_up P n p_) (va_up Du n s_) S Wy tw ct PF DF GF pl ps O Le Sl ∧ m_fr bd f f2)) (g_u f1 ob (.inl (cJ, 1, .inr (.inl (vp_updL g 0 v.toInt64))))) r2 f3) : r2 = some (.int v) ∧ SIM cI cZ cO cJ eA f3 a0 b0 ob (cnt + 1) 0 := by
  obtain ⟨⟨e0, e1, htn⟩, hR, hM, hG, hB, hMB, hIn, hInM, hE0, ⟨hD1, hD2, hD3⟩, hT, hRS, hUR, hUC⟩ := id h
  obtain ⟨⟨hL1, hL5⟩, hnc, hCB, hTB, hUB, hRe, hpl8, hO8, hps⟩ := id hB
  obtain ⟨-, -, -, htw, hct, hPF, hDF, ⟨hpz, hpm, -⟩, hLe⟩ := id hMB
  obtain ⟨hn8, hP, hDu, hS, hWy⟩ := id hUB
  obtain ⟨ht5, htd, hts⟩ := id hTB
  obtain ⟨p_, s_, c1, c2, c3, c4, c5, c6, hr, hf⟩ := hp
  subst hf
  obtain ⟨hO0, hAL, hTL, hTU, hPL, hCS⟩ := id hR
  have hv := Value.int.inj (Option.some.inj hr)
  rcases hq with ⟨hn, -, -⟩ | ⟨-, hn, -, -⟩ | ⟨p2, s2, q1, q2, q3, q4, q5, q6, q7, q8, q9⟩
  · exact absurd ⟨⟨p_, c1, c4⟩, ⟨s_, c2, c3, c5⟩⟩ hn
  · exact absurd c6 hn
  · have ek : p_ = p2 := nI_inj (by omega) (by omega) (c4.symm.trans q4)
    have ed : s_ = s2 := nI_inj (by omega) (by omega) (c5.symm.trans q5)
    subst ek; subst ed
    refine ⟨by rw [q7, hv], ad, bd, L, nc, pt, ot, per, dy, gd, ct, td, ts, tn, va_up P n p_, va_up Du n s_, S, Wy, Re, n + 1, O, pl, ps, cap, mc, tw, PF, DF, GF, Le, Sl, vp_updL g 0 v.toInt64, ⟨e0, e1, by omega⟩, ?_, q8, ob_fin hD3 q9, ?_, ?_, hIn, hInM, hE0, ⟨hD1, hD2, hD3⟩, hT, hRS, hUR, hUC⟩
    · refine cl_fin (cJ := cJ) ?_ hD1 hD2 q9
      exact ⟨(g_u_n (fun z => absurd (hIn 0 6 (by omega) (by omega) z) (by omega))).trans ((g_u_n (fun z => absurd (hIn 0 8 (by omega) (by omega) z) (by omega))).trans ((g_u_n (fun z => absurd (hIn 0 7 (by omega) (by omega) z) (by omega))).trans (hO0))), ⟨(g_u_n (fun z => absurd (hIn 1 6 (by omega) (by omega) z) (by omega))).trans ((g_u_n (fun z => absurd (hIn 1 8 (by omega) (by omega) z) (by omega))).trans ((g_u_n (fun z => absurd (hIn 1 7 (by omega) (by omega) z) (by omega))).trans (hAL.1))), hAL.2.1, hAL.2.2.1, fun h0 => (hAL.2.2.2 h0).imp (fun g9 hg => ⟨(g_u_n (fun z => absurd (hIn 2 6 (by omega) (by omega) z) (by omega))).trans ((g_u_n (fun z => absurd (hIn 2 8 (by omega) (by omega) z) (by omega))).trans ((g_u_n (fun z => absurd (hIn 2 7 (by omega) (by omega) z) (by omega))).trans (hg.1))), hg.2⟩)⟩, ⟨(g_u_n (fun z => absurd (hIn 3 6 (by omega) (by omega) z) (by omega))).trans ((g_u_n (fun z => absurd (hIn 3 8 (by omega) (by omega) z) (by omega))).trans ((g_u_n (fun z => absurd (hIn 3 7 (by omega) (by omega) z) (by omega))).trans (hTL.1))), (g_u_n (fun z => absurd (hIn 4 6 (by omega) (by omega) z) (by omega))).trans ((g_u_n (fun z => absurd (hIn 4 8 (by omega) (by omega) z) (by omega))).trans ((g_u_n (fun z => absurd (hIn 4 7 (by omega) (by omega) z) (by omega))).trans (hTL.2.1))), (g_u_n (fun z => absurd (hIn 5 6 (by omega) (by omega) z) (by omega))).trans ((g_u_n (fun z => absurd (hIn 5 8 (by omega) (by omega) z) (by omega))).trans ((g_u_n (fun z => absurd (hIn 5 7 (by omega) (by omega) z) (by omega))).trans (hTL.2.2)))⟩, ⟨g_u_s, (g_u_n (fun z => absurd (hIn 7 6 (by omega) (by omega) z) (by omega))).trans ((g_u_n (fun z => absurd (hIn 7 8 (by omega) (by omega) z) (by omega))).trans (g_u_s)), (g_u_n (fun z => absurd (hIn 8 6 (by omega) (by omega) z) (by omega))).trans (g_u_s), (g_u_n (fun z => absurd (hIn 9 6 (by omega) (by omega) z) (by omega))).trans ((g_u_n (fun z => absurd (hIn 9 8 (by omega) (by omega) z) (by omega))).trans ((g_u_n (fun z => absurd (hIn 9 7 (by omega) (by omega) z) (by omega))).trans (hTU.2.2.2.1))), (g_u_n (fun z => absurd (hIn 10 6 (by omega) (by omega) z) (by omega))).trans ((g_u_n (fun z => absurd (hIn 10 8 (by omega) (by omega) z) (by omega))).trans ((g_u_n (fun z => absurd (hIn 10 7 (by omega) (by omega) z) (by omega))).trans (hTU.2.2.2.2.1))), (g_u_n (fun z => absurd (hIn 11 6 (by omega) (by omega) z) (by omega))).trans ((g_u_n (fun z => absurd (hIn 11 8 (by omega) (by omega) z) (by omega))).trans ((g_u_n (fun z => absurd (hIn 11 7 (by omega) (by omega) z) (by omega))).trans (hTU.2.2.2.2.2)))⟩, (g_u_n (fun z => absurd (hIn 12 6 (by omega) (by omega) z) (by omega))).trans ((g_u_n (fun z => absurd (hIn 12 8 (by omega) (by omega) z) (by omega))).trans ((g_u_n (fun z => absurd (hIn 12 7 (by omega) (by omega) z) (by omega))).trans (hPL))), fun k9 hk9 => ⟨(g_u_n (fun z => absurd (hIn (13 + 4 * k9) 6 (by omega) (by omega) z) (by omega))).trans ((g_u_n (fun z => absurd (hIn (13 + 4 * k9) 8 (by omega) (by omega) z) (by omega))).trans ((g_u_n (fun z => absurd (hIn (13 + 4 * k9) 7 (by omega) (by omega) z) (by omega))).trans ((hCS k9 hk9).1))), (g_u_n (fun z => absurd (hIn (14 + 4 * k9) 6 (by omega) (by omega) z) (by omega))).trans ((g_u_n (fun z => absurd (hIn (14 + 4 * k9) 8 (by omega) (by omega) z) (by omega))).trans ((g_u_n (fun z => absurd (hIn (14 + 4 * k9) 7 (by omega) (by omega) z) (by omega))).trans ((hCS k9 hk9).2.1))), (g_u_n (fun z => absurd (hIn (15 + 4 * k9) 6 (by omega) (by omega) z) (by omega))).trans ((g_u_n (fun z => absurd (hIn (15 + 4 * k9) 8 (by omega) (by omega) z) (by omega))).trans ((g_u_n (fun z => absurd (hIn (15 + 4 * k9) 7 (by omega) (by omega) z) (by omega))).trans ((hCS k9 hk9).2.2.1))), (g_u_n (fun z => absurd (hIn (16 + 4 * k9) 6 (by omega) (by omega) z) (by omega))).trans ((g_u_n (fun z => absurd (hIn (16 + 4 * k9) 8 (by omega) (by omega) z) (by omega))).trans ((g_u_n (fun z => absurd (hIn (16 + 4 * k9) 7 (by omega) (by omega) z) (by omega))).trans ((hCS k9 hk9).2.2.2)))⟩⟩
    · exact ⟨⟨hL1, hL5⟩, hnc, hCB, hTB, ⟨by omega, va_up_all hP c1, va_up_all (Q := fun z => z ≤ 10000) hDu c3, hS, hWy⟩, hRe, hpl8, hO8, hps⟩
    · exact ⟨⟨hL1, hL5⟩, hnc, ⟨by omega, va_up_all hP c1, va_up_all (Q := fun z => z ≤ 10000) hDu c3, hS, hWy⟩, htw, hct, hPF, hDF, ⟨hpz, hpm, hO8⟩, hLe⟩
theorem opn_act {cI cZ cO cJ : ClassId} {eA : Nat} {f3 : g_F} {f : g_F} {a0 b0 ob cnt : Nat} {ad bd : Nat → Nat} {L nc : Nat} {pt ot : Nat → Int32} {per dy : Nat → Nat → Nat} {gd : Nat → Nat → Bool} {ct td ts : Nat → Nat} {tn : Nat} {P Du S Wy Re : Nat → Nat} {n : Nat} {O : Nat → Nat} {pl ps cap : Nat} {mc th : Int32} {tw PF DF : Nat → Nat} {GF : Nat → Bool} {Le : Nat → Nat} {Sl : Nat → Bool} {g : Nat → Int64} {x : Int32} {y : Int32} (h : SV cI cZ cO cJ eA f a0 b0 ob cnt ad bd L nc pt ot per dy gd ct td ts tn P Du S Wy Re n O pl ps cap mc th tw PF DF GF Le Sl g) {r2 : Option Value} (hx : (fun E : String => (E = "java/lang/IllegalArgumentException" ∧ ¬ (inR x 10 ∧ inW y 1 10000)) ∨ (E = "java/lang/IllegalStateException" ∧ (inR x 10 ∧ inW y 1 10000) ∧ ¬ n < 8)) "java/lang/IllegalArgumentException") (hq : (fun (f : g_F) (r : Option Value) (f2 : g_F) => (¬ (inR x 10 ∧ inW y 1 10000) ∧ r = some (.int 0) ∧ f2 = (m_th f bd 1 L nc n pl ps)) ∨ ((inR x 10 ∧ inW y 1 10000) ∧ ¬ n < 8 ∧ r = some (.int 0) ∧ f2 = (m_th f bd 2 L nc n pl ps)) ∨ (∃ p_ s_, p_ < 10 ∧ 1 ≤ s_ ∧ s_ ≤ 10000 ∧ x = nI p_ ∧ y = nI s_ ∧ n < 8 ∧ r = some (.int (nI n)) ∧ mo_R cI cZ f2 bd 0 L nc pt ot (n + 1) (va_up P n p_) (va_up Du n s_) S Wy tw ct PF DF GF pl ps O Le Sl ∧ m_fr bd f f2)) (f) r2 f3) : r2 = some (.int 0) ∧ SIM cI cZ cO cJ eA f3 a0 b0 ob (cnt + 1) 1 := by
  obtain ⟨⟨e0, e1, htn⟩, hR, hM, hG, hB, hMB, hIn, hInM, hE0, ⟨hD1, hD2, hD3⟩, hT, hRS, hUR, hUC⟩ := id h
  obtain ⟨⟨hL1, hL5⟩, hnc, hCB, hTB, hUB, hRe, hpl8, hO8, hps⟩ := id hB
  obtain ⟨-, -, -, htw, hct, hPF, hDF, ⟨hpz, hpm, -⟩, hLe⟩ := id hMB
  obtain ⟨hn8, hP, hDu, hS, hWy⟩ := id hUB
  obtain ⟨ht5, htd, hts⟩ := id hTB
  rcases hx with ⟨-, hn⟩ | ⟨z, -⟩
  · rcases hq with ⟨-, q1, q2⟩ | ⟨q, -⟩ | ⟨p2, s2, q1, q2, q3, q4, q5, -⟩
    · rw [q2]; exact ⟨q1, sim_no h 1⟩
    · exact absurd q hn
    · exact absurd ⟨⟨p2, q1, q4⟩, ⟨s2, q2, q3, q5⟩⟩ hn
  · exact absurd z (by decide)
theorem ops_act {cI cZ cO cJ : ClassId} {eA : Nat} {f3 : g_F} {f : g_F} {a0 b0 ob cnt : Nat} {ad bd : Nat → Nat} {L nc : Nat} {pt ot : Nat → Int32} {per dy : Nat → Nat → Nat} {gd : Nat → Nat → Bool} {ct td ts : Nat → Nat} {tn : Nat} {P Du S Wy Re : Nat → Nat} {n : Nat} {O : Nat → Nat} {pl ps cap : Nat} {mc th : Int32} {tw PF DF : Nat → Nat} {GF : Nat → Bool} {Le : Nat → Nat} {Sl : Nat → Bool} {g : Nat → Int64} {x : Int32} {y : Int32} (h : SV cI cZ cO cJ eA f a0 b0 ob cnt ad bd L nc pt ot per dy gd ct td ts tn P Du S Wy Re n O pl ps cap mc th tw PF DF GF Le Sl g) {r2 : Option Value} (hx : (fun E : String => (E = "java/lang/IllegalArgumentException" ∧ ¬ (inR x 10 ∧ inW y 1 10000)) ∨ (E = "java/lang/IllegalStateException" ∧ (inR x 10 ∧ inW y 1 10000) ∧ ¬ n < 8)) "java/lang/IllegalStateException") (hq : (fun (f : g_F) (r : Option Value) (f2 : g_F) => (¬ (inR x 10 ∧ inW y 1 10000) ∧ r = some (.int 0) ∧ f2 = (m_th f bd 1 L nc n pl ps)) ∨ ((inR x 10 ∧ inW y 1 10000) ∧ ¬ n < 8 ∧ r = some (.int 0) ∧ f2 = (m_th f bd 2 L nc n pl ps)) ∨ (∃ p_ s_, p_ < 10 ∧ 1 ≤ s_ ∧ s_ ≤ 10000 ∧ x = nI p_ ∧ y = nI s_ ∧ n < 8 ∧ r = some (.int (nI n)) ∧ mo_R cI cZ f2 bd 0 L nc pt ot (n + 1) (va_up P n p_) (va_up Du n s_) S Wy tw ct PF DF GF pl ps O Le Sl ∧ m_fr bd f f2)) (f) r2 f3) : r2 = some (.int 0) ∧ SIM cI cZ cO cJ eA f3 a0 b0 ob (cnt + 1) 2 := by
  obtain ⟨⟨e0, e1, htn⟩, hR, hM, hG, hB, hMB, hIn, hInM, hE0, ⟨hD1, hD2, hD3⟩, hT, hRS, hUR, hUC⟩ := id h
  obtain ⟨⟨hL1, hL5⟩, hnc, hCB, hTB, hUB, hRe, hpl8, hO8, hps⟩ := id hB
  obtain ⟨-, -, -, htw, hct, hPF, hDF, ⟨hpz, hpm, -⟩, hLe⟩ := id hMB
  obtain ⟨hn8, hP, hDu, hS, hWy⟩ := id hUB
  obtain ⟨ht5, htd, hts⟩ := id hTB
  rcases hx with ⟨z, -⟩ | ⟨-, hv, hn⟩
  · exact absurd z (by decide)
  · rcases hq with ⟨hn2, -, -⟩ | ⟨-, -, q1, q2⟩ | ⟨p2, s2, q1, q2, q3, q4, q5, q6, -⟩
    · exact absurd hv hn2
    · rw [q2]; exact ⟨q1, sim_no h 2⟩
    · exact absurd q6 hn
theorem opm_shows {cI cZ cO cJ : ClassId} {eA : Nat} {f1 : g_F} {f : g_F} {a0 b0 ob cnt : Nat} {ad bd : Nat → Nat} {L nc : Nat} {pt ot : Nat → Int32} {per dy : Nat → Nat → Nat} {gd : Nat → Nat → Bool} {ct td ts : Nat → Nat} {tn : Nat} {P Du S Wy Re : Nat → Nat} {n : Nat} {O : Nat → Nat} {pl ps cap : Nat} {mc th : Int32} {tw PF DF : Nat → Nat} {GF : Nat → Bool} {Le : Nat → Nat} {Sl : Nat → Bool} {g : Nat → Int64} {x : Int32} {y : Int32} {b : Bool} (h : SV cI cZ cO cJ eA f a0 b0 ob cnt ad bd L nc pt ot per dy gd ct td ts tn P Du S Wy Re n O pl ps cap mc th tw PF DF GF Le Sl g) {r : Option Value} (hp : (fun (r : Option Value) (f2 : g_F) => ∃ i k, i < n ∧ k < nc ∧ x = nI i ∧ y = nI k ∧ r = some (.int (bI ((S i).testBit k))) ∧ f2 = g_u f (ad 9) (.inl (cI, 8, .inl (fun q9 => nI ((va_up S i (shw S i k b)) q9))))) (r) f1) : (∃ v, r = some (.int v)) ∧ f1 ob = some (.inl (cJ, 1, .inr (.inl g))) ∧ (∃ z, f1 a0 = some (.inr z)) ∧ ∀ i, i < 15 → ∀ x, f (bd i) = some x → f1 (bd i) = some x := by
  obtain ⟨⟨e0, e1, htn⟩, hR, hM, hG, hB, hMB, hIn, hInM, hE0, ⟨hD1, hD2, hD3⟩, hT, hRS, hUR, hUC⟩ := id h
  obtain ⟨⟨hL1, hL5⟩, hnc, hCB, hTB, hUB, hRe, hpl8, hO8, hps⟩ := id hB
  obtain ⟨-, -, -, htw, hct, hPF, hDF, ⟨hpz, hpm, -⟩, hLe⟩ := id hMB
  obtain ⟨hn8, hP, hDu, hS, hWy⟩ := id hUB
  obtain ⟨ht5, htd, hts⟩ := id hTB
  obtain ⟨i, k, c1, c2, c3, c4, hr, hf⟩ := hp
  subst hf
  obtain ⟨hO0, hAL, hTL, hTU, hPL, hCS⟩ := id hR
  exact ⟨⟨_, hr⟩, (g_u_n (Ne.symm (hD2 9 (by omega)))).trans (hG), ⟨_, by rw [← e0]; exact (g_u_n (fun z => absurd (hIn 0 9 (by omega) (by omega) z) (by omega))).trans (hO0)⟩, fun i hi x hx => (g_u_n (Ne.symm (hD1 9 i (by omega) hi))).trans (hx)⟩
set_option maxHeartbeats 4000000 in
set_option maxRecDepth 100000 in
theorem op_shows {cI cZ cO cJ : ClassId} {eA : Nat} {f1 f3 : g_F} {f : g_F} {a0 b0 ob cnt : Nat} {ad bd : Nat → Nat} {L nc : Nat} {pt ot : Nat → Int32} {per dy : Nat → Nat → Nat} {gd : Nat → Nat → Bool} {ct td ts : Nat → Nat} {tn : Nat} {P Du S Wy Re : Nat → Nat} {n : Nat} {O : Nat → Nat} {pl ps cap : Nat} {mc th : Int32} {tw PF DF : Nat → Nat} {GF : Nat → Bool} {Le : Nat → Nat} {Sl : Nat → Bool} {g : Nat → Int64} {x : Int32} {y : Int32} {b : Bool} (h : SV cI cZ cO cJ eA f a0 b0 ob cnt ad bd L nc pt ot per dy gd ct td ts tn P Du S Wy Re n O pl ps cap mc th tw PF DF GF Le Sl g) {v : Int32} {r2 : Option Value} (hp : (fun (r : Option Value) (f2 : g_F) => ∃ i k, i < n ∧ k < nc ∧ x = nI i ∧ y = nI k ∧ r = some (.int (bI ((S i).testBit k))) ∧ f2 = g_u f (ad 9) (.inl (cI, 8, .inl (fun q9 => nI ((va_up S i (shw S i k b)) q9))))) (some (.int v)) f1) (hq : (fun (f : g_F) (r : Option Value) (f2 : g_F) => (¬ (inR x n ∧ inR y nc) ∧ r = some (.int 0) ∧ f2 = (m_th f bd 1 L nc n pl ps)) ∨ (∃ i k, i < n ∧ k < nc ∧ x = nI i ∧ y = nI k ∧ r = some (.int (bI ((S i).testBit k))) ∧ mo_R cI cZ f2 bd 0 L nc pt ot n P Du (va_up S i (shw S i k b)) Wy tw ct PF DF GF pl ps O Le Sl ∧ m_fr bd f f2)) (g_u f1 ob (.inl (cJ, 1, .inr (.inl (vp_updL g 0 (if v = 0 then 0 else 1)))))) r2 f3) : r2 = some (.int v) ∧ SIM cI cZ cO cJ eA f3 a0 b0 ob (cnt + 1) 0 := by
  obtain ⟨⟨e0, e1, htn⟩, hR, hM, hG, hB, hMB, hIn, hInM, hE0, ⟨hD1, hD2, hD3⟩, hT, hRS, hUR, hUC⟩ := id h
  obtain ⟨⟨hL1, hL5⟩, hnc, hCB, hTB, hUB, hRe, hpl8, hO8, hps⟩ := id hB
  obtain ⟨-, -, -, htw, hct, hPF, hDF, ⟨hpz, hpm, -⟩, hLe⟩ := id hMB
  obtain ⟨hn8, hP, hDu, hS, hWy⟩ := id hUB
  obtain ⟨ht5, htd, hts⟩ := id hTB
  obtain ⟨i, k, c1, c2, c3, c4, hr, hf⟩ := hp
  subst hf
  obtain ⟨hO0, hAL, hTL, hTU, hPL, hCS⟩ := id hR
  have hv := Value.int.inj (Option.some.inj hr)
  rcases hq with ⟨hn, -, -⟩ | ⟨i2, k2, q1, q2, q3, q4, q7, q8, q9⟩
  · exact absurd ⟨⟨i, c1, c3⟩, ⟨k, c2, c4⟩⟩ hn
  · have ek : i = i2 := nI_inj (by omega) (by omega) (c3.symm.trans q3)
    have ed : k = k2 := nI_inj (by omega) (by omega) (c4.symm.trans q4)
    subst ek; subst ed
    refine ⟨by rw [q7, hv], ad, bd, L, nc, pt, ot, per, dy, gd, ct, td, ts, tn, P, Du, va_up S i (shw S i k b), Wy, Re, n, O, pl, ps, cap, mc, tw, PF, DF, GF, Le, Sl, vp_updL g 0 (if v = 0 then 0 else 1), ⟨e0, e1, by omega⟩, ?_, q8, ob_fin hD3 q9, ?_, ?_, hIn, hInM, hE0, ⟨hD1, hD2, hD3⟩, hT, hRS, hUR, hUC⟩
    · refine cl_fin (cJ := cJ) ?_ hD1 hD2 q9
      exact ⟨(g_u_n (fun z => absurd (hIn 0 9 (by omega) (by omega) z) (by omega))).trans (hO0), ⟨(g_u_n (fun z => absurd (hIn 1 9 (by omega) (by omega) z) (by omega))).trans (hAL.1), hAL.2.1, hAL.2.2.1, fun h0 => (hAL.2.2.2 h0).imp (fun g9 hg => ⟨(g_u_n (fun z => absurd (hIn 2 9 (by omega) (by omega) z) (by omega))).trans (hg.1), hg.2⟩)⟩, ⟨(g_u_n (fun z => absurd (hIn 3 9 (by omega) (by omega) z) (by omega))).trans (hTL.1), (g_u_n (fun z => absurd (hIn 4 9 (by omega) (by omega) z) (by omega))).trans (hTL.2.1), (g_u_n (fun z => absurd (hIn 5 9 (by omega) (by omega) z) (by omega))).trans (hTL.2.2)⟩, ⟨(g_u_n (fun z => absurd (hIn 6 9 (by omega) (by omega) z) (by omega))).trans (hTU.1), (g_u_n (fun z => absurd (hIn 7 9 (by omega) (by omega) z) (by omega))).trans (hTU.2.1), (g_u_n (fun z => absurd (hIn 8 9 (by omega) (by omega) z) (by omega))).trans (hTU.2.2.1), g_u_s, (g_u_n (fun z => absurd (hIn 10 9 (by omega) (by omega) z) (by omega))).trans (hTU.2.2.2.2.1), (g_u_n (fun z => absurd (hIn 11 9 (by omega) (by omega) z) (by omega))).trans (hTU.2.2.2.2.2)⟩, (g_u_n (fun z => absurd (hIn 12 9 (by omega) (by omega) z) (by omega))).trans (hPL), fun k9 hk9 => ⟨(g_u_n (fun z => absurd (hIn (13 + 4 * k9) 9 (by omega) (by omega) z) (by omega))).trans ((hCS k9 hk9).1), (g_u_n (fun z => absurd (hIn (14 + 4 * k9) 9 (by omega) (by omega) z) (by omega))).trans ((hCS k9 hk9).2.1), (g_u_n (fun z => absurd (hIn (15 + 4 * k9) 9 (by omega) (by omega) z) (by omega))).trans ((hCS k9 hk9).2.2.1), (g_u_n (fun z => absurd (hIn (16 + 4 * k9) 9 (by omega) (by omega) z) (by omega))).trans ((hCS k9 hk9).2.2.2)⟩⟩
    · exact ⟨⟨hL1, hL5⟩, hnc, hCB, hTB, ⟨hn8, hP, hDu, va_up_all hS (shw_lt hS (by omega)), hWy⟩, hRe, hpl8, hO8, hps⟩
    · exact ⟨⟨hL1, hL5⟩, hnc, ⟨hn8, hP, hDu, va_up_all hS (shw_lt hS (by omega)), hWy⟩, htw, hct, hPF, hDF, ⟨hpz, hpm, hO8⟩, hLe⟩
theorem opn_shows {cI cZ cO cJ : ClassId} {eA : Nat} {f3 : g_F} {f : g_F} {a0 b0 ob cnt : Nat} {ad bd : Nat → Nat} {L nc : Nat} {pt ot : Nat → Int32} {per dy : Nat → Nat → Nat} {gd : Nat → Nat → Bool} {ct td ts : Nat → Nat} {tn : Nat} {P Du S Wy Re : Nat → Nat} {n : Nat} {O : Nat → Nat} {pl ps cap : Nat} {mc th : Int32} {tw PF DF : Nat → Nat} {GF : Nat → Bool} {Le : Nat → Nat} {Sl : Nat → Bool} {g : Nat → Int64} {x : Int32} {y : Int32} {b : Bool} (h : SV cI cZ cO cJ eA f a0 b0 ob cnt ad bd L nc pt ot per dy gd ct td ts tn P Du S Wy Re n O pl ps cap mc th tw PF DF GF Le Sl g) {r2 : Option Value} (hx : (fun E : String => E = "java/lang/IllegalArgumentException" ∧ ¬ (inR x n ∧ inR y nc)) "java/lang/IllegalArgumentException") (hq : (fun (f : g_F) (r : Option Value) (f2 : g_F) => (¬ (inR x n ∧ inR y nc) ∧ r = some (.int 0) ∧ f2 = (m_th f bd 1 L nc n pl ps)) ∨ (∃ i k, i < n ∧ k < nc ∧ x = nI i ∧ y = nI k ∧ r = some (.int (bI ((S i).testBit k))) ∧ mo_R cI cZ f2 bd 0 L nc pt ot n P Du (va_up S i (shw S i k b)) Wy tw ct PF DF GF pl ps O Le Sl ∧ m_fr bd f f2)) (f) r2 f3) : r2 = some (.int 0) ∧ SIM cI cZ cO cJ eA f3 a0 b0 ob (cnt + 1) 1 := by
  obtain ⟨⟨e0, e1, htn⟩, hR, hM, hG, hB, hMB, hIn, hInM, hE0, ⟨hD1, hD2, hD3⟩, hT, hRS, hUR, hUC⟩ := id h
  obtain ⟨⟨hL1, hL5⟩, hnc, hCB, hTB, hUB, hRe, hpl8, hO8, hps⟩ := id hB
  obtain ⟨-, -, -, htw, hct, hPF, hDF, ⟨hpz, hpm, -⟩, hLe⟩ := id hMB
  obtain ⟨hn8, hP, hDu, hS, hWy⟩ := id hUB
  obtain ⟨ht5, htd, hts⟩ := id hTB
  obtain ⟨-, hn⟩ := hx
  rcases hq with ⟨-, q1, q2⟩ | q
  · rw [q2]; exact ⟨q1, sim_no h 1⟩
  · exact absurd ((by obtain ⟨i2, k2, q1, q2, q3, q4, -⟩ := q; exact ⟨⟨i2, q1, q3⟩, ⟨k2, q2, q4⟩⟩)) hn
theorem opm_way {cI cZ cO cJ : ClassId} {eA : Nat} {f1 : g_F} {f : g_F} {a0 b0 ob cnt : Nat} {ad bd : Nat → Nat} {L nc : Nat} {pt ot : Nat → Int32} {per dy : Nat → Nat → Nat} {gd : Nat → Nat → Bool} {ct td ts : Nat → Nat} {tn : Nat} {P Du S Wy Re : Nat → Nat} {n : Nat} {O : Nat → Nat} {pl ps cap : Nat} {mc th : Int32} {tw PF DF : Nat → Nat} {GF : Nat → Bool} {Le : Nat → Nat} {Sl : Nat → Bool} {g : Nat → Int64} {x : Int32} {y : Int32} {w : Int32} (h : SV cI cZ cO cJ eA f a0 b0 ob cnt ad bd L nc pt ot per dy gd ct td ts tn P Du S Wy Re n O pl ps cap mc th tw PF DF GF Le Sl g) {r : Option Value} (hp : (fun (r : Option Value) (f2 : g_F) => ∃ i j s_, i < 10 ∧ j < 10 ∧ i ≠ j ∧ s_ ≤ 10000 ∧ x = nI i ∧ y = nI j ∧ w = nI s_ ∧ r = some (.int (nI (Wy (i * 10 + j)))) ∧ f2 = g_u f (ad 10) (.inl (cI, 100, .inl (fun q9 => nI ((va_up (va_up Wy (i * 10 + j) s_) (j * 10 + i) s_) q9))))) (r) f1) : (∃ v, r = some (.int v)) ∧ f1 ob = some (.inl (cJ, 1, .inr (.inl g))) ∧ (∃ z, f1 a0 = some (.inr z)) ∧ ∀ i, i < 15 → ∀ x, f (bd i) = some x → f1 (bd i) = some x := by
  obtain ⟨⟨e0, e1, htn⟩, hR, hM, hG, hB, hMB, hIn, hInM, hE0, ⟨hD1, hD2, hD3⟩, hT, hRS, hUR, hUC⟩ := id h
  obtain ⟨⟨hL1, hL5⟩, hnc, hCB, hTB, hUB, hRe, hpl8, hO8, hps⟩ := id hB
  obtain ⟨-, -, -, htw, hct, hPF, hDF, ⟨hpz, hpm, -⟩, hLe⟩ := id hMB
  obtain ⟨hn8, hP, hDu, hS, hWy⟩ := id hUB
  obtain ⟨ht5, htd, hts⟩ := id hTB
  obtain ⟨i, j, s_, c1, c2, c3, c4, c5, c6, c7, hr, hf⟩ := hp
  subst hf
  obtain ⟨hO0, hAL, hTL, hTU, hPL, hCS⟩ := id hR
  exact ⟨⟨_, hr⟩, (g_u_n (Ne.symm (hD2 10 (by omega)))).trans (hG), ⟨_, by rw [← e0]; exact (g_u_n (fun z => absurd (hIn 0 10 (by omega) (by omega) z) (by omega))).trans (hO0)⟩, fun i hi x hx => (g_u_n (Ne.symm (hD1 10 i (by omega) hi))).trans (hx)⟩
set_option maxHeartbeats 4000000 in
set_option maxRecDepth 100000 in
theorem op_way {cI cZ cO cJ : ClassId} {eA : Nat} {f1 f3 : g_F} {f : g_F} {a0 b0 ob cnt : Nat} {ad bd : Nat → Nat} {L nc : Nat} {pt ot : Nat → Int32} {per dy : Nat → Nat → Nat} {gd : Nat → Nat → Bool} {ct td ts : Nat → Nat} {tn : Nat} {P Du S Wy Re : Nat → Nat} {n : Nat} {O : Nat → Nat} {pl ps cap : Nat} {mc th : Int32} {tw PF DF : Nat → Nat} {GF : Nat → Bool} {Le : Nat → Nat} {Sl : Nat → Bool} {g : Nat → Int64} {x : Int32} {y : Int32} {w : Int32} (h : SV cI cZ cO cJ eA f a0 b0 ob cnt ad bd L nc pt ot per dy gd ct td ts tn P Du S Wy Re n O pl ps cap mc th tw PF DF GF Le Sl g) {v : Int32} {r2 : Option Value} (hp : (fun (r : Option Value) (f2 : g_F) => ∃ i j s_, i < 10 ∧ j < 10 ∧ i ≠ j ∧ s_ ≤ 10000 ∧ x = nI i ∧ y = nI j ∧ w = nI s_ ∧ r = some (.int (nI (Wy (i * 10 + j)))) ∧ f2 = g_u f (ad 10) (.inl (cI, 100, .inl (fun q9 => nI ((va_up (va_up Wy (i * 10 + j) s_) (j * 10 + i) s_) q9))))) (some (.int v)) f1) (hq : (fun (f : g_F) (r : Option Value) (f2 : g_F) => (¬ (inR x 10 ∧ inR y 10 ∧ ¬ x = y ∧ inW w 0 10000) ∧ r = some (.int 0) ∧ f2 = (m_th f bd 1 L nc n pl ps)) ∨ (∃ i j s_, i < 10 ∧ j < 10 ∧ i ≠ j ∧ s_ ≤ 10000 ∧ x = nI i ∧ y = nI j ∧ w = nI s_ ∧ r = some (.int (nI (Wy (i * 10 + j)))) ∧ mo_R cI cZ f2 bd 0 L nc pt ot n P Du S (va_up (va_up Wy (i * 10 + j) s_) (j * 10 + i) s_) tw ct PF DF GF pl ps O Le Sl ∧ m_fr bd f f2)) (g_u f1 ob (.inl (cJ, 1, .inr (.inl (vp_updL g 0 v.toInt64))))) r2 f3) : r2 = some (.int v) ∧ SIM cI cZ cO cJ eA f3 a0 b0 ob (cnt + 1) 0 := by
  obtain ⟨⟨e0, e1, htn⟩, hR, hM, hG, hB, hMB, hIn, hInM, hE0, ⟨hD1, hD2, hD3⟩, hT, hRS, hUR, hUC⟩ := id h
  obtain ⟨⟨hL1, hL5⟩, hnc, hCB, hTB, hUB, hRe, hpl8, hO8, hps⟩ := id hB
  obtain ⟨-, -, -, htw, hct, hPF, hDF, ⟨hpz, hpm, -⟩, hLe⟩ := id hMB
  obtain ⟨hn8, hP, hDu, hS, hWy⟩ := id hUB
  obtain ⟨ht5, htd, hts⟩ := id hTB
  obtain ⟨i, j, s_, c1, c2, c3, c4, c5, c6, c7, hr, hf⟩ := hp
  subst hf
  obtain ⟨hO0, hAL, hTL, hTU, hPL, hCS⟩ := id hR
  have hv := Value.int.inj (Option.some.inj hr)
  rcases hq with ⟨hn, -, -⟩ | ⟨i2, j2, s2, q1, q2, q3, q4, q5, q6, q7, q8, q9, q10⟩
  · exact absurd ⟨⟨i, c1, c5⟩, ⟨j, c2, c6⟩, fun z => c3 (nI_inj (by omega) (by omega) (c5.symm.trans (z.trans c6))), ⟨s_, Nat.zero_le _, c4, c7⟩⟩ hn
  · have ek : i = i2 := nI_inj (by omega) (by omega) (c5.symm.trans q5)
    have ed : j = j2 := nI_inj (by omega) (by omega) (c6.symm.trans q6)
    have es : s_ = s2 := nI_inj (by omega) (by omega) (c7.symm.trans q7)
    subst ek; subst ed; subst es
    refine ⟨by rw [q8, hv], ad, bd, L, nc, pt, ot, per, dy, gd, ct, td, ts, tn, P, Du, S, va_up (va_up Wy (i * 10 + j) s_) (j * 10 + i) s_, Re, n, O, pl, ps, cap, mc, tw, PF, DF, GF, Le, Sl, vp_updL g 0 v.toInt64, ⟨e0, e1, by omega⟩, ?_, q9, ob_fin hD3 q10, ?_, ?_, hIn, hInM, hE0, ⟨hD1, hD2, hD3⟩, hT, hRS, hUR, hUC⟩
    · refine cl_fin (cJ := cJ) ?_ hD1 hD2 q10
      exact ⟨(g_u_n (fun z => absurd (hIn 0 10 (by omega) (by omega) z) (by omega))).trans (hO0), ⟨(g_u_n (fun z => absurd (hIn 1 10 (by omega) (by omega) z) (by omega))).trans (hAL.1), hAL.2.1, hAL.2.2.1, fun h0 => (hAL.2.2.2 h0).imp (fun g9 hg => ⟨(g_u_n (fun z => absurd (hIn 2 10 (by omega) (by omega) z) (by omega))).trans (hg.1), hg.2⟩)⟩, ⟨(g_u_n (fun z => absurd (hIn 3 10 (by omega) (by omega) z) (by omega))).trans (hTL.1), (g_u_n (fun z => absurd (hIn 4 10 (by omega) (by omega) z) (by omega))).trans (hTL.2.1), (g_u_n (fun z => absurd (hIn 5 10 (by omega) (by omega) z) (by omega))).trans (hTL.2.2)⟩, ⟨(g_u_n (fun z => absurd (hIn 6 10 (by omega) (by omega) z) (by omega))).trans (hTU.1), (g_u_n (fun z => absurd (hIn 7 10 (by omega) (by omega) z) (by omega))).trans (hTU.2.1), (g_u_n (fun z => absurd (hIn 8 10 (by omega) (by omega) z) (by omega))).trans (hTU.2.2.1), (g_u_n (fun z => absurd (hIn 9 10 (by omega) (by omega) z) (by omega))).trans (hTU.2.2.2.1), g_u_s, (g_u_n (fun z => absurd (hIn 11 10 (by omega) (by omega) z) (by omega))).trans (hTU.2.2.2.2.2)⟩, (g_u_n (fun z => absurd (hIn 12 10 (by omega) (by omega) z) (by omega))).trans (hPL), fun k9 hk9 => ⟨(g_u_n (fun z => absurd (hIn (13 + 4 * k9) 10 (by omega) (by omega) z) (by omega))).trans ((hCS k9 hk9).1), (g_u_n (fun z => absurd (hIn (14 + 4 * k9) 10 (by omega) (by omega) z) (by omega))).trans ((hCS k9 hk9).2.1), (g_u_n (fun z => absurd (hIn (15 + 4 * k9) 10 (by omega) (by omega) z) (by omega))).trans ((hCS k9 hk9).2.2.1), (g_u_n (fun z => absurd (hIn (16 + 4 * k9) 10 (by omega) (by omega) z) (by omega))).trans ((hCS k9 hk9).2.2.2)⟩⟩
    · exact ⟨⟨hL1, hL5⟩, hnc, hCB, hTB, ⟨hn8, hP, hDu, hS, va_up_all (Q := fun z => z ≤ 10000) (va_up_all (Q := fun z => z ≤ 10000) hWy c4) c4⟩, hRe, hpl8, hO8, hps⟩
    · exact ⟨⟨hL1, hL5⟩, hnc, ⟨hn8, hP, hDu, hS, va_up_all (Q := fun z => z ≤ 10000) (va_up_all (Q := fun z => z ≤ 10000) hWy c4) c4⟩, htw, hct, hPF, hDF, ⟨hpz, hpm, hO8⟩, hLe⟩
theorem opn_way {cI cZ cO cJ : ClassId} {eA : Nat} {f3 : g_F} {f : g_F} {a0 b0 ob cnt : Nat} {ad bd : Nat → Nat} {L nc : Nat} {pt ot : Nat → Int32} {per dy : Nat → Nat → Nat} {gd : Nat → Nat → Bool} {ct td ts : Nat → Nat} {tn : Nat} {P Du S Wy Re : Nat → Nat} {n : Nat} {O : Nat → Nat} {pl ps cap : Nat} {mc th : Int32} {tw PF DF : Nat → Nat} {GF : Nat → Bool} {Le : Nat → Nat} {Sl : Nat → Bool} {g : Nat → Int64} {x : Int32} {y : Int32} {w : Int32} (h : SV cI cZ cO cJ eA f a0 b0 ob cnt ad bd L nc pt ot per dy gd ct td ts tn P Du S Wy Re n O pl ps cap mc th tw PF DF GF Le Sl g) {r2 : Option Value} (hx : (fun E : String => E = "java/lang/IllegalArgumentException" ∧ ¬ (inR x 10 ∧ inR y 10 ∧ ¬ x = y ∧ inW w 0 10000)) "java/lang/IllegalArgumentException") (hq : (fun (f : g_F) (r : Option Value) (f2 : g_F) => (¬ (inR x 10 ∧ inR y 10 ∧ ¬ x = y ∧ inW w 0 10000) ∧ r = some (.int 0) ∧ f2 = (m_th f bd 1 L nc n pl ps)) ∨ (∃ i j s_, i < 10 ∧ j < 10 ∧ i ≠ j ∧ s_ ≤ 10000 ∧ x = nI i ∧ y = nI j ∧ w = nI s_ ∧ r = some (.int (nI (Wy (i * 10 + j)))) ∧ mo_R cI cZ f2 bd 0 L nc pt ot n P Du S (va_up (va_up Wy (i * 10 + j) s_) (j * 10 + i) s_) tw ct PF DF GF pl ps O Le Sl ∧ m_fr bd f f2)) (f) r2 f3) : r2 = some (.int 0) ∧ SIM cI cZ cO cJ eA f3 a0 b0 ob (cnt + 1) 1 := by
  obtain ⟨⟨e0, e1, htn⟩, hR, hM, hG, hB, hMB, hIn, hInM, hE0, ⟨hD1, hD2, hD3⟩, hT, hRS, hUR, hUC⟩ := id h
  obtain ⟨⟨hL1, hL5⟩, hnc, hCB, hTB, hUB, hRe, hpl8, hO8, hps⟩ := id hB
  obtain ⟨-, -, -, htw, hct, hPF, hDF, ⟨hpz, hpm, -⟩, hLe⟩ := id hMB
  obtain ⟨hn8, hP, hDu, hS, hWy⟩ := id hUB
  obtain ⟨ht5, htd, hts⟩ := id hTB
  obtain ⟨-, hn⟩ := hx
  rcases hq with ⟨-, q1, q2⟩ | q
  · rw [q2]; exact ⟨q1, sim_no h 1⟩
  · exact absurd ((by obtain ⟨i2, j2, s2, q1, q2, q3, q4, q5, q6, q7, -⟩ := q; exact ⟨⟨i2, q1, q5⟩, ⟨j2, q2, q6⟩, fun z => q3 (nI_inj (by omega) (by omega) (q5.symm.trans (z.trans q6))), ⟨s2, Nat.zero_le _, q4, q7⟩⟩)) hn
theorem opm_from {cI cZ cO cJ : ClassId} {eA : Nat} {f1 : g_F} {f : g_F} {a0 b0 ob cnt : Nat} {ad bd : Nat → Nat} {L nc : Nat} {pt ot : Nat → Int32} {per dy : Nat → Nat → Nat} {gd : Nat → Nat → Bool} {ct td ts : Nat → Nat} {tn : Nat} {P Du S Wy Re : Nat → Nat} {n : Nat} {O : Nat → Nat} {pl ps cap : Nat} {mc th : Int32} {tw PF DF : Nat → Nat} {GF : Nat → Bool} {Le : Nat → Nat} {Sl : Nat → Bool} {g : Nat → Int64} {x : Int32} (h : SV cI cZ cO cJ eA f a0 b0 ob cnt ad bd L nc pt ot per dy gd ct td ts tn P Du S Wy Re n O pl ps cap mc th tw PF DF GF Le Sl g) {r : Option Value} (hp : (fun (r : Option Value) (f2 : g_F) => ∃ k, k < n ∧ x = nI k ∧ ((S k = 0 ∧ r = some (.int (-1)) ∧ f2 = f) ∨ (S k ≠ 0 ∧ ∃ Re2 : Nat → Nat, bellA P Du S Wy n (orS S (2 ^ n - 1) n) Re2 0 ∧ r = some (.int (nI (wF Du Re2 k / 16))) ∧ f2 = tu_w cI f (fun i => ad (7 + i)) Re2))) (r) f1) : (∃ v, r = some (.int v)) ∧ f1 ob = some (.inl (cJ, 1, .inr (.inl g))) ∧ (∃ z, f1 a0 = some (.inr z)) ∧ ∀ i, i < 15 → ∀ x, f (bd i) = some x → f1 (bd i) = some x := by
  obtain ⟨⟨e0, e1, htn⟩, hR, hM, hG, hB, hMB, hIn, hInM, hE0, ⟨hD1, hD2, hD3⟩, hT, hRS, hUR, hUC⟩ := id h
  obtain ⟨⟨hL1, hL5⟩, hnc, hCB, hTB, hUB, hRe, hpl8, hO8, hps⟩ := id hB
  obtain ⟨-, -, -, htw, hct, hPF, hDF, ⟨hpz, hpm, -⟩, hLe⟩ := id hMB
  obtain ⟨hn8, hP, hDu, hS, hWy⟩ := id hUB
  obtain ⟨ht5, htd, hts⟩ := id hTB
  obtain ⟨k, c1, c2, hc⟩ := hp
  obtain ⟨hO0, hAL, hTL, hTU, hPL, hCS⟩ := id hR
  rcases hc with ⟨-, hr, hf⟩ | ⟨-, Re2, -, hr, hf⟩
  · subst hf; exact ⟨⟨_, hr⟩, hG, ⟨_, by rw [← e0]; exact hO0⟩, fun i hi x hx => hx⟩
  · subst hf; exact ⟨⟨_, hr⟩, (g_u_n (Ne.symm (hD2 11 (by omega)))).trans (hG), ⟨_, by rw [← e0]; exact (g_u_n (fun z => absurd (hIn 0 11 (by omega) (by omega) z) (by omega))).trans (hO0)⟩, fun i hi x hx => (g_u_n (Ne.symm (hD1 11 i (by omega) hi))).trans (hx)⟩
set_option maxHeartbeats 4000000 in
set_option maxRecDepth 100000 in
theorem op_from {cI cZ cO cJ : ClassId} {eA : Nat} {f1 f3 : g_F} {f : g_F} {a0 b0 ob cnt : Nat} {ad bd : Nat → Nat} {L nc : Nat} {pt ot : Nat → Int32} {per dy : Nat → Nat → Nat} {gd : Nat → Nat → Bool} {ct td ts : Nat → Nat} {tn : Nat} {P Du S Wy Re : Nat → Nat} {n : Nat} {O : Nat → Nat} {pl ps cap : Nat} {mc th : Int32} {tw PF DF : Nat → Nat} {GF : Nat → Bool} {Le : Nat → Nat} {Sl : Nat → Bool} {g : Nat → Int64} {x : Int32} (h : SV cI cZ cO cJ eA f a0 b0 ob cnt ad bd L nc pt ot per dy gd ct td ts tn P Du S Wy Re n O pl ps cap mc th tw PF DF GF Le Sl g) {v : Int32} {r2 : Option Value} (hp : (fun (r : Option Value) (f2 : g_F) => ∃ k, k < n ∧ x = nI k ∧ ((S k = 0 ∧ r = some (.int (-1)) ∧ f2 = f) ∨ (S k ≠ 0 ∧ ∃ Re2 : Nat → Nat, bellA P Du S Wy n (orS S (2 ^ n - 1) n) Re2 0 ∧ r = some (.int (nI (wF Du Re2 k / 16))) ∧ f2 = tu_w cI f (fun i => ad (7 + i)) Re2))) (some (.int v)) f1) (hq : (fun (f : g_F) (r : Option Value) (f2 : g_F) => (¬ inR x n ∧ r = some (.int 0) ∧ f2 = (m_th f bd 1 L nc n pl ps)) ∨ (∃ k, k < n ∧ x = nI k ∧ ((S k = 0 ∧ r = some (.int (-1)) ∧ f2 = (m_th f bd 0 L nc n pl ps)) ∨ (S k ≠ 0 ∧ ∃ Le2 : Nat → Nat, (∀ i, Le2 i ≤ 1000010000) ∧ bellR P Du Wy n Le2 (2 ^ n) ∧ r = some (.int (nI (frb S Le2 n k (2 ^ n - 1)))) ∧ f2 = mo_l cI (m_th f bd 0 L nc n pl ps) bd Le2)))) (g_u f1 ob (.inl (cJ, 1, .inr (.inl (vp_updL g 0 v.toInt64))))) r2 f3) : r2 = some (.int v) ∧ SIM cI cZ cO cJ eA f3 a0 b0 ob (cnt + 1) 0 := by
  obtain ⟨⟨e0, e1, htn⟩, hR, hM, hG, hB, hMB, hIn, hInM, hE0, ⟨hD1, hD2, hD3⟩, hT, hRS, hUR, hUC⟩ := id h
  obtain ⟨⟨hL1, hL5⟩, hnc, hCB, hTB, hUB, hRe, hpl8, hO8, hps⟩ := id hB
  obtain ⟨-, -, -, htw, hct, hPF, hDF, ⟨hpz, hpm, -⟩, hLe⟩ := id hMB
  obtain ⟨hn8, hP, hDu, hS, hWy⟩ := id hUB
  obtain ⟨ht5, htd, hts⟩ := id hTB
  obtain ⟨k, c1, c2, hc⟩ := hp
  obtain ⟨hO0, hAL, hTL, hTU, hPL, hCS⟩ := id hR
  rcases hq with ⟨hn, -, -⟩ | ⟨k2, q1, q2, hq2⟩
  · exact absurd ⟨k, c1, c2⟩ hn
  · have ek : k = k2 := nI_inj (by omega) (by omega) (c2.symm.trans q2)
    subst ek
    rcases hc with ⟨z1, hr, hf⟩ | ⟨z1, Re2, hA, hr, hf⟩
    · subst hf
      have hv := Value.int.inj (Option.some.inj hr)
      rcases hq2 with ⟨-, q3, q4⟩ | ⟨z2, -⟩
      · rw [q4]; exact ⟨by rw [q3, hv], sim_ok h 0 _⟩
      · exact absurd z1 z2
    · subst hf
      have hv := Value.int.inj (Option.some.inj hr)
      rcases hq2 with ⟨z2, -⟩ | ⟨-, Le2, hb, hbl, q3, q4⟩
      · exact absurd z2 z1
      · refine ⟨by rw [q3, hv, from_eq hn8 hDu hWy c1 hbl hA], ?_⟩
        have h1 : SV cI cZ cO cJ eA (tu_w cI f (fun i => ad (7 + i)) Re2) a0 b0 ob cnt ad bd L nc pt ot per dy gd ct td ts tn P Du S Wy Re2 n O pl ps cap mc th tw PF DF GF Le Sl g := ⟨⟨e0, e1, htn⟩, ⟨(g_u_n (fun z => absurd (hIn 0 11 (by omega) (by omega) z) (by omega))).trans (hO0), ⟨(g_u_n (fun z => absurd (hIn 1 11 (by omega) (by omega) z) (by omega))).trans (hAL.1), hAL.2.1, hAL.2.2.1, fun h0 => (hAL.2.2.2 h0).imp (fun g9 hg => ⟨(g_u_n (fun z => absurd (hIn 2 11 (by omega) (by omega) z) (by omega))).trans (hg.1), hg.2⟩)⟩, ⟨(g_u_n (fun z => absurd (hIn 3 11 (by omega) (by omega) z) (by omega))).trans (hTL.1), (g_u_n (fun z => absurd (hIn 4 11 (by omega) (by omega) z) (by omega))).trans (hTL.2.1), (g_u_n (fun z => absurd (hIn 5 11 (by omega) (by omega) z) (by omega))).trans (hTL.2.2)⟩, ⟨(g_u_n (fun z => absurd (hIn 6 11 (by omega) (by omega) z) (by omega))).trans (hTU.1), (g_u_n (fun z => absurd (hIn 7 11 (by omega) (by omega) z) (by omega))).trans (hTU.2.1), (g_u_n (fun z => absurd (hIn 8 11 (by omega) (by omega) z) (by omega))).trans (hTU.2.2.1), (g_u_n (fun z => absurd (hIn 9 11 (by omega) (by omega) z) (by omega))).trans (hTU.2.2.2.1), (g_u_n (fun z => absurd (hIn 10 11 (by omega) (by omega) z) (by omega))).trans (hTU.2.2.2.2.1), g_u_s⟩, (g_u_n (fun z => absurd (hIn 12 11 (by omega) (by omega) z) (by omega))).trans (hPL), fun k9 hk9 => ⟨(g_u_n (fun z => absurd (hIn (13 + 4 * k9) 11 (by omega) (by omega) z) (by omega))).trans ((hCS k9 hk9).1), (g_u_n (fun z => absurd (hIn (14 + 4 * k9) 11 (by omega) (by omega) z) (by omega))).trans ((hCS k9 hk9).2.1), (g_u_n (fun z => absurd (hIn (15 + 4 * k9) 11 (by omega) (by omega) z) (by omega))).trans ((hCS k9 hk9).2.2.1), (g_u_n (fun z => absurd (hIn (16 + 4 * k9) 11 (by omega) (by omega) z) (by omega))).trans ((hCS k9 hk9).2.2.2)⟩⟩, mo_move hM (fun i hi x hx => (g_u_n (Ne.symm (hD1 11 i (by omega) hi))).trans (hx)), (g_u_n (Ne.symm (hD2 11 (by omega)))).trans (hG), ⟨⟨hL1, hL5⟩, hnc, hCB, hTB, hUB, hA.1, hpl8, hO8, hps⟩, hMB, hIn, hInM, hE0, ⟨hD1, hD2, hD3⟩, hT, hRS, hUR, hUC⟩
        have h2 := sv_th (sv_out h1 (vp_updL g 0 v.toInt64)) 0
        obtain ⟨⟨f0, f1_, ftn⟩, gR, gM, gG, hB, hMB, hIn, hInM, hE0, ⟨hD1, hD2, hD3⟩, hT, hRS, hUR, hUC⟩ := h2
        rw [q4]
        exact ⟨ad, bd, L, nc, pt, ot, per, dy, gd, ct, td, ts, tn, P, Du, S, Wy, Re2, n, O, pl, ps, cap, mc, tw, PF, DF, GF, Le2, Sl, vp_updL g 0 v.toInt64, ⟨f0, f1_, ftn⟩, cl_move gR (fun i hi x hx => (g_u_n (hD1 i 13 hi (by decide))).trans hx), mo_l_R gM hInM Le2, (g_u_n (Ne.symm (hD3 13 (by decide)))).trans gG, ⟨⟨hL1, hL5⟩, hnc, hCB, hTB, hUB, hA.1, hpl8, hO8, hps⟩, ⟨⟨hL1, hL5⟩, hnc, hUB, htw, hct, hPF, hDF, ⟨hpz, hpm, hO8⟩, hb⟩, hIn, hInM, hE0, ⟨hD1, hD2, hD3⟩, hT, hRS, hUR, hUC⟩
theorem opn_from {cI cZ cO cJ : ClassId} {eA : Nat} {f3 : g_F} {f : g_F} {a0 b0 ob cnt : Nat} {ad bd : Nat → Nat} {L nc : Nat} {pt ot : Nat → Int32} {per dy : Nat → Nat → Nat} {gd : Nat → Nat → Bool} {ct td ts : Nat → Nat} {tn : Nat} {P Du S Wy Re : Nat → Nat} {n : Nat} {O : Nat → Nat} {pl ps cap : Nat} {mc th : Int32} {tw PF DF : Nat → Nat} {GF : Nat → Bool} {Le : Nat → Nat} {Sl : Nat → Bool} {g : Nat → Int64} {x : Int32} (h : SV cI cZ cO cJ eA f a0 b0 ob cnt ad bd L nc pt ot per dy gd ct td ts tn P Du S Wy Re n O pl ps cap mc th tw PF DF GF Le Sl g) {r2 : Option Value} (hx : (fun E : String => E = "java/lang/IllegalArgumentException" ∧ ¬ (inR x n)) "java/lang/IllegalArgumentException") (hq : (fun (f : g_F) (r : Option Value) (f2 : g_F) => (¬ inR x n ∧ r = some (.int 0) ∧ f2 = (m_th f bd 1 L nc n pl ps)) ∨ (∃ k, k < n ∧ x = nI k ∧ ((S k = 0 ∧ r = some (.int (-1)) ∧ f2 = (m_th f bd 0 L nc n pl ps)) ∨ (S k ≠ 0 ∧ ∃ Le2 : Nat → Nat, (∀ i, Le2 i ≤ 1000010000) ∧ bellR P Du Wy n Le2 (2 ^ n) ∧ r = some (.int (nI (frb S Le2 n k (2 ^ n - 1)))) ∧ f2 = mo_l cI (m_th f bd 0 L nc n pl ps) bd Le2)))) (f) r2 f3) : r2 = some (.int 0) ∧ SIM cI cZ cO cJ eA f3 a0 b0 ob (cnt + 1) 1 := by
  obtain ⟨⟨e0, e1, htn⟩, hR, hM, hG, hB, hMB, hIn, hInM, hE0, ⟨hD1, hD2, hD3⟩, hT, hRS, hUR, hUC⟩ := id h
  obtain ⟨⟨hL1, hL5⟩, hnc, hCB, hTB, hUB, hRe, hpl8, hO8, hps⟩ := id hB
  obtain ⟨-, -, -, htw, hct, hPF, hDF, ⟨hpz, hpm, -⟩, hLe⟩ := id hMB
  obtain ⟨hn8, hP, hDu, hS, hWy⟩ := id hUB
  obtain ⟨ht5, htd, hts⟩ := id hTB
  obtain ⟨-, hn⟩ := hx
  rcases hq with ⟨-, q1, q2⟩ | q
  · rw [q2]; exact ⟨q1, sim_no h 1⟩
  · exact absurd ((by obtain ⟨k2, q1, q2, -⟩ := q; exact ⟨k2, q1, q2⟩)) hn
