theorem cl_fin {cI cZ cO cJ : ClassId} {f : g_F} {ad : Nat → Nat} {L nc : Nat} {pt ot : Nat → Int32} {per dy : Nat → Nat → Nat} {gd : Nat → Nat → Bool} {ct : Nat → Nat} {td ts : Nat → Nat} {tn : Nat} {P Du S Wy Re : Nat → Nat} {n : Nat} {O : Nat → Nat} {pl ps cap : Nat} {mc : Int32} {f3 : g_F} {bd : Nat → Nat} {ob : Nat} {z : va_E} (hR : cl_R cI cZ cO f ad L nc pt ot per dy gd ct td ts tn P Du S Wy Re n O pl ps cap mc) (hD1 : ∀ i j, i < 13 + 4 * nc → j < 15 → ad i ≠ bd j) (hD2 : ∀ i, i < 13 + 4 * nc → ad i ≠ ob) (hm : m_fr bd (g_u f ob z) f3) : cl_R cI cZ cO f3 ad L nc pt ot per dy gd ct td ts tn P Du S Wy Re n O pl ps cap mc :=
  cl_move hR (fun i hi x hx => (hm _ (fun j hj => hD1 i j hi hj)).trans ((g_u_n (hD2 i hi)).trans hx))
theorem ob_fin {f f3 : g_F} {bd : Nat → Nat} {ob : Nat} {z : va_E} (hD3 : ∀ j, j < 15 → bd j ≠ ob) (hm : m_fr bd (g_u f ob z) f3) : f3 ob = some z := (hm ob (fun j hj => Ne.symm (hD3 j hj))).trans g_u_s
theorem shw_lt {S : Nat → Nat} {i k : Nat} {b : Bool} (hS : ∀ i, S i < 2 ^ 24) (hk : k < 24) : shw S i k b < 2 ^ 24 := by
  cases b with
  | true => exact or_lt (hS i) (Nat.pow_lt_pow_right (by decide) hk)
  | false => exact Nat.xor_lt_two_pow (hS i) (Nat.lt_of_le_of_lt Nat.and_le_left (hS i))
theorem opm_act {cI cZ cO cJ : ClassId} {eA : Nat} {f1 : g_F} {f : g_F} {a0 b0 ob cnt : Nat} {ad bd : Nat → Nat} {L nc : Nat} {pt ot : Nat → Int32} {per dy : Nat → Nat → Nat} {gd : Nat → Nat → Bool} {ct td ts : Nat → Nat} {tn : Nat} {P Du S Wy Re : Nat → Nat} {n : Nat} {O : Nat → Nat} {pl ps cap : Nat} {mc th : Int32} {tw PF DF : Nat → Nat} {GF : Nat → Bool} {Le : Nat → Nat} {Sl : Nat → Bool} {g : Nat → Int64} {x : Int32} {y : Int32} (h : SV cI cZ cO cJ eA f a0 b0 ob cnt ad bd L nc pt ot per dy gd ct td ts tn P Du S Wy Re n O pl ps cap mc th tw PF DF GF Le Sl g) {r : Option Value} (hp : (fun (r : Option Value) (f2 : g_F) => ∃ p_ s_, p_ < 10 ∧ 1 ≤ s_ ∧ s_ ≤ 10000 ∧ x = nI p_ ∧ y = nI s_ ∧ n < 8 ∧ r = some (.int (nI n)) ∧ f2 = g_u (g_u (g_u f (ad 7) (.inl (cI, 8, .inl (fun q9 => nI ((va_up P n p_) q9))))) (ad 8) (.inl (cI, 8, .inl (fun q9 => nI ((va_up Du n s_) q9))))) (ad 6) (.inr (2, [.ref (ad 7), .ref (ad 8), .ref (ad 9), .ref (ad 10), .ref (ad 11), .int (nI (n + 1))]))) (r) f1) : (∃ v, r = some (.int v)) ∧ f1 ob = some (.inl (cJ, 1, .inr (.inl g))) ∧ (∃ z, f1 a0 = some (.inr z)) ∧ ∀ i, i < 15 → ∀ x, f (bd i) = some x → f1 (bd i) = some x := by
  obtain ⟨⟨e0, e1, htn⟩, hR, hM, hG, hB, hMB, hIn, hInM, hE0, ⟨hD1, hD2, hD3⟩, hT, hRS, hUR, hUC⟩ := id h
  obtain ⟨⟨hL1, hL5⟩, hnc, hCB, hTB, hUB, hRe, hpl8, hO8, hps⟩ := id hB
  obtain ⟨-, -, -, htw, hct, hPF, hDF, ⟨hpz, hpm, -⟩, hLe⟩ := id hMB
  obtain ⟨hn8, hP, hDu, hS, hWy⟩ := id hUB
  obtain ⟨ht5, htd, hts⟩ := id hTB
  obtain ⟨p_, s_, c1, c2, c3, c4, c5, c6, hr, hf⟩ := hp
  subst hf
  obtain ⟨hO0, hAL, hTL, hTU, hPL, hCS⟩ := id hR
  exact ⟨⟨_, hr⟩, (g_u_n (Ne.symm (hD2 6 (by omega)))).trans ((g_u_n (Ne.symm (hD2 8 (by omega)))).trans ((g_u_n (Ne.symm (hD2 7 (by omega)))).trans (hG))), ⟨_, by rw [← e0]; exact (g_u_n (fun z => absurd (hIn 0 6 (by omega) (by omega) z) (by omega))).trans ((g_u_n (fun z => absurd (hIn 0 8 (by omega) (by omega) z) (by omega))).trans ((g_u_n (fun z => absurd (hIn 0 7 (by omega) (by omega) z) (by omega))).trans (hO0)))⟩, fun i hi x hx => (g_u_n (Ne.symm (hD1 6 i (by omega) hi))).trans ((g_u_n (Ne.symm (hD1 8 i (by omega) hi))).trans ((g_u_n (Ne.symm (hD1 7 i (by omega) hi))).trans (hx)))⟩
set_option maxHeartbeats 4000000 in
set_option maxRecDepth 100000 in
theorem op_act {cI cZ cO cJ : ClassId} {eA : Nat} {f1 f3 : g_F} {f : g_F} {a0 b0 ob cnt : Nat} {ad bd : Nat → Nat} {L nc : Nat} {pt ot : Nat → Int32} {per dy : Nat → Nat → Nat} {gd : Nat → Nat → Bool} {ct td ts : Nat → Nat} {tn : Nat} {P Du S Wy Re : Nat → Nat} {n : Nat} {O : Nat → Nat} {pl ps cap : Nat} {mc th : Int32} {tw PF DF : Nat → Nat} {GF : Nat → Bool} {Le : Nat → Nat} {Sl : Nat → Bool} {g : Nat → Int64} {x : Int32} {y : Int32} (h : SV cI cZ cO cJ eA f a0 b0 ob cnt ad bd L nc pt ot per dy gd ct td ts tn P Du S Wy Re n O pl ps cap mc th tw PF DF GF Le Sl g) {v : Int32} {r2 : Option Value} (hp : (fun (r : Option Value) (f2 : g_F) => ∃ p_ s_, p_ < 10 ∧ 1 ≤ s_ ∧ s_ ≤ 10000 ∧ x = nI p_ ∧ y = nI s_ ∧ n < 8 ∧ r = some (.int (nI n)) ∧ f2 = g_u (g_u (g_u f (ad 7) (.inl (cI, 8, .inl (fun q9 => nI ((va_up P n p_) q9))))) (ad 8) (.inl (cI, 8, .inl (fun q9 => nI ((va_up Du n s_) q9))))) (ad 6) (.inr (2, [.ref (ad 7), .ref (ad 8), .ref (ad 9), .ref (ad 10), .ref (ad 11), .int (nI (n + 1))]))) (some (.int v)) f1) (hq : (fun (f : g_F) (r : Option Value) (f2 : g_F) => (¬ (inR x 10 ∧ inW y 1 10000) ∧ r = some (.int 0) ∧ f2 = (m_th f bd 1 L nc n pl ps)) ∨ ((inR x 10 ∧ inW y 1 10000) ∧ ¬ n < 8 ∧ r = some (.int 0) ∧ f2 = (m_th f bd 2 L nc n pl ps)) ∨ (∃ p_ s_, p_ < 10 ∧ 1 ≤ s_ ∧ s_ ≤ 10000 ∧ x = nI p_ ∧ y = nI s_ ∧ n < 8 ∧ r = some (.int (nI n)) ∧ mo_R cI cZ f2 bd 0 L nc pt ot (n + 1) (va_up P n p_) (va_up Du n s_) S Wy tw ct PF DF GF pl ps O Le Sl ∧ m_fr bd f f2)) (g_u f1 ob (.inl (cJ, 1, .inr (.inl (vp_updL g 0 v.toInt64))))) r2 f3) : r2 = some (.int v) ∧ SIM cI cZ cO cJ eA f3 a0 b0 ob (cnt + 1) (vp_updL g 0 v.toInt64) 0 := by
  obtain ⟨⟨e0, e1, htn⟩, hR, hM, hG, hB, hMB, hIn, hInM, hE0, ⟨hD1, hD2, hD3⟩, hT, hRS, hUR, hUC⟩ := id h
  obtain ⟨⟨hL1, hL5⟩, hnc, hCB, hTB, hUB, hRe, hpl8, hO8, hps⟩ := id hB
  obtain ⟨-, -, -, htw, hct, hPF, hDF, ⟨hpz, hpm, -⟩, hLe⟩ := id hMB
  obtain ⟨hn8, hP, hDu, hS, hWy⟩ := id hUB
  obtain ⟨ht5, htd, hts⟩ := id hTB
  obtain ⟨p_, s_, c1, c2, c3, c4, c5, c6, hr, hf⟩ := hp
  subst hf
  obtain ⟨hO0, hAL, hTL, hTU, hPL, hCS⟩ := id hR
  have hv := Value.int.inj (Option.some.inj hr)
  rcases hq with ⟨hn, -, -⟩ | ⟨-, hn, -, -⟩ | ⟨p2, s2, q1, q2, q3, q4, q5, q6, q7, q8, q9⟩
  · exact absurd ⟨⟨p_, c1, c4⟩, ⟨s_, c2, c3, c5⟩⟩ hn
  · exact absurd c6 hn
  · have ek : p_ = p2 := nI_inj (by omega) (by omega) (c4.symm.trans q4)
    have ed : s_ = s2 := nI_inj (by omega) (by omega) (c5.symm.trans q5)
    subst ek; subst ed
    refine ⟨by rw [q7, hv], ad, bd, L, nc, pt, ot, per, dy, gd, ct, td, ts, tn, va_up P n p_, va_up Du n s_, S, Wy, Re, n + 1, O, pl, ps, cap, mc, tw, PF, DF, GF, Le, Sl, ⟨e0, e1, by omega⟩, ?_, q8, ob_fin hD3 q9, ?_, ?_, hIn, hInM, hE0, ⟨hD1, hD2, hD3⟩, hT, hRS, hUR, hUC⟩
    · refine cl_fin (cJ := cJ) ?_ hD1 hD2 q9
      exact ⟨(g_u_n (fun z => absurd (hIn 0 6 (by omega) (by omega) z) (by omega))).trans ((g_u_n (fun z => absurd (hIn 0 8 (by omega) (by omega) z) (by omega))).trans ((g_u_n (fun z => absurd (hIn 0 7 (by omega) (by omega) z) (by omega))).trans (hO0))), ⟨(g_u_n (fun z => absurd (hIn 1 6 (by omega) (by omega) z) (by omega))).trans ((g_u_n (fun z => absurd (hIn 1 8 (by omega) (by omega) z) (by omega))).trans ((g_u_n (fun z => absurd (hIn 1 7 (by omega) (by omega) z) (by omega))).trans (hAL.1))), hAL.2.1, hAL.2.2.1, fun h0 => (hAL.2.2.2 h0).imp (fun g9 hg => ⟨(g_u_n (fun z => absurd (hIn 2 6 (by omega) (by omega) z) (by omega))).trans ((g_u_n (fun z => absurd (hIn 2 8 (by omega) (by omega) z) (by omega))).trans ((g_u_n (fun z => absurd (hIn 2 7 (by omega) (by omega) z) (by omega))).trans (hg.1))), hg.2⟩)⟩, ⟨(g_u_n (fun z => absurd (hIn 3 6 (by omega) (by omega) z) (by omega))).trans ((g_u_n (fun z => absurd (hIn 3 8 (by omega) (by omega) z) (by omega))).trans ((g_u_n (fun z => absurd (hIn 3 7 (by omega) (by omega) z) (by omega))).trans (hTL.1))), (g_u_n (fun z => absurd (hIn 4 6 (by omega) (by omega) z) (by omega))).trans ((g_u_n (fun z => absurd (hIn 4 8 (by omega) (by omega) z) (by omega))).trans ((g_u_n (fun z => absurd (hIn 4 7 (by omega) (by omega) z) (by omega))).trans (hTL.2.1))), (g_u_n (fun z => absurd (hIn 5 6 (by omega) (by omega) z) (by omega))).trans ((g_u_n (fun z => absurd (hIn 5 8 (by omega) (by omega) z) (by omega))).trans ((g_u_n (fun z => absurd (hIn 5 7 (by omega) (by omega) z) (by omega))).trans (hTL.2.2)))⟩, ⟨g_u_s, (g_u_n (fun z => absurd (hIn 7 6 (by omega) (by omega) z) (by omega))).trans ((g_u_n (fun z => absurd (hIn 7 8 (by omega) (by omega) z) (by omega))).trans (g_u_s)), (g_u_n (fun z => absurd (hIn 8 6 (by omega) (by omega) z) (by omega))).trans (g_u_s), (g_u_n (fun z => absurd (hIn 9 6 (by omega) (by omega) z) (by omega))).trans ((g_u_n (fun z => absurd (hIn 9 8 (by omega) (by omega) z) (by omega))).trans ((g_u_n (fun z => absurd (hIn 9 7 (by omega) (by omega) z) (by omega))).trans (hTU.2.2.2.1))), (g_u_n (fun z => absurd (hIn 10 6 (by omega) (by omega) z) (by omega))).trans ((g_u_n (fun z => absurd (hIn 10 8 (by omega) (by omega) z) (by omega))).trans ((g_u_n (fun z => absurd (hIn 10 7 (by omega) (by omega) z) (by omega))).trans (hTU.2.2.2.2.1))), (g_u_n (fun z => absurd (hIn 11 6 (by omega) (by omega) z) (by omega))).trans ((g_u_n (fun z => absurd (hIn 11 8 (by omega) (by omega) z) (by omega))).trans ((g_u_n (fun z => absurd (hIn 11 7 (by omega) (by omega) z) (by omega))).trans (hTU.2.2.2.2.2)))⟩, (g_u_n (fun z => absurd (hIn 12 6 (by omega) (by omega) z) (by omega))).trans ((g_u_n (fun z => absurd (hIn 12 8 (by omega) (by omega) z) (by omega))).trans ((g_u_n (fun z => absurd (hIn 12 7 (by omega) (by omega) z) (by omega))).trans (hPL))), fun k9 hk9 => ⟨(g_u_n (fun z => absurd (hIn (13 + 4 * k9) 6 (by omega) (by omega) z) (by omega))).trans ((g_u_n (fun z => absurd (hIn (13 + 4 * k9) 8 (by omega) (by omega) z) (by omega))).trans ((g_u_n (fun z => absurd (hIn (13 + 4 * k9) 7 (by omega) (by omega) z) (by omega))).trans ((hCS k9 hk9).1))), (g_u_n (fun z => absurd (hIn (14 + 4 * k9) 6 (by omega) (by omega) z) (by omega))).trans ((g_u_n (fun z => absurd (hIn (14 + 4 * k9) 8 (by omega) (by omega) z) (by omega))).trans ((g_u_n (fun z => absurd (hIn (14 + 4 * k9) 7 (by omega) (by omega) z) (by omega))).trans ((hCS k9 hk9).2.1))), (g_u_n (fun z => absurd (hIn (15 + 4 * k9) 6 (by omega) (by omega) z) (by omega))).trans ((g_u_n (fun z => absurd (hIn (15 + 4 * k9) 8 (by omega) (by omega) z) (by omega))).trans ((g_u_n (fun z => absurd (hIn (15 + 4 * k9) 7 (by omega) (by omega) z) (by omega))).trans ((hCS k9 hk9).2.2.1))), (g_u_n (fun z => absurd (hIn (16 + 4 * k9) 6 (by omega) (by omega) z) (by omega))).trans ((g_u_n (fun z => absurd (hIn (16 + 4 * k9) 8 (by omega) (by omega) z) (by omega))).trans ((g_u_n (fun z => absurd (hIn (16 + 4 * k9) 7 (by omega) (by omega) z) (by omega))).trans ((hCS k9 hk9).2.2.2)))⟩⟩
    · exact ⟨⟨hL1, hL5⟩, hnc, hCB, hTB, ⟨by omega, va_up_all (Q := fun z => z < 10) hP c1, va_up_all (Q := fun z => z ≤ 10000) hDu c3, hS, hWy⟩, hRe, hpl8, hO8, hps⟩
    · exact ⟨⟨hL1, hL5⟩, hnc, ⟨by omega, va_up_all (Q := fun z => z < 10) hP c1, va_up_all (Q := fun z => z ≤ 10000) hDu c3, hS, hWy⟩, htw, hct, hPF, hDF, ⟨hpz, hpm, hO8⟩, hLe⟩
theorem opn_act {cI cZ cO cJ : ClassId} {eA : Nat} {f3 : g_F} {f : g_F} {a0 b0 ob cnt : Nat} {ad bd : Nat → Nat} {L nc : Nat} {pt ot : Nat → Int32} {per dy : Nat → Nat → Nat} {gd : Nat → Nat → Bool} {ct td ts : Nat → Nat} {tn : Nat} {P Du S Wy Re : Nat → Nat} {n : Nat} {O : Nat → Nat} {pl ps cap : Nat} {mc th : Int32} {tw PF DF : Nat → Nat} {GF : Nat → Bool} {Le : Nat → Nat} {Sl : Nat → Bool} {g : Nat → Int64} {x : Int32} {y : Int32} (h : SV cI cZ cO cJ eA f a0 b0 ob cnt ad bd L nc pt ot per dy gd ct td ts tn P Du S Wy Re n O pl ps cap mc th tw PF DF GF Le Sl g) {r2 : Option Value} (hx : (fun E : String => (E = "java/lang/IllegalArgumentException" ∧ ¬ (inR x 10 ∧ inW y 1 10000)) ∨ (E = "java/lang/IllegalStateException" ∧ (inR x 10 ∧ inW y 1 10000) ∧ ¬ n < 8)) "java/lang/IllegalArgumentException") (hq : (fun (f : g_F) (r : Option Value) (f2 : g_F) => (¬ (inR x 10 ∧ inW y 1 10000) ∧ r = some (.int 0) ∧ f2 = (m_th f bd 1 L nc n pl ps)) ∨ ((inR x 10 ∧ inW y 1 10000) ∧ ¬ n < 8 ∧ r = some (.int 0) ∧ f2 = (m_th f bd 2 L nc n pl ps)) ∨ (∃ p_ s_, p_ < 10 ∧ 1 ≤ s_ ∧ s_ ≤ 10000 ∧ x = nI p_ ∧ y = nI s_ ∧ n < 8 ∧ r = some (.int (nI n)) ∧ mo_R cI cZ f2 bd 0 L nc pt ot (n + 1) (va_up P n p_) (va_up Du n s_) S Wy tw ct PF DF GF pl ps O Le Sl ∧ m_fr bd f f2)) (f) r2 f3) : r2 = some (.int 0) ∧ SIM cI cZ cO cJ eA f3 a0 b0 ob (cnt + 1) g 1 := by
  obtain ⟨⟨e0, e1, htn⟩, hR, hM, hG, hB, hMB, hIn, hInM, hE0, ⟨hD1, hD2, hD3⟩, hT, hRS, hUR, hUC⟩ := id h
  obtain ⟨⟨hL1, hL5⟩, hnc, hCB, hTB, hUB, hRe, hpl8, hO8, hps⟩ := id hB
  obtain ⟨-, -, -, htw, hct, hPF, hDF, ⟨hpz, hpm, -⟩, hLe⟩ := id hMB
  obtain ⟨hn8, hP, hDu, hS, hWy⟩ := id hUB
  obtain ⟨ht5, htd, hts⟩ := id hTB
  rcases hx with ⟨-, hn⟩ | ⟨z, -⟩
  · rcases hq with ⟨-, q1, q2⟩ | ⟨q, -⟩ | ⟨p2, s2, q1, q2, q3, q4, q5, -⟩
    · rw [q2]; exact ⟨q1, sim_no h 1⟩
    · exact absurd q hn
    · exact absurd ⟨⟨p2, q1, q4⟩, ⟨s2, q2, q3, q5⟩⟩ hn
  · exact absurd z (by decide)
theorem ops_act {cI cZ cO cJ : ClassId} {eA : Nat} {f3 : g_F} {f : g_F} {a0 b0 ob cnt : Nat} {ad bd : Nat → Nat} {L nc : Nat} {pt ot : Nat → Int32} {per dy : Nat → Nat → Nat} {gd : Nat → Nat → Bool} {ct td ts : Nat → Nat} {tn : Nat} {P Du S Wy Re : Nat → Nat} {n : Nat} {O : Nat → Nat} {pl ps cap : Nat} {mc th : Int32} {tw PF DF : Nat → Nat} {GF : Nat → Bool} {Le : Nat → Nat} {Sl : Nat → Bool} {g : Nat → Int64} {x : Int32} {y : Int32} (h : SV cI cZ cO cJ eA f a0 b0 ob cnt ad bd L nc pt ot per dy gd ct td ts tn P Du S Wy Re n O pl ps cap mc th tw PF DF GF Le Sl g) {r2 : Option Value} (hx : (fun E : String => (E = "java/lang/IllegalArgumentException" ∧ ¬ (inR x 10 ∧ inW y 1 10000)) ∨ (E = "java/lang/IllegalStateException" ∧ (inR x 10 ∧ inW y 1 10000) ∧ ¬ n < 8)) "java/lang/IllegalStateException") (hq : (fun (f : g_F) (r : Option Value) (f2 : g_F) => (¬ (inR x 10 ∧ inW y 1 10000) ∧ r = some (.int 0) ∧ f2 = (m_th f bd 1 L nc n pl ps)) ∨ ((inR x 10 ∧ inW y 1 10000) ∧ ¬ n < 8 ∧ r = some (.int 0) ∧ f2 = (m_th f bd 2 L nc n pl ps)) ∨ (∃ p_ s_, p_ < 10 ∧ 1 ≤ s_ ∧ s_ ≤ 10000 ∧ x = nI p_ ∧ y = nI s_ ∧ n < 8 ∧ r = some (.int (nI n)) ∧ mo_R cI cZ f2 bd 0 L nc pt ot (n + 1) (va_up P n p_) (va_up Du n s_) S Wy tw ct PF DF GF pl ps O Le Sl ∧ m_fr bd f f2)) (f) r2 f3) : r2 = some (.int 0) ∧ SIM cI cZ cO cJ eA f3 a0 b0 ob (cnt + 1) g 2 := by
  obtain ⟨⟨e0, e1, htn⟩, hR, hM, hG, hB, hMB, hIn, hInM, hE0, ⟨hD1, hD2, hD3⟩, hT, hRS, hUR, hUC⟩ := id h
  obtain ⟨⟨hL1, hL5⟩, hnc, hCB, hTB, hUB, hRe, hpl8, hO8, hps⟩ := id hB
  obtain ⟨-, -, -, htw, hct, hPF, hDF, ⟨hpz, hpm, -⟩, hLe⟩ := id hMB
  obtain ⟨hn8, hP, hDu, hS, hWy⟩ := id hUB
  obtain ⟨ht5, htd, hts⟩ := id hTB
  rcases hx with ⟨z, -⟩ | ⟨-, hv, hn⟩
  · exact absurd z (by decide)
  · rcases hq with ⟨hn2, -, -⟩ | ⟨-, -, q1, q2⟩ | ⟨p2, s2, q1, q2, q3, q4, q5, q6, -⟩
    · exact absurd hv hn2
    · rw [q2]; exact ⟨q1, sim_no h 2⟩
    · exact absurd q6 hn
theorem opm_shows {cI cZ cO cJ : ClassId} {eA : Nat} {f1 : g_F} {f : g_F} {a0 b0 ob cnt : Nat} {ad bd : Nat → Nat} {L nc : Nat} {pt ot : Nat → Int32} {per dy : Nat → Nat → Nat} {gd : Nat → Nat → Bool} {ct td ts : Nat → Nat} {tn : Nat} {P Du S Wy Re : Nat → Nat} {n : Nat} {O : Nat → Nat} {pl ps cap : Nat} {mc th : Int32} {tw PF DF : Nat → Nat} {GF : Nat → Bool} {Le : Nat → Nat} {Sl : Nat → Bool} {g : Nat → Int64} {x : Int32} {y : Int32} {b : Bool} (h : SV cI cZ cO cJ eA f a0 b0 ob cnt ad bd L nc pt ot per dy gd ct td ts tn P Du S Wy Re n O pl ps cap mc th tw PF DF GF Le Sl g) {r : Option Value} (hp : (fun (r : Option Value) (f2 : g_F) => ∃ i k, i < n ∧ k < nc ∧ x = nI i ∧ y = nI k ∧ r = some (.int (bI ((S i).testBit k))) ∧ f2 = g_u f (ad 9) (.inl (cI, 8, .inl (fun q9 => nI ((va_up S i (shw S i k b)) q9))))) (r) f1) : (∃ v, r = some (.int v)) ∧ f1 ob = some (.inl (cJ, 1, .inr (.inl g))) ∧ (∃ z, f1 a0 = some (.inr z)) ∧ ∀ i, i < 15 → ∀ x, f (bd i) = some x → f1 (bd i) = some x := by
  obtain ⟨⟨e0, e1, htn⟩, hR, hM, hG, hB, hMB, hIn, hInM, hE0, ⟨hD1, hD2, hD3⟩, hT, hRS, hUR, hUC⟩ := id h
  obtain ⟨⟨hL1, hL5⟩, hnc, hCB, hTB, hUB, hRe, hpl8, hO8, hps⟩ := id hB
  obtain ⟨-, -, -, htw, hct, hPF, hDF, ⟨hpz, hpm, -⟩, hLe⟩ := id hMB
  obtain ⟨hn8, hP, hDu, hS, hWy⟩ := id hUB
  obtain ⟨ht5, htd, hts⟩ := id hTB
  obtain ⟨i, k, c1, c2, c3, c4, hr, hf⟩ := hp
  subst hf
  obtain ⟨hO0, hAL, hTL, hTU, hPL, hCS⟩ := id hR
  exact ⟨⟨_, hr⟩, (g_u_n (Ne.symm (hD2 9 (by omega)))).trans (hG), ⟨_, by rw [← e0]; exact (g_u_n (fun z => absurd (hIn 0 9 (by omega) (by omega) z) (by omega))).trans (hO0)⟩, fun i hi x hx => (g_u_n (Ne.symm (hD1 9 i (by omega) hi))).trans (hx)⟩
set_option maxHeartbeats 4000000 in
set_option maxRecDepth 100000 in
theorem op_shows {cI cZ cO cJ : ClassId} {eA : Nat} {f1 f3 : g_F} {f : g_F} {a0 b0 ob cnt : Nat} {ad bd : Nat → Nat} {L nc : Nat} {pt ot : Nat → Int32} {per dy : Nat → Nat → Nat} {gd : Nat → Nat → Bool} {ct td ts : Nat → Nat} {tn : Nat} {P Du S Wy Re : Nat → Nat} {n : Nat} {O : Nat → Nat} {pl ps cap : Nat} {mc th : Int32} {tw PF DF : Nat → Nat} {GF : Nat → Bool} {Le : Nat → Nat} {Sl : Nat → Bool} {g : Nat → Int64} {x : Int32} {y : Int32} {b : Bool} (h : SV cI cZ cO cJ eA f a0 b0 ob cnt ad bd L nc pt ot per dy gd ct td ts tn P Du S Wy Re n O pl ps cap mc th tw PF DF GF Le Sl g) {v : Int32} {r2 : Option Value} (hp : (fun (r : Option Value) (f2 : g_F) => ∃ i k, i < n ∧ k < nc ∧ x = nI i ∧ y = nI k ∧ r = some (.int (bI ((S i).testBit k))) ∧ f2 = g_u f (ad 9) (.inl (cI, 8, .inl (fun q9 => nI ((va_up S i (shw S i k b)) q9))))) (some (.int v)) f1) (hq : (fun (f : g_F) (r : Option Value) (f2 : g_F) => (¬ (inR x n ∧ inR y nc) ∧ r = some (.int 0) ∧ f2 = (m_th f bd 1 L nc n pl ps)) ∨ (∃ i k, i < n ∧ k < nc ∧ x = nI i ∧ y = nI k ∧ r = some (.int (bI ((S i).testBit k))) ∧ mo_R cI cZ f2 bd 0 L nc pt ot n P Du (va_up S i (shw S i k b)) Wy tw ct PF DF GF pl ps O Le Sl ∧ m_fr bd f f2)) (g_u f1 ob (.inl (cJ, 1, .inr (.inl (vp_updL g 0 (if v = 0 then 0 else 1)))))) r2 f3) : r2 = some (.int v) ∧ SIM cI cZ cO cJ eA f3 a0 b0 ob (cnt + 1) (vp_updL g 0 (if v = 0 then 0 else 1)) 0 := by
  obtain ⟨⟨e0, e1, htn⟩, hR, hM, hG, hB, hMB, hIn, hInM, hE0, ⟨hD1, hD2, hD3⟩, hT, hRS, hUR, hUC⟩ := id h
  obtain ⟨⟨hL1, hL5⟩, hnc, hCB, hTB, hUB, hRe, hpl8, hO8, hps⟩ := id hB
  obtain ⟨-, -, -, htw, hct, hPF, hDF, ⟨hpz, hpm, -⟩, hLe⟩ := id hMB
  obtain ⟨hn8, hP, hDu, hS, hWy⟩ := id hUB
  obtain ⟨ht5, htd, hts⟩ := id hTB
  obtain ⟨i, k, c1, c2, c3, c4, hr, hf⟩ := hp
  subst hf
  obtain ⟨hO0, hAL, hTL, hTU, hPL, hCS⟩ := id hR
  have hv := Value.int.inj (Option.some.inj hr)
  rcases hq with ⟨hn, -, -⟩ | ⟨i2, k2, q1, q2, q3, q4, q7, q8, q9⟩
  · exact absurd ⟨⟨i, c1, c3⟩, ⟨k, c2, c4⟩⟩ hn
  · have ek : i = i2 := nI_inj (by omega) (by omega) (c3.symm.trans q3)
    have ed : k = k2 := nI_inj (by omega) (by omega) (c4.symm.trans q4)
    subst ek; subst ed
    refine ⟨by rw [q7, hv], ad, bd, L, nc, pt, ot, per, dy, gd, ct, td, ts, tn, P, Du, va_up S i (shw S i k b), Wy, Re, n, O, pl, ps, cap, mc, tw, PF, DF, GF, Le, Sl, ⟨e0, e1, by omega⟩, ?_, q8, ob_fin hD3 q9, ?_, ?_, hIn, hInM, hE0, ⟨hD1, hD2, hD3⟩, hT, hRS, hUR, hUC⟩
    · refine cl_fin (cJ := cJ) ?_ hD1 hD2 q9
      exact ⟨(g_u_n (fun z => absurd (hIn 0 9 (by omega) (by omega) z) (by omega))).trans (hO0), ⟨(g_u_n (fun z => absurd (hIn 1 9 (by omega) (by omega) z) (by omega))).trans (hAL.1), hAL.2.1, hAL.2.2.1, fun h0 => (hAL.2.2.2 h0).imp (fun g9 hg => ⟨(g_u_n (fun z => absurd (hIn 2 9 (by omega) (by omega) z) (by omega))).trans (hg.1), hg.2⟩)⟩, ⟨(g_u_n (fun z => absurd (hIn 3 9 (by omega) (by omega) z) (by omega))).trans (hTL.1), (g_u_n (fun z => absurd (hIn 4 9 (by omega) (by omega) z) (by omega))).trans (hTL.2.1), (g_u_n (fun z => absurd (hIn 5 9 (by omega) (by omega) z) (by omega))).trans (hTL.2.2)⟩, ⟨(g_u_n (fun z => absurd (hIn 6 9 (by omega) (by omega) z) (by omega))).trans (hTU.1), (g_u_n (fun z => absurd (hIn 7 9 (by omega) (by omega) z) (by omega))).trans (hTU.2.1), (g_u_n (fun z => absurd (hIn 8 9 (by omega) (by omega) z) (by omega))).trans (hTU.2.2.1), g_u_s, (g_u_n (fun z => absurd (hIn 10 9 (by omega) (by omega) z) (by omega))).trans (hTU.2.2.2.2.1), (g_u_n (fun z => absurd (hIn 11 9 (by omega) (by omega) z) (by omega))).trans (hTU.2.2.2.2.2)⟩, (g_u_n (fun z => absurd (hIn 12 9 (by omega) (by omega) z) (by omega))).trans (hPL), fun k9 hk9 => ⟨(g_u_n (fun z => absurd (hIn (13 + 4 * k9) 9 (by omega) (by omega) z) (by omega))).trans ((hCS k9 hk9).1), (g_u_n (fun z => absurd (hIn (14 + 4 * k9) 9 (by omega) (by omega) z) (by omega))).trans ((hCS k9 hk9).2.1), (g_u_n (fun z => absurd (hIn (15 + 4 * k9) 9 (by omega) (by omega) z) (by omega))).trans ((hCS k9 hk9).2.2.1), (g_u_n (fun z => absurd (hIn (16 + 4 * k9) 9 (by omega) (by omega) z) (by omega))).trans ((hCS k9 hk9).2.2.2)⟩⟩
    · exact ⟨⟨hL1, hL5⟩, hnc, hCB, hTB, ⟨hn8, hP, hDu, va_up_all (Q := fun z => z < 2 ^ 24) hS (shw_lt hS (by omega)), hWy⟩, hRe, hpl8, hO8, hps⟩
    · exact ⟨⟨hL1, hL5⟩, hnc, ⟨hn8, hP, hDu, va_up_all (Q := fun z => z < 2 ^ 24) hS (shw_lt hS (by omega)), hWy⟩, htw, hct, hPF, hDF, ⟨hpz, hpm, hO8⟩, hLe⟩
theorem opn_shows {cI cZ cO cJ : ClassId} {eA : Nat} {f3 : g_F} {f : g_F} {a0 b0 ob cnt : Nat} {ad bd : Nat → Nat} {L nc : Nat} {pt ot : Nat → Int32} {per dy : Nat → Nat → Nat} {gd : Nat → Nat → Bool} {ct td ts : Nat → Nat} {tn : Nat} {P Du S Wy Re : Nat → Nat} {n : Nat} {O : Nat → Nat} {pl ps cap : Nat} {mc th : Int32} {tw PF DF : Nat → Nat} {GF : Nat → Bool} {Le : Nat → Nat} {Sl : Nat → Bool} {g : Nat → Int64} {x : Int32} {y : Int32} {b : Bool} (h : SV cI cZ cO cJ eA f a0 b0 ob cnt ad bd L nc pt ot per dy gd ct td ts tn P Du S Wy Re n O pl ps cap mc th tw PF DF GF Le Sl g) {r2 : Option Value} (hx : (fun E : String => E = "java/lang/IllegalArgumentException" ∧ ¬ (inR x n ∧ inR y nc)) "java/lang/IllegalArgumentException") (hq : (fun (f : g_F) (r : Option Value) (f2 : g_F) => (¬ (inR x n ∧ inR y nc) ∧ r = some (.int 0) ∧ f2 = (m_th f bd 1 L nc n pl ps)) ∨ (∃ i k, i < n ∧ k < nc ∧ x = nI i ∧ y = nI k ∧ r = some (.int (bI ((S i).testBit k))) ∧ mo_R cI cZ f2 bd 0 L nc pt ot n P Du (va_up S i (shw S i k b)) Wy tw ct PF DF GF pl ps O Le Sl ∧ m_fr bd f f2)) (f) r2 f3) : r2 = some (.int 0) ∧ SIM cI cZ cO cJ eA f3 a0 b0 ob (cnt + 1) g 1 := by
  obtain ⟨⟨e0, e1, htn⟩, hR, hM, hG, hB, hMB, hIn, hInM, hE0, ⟨hD1, hD2, hD3⟩, hT, hRS, hUR, hUC⟩ := id h
  obtain ⟨⟨hL1, hL5⟩, hnc, hCB, hTB, hUB, hRe, hpl8, hO8, hps⟩ := id hB
  obtain ⟨-, -, -, htw, hct, hPF, hDF, ⟨hpz, hpm, -⟩, hLe⟩ := id hMB
  obtain ⟨hn8, hP, hDu, hS, hWy⟩ := id hUB
  obtain ⟨ht5, htd, hts⟩ := id hTB
  obtain ⟨-, hn⟩ := hx
  rcases hq with ⟨-, q1, q2⟩ | q
  · rw [q2]; exact ⟨q1, sim_no h 1⟩
  · exact absurd ((by obtain ⟨i2, k2, q1, q2, q3, q4, -⟩ := q; exact ⟨⟨i2, q1, q3⟩, ⟨k2, q2, q4⟩⟩)) hn
theorem opm_way {cI cZ cO cJ : ClassId} {eA : Nat} {f1 : g_F} {f : g_F} {a0 b0 ob cnt : Nat} {ad bd : Nat → Nat} {L nc : Nat} {pt ot : Nat → Int32} {per dy : Nat → Nat → Nat} {gd : Nat → Nat → Bool} {ct td ts : Nat → Nat} {tn : Nat} {P Du S Wy Re : Nat → Nat} {n : Nat} {O : Nat → Nat} {pl ps cap : Nat} {mc th : Int32} {tw PF DF : Nat → Nat} {GF : Nat → Bool} {Le : Nat → Nat} {Sl : Nat → Bool} {g : Nat → Int64} {x : Int32} {y : Int32} {w : Int32} (h : SV cI cZ cO cJ eA f a0 b0 ob cnt ad bd L nc pt ot per dy gd ct td ts tn P Du S Wy Re n O pl ps cap mc th tw PF DF GF Le Sl g) {r : Option Value} (hp : (fun (r : Option Value) (f2 : g_F) => ∃ i j s_, i < 10 ∧ j < 10 ∧ i ≠ j ∧ s_ ≤ 10000 ∧ x = nI i ∧ y = nI j ∧ w = nI s_ ∧ r = some (.int (nI (Wy (i * 10 + j)))) ∧ f2 = g_u f (ad 10) (.inl (cI, 100, .inl (fun q9 => nI ((va_up (va_up Wy (i * 10 + j) s_) (j * 10 + i) s_) q9))))) (r) f1) : (∃ v, r = some (.int v)) ∧ f1 ob = some (.inl (cJ, 1, .inr (.inl g))) ∧ (∃ z, f1 a0 = some (.inr z)) ∧ ∀ i, i < 15 → ∀ x, f (bd i) = some x → f1 (bd i) = some x := by
  obtain ⟨⟨e0, e1, htn⟩, hR, hM, hG, hB, hMB, hIn, hInM, hE0, ⟨hD1, hD2, hD3⟩, hT, hRS, hUR, hUC⟩ := id h
  obtain ⟨⟨hL1, hL5⟩, hnc, hCB, hTB, hUB, hRe, hpl8, hO8, hps⟩ := id hB
  obtain ⟨-, -, -, htw, hct, hPF, hDF, ⟨hpz, hpm, -⟩, hLe⟩ := id hMB
  obtain ⟨hn8, hP, hDu, hS, hWy⟩ := id hUB
  obtain ⟨ht5, htd, hts⟩ := id hTB
  obtain ⟨i, j, s_, c1, c2, c3, c4, c5, c6, c7, hr, hf⟩ := hp
  subst hf
  obtain ⟨hO0, hAL, hTL, hTU, hPL, hCS⟩ := id hR
  exact ⟨⟨_, hr⟩, (g_u_n (Ne.symm (hD2 10 (by omega)))).trans (hG), ⟨_, by rw [← e0]; exact (g_u_n (fun z => absurd (hIn 0 10 (by omega) (by omega) z) (by omega))).trans (hO0)⟩, fun i hi x hx => (g_u_n (Ne.symm (hD1 10 i (by omega) hi))).trans (hx)⟩
set_option maxHeartbeats 4000000 in
set_option maxRecDepth 100000 in
theorem op_way {cI cZ cO cJ : ClassId} {eA : Nat} {f1 f3 : g_F} {f : g_F} {a0 b0 ob cnt : Nat} {ad bd : Nat → Nat} {L nc : Nat} {pt ot : Nat → Int32} {per dy : Nat → Nat → Nat} {gd : Nat → Nat → Bool} {ct td ts : Nat → Nat} {tn : Nat} {P Du S Wy Re : Nat → Nat} {n : Nat} {O : Nat → Nat} {pl ps cap : Nat} {mc th : Int32} {tw PF DF : Nat → Nat} {GF : Nat → Bool} {Le : Nat → Nat} {Sl : Nat → Bool} {g : Nat → Int64} {x : Int32} {y : Int32} {w : Int32} (h : SV cI cZ cO cJ eA f a0 b0 ob cnt ad bd L nc pt ot per dy gd ct td ts tn P Du S Wy Re n O pl ps cap mc th tw PF DF GF Le Sl g) {v : Int32} {r2 : Option Value} (hp : (fun (r : Option Value) (f2 : g_F) => ∃ i j s_, i < 10 ∧ j < 10 ∧ i ≠ j ∧ s_ ≤ 10000 ∧ x = nI i ∧ y = nI j ∧ w = nI s_ ∧ r = some (.int (nI (Wy (i * 10 + j)))) ∧ f2 = g_u f (ad 10) (.inl (cI, 100, .inl (fun q9 => nI ((va_up (va_up Wy (i * 10 + j) s_) (j * 10 + i) s_) q9))))) (some (.int v)) f1) (hq : (fun (f : g_F) (r : Option Value) (f2 : g_F) => (¬ (inR x 10 ∧ inR y 10 ∧ ¬ x = y ∧ inW w 0 10000) ∧ r = some (.int 0) ∧ f2 = (m_th f bd 1 L nc n pl ps)) ∨ (∃ i j s_, i < 10 ∧ j < 10 ∧ i ≠ j ∧ s_ ≤ 10000 ∧ x = nI i ∧ y = nI j ∧ w = nI s_ ∧ r = some (.int (nI (Wy (i * 10 + j)))) ∧ mo_R cI cZ f2 bd 0 L nc pt ot n P Du S (va_up (va_up Wy (i * 10 + j) s_) (j * 10 + i) s_) tw ct PF DF GF pl ps O Le Sl ∧ m_fr bd f f2)) (g_u f1 ob (.inl (cJ, 1, .inr (.inl (vp_updL g 0 v.toInt64))))) r2 f3) : r2 = some (.int v) ∧ SIM cI cZ cO cJ eA f3 a0 b0 ob (cnt + 1) (vp_updL g 0 v.toInt64) 0 := by
  obtain ⟨⟨e0, e1, htn⟩, hR, hM, hG, hB, hMB, hIn, hInM, hE0, ⟨hD1, hD2, hD3⟩, hT, hRS, hUR, hUC⟩ := id h
  obtain ⟨⟨hL1, hL5⟩, hnc, hCB, hTB, hUB, hRe, hpl8, hO8, hps⟩ := id hB
  obtain ⟨-, -, -, htw, hct, hPF, hDF, ⟨hpz, hpm, -⟩, hLe⟩ := id hMB
  obtain ⟨hn8, hP, hDu, hS, hWy⟩ := id hUB
  obtain ⟨ht5, htd, hts⟩ := id hTB
  obtain ⟨i, j, s_, c1, c2, c3, c4, c5, c6, c7, hr, hf⟩ := hp
  subst hf
  obtain ⟨hO0, hAL, hTL, hTU, hPL, hCS⟩ := id hR
  have hv := Value.int.inj (Option.some.inj hr)
  rcases hq with ⟨hn, -, -⟩ | ⟨i2, j2, s2, q1, q2, q3, q4, q5, q6, q7, q8, q9, q10⟩
  · exact absurd ⟨⟨i, c1, c5⟩, ⟨j, c2, c6⟩, fun z => c3 (nI_inj (by omega) (by omega) (c5.symm.trans (z.trans c6))), ⟨s_, Nat.zero_le _, c4, c7⟩⟩ hn
  · have ek : i = i2 := nI_inj (by omega) (by omega) (c5.symm.trans q5)
    have ed : j = j2 := nI_inj (by omega) (by omega) (c6.symm.trans q6)
    have es : s_ = s2 := nI_inj (by omega) (by omega) (c7.symm.trans q7)
    subst ek; subst ed; subst es
    refine ⟨by rw [q8, hv], ad, bd, L, nc, pt, ot, per, dy, gd, ct, td, ts, tn, P, Du, S, va_up (va_up Wy (i * 10 + j) s_) (j * 10 + i) s_, Re, n, O, pl, ps, cap, mc, tw, PF, DF, GF, Le, Sl, ⟨e0, e1, by omega⟩, ?_, q9, ob_fin hD3 q10, ?_, ?_, hIn, hInM, hE0, ⟨hD1, hD2, hD3⟩, hT, hRS, hUR, hUC⟩
    · refine cl_fin (cJ := cJ) ?_ hD1 hD2 q10
      exact ⟨(g_u_n (fun z => absurd (hIn 0 10 (by omega) (by omega) z) (by omega))).trans (hO0), ⟨(g_u_n (fun z => absurd (hIn 1 10 (by omega) (by omega) z) (by omega))).trans (hAL.1), hAL.2.1, hAL.2.2.1, fun h0 => (hAL.2.2.2 h0).imp (fun g9 hg => ⟨(g_u_n (fun z => absurd (hIn 2 10 (by omega) (by omega) z) (by omega))).trans (hg.1), hg.2⟩)⟩, ⟨(g_u_n (fun z => absurd (hIn 3 10 (by omega) (by omega) z) (by omega))).trans (hTL.1), (g_u_n (fun z => absurd (hIn 4 10 (by omega) (by omega) z) (by omega))).trans (hTL.2.1), (g_u_n (fun z => absurd (hIn 5 10 (by omega) (by omega) z) (by omega))).trans (hTL.2.2)⟩, ⟨(g_u_n (fun z => absurd (hIn 6 10 (by omega) (by omega) z) (by omega))).trans (hTU.1), (g_u_n (fun z => absurd (hIn 7 10 (by omega) (by omega) z) (by omega))).trans (hTU.2.1), (g_u_n (fun z => absurd (hIn 8 10 (by omega) (by omega) z) (by omega))).trans (hTU.2.2.1), (g_u_n (fun z => absurd (hIn 9 10 (by omega) (by omega) z) (by omega))).trans (hTU.2.2.2.1), g_u_s, (g_u_n (fun z => absurd (hIn 11 10 (by omega) (by omega) z) (by omega))).trans (hTU.2.2.2.2.2)⟩, (g_u_n (fun z => absurd (hIn 12 10 (by omega) (by omega) z) (by omega))).trans (hPL), fun k9 hk9 => ⟨(g_u_n (fun z => absurd (hIn (13 + 4 * k9) 10 (by omega) (by omega) z) (by omega))).trans ((hCS k9 hk9).1), (g_u_n (fun z => absurd (hIn (14 + 4 * k9) 10 (by omega) (by omega) z) (by omega))).trans ((hCS k9 hk9).2.1), (g_u_n (fun z => absurd (hIn (15 + 4 * k9) 10 (by omega) (by omega) z) (by omega))).trans ((hCS k9 hk9).2.2.1), (g_u_n (fun z => absurd (hIn (16 + 4 * k9) 10 (by omega) (by omega) z) (by omega))).trans ((hCS k9 hk9).2.2.2)⟩⟩
    · exact ⟨⟨hL1, hL5⟩, hnc, hCB, hTB, ⟨hn8, hP, hDu, hS, va_up_all (Q := fun z => z ≤ 10000) (va_up_all (Q := fun z => z ≤ 10000) hWy c4) c4⟩, hRe, hpl8, hO8, hps⟩
    · exact ⟨⟨hL1, hL5⟩, hnc, ⟨hn8, hP, hDu, hS, va_up_all (Q := fun z => z ≤ 10000) (va_up_all (Q := fun z => z ≤ 10000) hWy c4) c4⟩, htw, hct, hPF, hDF, ⟨hpz, hpm, hO8⟩, hLe⟩
theorem opn_way {cI cZ cO cJ : ClassId} {eA : Nat} {f3 : g_F} {f : g_F} {a0 b0 ob cnt : Nat} {ad bd : Nat → Nat} {L nc : Nat} {pt ot : Nat → Int32} {per dy : Nat → Nat → Nat} {gd : Nat → Nat → Bool} {ct td ts : Nat → Nat} {tn : Nat} {P Du S Wy Re : Nat → Nat} {n : Nat} {O : Nat → Nat} {pl ps cap : Nat} {mc th : Int32} {tw PF DF : Nat → Nat} {GF : Nat → Bool} {Le : Nat → Nat} {Sl : Nat → Bool} {g : Nat → Int64} {x : Int32} {y : Int32} {w : Int32} (h : SV cI cZ cO cJ eA f a0 b0 ob cnt ad bd L nc pt ot per dy gd ct td ts tn P Du S Wy Re n O pl ps cap mc th tw PF DF GF Le Sl g) {r2 : Option Value} (hx : (fun E : String => E = "java/lang/IllegalArgumentException" ∧ ¬ (inR x 10 ∧ inR y 10 ∧ ¬ x = y ∧ inW w 0 10000)) "java/lang/IllegalArgumentException") (hq : (fun (f : g_F) (r : Option Value) (f2 : g_F) => (¬ (inR x 10 ∧ inR y 10 ∧ ¬ x = y ∧ inW w 0 10000) ∧ r = some (.int 0) ∧ f2 = (m_th f bd 1 L nc n pl ps)) ∨ (∃ i j s_, i < 10 ∧ j < 10 ∧ i ≠ j ∧ s_ ≤ 10000 ∧ x = nI i ∧ y = nI j ∧ w = nI s_ ∧ r = some (.int (nI (Wy (i * 10 + j)))) ∧ mo_R cI cZ f2 bd 0 L nc pt ot n P Du S (va_up (va_up Wy (i * 10 + j) s_) (j * 10 + i) s_) tw ct PF DF GF pl ps O Le Sl ∧ m_fr bd f f2)) (f) r2 f3) : r2 = some (.int 0) ∧ SIM cI cZ cO cJ eA f3 a0 b0 ob (cnt + 1) g 1 := by
  obtain ⟨⟨e0, e1, htn⟩, hR, hM, hG, hB, hMB, hIn, hInM, hE0, ⟨hD1, hD2, hD3⟩, hT, hRS, hUR, hUC⟩ := id h
  obtain ⟨⟨hL1, hL5⟩, hnc, hCB, hTB, hUB, hRe, hpl8, hO8, hps⟩ := id hB
  obtain ⟨-, -, -, htw, hct, hPF, hDF, ⟨hpz, hpm, -⟩, hLe⟩ := id hMB
  obtain ⟨hn8, hP, hDu, hS, hWy⟩ := id hUB
  obtain ⟨ht5, htd, hts⟩ := id hTB
  obtain ⟨-, hn⟩ := hx
  rcases hq with ⟨-, q1, q2⟩ | q
  · rw [q2]; exact ⟨q1, sim_no h 1⟩
  · exact absurd ((by obtain ⟨i2, j2, s2, q1, q2, q3, q4, q5, q6, q7, -⟩ := q; exact ⟨⟨i2, q1, q5⟩, ⟨j2, q2, q6⟩, fun z => q3 (nI_inj (by omega) (by omega) (q5.symm.trans (z.trans q6))), ⟨s2, Nat.zero_le _, q4, q7⟩⟩)) hn
theorem opm_from {cI cZ cO cJ : ClassId} {eA : Nat} {f1 : g_F} {f : g_F} {a0 b0 ob cnt : Nat} {ad bd : Nat → Nat} {L nc : Nat} {pt ot : Nat → Int32} {per dy : Nat → Nat → Nat} {gd : Nat → Nat → Bool} {ct td ts : Nat → Nat} {tn : Nat} {P Du S Wy Re : Nat → Nat} {n : Nat} {O : Nat → Nat} {pl ps cap : Nat} {mc th : Int32} {tw PF DF : Nat → Nat} {GF : Nat → Bool} {Le : Nat → Nat} {Sl : Nat → Bool} {g : Nat → Int64} {x : Int32} (h : SV cI cZ cO cJ eA f a0 b0 ob cnt ad bd L nc pt ot per dy gd ct td ts tn P Du S Wy Re n O pl ps cap mc th tw PF DF GF Le Sl g) {r : Option Value} (hp : (fun (r : Option Value) (f2 : g_F) => ∃ k, k < n ∧ x = nI k ∧ ((S k = 0 ∧ r = some (.int (-1)) ∧ f2 = f) ∨ (S k ≠ 0 ∧ ∃ Re2 : Nat → Nat, bellA P Du S Wy n (orS S (2 ^ n - 1) n) Re2 0 ∧ r = some (.int (nI (wF Du Re2 k / 16))) ∧ f2 = tu_w cI f (fun i => ad (7 + i)) Re2))) (r) f1) : (∃ v, r = some (.int v)) ∧ f1 ob = some (.inl (cJ, 1, .inr (.inl g))) ∧ (∃ z, f1 a0 = some (.inr z)) ∧ ∀ i, i < 15 → ∀ x, f (bd i) = some x → f1 (bd i) = some x := by
  obtain ⟨⟨e0, e1, htn⟩, hR, hM, hG, hB, hMB, hIn, hInM, hE0, ⟨hD1, hD2, hD3⟩, hT, hRS, hUR, hUC⟩ := id h
  obtain ⟨⟨hL1, hL5⟩, hnc, hCB, hTB, hUB, hRe, hpl8, hO8, hps⟩ := id hB
  obtain ⟨-, -, -, htw, hct, hPF, hDF, ⟨hpz, hpm, -⟩, hLe⟩ := id hMB
  obtain ⟨hn8, hP, hDu, hS, hWy⟩ := id hUB
  obtain ⟨ht5, htd, hts⟩ := id hTB
  obtain ⟨k, c1, c2, hc⟩ := hp
  obtain ⟨hO0, hAL, hTL, hTU, hPL, hCS⟩ := id hR
  rcases hc with ⟨-, hr, hf⟩ | ⟨-, Re2, -, hr, hf⟩
  · subst hf; exact ⟨⟨_, hr⟩, hG, ⟨_, by rw [← e0]; exact hO0⟩, fun i hi x hx => hx⟩
  · subst hf; exact ⟨⟨_, hr⟩, (g_u_n (Ne.symm (hD2 11 (by omega)))).trans (hG), ⟨_, by rw [← e0]; exact (g_u_n (fun z => absurd (hIn 0 11 (by omega) (by omega) z) (by omega))).trans (hO0)⟩, fun i hi x hx => (g_u_n (Ne.symm (hD1 11 i (by omega) hi))).trans (hx)⟩
set_option maxHeartbeats 4000000 in
set_option maxRecDepth 100000 in
theorem op_from {cI cZ cO cJ : ClassId} {eA : Nat} {f1 f3 : g_F} {f : g_F} {a0 b0 ob cnt : Nat} {ad bd : Nat → Nat} {L nc : Nat} {pt ot : Nat → Int32} {per dy : Nat → Nat → Nat} {gd : Nat → Nat → Bool} {ct td ts : Nat → Nat} {tn : Nat} {P Du S Wy Re : Nat → Nat} {n : Nat} {O : Nat → Nat} {pl ps cap : Nat} {mc th : Int32} {tw PF DF : Nat → Nat} {GF : Nat → Bool} {Le : Nat → Nat} {Sl : Nat → Bool} {g : Nat → Int64} {x : Int32} (h : SV cI cZ cO cJ eA f a0 b0 ob cnt ad bd L nc pt ot per dy gd ct td ts tn P Du S Wy Re n O pl ps cap mc th tw PF DF GF Le Sl g) {v : Int32} {r2 : Option Value} (hp : (fun (r : Option Value) (f2 : g_F) => ∃ k, k < n ∧ x = nI k ∧ ((S k = 0 ∧ r = some (.int (-1)) ∧ f2 = f) ∨ (S k ≠ 0 ∧ ∃ Re2 : Nat → Nat, bellA P Du S Wy n (orS S (2 ^ n - 1) n) Re2 0 ∧ r = some (.int (nI (wF Du Re2 k / 16))) ∧ f2 = tu_w cI f (fun i => ad (7 + i)) Re2))) (some (.int v)) f1) (hq : (fun (f : g_F) (r : Option Value) (f2 : g_F) => (¬ inR x n ∧ r = some (.int 0) ∧ f2 = (m_th f bd 1 L nc n pl ps)) ∨ (∃ k, k < n ∧ x = nI k ∧ ((S k = 0 ∧ r = some (.int (-1)) ∧ f2 = (m_th f bd 0 L nc n pl ps)) ∨ (S k ≠ 0 ∧ ∃ Le2 : Nat → Nat, (∀ i, Le2 i ≤ 1000010000) ∧ bellR P Du Wy n Le2 (2 ^ n) ∧ r = some (.int (nI (frb S Le2 n k (2 ^ n - 1)))) ∧ f2 = mo_l cI (m_th f bd 0 L nc n pl ps) bd Le2)))) (g_u f1 ob (.inl (cJ, 1, .inr (.inl (vp_updL g 0 v.toInt64))))) r2 f3) : r2 = some (.int v) ∧ SIM cI cZ cO cJ eA f3 a0 b0 ob (cnt + 1) (vp_updL g 0 v.toInt64) 0 := by
  obtain ⟨⟨e0, e1, htn⟩, hR, hM, hG, hB, hMB, hIn, hInM, hE0, ⟨hD1, hD2, hD3⟩, hT, hRS, hUR, hUC⟩ := id h
  obtain ⟨⟨hL1, hL5⟩, hnc, hCB, hTB, hUB, hRe, hpl8, hO8, hps⟩ := id hB
  obtain ⟨-, -, -, htw, hct, hPF, hDF, ⟨hpz, hpm, -⟩, hLe⟩ := id hMB
  obtain ⟨hn8, hP, hDu, hS, hWy⟩ := id hUB
  obtain ⟨ht5, htd, hts⟩ := id hTB
  obtain ⟨k, c1, c2, hc⟩ := hp
  obtain ⟨hO0, hAL, hTL, hTU, hPL, hCS⟩ := id hR
  rcases hq with ⟨hn, -, -⟩ | ⟨k2, q1, q2, hq2⟩
  · exact absurd ⟨k, c1, c2⟩ hn
  · have ek : k = k2 := nI_inj (by omega) (by omega) (c2.symm.trans q2)
    subst ek
    rcases hc with ⟨z1, hr, hf⟩ | ⟨z1, Re2, hA, hr, hf⟩
    · subst hf
      have hv := Value.int.inj (Option.some.inj hr)
      rcases hq2 with ⟨-, q3, q4⟩ | ⟨z2, -⟩
      · rw [q4]; exact ⟨by rw [q3, hv], sim_ok h 0 _⟩
      · exact absurd z1 z2
    · subst hf
      have hv := Value.int.inj (Option.some.inj hr)
      rcases hq2 with ⟨z2, -⟩ | ⟨-, Le2, hb, hbl, q3, q4⟩
      · exact absurd z2 z1
      · refine ⟨by rw [q3, hv, from_eq hn8 hDu hWy c1 hbl hA], ?_⟩
        have h1 : SV cI cZ cO cJ eA (tu_w cI f (fun i => ad (7 + i)) Re2) a0 b0 ob cnt ad bd L nc pt ot per dy gd ct td ts tn P Du S Wy Re2 n O pl ps cap mc th tw PF DF GF Le Sl g := ⟨⟨e0, e1, htn⟩, ⟨(g_u_n (fun z => absurd (hIn 0 11 (by omega) (by omega) z) (by omega))).trans (hO0), ⟨(g_u_n (fun z => absurd (hIn 1 11 (by omega) (by omega) z) (by omega))).trans (hAL.1), hAL.2.1, hAL.2.2.1, fun h0 => (hAL.2.2.2 h0).imp (fun g9 hg => ⟨(g_u_n (fun z => absurd (hIn 2 11 (by omega) (by omega) z) (by omega))).trans (hg.1), hg.2⟩)⟩, ⟨(g_u_n (fun z => absurd (hIn 3 11 (by omega) (by omega) z) (by omega))).trans (hTL.1), (g_u_n (fun z => absurd (hIn 4 11 (by omega) (by omega) z) (by omega))).trans (hTL.2.1), (g_u_n (fun z => absurd (hIn 5 11 (by omega) (by omega) z) (by omega))).trans (hTL.2.2)⟩, ⟨(g_u_n (fun z => absurd (hIn 6 11 (by omega) (by omega) z) (by omega))).trans (hTU.1), (g_u_n (fun z => absurd (hIn 7 11 (by omega) (by omega) z) (by omega))).trans (hTU.2.1), (g_u_n (fun z => absurd (hIn 8 11 (by omega) (by omega) z) (by omega))).trans (hTU.2.2.1), (g_u_n (fun z => absurd (hIn 9 11 (by omega) (by omega) z) (by omega))).trans (hTU.2.2.2.1), (g_u_n (fun z => absurd (hIn 10 11 (by omega) (by omega) z) (by omega))).trans (hTU.2.2.2.2.1), g_u_s⟩, (g_u_n (fun z => absurd (hIn 12 11 (by omega) (by omega) z) (by omega))).trans (hPL), fun k9 hk9 => ⟨(g_u_n (fun z => absurd (hIn (13 + 4 * k9) 11 (by omega) (by omega) z) (by omega))).trans ((hCS k9 hk9).1), (g_u_n (fun z => absurd (hIn (14 + 4 * k9) 11 (by omega) (by omega) z) (by omega))).trans ((hCS k9 hk9).2.1), (g_u_n (fun z => absurd (hIn (15 + 4 * k9) 11 (by omega) (by omega) z) (by omega))).trans ((hCS k9 hk9).2.2.1), (g_u_n (fun z => absurd (hIn (16 + 4 * k9) 11 (by omega) (by omega) z) (by omega))).trans ((hCS k9 hk9).2.2.2)⟩⟩, mo_move hM (fun i hi x hx => (g_u_n (Ne.symm (hD1 11 i (by omega) hi))).trans (hx)), (g_u_n (Ne.symm (hD2 11 (by omega)))).trans (hG), ⟨⟨hL1, hL5⟩, hnc, hCB, hTB, hUB, hA.1, hpl8, hO8, hps⟩, hMB, hIn, hInM, hE0, ⟨hD1, hD2, hD3⟩, hT, hRS, hUR, hUC⟩
        have h2 := sv_th (sv_out h1 (vp_updL g 0 v.toInt64)) 0
        obtain ⟨⟨f0, f1_, ftn⟩, gR, gM, gG, hB, hMB, hIn, hInM, hE0, ⟨hD1, hD2, hD3⟩, hT, hRS, hUR, hUC⟩ := h2
        rw [q4]
        exact ⟨ad, bd, L, nc, pt, ot, per, dy, gd, ct, td, ts, tn, P, Du, S, Wy, Re2, n, O, pl, ps, cap, mc, tw, PF, DF, GF, Le2, Sl, ⟨f0, f1_, ftn⟩, cl_move gR (fun i hi x hx => (g_u_n (hD1 i 13 hi (by decide))).trans hx), mo_l_R gM hInM Le2, (g_u_n (Ne.symm (hD3 13 (by decide)))).trans gG, ⟨⟨hL1, hL5⟩, hnc, hCB, hTB, hUB, hA.1, hpl8, hO8, hps⟩, ⟨⟨hL1, hL5⟩, hnc, hUB, htw, hct, hPF, hDF, ⟨hpz, hpm, hO8⟩, hb⟩, hIn, hInM, hE0, ⟨hD1, hD2, hD3⟩, hT, hRS, hUR, hUC⟩
theorem opn_from {cI cZ cO cJ : ClassId} {eA : Nat} {f3 : g_F} {f : g_F} {a0 b0 ob cnt : Nat} {ad bd : Nat → Nat} {L nc : Nat} {pt ot : Nat → Int32} {per dy : Nat → Nat → Nat} {gd : Nat → Nat → Bool} {ct td ts : Nat → Nat} {tn : Nat} {P Du S Wy Re : Nat → Nat} {n : Nat} {O : Nat → Nat} {pl ps cap : Nat} {mc th : Int32} {tw PF DF : Nat → Nat} {GF : Nat → Bool} {Le : Nat → Nat} {Sl : Nat → Bool} {g : Nat → Int64} {x : Int32} (h : SV cI cZ cO cJ eA f a0 b0 ob cnt ad bd L nc pt ot per dy gd ct td ts tn P Du S Wy Re n O pl ps cap mc th tw PF DF GF Le Sl g) {r2 : Option Value} (hx : (fun E : String => E = "java/lang/IllegalArgumentException" ∧ ¬ (inR x n)) "java/lang/IllegalArgumentException") (hq : (fun (f : g_F) (r : Option Value) (f2 : g_F) => (¬ inR x n ∧ r = some (.int 0) ∧ f2 = (m_th f bd 1 L nc n pl ps)) ∨ (∃ k, k < n ∧ x = nI k ∧ ((S k = 0 ∧ r = some (.int (-1)) ∧ f2 = (m_th f bd 0 L nc n pl ps)) ∨ (S k ≠ 0 ∧ ∃ Le2 : Nat → Nat, (∀ i, Le2 i ≤ 1000010000) ∧ bellR P Du Wy n Le2 (2 ^ n) ∧ r = some (.int (nI (frb S Le2 n k (2 ^ n - 1)))) ∧ f2 = mo_l cI (m_th f bd 0 L nc n pl ps) bd Le2)))) (f) r2 f3) : r2 = some (.int 0) ∧ SIM cI cZ cO cJ eA f3 a0 b0 ob (cnt + 1) g 1 := by
  obtain ⟨⟨e0, e1, htn⟩, hR, hM, hG, hB, hMB, hIn, hInM, hE0, ⟨hD1, hD2, hD3⟩, hT, hRS, hUR, hUC⟩ := id h
  obtain ⟨⟨hL1, hL5⟩, hnc, hCB, hTB, hUB, hRe, hpl8, hO8, hps⟩ := id hB
  obtain ⟨-, -, -, htw, hct, hPF, hDF, ⟨hpz, hpm, -⟩, hLe⟩ := id hMB
  obtain ⟨hn8, hP, hDu, hS, hWy⟩ := id hUB
  obtain ⟨ht5, htd, hts⟩ := id hTB
  obtain ⟨-, hn⟩ := hx
  rcases hq with ⟨-, q1, q2⟩ | q
  · rw [q2]; exact ⟨q1, sim_no h 1⟩
  · exact absurd ((by obtain ⟨k2, q1, q2, -⟩ := q; exact ⟨k2, q1, q2⟩)) hn
theorem up_s {α : Type} {g : Nat → α} {j : Nat} {x : α} : va_up g j x j = x := by simp [va_up]
theorem up_n {α : Type} {g : Nat → α} {j i : Nat} {x : α} (h : i ≠ j) : va_up g j x i = g i := by simp [va_up, h]
theorem tsim_or {tw td ts : Nat → Nat} {pt ot : Nat → Int32} {x : Int32} {tn k i dd nc : Nat} (h : tsim tw td ts tn k) (hi : i < tn) (hd : td i = dd) (hdd : dd ≤ 100000) (hnc : nc ≤ 24) : tsim (chT tw pt ot x dd nc) td (va_up ts i (ts i ||| bset (fun k => decide (pt k = x ∨ ot k = x)) nc)) tn k := fun d hd2 => by
  rw [chT_bit hdd nc k d hd2 hnc, h d hd2]
  constructor
  · rintro (⟨j, j1, j2, j3⟩ | ⟨j1, j2, j3⟩)
    · refine ⟨j, j1, j2, ?_⟩
      by_cases e : j = i
      · subst e; rw [up_s, Nat.testBit_or, j3]; rfl
      · rw [up_n e]; exact j3
    · refine ⟨i, hi, hd.trans j1.symm, ?_⟩
      rw [up_s, Nat.testBit_or, bset_bit, decide_eq_true j2, decide_eq_true j3, Bool.and_self, Bool.or_true]
  · rintro ⟨j, j1, j2, j3⟩
    by_cases e : j = i
    · subst e
      rw [up_s, Nat.testBit_or, Bool.or_eq_true, bset_bit, Bool.and_eq_true, decide_eq_true_eq, decide_eq_true_eq] at j3
      rcases j3 with j3 | ⟨j3, j4⟩
      · exact Or.inl ⟨j, j1, j2, j3⟩
      · exact Or.inr ⟨j2.symm.trans hd, j3, j4⟩
    · rw [up_n e] at j3; exact Or.inl ⟨j, j1, j2, j3⟩
theorem tsim_no {tw td ts : Nat → Nat} {pt ot : Nat → Int32} {x : Int32} {tn k dd nc : Nat} (h : tsim tw td ts tn k) (hz : bset (fun k => decide (pt k = x ∨ ot k = x)) nc = 0) (hdd : dd ≤ 100000) (hnc : nc ≤ 24) : tsim (chT tw pt ot x dd nc) td ts tn k := fun d hd2 => by
  rw [chT_bit hdd nc k d hd2 hnc, h d hd2]
  constructor
  · rintro (h1 | ⟨-, j2, j3⟩)
    · exact h1
    · exfalso
      have := bset_bit (p := fun k => decide (pt k = x ∨ ot k = x)) (j := k) nc
      rw [hz, Nat.zero_testBit, decide_eq_true j2, decide_eq_true j3] at this
      exact Bool.noConfusion this
  · exact Or.inl
theorem tsim_new {tw td ts : Nat → Nat} {pt ot : Nat → Int32} {x : Int32} {tn k dd nc : Nat} (h : tsim tw td ts tn k) (hdd : dd ≤ 100000) (hnc : nc ≤ 24) : tsim (chT tw pt ot x dd nc) (va_up td tn dd) (va_up ts tn (bset (fun k => decide (pt k = x ∨ ot k = x)) nc)) (tn + 1) k := fun d hd2 => by
  rw [chT_bit hdd nc k d hd2 hnc, h d hd2]
  constructor
  · rintro (⟨j, j1, j2, j3⟩ | ⟨j1, j2, j3⟩)
    · exact ⟨j, by omega, by rw [up_n (by omega)]; exact j2, by rw [up_n (by omega)]; exact j3⟩
    · exact ⟨tn, by omega, by rw [up_s]; exact j1.symm, by rw [up_s, bset_bit, decide_eq_true j2, decide_eq_true j3, Bool.and_self]⟩
  · rintro ⟨j, j1, j2, j3⟩
    by_cases e : j = tn
    · subst e
      rw [up_s] at j2
      rw [up_s, bset_bit, Bool.and_eq_true, decide_eq_true_eq, decide_eq_true_eq] at j3
      exact Or.inr ⟨j2.symm, j3.1, j3.2⟩
    · rw [up_n e] at j2 j3; exact Or.inl ⟨j, by omega, j2, j3⟩
theorem opm_plan {cI cZ cO cJ : ClassId} {eA : Nat} {f1 : g_F} {f : g_F} {a0 b0 ob cnt : Nat} {ad bd : Nat → Nat} {L nc : Nat} {pt ot : Nat → Int32} {per dy : Nat → Nat → Nat} {gd : Nat → Nat → Bool} {ct td ts : Nat → Nat} {tn : Nat} {P Du S Wy Re : Nat → Nat} {n : Nat} {O : Nat → Nat} {pl ps cap : Nat} {mc th : Int32} {tw PF DF : Nat → Nat} {GF : Nat → Bool} {Le : Nat → Nat} {Sl : Nat → Bool} {g : Nat → Int64} {y : Int32} (h : SV cI cZ cO cJ eA f a0 b0 ob cnt ad bd L nc pt ot per dy gd ct td ts tn P Du S Wy Re n O pl ps cap mc th tw PF DF GF Le Sl g) {r : Option Value} (hp : (fun (r : Option Value) (f2 : g_F) => ∃ (dd : Nat) (Re2 O2 : Nat → Nat) (k : Nat), dd < 100001 ∧ y = nI dd ∧ bellA P Du S Wy n (bset (fun k => decide (sta L per dy gd ct td ts tn k dd ≠ 3)) nc &&& orS S (2 ^ n - 1) n) Re2 0 ∧ fo P Du S Wy Re2 n (bset (fun k => decide (sta L per dy gd ct td ts tn k dd ≠ 3)) nc &&& orS S (2 ^ n - 1) n) n 0 O 0 = (O2, k) ∧ r = some (.int (nI k)) ∧ f2 = g_u (fo_w cI (tu_w cI f (fun i => ad (7 + i)) Re2) (ad 12) O2) (ad 0) (.inr (3, [.int (nI L), .ref (ad 1), .ref (ad 3), .ref (ad 6), .ref (ad 12), .int (nI k), .int (nI (secs P Du Wy O2 k))]))) r f1) : (∃ v, r = some (.int v)) ∧ f1 ob = some (.inl (cJ, 1, .inr (.inl g))) ∧ (∃ z, f1 a0 = some (.inr z)) ∧ ∀ i, i < 15 → ∀ x, f (bd i) = some x → f1 (bd i) = some x := by
  obtain ⟨⟨e0, e1, htn⟩, hR, hM, hG, hB, hMB, hIn, hInM, hE0, ⟨hD1, hD2, hD3⟩, hT, hRS, hUR, hUC⟩ := id h
  obtain ⟨⟨hL1, hL5⟩, hnc, hCB, hTB, hUB, hRe, hpl8, hO8, hps⟩ := id hB
  obtain ⟨-, -, -, htw, hct, hPF, hDF, ⟨hpz, hpm, -⟩, hLe⟩ := id hMB
  obtain ⟨hn8, hP, hDu, hS, hWy⟩ := id hUB
  obtain ⟨ht5, htd, hts⟩ := id hTB
  obtain ⟨dd, Re2, O2, k, c1, c2, hA, hfo, hr, hf⟩ := hp
  subst hf
  obtain ⟨hO0, hAL, hTL, hTU, hPL, hCS⟩ := id hR
  exact ⟨⟨_, hr⟩, (g_u_n (Ne.symm (hD2 0 (by omega)))).trans ((g_u_n (Ne.symm (hD2 12 (by omega)))).trans ((g_u_n (Ne.symm (hD2 11 (by omega)))).trans (hG))), ⟨_, by rw [← e0]; exact g_u_s⟩, fun i hi x hx => (g_u_n (Ne.symm (hD1 0 i (by omega) hi))).trans ((g_u_n (Ne.symm (hD1 12 i (by omega) hi))).trans ((g_u_n (Ne.symm (hD1 11 i (by omega) hi))).trans (hx)))⟩
set_option maxHeartbeats 4000000 in
set_option maxRecDepth 100000 in
theorem op_plan {cI cZ cO cJ : ClassId} {eA : Nat} {f1 : g_F} {f : g_F} {a0 b0 ob cnt : Nat} {ad bd : Nat → Nat} {L nc : Nat} {pt ot : Nat → Int32} {per dy : Nat → Nat → Nat} {gd : Nat → Nat → Bool} {ct td ts : Nat → Nat} {tn : Nat} {P Du S Wy Re : Nat → Nat} {n : Nat} {O : Nat → Nat} {pl ps cap : Nat} {mc th : Int32} {tw PF DF : Nat → Nat} {GF : Nat → Bool} {Le : Nat → Nat} {Sl : Nat → Bool} {g : Nat → Int64} {y : Int32} (h : SV cI cZ cO cJ eA f a0 b0 ob cnt ad bd L nc pt ot per dy gd ct td ts tn P Du S Wy Re n O pl ps cap mc th tw PF DF GF Le Sl g) {v : Int32} (hp : (fun (r : Option Value) (f2 : g_F) => ∃ (dd : Nat) (Re2 O2 : Nat → Nat) (k : Nat), dd < 100001 ∧ y = nI dd ∧ bellA P Du S Wy n (bset (fun k => decide (sta L per dy gd ct td ts tn k dd ≠ 3)) nc &&& orS S (2 ^ n - 1) n) Re2 0 ∧ fo P Du S Wy Re2 n (bset (fun k => decide (sta L per dy gd ct td ts tn k dd ≠ 3)) nc &&& orS S (2 ^ n - 1) n) n 0 O 0 = (O2, k) ∧ r = some (.int (nI k)) ∧ f2 = g_u (fo_w cI (tu_w cI f (fun i => ad (7 + i)) Re2) (ad 12) O2) (ad 0) (.inr (3, [.int (nI L), .ref (ad 1), .ref (ad 3), .ref (ad 6), .ref (ad 12), .int (nI k), .int (nI (secs P Du Wy O2 k))]))) (some (.int v)) f1) : ∃ Re9 : Nat → Nat, (∀ dd, dd < 100001 → y = nI dd → bellA P Du S Wy n (bset (fun k => decide (mst L tw ct PF DF GF k dd ≠ 3)) nc &&& orA S n) Re9 0) ∧ ∀ (f3 : g_F) (r2 : Option Value), (fun (f : g_F) (Re : Nat → Nat) (r : Option Value) (f2 : g_F) => (¬ inR y 100001 ∧ r = some (.int 0) ∧ f2 = (m_th f bd 1 L nc n pl ps)) ∨ (∃ (dd pz2 : Nat) (O2 Le2 : Nat → Nat) (Sl2 : Nat → Bool), dd < 100001 ∧ y = nI dd ∧ fo P Du S Wy Re n (bset (fun k => decide (mst L tw ct PF DF GF k dd ≠ 3)) nc &&& orA S n) n 0 O 0 = (O2, pz2) ∧ pz2 ≤ 8 ∧ (∀ i, O2 i < 8) ∧ (∀ i, Le2 i ≤ 1000010000) ∧ r = some (.int (nI pz2)) ∧ mo_R cI cZ f2 bd 0 L nc pt ot n P Du S Wy tw ct PF DF GF pz2 (secs P Du Wy O2 pz2) O2 Le2 Sl2 ∧ m_fr bd f f2)) (g_u f1 ob (.inl (cJ, 1, .inr (.inl (vp_updL g 0 v.toInt64))))) Re9 r2 f3 → r2 = some (.int v) ∧ SIM cI cZ cO cJ eA f3 a0 b0 ob (cnt + 1) (vp_updL g 0 v.toInt64) 0 := by
  obtain ⟨⟨e0, e1, htn⟩, hR, hM, hG, hB, hMB, hIn, hInM, hE0, ⟨hD1, hD2, hD3⟩, hT, hRS, hUR, hUC⟩ := id h
  obtain ⟨⟨hL1, hL5⟩, hnc, hCB, hTB, hUB, hRe, hpl8, hO8, hps⟩ := id hB
  obtain ⟨-, -, -, htw, hct, hPF, hDF, ⟨hpz, hpm, -⟩, hLe⟩ := id hMB
  obtain ⟨hn8, hP, hDu, hS, hWy⟩ := id hUB
  obtain ⟨ht5, htd, hts⟩ := id hTB
  obtain ⟨dd, Re2, O2, k, c1, c2, hA, hfo, hr, hf⟩ := hp
  subst hf
  obtain ⟨hO0, hAL, hTL, hTU, hPL, hCS⟩ := id hR
  have hv := Value.int.inj (Option.some.inj hr)
  have hneed : bset (fun k => decide (mst L tw ct PF DF GF k dd ≠ 3)) nc &&& orA S n = bset (fun k => decide (sta L per dy gd ct td ts tn k dd ≠ 3)) nc &&& orS S (2 ^ n - 1) n := by
    rw [orS_full n (Nat.le_refl _), bset_congr (p := fun k => decide (sta L per dy gd ct td ts tn k dd ≠ 3)) (q := fun k => decide (mst L tw ct PF DF GF k dd ≠ 3)) nc (fun k hk => by
      show decide (_ ≠ _) = decide (_ ≠ _)
      rw [sta_eq (by omega) hL5 hDF htd (hT k (by omega)) (hRS k (by omega))])]
  refine ⟨Re2, fun d2 h1 h2 => ?_, fun f3 r2 hq => ?_⟩
  · have ed : dd = d2 := nI_inj (by omega) (by omega) (c2.symm.trans h2)
    subst ed; rw [hneed]; exact hA
  · rcases hq with ⟨hn, -, -⟩ | ⟨d2, pz2, O3, Le2, Sl2, q1, q2, q3, q4, q5, q6, q7, q8, q9⟩
    · exact absurd ⟨dd, c1, c2⟩ hn
    · have ed : dd = d2 := nI_inj (by omega) (by omega) (c2.symm.trans q2)
      subst ed
      rw [hneed, hfo] at q3
      obtain ⟨eO, ek⟩ := Prod.mk.inj q3
      subst eO; subst ek
      have hs9 := secs_le (P := P) (O := O2) hDu hWy k
      refine ⟨by rw [q7, hv], ad, bd, L, nc, pt, ot, per, dy, gd, ct, td, ts, tn, P, Du, S, Wy, Re2, n, O2, k, secs P Du Wy O2 k, cap, mc, tw, PF, DF, GF, Le2, Sl2, ⟨e0, e1, by omega⟩, ?_, q8, ob_fin hD3 q9, ?_, ?_, hIn, hInM, hE0, ⟨hD1, hD2, hD3⟩, hT, hRS, hUR, hUC⟩
      · refine cl_fin (cJ := cJ) ?_ hD1 hD2 q9
        exact ⟨g_u_s, ⟨(g_u_n (fun z => absurd (hIn 1 0 (by omega) (by omega) z) (by omega))).trans ((g_u_n (fun z => absurd (hIn 1 12 (by omega) (by omega) z) (by omega))).trans ((g_u_n (fun z => absurd (hIn 1 11 (by omega) (by omega) z) (by omega))).trans (hAL.1))), hAL.2.1, hAL.2.2.1, fun h0 => (hAL.2.2.2 h0).imp (fun g9 hg => ⟨(g_u_n (fun z => absurd (hIn 2 0 (by omega) (by omega) z) (by omega))).trans ((g_u_n (fun z => absurd (hIn 2 12 (by omega) (by omega) z) (by omega))).trans ((g_u_n (fun z => absurd (hIn 2 11 (by omega) (by omega) z) (by omega))).trans (hg.1))), hg.2⟩)⟩, ⟨(g_u_n (fun z => absurd (hIn 3 0 (by omega) (by omega) z) (by omega))).trans ((g_u_n (fun z => absurd (hIn 3 12 (by omega) (by omega) z) (by omega))).trans ((g_u_n (fun z => absurd (hIn 3 11 (by omega) (by omega) z) (by omega))).trans (hTL.1))), (g_u_n (fun z => absurd (hIn 4 0 (by omega) (by omega) z) (by omega))).trans ((g_u_n (fun z => absurd (hIn 4 12 (by omega) (by omega) z) (by omega))).trans ((g_u_n (fun z => absurd (hIn 4 11 (by omega) (by omega) z) (by omega))).trans (hTL.2.1))), (g_u_n (fun z => absurd (hIn 5 0 (by omega) (by omega) z) (by omega))).trans ((g_u_n (fun z => absurd (hIn 5 12 (by omega) (by omega) z) (by omega))).trans ((g_u_n (fun z => absurd (hIn 5 11 (by omega) (by omega) z) (by omega))).trans (hTL.2.2)))⟩, ⟨(g_u_n (fun z => absurd (hIn 6 0 (by omega) (by omega) z) (by omega))).trans ((g_u_n (fun z => absurd (hIn 6 12 (by omega) (by omega) z) (by omega))).trans ((g_u_n (fun z => absurd (hIn 6 11 (by omega) (by omega) z) (by omega))).trans (hTU.1))), (g_u_n (fun z => absurd (hIn 7 0 (by omega) (by omega) z) (by omega))).trans ((g_u_n (fun z => absurd (hIn 7 12 (by omega) (by omega) z) (by omega))).trans ((g_u_n (fun z => absurd (hIn 7 11 (by omega) (by omega) z) (by omega))).trans (hTU.2.1))), (g_u_n (fun z => absurd (hIn 8 0 (by omega) (by omega) z) (by omega))).trans ((g_u_n (fun z => absurd (hIn 8 12 (by omega) (by omega) z) (by omega))).trans ((g_u_n (fun z => absurd (hIn 8 11 (by omega) (by omega) z) (by omega))).trans (hTU.2.2.1))), (g_u_n (fun z => absurd (hIn 9 0 (by omega) (by omega) z) (by omega))).trans ((g_u_n (fun z => absurd (hIn 9 12 (by omega) (by omega) z) (by omega))).trans ((g_u_n (fun z => absurd (hIn 9 11 (by omega) (by omega) z) (by omega))).trans (hTU.2.2.2.1))), (g_u_n (fun z => absurd (hIn 10 0 (by omega) (by omega) z) (by omega))).trans ((g_u_n (fun z => absurd (hIn 10 12 (by omega) (by omega) z) (by omega))).trans ((g_u_n (fun z => absurd (hIn 10 11 (by omega) (by omega) z) (by omega))).trans (hTU.2.2.2.2.1))), (g_u_n (fun z => absurd (hIn 11 0 (by omega) (by omega) z) (by omega))).trans ((g_u_n (fun z => absurd (hIn 11 12 (by omega) (by omega) z) (by omega))).trans (g_u_s))⟩, (g_u_n (fun z => absurd (hIn 12 0 (by omega) (by omega) z) (by omega))).trans (g_u_s), fun k9 hk9 => ⟨(g_u_n (fun z => absurd (hIn (13 + 4 * k9) 0 (by omega) (by omega) z) (by omega))).trans ((g_u_n (fun z => absurd (hIn (13 + 4 * k9) 12 (by omega) (by omega) z) (by omega))).trans ((g_u_n (fun z => absurd (hIn (13 + 4 * k9) 11 (by omega) (by omega) z) (by omega))).trans ((hCS k9 hk9).1))), (g_u_n (fun z => absurd (hIn (14 + 4 * k9) 0 (by omega) (by omega) z) (by omega))).trans ((g_u_n (fun z => absurd (hIn (14 + 4 * k9) 12 (by omega) (by omega) z) (by omega))).trans ((g_u_n (fun z => absurd (hIn (14 + 4 * k9) 11 (by omega) (by omega) z) (by omega))).trans ((hCS k9 hk9).2.1))), (g_u_n (fun z => absurd (hIn (15 + 4 * k9) 0 (by omega) (by omega) z) (by omega))).trans ((g_u_n (fun z => absurd (hIn (15 + 4 * k9) 12 (by omega) (by omega) z) (by omega))).trans ((g_u_n (fun z => absurd (hIn (15 + 4 * k9) 11 (by omega) (by omega) z) (by omega))).trans ((hCS k9 hk9).2.2.1))), (g_u_n (fun z => absurd (hIn (16 + 4 * k9) 0 (by omega) (by omega) z) (by omega))).trans ((g_u_n (fun z => absurd (hIn (16 + 4 * k9) 12 (by omega) (by omega) z) (by omega))).trans ((g_u_n (fun z => absurd (hIn (16 + 4 * k9) 11 (by omega) (by omega) z) (by omega))).trans ((hCS k9 hk9).2.2.2)))⟩⟩
      · exact ⟨⟨hL1, hL5⟩, hnc, hCB, hTB, hUB, hA.1, q4, q5, by omega⟩
      · exact ⟨⟨hL1, hL5⟩, hnc, hUB, htw, hct, hPF, hDF, ⟨by omega, by omega, q5⟩, q6⟩
theorem opn_plan {cI cZ cO cJ : ClassId} {eA : Nat} {f3 : g_F} {f : g_F} {a0 b0 ob cnt : Nat} {ad bd : Nat → Nat} {L nc : Nat} {pt ot : Nat → Int32} {per dy : Nat → Nat → Nat} {gd : Nat → Nat → Bool} {ct td ts : Nat → Nat} {tn : Nat} {P Du S Wy Re : Nat → Nat} {n : Nat} {O : Nat → Nat} {pl ps cap : Nat} {mc th : Int32} {tw PF DF : Nat → Nat} {GF : Nat → Bool} {Le : Nat → Nat} {Sl : Nat → Bool} {g : Nat → Int64} {y : Int32} {Re9 : Nat → Nat} (h : SV cI cZ cO cJ eA f a0 b0 ob cnt ad bd L nc pt ot per dy gd ct td ts tn P Du S Wy Re n O pl ps cap mc th tw PF DF GF Le Sl g) {r2 : Option Value} (hx : (fun E : String => E = "java/lang/IllegalArgumentException" ∧ ¬ (inR y 100001)) "java/lang/IllegalArgumentException") (hq : (fun (f : g_F) (Re : Nat → Nat) (r : Option Value) (f2 : g_F) => (¬ inR y 100001 ∧ r = some (.int 0) ∧ f2 = (m_th f bd 1 L nc n pl ps)) ∨ (∃ (dd pz2 : Nat) (O2 Le2 : Nat → Nat) (Sl2 : Nat → Bool), dd < 100001 ∧ y = nI dd ∧ fo P Du S Wy Re n (bset (fun k => decide (mst L tw ct PF DF GF k dd ≠ 3)) nc &&& orA S n) n 0 O 0 = (O2, pz2) ∧ pz2 ≤ 8 ∧ (∀ i, O2 i < 8) ∧ (∀ i, Le2 i ≤ 1000010000) ∧ r = some (.int (nI pz2)) ∧ mo_R cI cZ f2 bd 0 L nc pt ot n P Du S Wy tw ct PF DF GF pz2 (secs P Du Wy O2 pz2) O2 Le2 Sl2 ∧ m_fr bd f f2)) f Re9 r2 f3) : r2 = some (.int 0) ∧ SIM cI cZ cO cJ eA f3 a0 b0 ob (cnt + 1) g 1 := by
  obtain ⟨⟨e0, e1, htn⟩, hR, hM, hG, hB, hMB, hIn, hInM, hE0, ⟨hD1, hD2, hD3⟩, hT, hRS, hUR, hUC⟩ := id h
  obtain ⟨-, hn⟩ := hx
  rcases hq with ⟨-, q1, q2⟩ | ⟨d2, pz2, O3, Le2, Sl2, q1, q2, -⟩
  · rw [q2]; exact ⟨q1, sim_no h 1⟩
  · exact absurd ⟨d2, q1, q2⟩ hn
theorem opm_change {cI cZ cO cJ : ClassId} {eA : Nat} {f1 : g_F} {f : g_F} {a0 b0 ob cnt : Nat} {ad bd : Nat → Nat} {L nc : Nat} {pt ot : Nat → Int32} {per dy : Nat → Nat → Nat} {gd : Nat → Nat → Bool} {ct td ts : Nat → Nat} {tn : Nat} {P Du S Wy Re : Nat → Nat} {n : Nat} {O : Nat → Nat} {pl ps cap : Nat} {mc th : Int32} {tw PF DF : Nat → Nat} {GF : Nat → Bool} {Le : Nat → Nat} {Sl : Nat → Bool} {g : Nat → Int64} {x : Int32} {y : Int32} (h : SV cI cZ cO cJ eA f a0 b0 ob cnt ad bd L nc pt ot per dy gd ct td ts tn P Du S Wy Re n O pl ps cap mc th tw PF DF GF Le Sl g) {r : Option Value} (hp : (fun (r : Option Value) (f2 : g_F) => ∃ dd, inR x 30 ∧ dd < 100001 ∧ y = nI dd ∧ r = some (.int (nI (szo (bset (fun k => decide (pt k = x ∨ ot k = x)) nc) 24))) ∧ ((∃ i, i < tn ∧ td i = dd ∧ (∀ j, j < i → td j ≠ dd) ∧ f2 = g_u f (ad 5) (.inl (cI, 512, .inl (fun q9 => nI ((va_up ts i (ts i ||| bset (fun k => decide (pt k = x ∨ ot k = x)) nc)) q9))))) ∨ ((∀ j, j < tn → td j ≠ dd) ∧ bset (fun k => decide (pt k = x ∨ ot k = x)) nc = 0 ∧ f2 = f) ∨ ((∀ j, j < tn → td j ≠ dd) ∧ bset (fun k => decide (pt k = x ∨ ot k = x)) nc ≠ 0 ∧ f2 = g_u (g_u (g_u f (ad 4) (.inl (cI, 512, .inl (fun q9 => nI ((va_up td tn dd) q9))))) (ad 5) (.inl (cI, 512, .inl (fun q9 => nI ((va_up ts tn (bset (fun k => decide (pt k = x ∨ ot k = x)) nc)) q9))))) (ad 3) (.inr (1, [.ref (ad 4), .ref (ad 5), .int (nI (tn + 1))]))))) (r) f1) : (∃ v, r = some (.int v)) ∧ f1 ob = some (.inl (cJ, 1, .inr (.inl g))) ∧ (∃ z, f1 a0 = some (.inr z)) ∧ ∀ i, i < 15 → ∀ x, f (bd i) = some x → f1 (bd i) = some x := by
  obtain ⟨⟨e0, e1, htn⟩, hR, hM, hG, hB, hMB, hIn, hInM, hE0, ⟨hD1, hD2, hD3⟩, hT, hRS, hUR, hUC⟩ := id h
  obtain ⟨⟨hL1, hL5⟩, hnc, hCB, hTB, hUB, hRe, hpl8, hO8, hps⟩ := id hB
  obtain ⟨-, -, -, htw, hct, hPF, hDF, ⟨hpz, hpm, -⟩, hLe⟩ := id hMB
  obtain ⟨hn8, hP, hDu, hS, hWy⟩ := id hUB
  obtain ⟨ht5, htd, hts⟩ := id hTB
  obtain ⟨dd, c0, c1, c2, hr, hc⟩ := hp
  obtain ⟨hO0, hAL, hTL, hTU, hPL, hCS⟩ := id hR
  rcases hc with ⟨i, i1, i2, i3, hf⟩ | ⟨i1, i2, hf⟩ | ⟨i1, i2, hf⟩
  · subst hf; exact ⟨⟨_, hr⟩, (g_u_n (Ne.symm (hD2 5 (by omega)))).trans (hG), ⟨_, by rw [← e0]; exact (g_u_n (fun z => absurd (hIn 0 5 (by omega) (by omega) z) (by omega))).trans (hO0)⟩, fun i hi x hx => (g_u_n (Ne.symm (hD1 5 i (by omega) hi))).trans (hx)⟩
  · subst hf; exact ⟨⟨_, hr⟩, hG, ⟨_, by rw [← e0]; exact hO0⟩, fun i hi x hx => hx⟩
  · subst hf; exact ⟨⟨_, hr⟩, (g_u_n (Ne.symm (hD2 3 (by omega)))).trans ((g_u_n (Ne.symm (hD2 5 (by omega)))).trans ((g_u_n (Ne.symm (hD2 4 (by omega)))).trans (hG))), ⟨_, by rw [← e0]; exact (g_u_n (fun z => absurd (hIn 0 3 (by omega) (by omega) z) (by omega))).trans ((g_u_n (fun z => absurd (hIn 0 5 (by omega) (by omega) z) (by omega))).trans ((g_u_n (fun z => absurd (hIn 0 4 (by omega) (by omega) z) (by omega))).trans (hO0)))⟩, fun i hi x hx => (g_u_n (Ne.symm (hD1 3 i (by omega) hi))).trans ((g_u_n (Ne.symm (hD1 5 i (by omega) hi))).trans ((g_u_n (Ne.symm (hD1 4 i (by omega) hi))).trans (hx)))⟩
set_option maxHeartbeats 4000000 in
set_option maxRecDepth 100000 in
theorem op_change {cI cZ cO cJ : ClassId} {eA : Nat} {f1 f3 : g_F} {f : g_F} {a0 b0 ob cnt : Nat} {ad bd : Nat → Nat} {L nc : Nat} {pt ot : Nat → Int32} {per dy : Nat → Nat → Nat} {gd : Nat → Nat → Bool} {ct td ts : Nat → Nat} {tn : Nat} {P Du S Wy Re : Nat → Nat} {n : Nat} {O : Nat → Nat} {pl ps cap : Nat} {mc th : Int32} {tw PF DF : Nat → Nat} {GF : Nat → Bool} {Le : Nat → Nat} {Sl : Nat → Bool} {g : Nat → Int64} {x : Int32} {y : Int32} (h5 : cnt < 512) (h : SV cI cZ cO cJ eA f a0 b0 ob cnt ad bd L nc pt ot per dy gd ct td ts tn P Du S Wy Re n O pl ps cap mc th tw PF DF GF Le Sl g) {v : Int32} {r2 : Option Value} (hp : (fun (r : Option Value) (f2 : g_F) => ∃ dd, inR x 30 ∧ dd < 100001 ∧ y = nI dd ∧ r = some (.int (nI (szo (bset (fun k => decide (pt k = x ∨ ot k = x)) nc) 24))) ∧ ((∃ i, i < tn ∧ td i = dd ∧ (∀ j, j < i → td j ≠ dd) ∧ f2 = g_u f (ad 5) (.inl (cI, 512, .inl (fun q9 => nI ((va_up ts i (ts i ||| bset (fun k => decide (pt k = x ∨ ot k = x)) nc)) q9))))) ∨ ((∀ j, j < tn → td j ≠ dd) ∧ bset (fun k => decide (pt k = x ∨ ot k = x)) nc = 0 ∧ f2 = f) ∨ ((∀ j, j < tn → td j ≠ dd) ∧ bset (fun k => decide (pt k = x ∨ ot k = x)) nc ≠ 0 ∧ f2 = g_u (g_u (g_u f (ad 4) (.inl (cI, 512, .inl (fun q9 => nI ((va_up td tn dd) q9))))) (ad 5) (.inl (cI, 512, .inl (fun q9 => nI ((va_up ts tn (bset (fun k => decide (pt k = x ∨ ot k = x)) nc)) q9))))) (ad 3) (.inr (1, [.ref (ad 4), .ref (ad 5), .int (nI (tn + 1))]))))) (some (.int v)) f1) (hq : (fun (f : g_F) (r : Option Value) (f2 : g_F) => (¬ (inR x 30 ∧ inR y 100001) ∧ r = some (.int 0) ∧ f2 = (m_th f bd 1 L nc n pl ps)) ∨ (∃ dd, inR x 30 ∧ dd < 100001 ∧ y = nI dd ∧ r = some (.int (nI (chN pt ot x nc))) ∧ mo_R cI cZ f2 bd 0 L nc pt ot n P Du S Wy (chT tw pt ot x dd nc) ct PF DF GF pl ps O Le Sl ∧ m_fr bd f f2)) (g_u f1 ob (.inl (cJ, 1, .inr (.inl (vp_updL g 0 v.toInt64))))) r2 f3) : r2 = some (.int v) ∧ SIM cI cZ cO cJ eA f3 a0 b0 ob (cnt + 1) (vp_updL g 0 v.toInt64) 0 := by
  obtain ⟨⟨e0, e1, htn⟩, hR, hM, hG, hB, hMB, hIn, hInM, hE0, ⟨hD1, hD2, hD3⟩, hT, hRS, hUR, hUC⟩ := id h
  obtain ⟨⟨hL1, hL5⟩, hnc, hCB, hTB, hUB, hRe, hpl8, hO8, hps⟩ := id hB
  obtain ⟨-, -, -, htw, hct, hPF, hDF, ⟨hpz, hpm, -⟩, hLe⟩ := id hMB
  obtain ⟨hn8, hP, hDu, hS, hWy⟩ := id hUB
  obtain ⟨ht5, htd, hts⟩ := id hTB
  obtain ⟨dd, c0, c1, c2, hr, hc⟩ := hp
  obtain ⟨hO0, hAL, hTL, hTU, hPL, hCS⟩ := id hR
  have hv := Value.int.inj (Option.some.inj hr)
  rcases hq with ⟨hn, -, -⟩ | ⟨d2, q0, q1, q2, q3, q4, q5⟩
  · exact absurd ⟨c0, dd, c1, c2⟩ hn
  · have ed : dd = d2 := nI_inj (by omega) (by omega) (c2.symm.trans q2)
    subst ed
    refine ⟨by rw [q3, hv, chN_szo 24, Nat.min_eq_right hnc], ?_⟩
    have hb9 := bset_lt31 (fun k => decide (pt k = x ∨ ot k = x)) hnc
    rcases hc with ⟨i, i1, i2, i3, hf⟩ | ⟨i1, i2, hf⟩ | ⟨i1, i2, hf⟩
    · subst hf
      refine ⟨ad, bd, L, nc, pt, ot, per, dy, gd, ct, td, va_up ts i (ts i ||| bset (fun k => decide (pt k = x ∨ ot k = x)) nc), tn, P, Du, S, Wy, Re, n, O, pl, ps, cap, mc, chT tw pt ot x dd nc, PF, DF, GF, Le, Sl, ⟨e0, e1, by omega⟩, ?_, q4, ob_fin hD3 q5, ⟨⟨hL1, hL5⟩, hnc, hCB, ⟨ht5, htd, va_up_all (Q := fun z => z < 2 ^ 24) hts (or_lt (hts i) hb9)⟩, hUB, hRe, hpl8, hO8, hps⟩, ⟨⟨hL1, hL5⟩, hnc, hUB, chT_lt htw nc, hct, hPF, hDF, ⟨hpz, hpm, hO8⟩, hLe⟩, hIn, hInM, hE0, ⟨hD1, hD2, hD3⟩, ?_, hRS, hUR, hUC⟩
      · refine cl_fin (cJ := cJ) ?_ hD1 hD2 q5
        exact ⟨(g_u_n (fun z => absurd (hIn 0 5 (by omega) (by omega) z) (by omega))).trans (hO0), ⟨(g_u_n (fun z => absurd (hIn 1 5 (by omega) (by omega) z) (by omega))).trans (hAL.1), hAL.2.1, hAL.2.2.1, fun h0 => (hAL.2.2.2 h0).imp (fun g9 hg => ⟨(g_u_n (fun z => absurd (hIn 2 5 (by omega) (by omega) z) (by omega))).trans (hg.1), hg.2⟩)⟩, ⟨(g_u_n (fun z => absurd (hIn 3 5 (by omega) (by omega) z) (by omega))).trans (hTL.1), (g_u_n (fun z => absurd (hIn 4 5 (by omega) (by omega) z) (by omega))).trans (hTL.2.1), g_u_s⟩, ⟨(g_u_n (fun z => absurd (hIn 6 5 (by omega) (by omega) z) (by omega))).trans (hTU.1), (g_u_n (fun z => absurd (hIn 7 5 (by omega) (by omega) z) (by omega))).trans (hTU.2.1), (g_u_n (fun z => absurd (hIn 8 5 (by omega) (by omega) z) (by omega))).trans (hTU.2.2.1), (g_u_n (fun z => absurd (hIn 9 5 (by omega) (by omega) z) (by omega))).trans (hTU.2.2.2.1), (g_u_n (fun z => absurd (hIn 10 5 (by omega) (by omega) z) (by omega))).trans (hTU.2.2.2.2.1), (g_u_n (fun z => absurd (hIn 11 5 (by omega) (by omega) z) (by omega))).trans (hTU.2.2.2.2.2)⟩, (g_u_n (fun z => absurd (hIn 12 5 (by omega) (by omega) z) (by omega))).trans (hPL), fun k9 hk9 => ⟨(g_u_n (fun z => absurd (hIn (13 + 4 * k9) 5 (by omega) (by omega) z) (by omega))).trans ((hCS k9 hk9).1), (g_u_n (fun z => absurd (hIn (14 + 4 * k9) 5 (by omega) (by omega) z) (by omega))).trans ((hCS k9 hk9).2.1), (g_u_n (fun z => absurd (hIn (15 + 4 * k9) 5 (by omega) (by omega) z) (by omega))).trans ((hCS k9 hk9).2.2.1), (g_u_n (fun z => absurd (hIn (16 + 4 * k9) 5 (by omega) (by omega) z) (by omega))).trans ((hCS k9 hk9).2.2.2)⟩⟩
      · exact fun k hk => tsim_or (hT k hk) i1 i2 (by omega) hnc
    · subst hf
      refine ⟨ad, bd, L, nc, pt, ot, per, dy, gd, ct, td, ts, tn, P, Du, S, Wy, Re, n, O, pl, ps, cap, mc, chT tw pt ot x dd nc, PF, DF, GF, Le, Sl, ⟨e0, e1, by omega⟩, cl_fin (cJ := cJ) hR hD1 hD2 q5, q4, ob_fin hD3 q5, hB, ⟨⟨hL1, hL5⟩, hnc, hUB, chT_lt htw nc, hct, hPF, hDF, ⟨hpz, hpm, hO8⟩, hLe⟩, hIn, hInM, hE0, ⟨hD1, hD2, hD3⟩, ?_, hRS, hUR, hUC⟩
      exact fun k hk => tsim_no (hT k hk) i2 (by omega) hnc
    · subst hf
      refine ⟨ad, bd, L, nc, pt, ot, per, dy, gd, ct, va_up td tn dd, va_up ts tn (bset (fun k => decide (pt k = x ∨ ot k = x)) nc), tn + 1, P, Du, S, Wy, Re, n, O, pl, ps, cap, mc, chT tw pt ot x dd nc, PF, DF, GF, Le, Sl, ⟨e0, e1, by omega⟩, ?_, q4, ob_fin hD3 q5, ⟨⟨hL1, hL5⟩, hnc, hCB, ⟨by omega, va_up_all (Q := fun z => z ≤ 100000) htd (by omega), va_up_all (Q := fun z => z < 2 ^ 24) hts hb9⟩, hUB, hRe, hpl8, hO8, hps⟩, ⟨⟨hL1, hL5⟩, hnc, hUB, chT_lt htw nc, hct, hPF, hDF, ⟨hpz, hpm, hO8⟩, hLe⟩, hIn, hInM, hE0, ⟨hD1, hD2, hD3⟩, ?_, hRS, hUR, hUC⟩
      · refine cl_fin (cJ := cJ) ?_ hD1 hD2 q5
        exact ⟨(g_u_n (fun z => absurd (hIn 0 3 (by omega) (by omega) z) (by omega))).trans ((g_u_n (fun z => absurd (hIn 0 5 (by omega) (by omega) z) (by omega))).trans ((g_u_n (fun z => absurd (hIn 0 4 (by omega) (by omega) z) (by omega))).trans (hO0))), ⟨(g_u_n (fun z => absurd (hIn 1 3 (by omega) (by omega) z) (by omega))).trans ((g_u_n (fun z => absurd (hIn 1 5 (by omega) (by omega) z) (by omega))).trans ((g_u_n (fun z => absurd (hIn 1 4 (by omega) (by omega) z) (by omega))).trans (hAL.1))), hAL.2.1, hAL.2.2.1, fun h0 => (hAL.2.2.2 h0).imp (fun g9 hg => ⟨(g_u_n (fun z => absurd (hIn 2 3 (by omega) (by omega) z) (by omega))).trans ((g_u_n (fun z => absurd (hIn 2 5 (by omega) (by omega) z) (by omega))).trans ((g_u_n (fun z => absurd (hIn 2 4 (by omega) (by omega) z) (by omega))).trans (hg.1))), hg.2⟩)⟩, ⟨g_u_s, (g_u_n (fun z => absurd (hIn 4 3 (by omega) (by omega) z) (by omega))).trans ((g_u_n (fun z => absurd (hIn 4 5 (by omega) (by omega) z) (by omega))).trans (g_u_s)), (g_u_n (fun z => absurd (hIn 5 3 (by omega) (by omega) z) (by omega))).trans (g_u_s)⟩, ⟨(g_u_n (fun z => absurd (hIn 6 3 (by omega) (by omega) z) (by omega))).trans ((g_u_n (fun z => absurd (hIn 6 5 (by omega) (by omega) z) (by omega))).trans ((g_u_n (fun z => absurd (hIn 6 4 (by omega) (by omega) z) (by omega))).trans (hTU.1))), (g_u_n (fun z => absurd (hIn 7 3 (by omega) (by omega) z) (by omega))).trans ((g_u_n (fun z => absurd (hIn 7 5 (by omega) (by omega) z) (by omega))).trans ((g_u_n (fun z => absurd (hIn 7 4 (by omega) (by omega) z) (by omega))).trans (hTU.2.1))), (g_u_n (fun z => absurd (hIn 8 3 (by omega) (by omega) z) (by omega))).trans ((g_u_n (fun z => absurd (hIn 8 5 (by omega) (by omega) z) (by omega))).trans ((g_u_n (fun z => absurd (hIn 8 4 (by omega) (by omega) z) (by omega))).trans (hTU.2.2.1))), (g_u_n (fun z => absurd (hIn 9 3 (by omega) (by omega) z) (by omega))).trans ((g_u_n (fun z => absurd (hIn 9 5 (by omega) (by omega) z) (by omega))).trans ((g_u_n (fun z => absurd (hIn 9 4 (by omega) (by omega) z) (by omega))).trans (hTU.2.2.2.1))), (g_u_n (fun z => absurd (hIn 10 3 (by omega) (by omega) z) (by omega))).trans ((g_u_n (fun z => absurd (hIn 10 5 (by omega) (by omega) z) (by omega))).trans ((g_u_n (fun z => absurd (hIn 10 4 (by omega) (by omega) z) (by omega))).trans (hTU.2.2.2.2.1))), (g_u_n (fun z => absurd (hIn 11 3 (by omega) (by omega) z) (by omega))).trans ((g_u_n (fun z => absurd (hIn 11 5 (by omega) (by omega) z) (by omega))).trans ((g_u_n (fun z => absurd (hIn 11 4 (by omega) (by omega) z) (by omega))).trans (hTU.2.2.2.2.2)))⟩, (g_u_n (fun z => absurd (hIn 12 3 (by omega) (by omega) z) (by omega))).trans ((g_u_n (fun z => absurd (hIn 12 5 (by omega) (by omega) z) (by omega))).trans ((g_u_n (fun z => absurd (hIn 12 4 (by omega) (by omega) z) (by omega))).trans (hPL))), fun k9 hk9 => ⟨(g_u_n (fun z => absurd (hIn (13 + 4 * k9) 3 (by omega) (by omega) z) (by omega))).trans ((g_u_n (fun z => absurd (hIn (13 + 4 * k9) 5 (by omega) (by omega) z) (by omega))).trans ((g_u_n (fun z => absurd (hIn (13 + 4 * k9) 4 (by omega) (by omega) z) (by omega))).trans ((hCS k9 hk9).1))), (g_u_n (fun z => absurd (hIn (14 + 4 * k9) 3 (by omega) (by omega) z) (by omega))).trans ((g_u_n (fun z => absurd (hIn (14 + 4 * k9) 5 (by omega) (by omega) z) (by omega))).trans ((g_u_n (fun z => absurd (hIn (14 + 4 * k9) 4 (by omega) (by omega) z) (by omega))).trans ((hCS k9 hk9).2.1))), (g_u_n (fun z => absurd (hIn (15 + 4 * k9) 3 (by omega) (by omega) z) (by omega))).trans ((g_u_n (fun z => absurd (hIn (15 + 4 * k9) 5 (by omega) (by omega) z) (by omega))).trans ((g_u_n (fun z => absurd (hIn (15 + 4 * k9) 4 (by omega) (by omega) z) (by omega))).trans ((hCS k9 hk9).2.2.1))), (g_u_n (fun z => absurd (hIn (16 + 4 * k9) 3 (by omega) (by omega) z) (by omega))).trans ((g_u_n (fun z => absurd (hIn (16 + 4 * k9) 5 (by omega) (by omega) z) (by omega))).trans ((g_u_n (fun z => absurd (hIn (16 + 4 * k9) 4 (by omega) (by omega) z) (by omega))).trans ((hCS k9 hk9).2.2.2)))⟩⟩
      · exact fun k hk => tsim_new (hT k hk) (by omega) hnc
theorem opn_change {cI cZ cO cJ : ClassId} {eA : Nat} {f3 : g_F} {f : g_F} {a0 b0 ob cnt : Nat} {ad bd : Nat → Nat} {L nc : Nat} {pt ot : Nat → Int32} {per dy : Nat → Nat → Nat} {gd : Nat → Nat → Bool} {ct td ts : Nat → Nat} {tn : Nat} {P Du S Wy Re : Nat → Nat} {n : Nat} {O : Nat → Nat} {pl ps cap : Nat} {mc th : Int32} {tw PF DF : Nat → Nat} {GF : Nat → Bool} {Le : Nat → Nat} {Sl : Nat → Bool} {g : Nat → Int64} {x : Int32} {y : Int32} (h5 : cnt < 512) (h : SV cI cZ cO cJ eA f a0 b0 ob cnt ad bd L nc pt ot per dy gd ct td ts tn P Du S Wy Re n O pl ps cap mc th tw PF DF GF Le Sl g) {r2 : Option Value} (hx : (fun E : String => E = "java/lang/IllegalArgumentException" ∧ ¬ (inR x 30 ∧ inR y 100001)) "java/lang/IllegalArgumentException") (hq : (fun (f : g_F) (r : Option Value) (f2 : g_F) => (¬ (inR x 30 ∧ inR y 100001) ∧ r = some (.int 0) ∧ f2 = (m_th f bd 1 L nc n pl ps)) ∨ (∃ dd, inR x 30 ∧ dd < 100001 ∧ y = nI dd ∧ r = some (.int (nI (chN pt ot x nc))) ∧ mo_R cI cZ f2 bd 0 L nc pt ot n P Du S Wy (chT tw pt ot x dd nc) ct PF DF GF pl ps O Le Sl ∧ m_fr bd f f2)) (f) r2 f3) : r2 = some (.int 0) ∧ SIM cI cZ cO cJ eA f3 a0 b0 ob (cnt + 1) g 1 := by
  obtain ⟨⟨e0, e1, htn⟩, hR, hM, hG, hB, hMB, hIn, hInM, hE0, ⟨hD1, hD2, hD3⟩, hT, hRS, hUR, hUC⟩ := id h
  obtain ⟨⟨hL1, hL5⟩, hnc, hCB, hTB, hUB, hRe, hpl8, hO8, hps⟩ := id hB
  obtain ⟨-, -, -, htw, hct, hPF, hDF, ⟨hpz, hpm, -⟩, hLe⟩ := id hMB
  obtain ⟨hn8, hP, hDu, hS, hWy⟩ := id hUB
  obtain ⟨ht5, htd, hts⟩ := id hTB
  obtain ⟨-, hn⟩ := hx
  rcases hq with ⟨-, q1, q2⟩ | q
  · rw [q2]; exact ⟨q1, sim_no h 1⟩
  · exact absurd ((by obtain ⟨d2, q0, q1, q2, -⟩ := q; exact ⟨q0, d2, q1, q2⟩)) hn
theorem opm_result {cI cZ cO cJ : ClassId} {eA : Nat} {f1 : g_F} {f : g_F} {a0 b0 ob cnt : Nat} {ad bd : Nat → Nat} {L nc : Nat} {pt ot : Nat → Int32} {per dy : Nat → Nat → Nat} {gd : Nat → Nat → Bool} {ct td ts : Nat → Nat} {tn : Nat} {P Du S Wy Re : Nat → Nat} {n : Nat} {O : Nat → Nat} {pl ps cap : Nat} {mc th : Int32} {tw PF DF : Nat → Nat} {GF : Nat → Bool} {Le : Nat → Nat} {Sl : Nat → Bool} {g : Nat → Int64} {x : Int32} {y : Int32} {w : Int32} {b : Bool} (h : SV cI cZ cO cJ eA f a0 b0 ob cnt ad bd L nc pt ot per dy gd ct td ts tn P Du S Wy Re n O pl ps cap mc th tw PF DF GF Le Sl g) {r : Option Value} (hp : (fun (r : Option Value) (f2 : g_F) => ∃ k pe dd i, k < nc ∧ pe < 10 ∧ dd < 100001 ∧ x = nI k ∧ y = nI pe ∧ w = nI dd ∧ i < 32 ∧ i ≤ ct k ∧ (∀ j, j < i → ¬ (per k j = pe ∧ dy k j = dd)) ∧ (i < ct k → per k i = pe ∧ dy k i = dd) ∧ r = some (.int (nI (max (ct k) (i + 1)))) ∧ f2 = g_u (g_u (g_u (g_u f (ad (14 + 4 * k)) (.inl (cI, 32, .inl (fun q9 => nI ((va_up (per k) i pe) q9))))) (ad (15 + 4 * k)) (.inl (cI, 32, .inl (fun q9 => nI ((va_up (dy k) i dd) q9))))) (ad (16 + 4 * k)) (.inl (cZ, 32, .inl (fun q9 => bI ((va_up (gd k) i b) q9))))) (ad (13 + 4 * k)) (.inr (4, [.int (pt k), .int (ot k), .ref (ad (14 + 4 * k)), .ref (ad (15 + 4 * k)), .ref (ad (16 + 4 * k)), .int (nI (max (ct k) (i + 1)))]))) (r) f1) : (∃ v, r = some (.int v)) ∧ f1 ob = some (.inl (cJ, 1, .inr (.inl g))) ∧ (∃ z, f1 a0 = some (.inr z)) ∧ ∀ i, i < 15 → ∀ x, f (bd i) = some x → f1 (bd i) = some x := by
  obtain ⟨⟨e0, e1, htn⟩, hR, hM, hG, hB, hMB, hIn, hInM, hE0, ⟨hD1, hD2, hD3⟩, hT, hRS, hUR, hUC⟩ := id h
  obtain ⟨⟨hL1, hL5⟩, hnc, hCB, hTB, hUB, hRe, hpl8, hO8, hps⟩ := id hB
  obtain ⟨-, -, -, htw, hct, hPF, hDF, ⟨hpz, hpm, -⟩, hLe⟩ := id hMB
  obtain ⟨hn8, hP, hDu, hS, hWy⟩ := id hUB
  obtain ⟨ht5, htd, hts⟩ := id hTB
  obtain ⟨k, pe, dd, i, c1, c2, c3, c4, c5, c6, i1, i2, i3, i4, hr, hf⟩ := hp
  subst hf
  obtain ⟨hO0, hAL, hTL, hTU, hPL, hCS⟩ := id hR
  exact ⟨⟨_, hr⟩, (g_u_n (Ne.symm (hD2 (13 + 4 * k) (by omega)))).trans ((g_u_n (Ne.symm (hD2 (16 + 4 * k) (by omega)))).trans ((g_u_n (Ne.symm (hD2 (15 + 4 * k) (by omega)))).trans ((g_u_n (Ne.symm (hD2 (14 + 4 * k) (by omega)))).trans (hG)))), ⟨_, by rw [← e0]; exact (g_u_n (fun z => absurd (hIn 0 (13 + 4 * k) (by omega) (by omega) z) (by omega))).trans ((g_u_n (fun z => absurd (hIn 0 (16 + 4 * k) (by omega) (by omega) z) (by omega))).trans ((g_u_n (fun z => absurd (hIn 0 (15 + 4 * k) (by omega) (by omega) z) (by omega))).trans ((g_u_n (fun z => absurd (hIn 0 (14 + 4 * k) (by omega) (by omega) z) (by omega))).trans (hO0))))⟩, fun i hi x hx => (g_u_n (Ne.symm (hD1 (13 + 4 * k) i (by omega) hi))).trans ((g_u_n (Ne.symm (hD1 (16 + 4 * k) i (by omega) hi))).trans ((g_u_n (Ne.symm (hD1 (15 + 4 * k) i (by omega) hi))).trans ((g_u_n (Ne.symm (hD1 (14 + 4 * k) i (by omega) hi))).trans (hx))))⟩
set_option maxHeartbeats 4000000 in
set_option maxRecDepth 100000 in
theorem op_result {cI cZ cO cJ : ClassId} {eA : Nat} {f1 f3 : g_F} {f : g_F} {a0 b0 ob cnt : Nat} {ad bd : Nat → Nat} {L nc : Nat} {pt ot : Nat → Int32} {per dy : Nat → Nat → Nat} {gd : Nat → Nat → Bool} {ct td ts : Nat → Nat} {tn : Nat} {P Du S Wy Re : Nat → Nat} {n : Nat} {O : Nat → Nat} {pl ps cap : Nat} {mc th : Int32} {tw PF DF : Nat → Nat} {GF : Nat → Bool} {Le : Nat → Nat} {Sl : Nat → Bool} {g : Nat → Int64} {x : Int32} {y : Int32} {w : Int32} {b : Bool} (h : SV cI cZ cO cJ eA f a0 b0 ob cnt ad bd L nc pt ot per dy gd ct td ts tn P Du S Wy Re n O pl ps cap mc th tw PF DF GF Le Sl g) {v : Int32} {r2 : Option Value} (hp : (fun (r : Option Value) (f2 : g_F) => ∃ k pe dd i, k < nc ∧ pe < 10 ∧ dd < 100001 ∧ x = nI k ∧ y = nI pe ∧ w = nI dd ∧ i < 32 ∧ i ≤ ct k ∧ (∀ j, j < i → ¬ (per k j = pe ∧ dy k j = dd)) ∧ (i < ct k → per k i = pe ∧ dy k i = dd) ∧ r = some (.int (nI (max (ct k) (i + 1)))) ∧ f2 = g_u (g_u (g_u (g_u f (ad (14 + 4 * k)) (.inl (cI, 32, .inl (fun q9 => nI ((va_up (per k) i pe) q9))))) (ad (15 + 4 * k)) (.inl (cI, 32, .inl (fun q9 => nI ((va_up (dy k) i dd) q9))))) (ad (16 + 4 * k)) (.inl (cZ, 32, .inl (fun q9 => bI ((va_up (gd k) i b) q9))))) (ad (13 + 4 * k)) (.inr (4, [.int (pt k), .int (ot k), .ref (ad (14 + 4 * k)), .ref (ad (15 + 4 * k)), .ref (ad (16 + 4 * k)), .int (nI (max (ct k) (i + 1)))]))) (some (.int v)) f1) (hq : (fun (f : g_F) (r : Option Value) (f2 : g_F) => (¬ (inR x nc ∧ inR y 10 ∧ inR w 100001) ∧ r = some (.int 0) ∧ f2 = (m_th f bd 1 L nc n pl ps)) ∨ ((inR x nc ∧ inR y 10 ∧ inR w 100001) ∧ (∃ k pe dd, x = nI k ∧ y = nI pe ∧ w = nI dd ∧ k < nc ∧ pe < 10 ∧ dd < 100001 ∧ ct k = 32 ∧ ∀ j, j < 32 → rmt PF DF k pe dd j = false) ∧ r = some (.int 0) ∧ f2 = (m_th f bd 2 L nc n pl ps)) ∨ (∃ k pe dd i, k < nc ∧ pe < 10 ∧ dd < 100001 ∧ x = nI k ∧ y = nI pe ∧ w = nI dd ∧ i < 32 ∧ i ≤ ct k ∧ (i < ct k → rmt PF DF k pe dd i = true) ∧ (i = ct k → ∀ j, j < ct k → rmt PF DF k pe dd j = false) ∧ r = some (.int (nI (max (ct k) (i + 1)))) ∧ mo_R cI cZ f2 bd 0 L nc pt ot n P Du S Wy tw (va_up ct k (max (ct k) (i + 1))) (va_up PF (32 * k + i) pe) (va_up DF (32 * k + i) dd) (va_up GF (32 * k + i) b) pl ps O Le Sl ∧ m_fr bd f f2)) (g_u f1 ob (.inl (cJ, 1, .inr (.inl (vp_updL g 0 v.toInt64))))) r2 f3) : r2 = some (.int v) ∧ SIM cI cZ cO cJ eA f3 a0 b0 ob (cnt + 1) (vp_updL g 0 v.toInt64) 0 := by
  obtain ⟨⟨e0, e1, htn⟩, hR, hM, hG, hB, hMB, hIn, hInM, hE0, ⟨hD1, hD2, hD3⟩, hT, hRS, hUR, hUC⟩ := id h
  obtain ⟨⟨hL1, hL5⟩, hnc, hCB, hTB, hUB, hRe, hpl8, hO8, hps⟩ := id hB
  obtain ⟨-, -, -, htw, hct, hPF, hDF, ⟨hpz, hpm, -⟩, hLe⟩ := id hMB
  obtain ⟨hn8, hP, hDu, hS, hWy⟩ := id hUB
  obtain ⟨ht5, htd, hts⟩ := id hTB
  obtain ⟨k, pe, dd, i, c1, c2, c3, c4, c5, c6, i1, i2, i3, i4, hr, hf⟩ := hp
  subst hf
  obtain ⟨hO0, hAL, hTL, hTU, hPL, hCS⟩ := id hR
  have hv := Value.int.inj (Option.some.inj hr)
  have hcb := hCB k
  have hk32 := hcb.1
  have hrs := hRS k c1
  rcases hq with ⟨hn, -, -⟩ | ⟨-, ⟨k2, p2, d2, q1, q2, q3, q4, q5, q6, q7, q8⟩, -, -⟩ | ⟨k2, p2, d2, j, q1, q2, q3, q4, q5, q6, q7, q8, q9, q10, q11, q12, q13⟩
  · exact absurd ⟨⟨k, c1, c4⟩, ⟨pe, c2, c5⟩, ⟨dd, c3, c6⟩⟩ hn
  · exfalso
    have ek : k = k2 := nI_inj (by omega) (by omega) (c4.symm.trans q1)
    have ep : pe = p2 := nI_inj (by omega) (by omega) (c5.symm.trans q2)
    have ed : dd = d2 := nI_inj (by omega) (by omega) (c6.symm.trans q3)
    subst ek; subst ep; subst ed
    have i5 := i4 (by omega)
    have r5 := hrs i (by omega)
    exact of_decide_eq_false (q8 i i1) ⟨r5.1.symm.trans i5.1, r5.2.1.symm.trans i5.2⟩
  · have ek : k = k2 := nI_inj (by omega) (by omega) (c4.symm.trans q4)
    have ep : pe = p2 := nI_inj (by omega) (by omega) (c5.symm.trans q5)
    have ed : dd = d2 := nI_inj (by omega) (by omega) (c6.symm.trans q6)
    subst ek; subst ep; subst ed
    have eij : i = j := by
      by_cases hi : i < ct k
      · have i5 := i4 hi
        have r5 := hrs i hi
        by_cases hj : j < ct k
        · have j5 := of_decide_eq_true (q9 hj)
          have s5 := hrs j hj
          exact hUR k c1 i j hi hj (i5.1.trans (j5.1.symm.trans s5.1.symm)) (i5.2.trans (j5.2.symm.trans s5.2.1.symm))
        · exact absurd ⟨r5.1.symm.trans i5.1, r5.2.1.symm.trans i5.2⟩ (of_decide_eq_false (q10 (by omega) i hi))
      · by_cases hj : j < ct k
        · have j5 := of_decide_eq_true (q9 hj)
          have s5 := hrs j hj
          exact absurd ⟨s5.1.trans j5.1, s5.2.1.trans j5.2⟩ (i3 j (by omega))
        · omega
    subst eij
    refine ⟨by rw [q11, hv], ad, bd, L, nc, pt, ot, va_up per k (va_up (per k) i pe), va_up dy k (va_up (dy k) i dd), va_up gd k (va_up (gd k) i b), va_up ct k (max (ct k) (i + 1)), td, ts, tn, P, Du, S, Wy, Re, n, O, pl, ps, cap, mc, tw, va_up PF (32 * k + i) pe, va_up DF (32 * k + i) dd, va_up GF (32 * k + i) b, Le, Sl, ⟨e0, e1, by omega⟩, ?_, q12, ob_fin hD3 q13, ⟨⟨hL1, hL5⟩, hnc, ?_, hTB, hUB, hRe, hpl8, hO8, hps⟩, ⟨⟨hL1, hL5⟩, hnc, hUB, htw, va_up_all (Q := fun z => z ≤ 32) hct (by omega), va_up_all (Q := fun z => z < 10) hPF c2, va_up_all (Q := fun z => z ≤ 100000) hDF (by omega), ⟨hpz, hpm, hO8⟩, hLe⟩, hIn, hInM, hE0, ⟨hD1, hD2, hD3⟩, hT, ?_, ?_, hUC⟩
    · refine cl_fin (cJ := cJ) ?_ hD1 hD2 q13
      exact ⟨(g_u_n (fun z => absurd (hIn 0 (13 + 4 * k) (by omega) (by omega) z) (by omega))).trans ((g_u_n (fun z => absurd (hIn 0 (16 + 4 * k) (by omega) (by omega) z) (by omega))).trans ((g_u_n (fun z => absurd (hIn 0 (15 + 4 * k) (by omega) (by omega) z) (by omega))).trans ((g_u_n (fun z => absurd (hIn 0 (14 + 4 * k) (by omega) (by omega) z) (by omega))).trans (hO0)))), ⟨(g_u_n (fun z => absurd (hIn 1 (13 + 4 * k) (by omega) (by omega) z) (by omega))).trans ((g_u_n (fun z => absurd (hIn 1 (16 + 4 * k) (by omega) (by omega) z) (by omega))).trans ((g_u_n (fun z => absurd (hIn 1 (15 + 4 * k) (by omega) (by omega) z) (by omega))).trans ((g_u_n (fun z => absurd (hIn 1 (14 + 4 * k) (by omega) (by omega) z) (by omega))).trans (hAL.1)))), hAL.2.1, hAL.2.2.1, fun h0 => (hAL.2.2.2 h0).imp (fun g9 hg => ⟨(g_u_n (fun z => absurd (hIn 2 (13 + 4 * k) (by omega) (by omega) z) (by omega))).trans ((g_u_n (fun z => absurd (hIn 2 (16 + 4 * k) (by omega) (by omega) z) (by omega))).trans ((g_u_n (fun z => absurd (hIn 2 (15 + 4 * k) (by omega) (by omega) z) (by omega))).trans ((g_u_n (fun z => absurd (hIn 2 (14 + 4 * k) (by omega) (by omega) z) (by omega))).trans (hg.1)))), hg.2⟩)⟩, ⟨(g_u_n (fun z => absurd (hIn 3 (13 + 4 * k) (by omega) (by omega) z) (by omega))).trans ((g_u_n (fun z => absurd (hIn 3 (16 + 4 * k) (by omega) (by omega) z) (by omega))).trans ((g_u_n (fun z => absurd (hIn 3 (15 + 4 * k) (by omega) (by omega) z) (by omega))).trans ((g_u_n (fun z => absurd (hIn 3 (14 + 4 * k) (by omega) (by omega) z) (by omega))).trans (hTL.1)))), (g_u_n (fun z => absurd (hIn 4 (13 + 4 * k) (by omega) (by omega) z) (by omega))).trans ((g_u_n (fun z => absurd (hIn 4 (16 + 4 * k) (by omega) (by omega) z) (by omega))).trans ((g_u_n (fun z => absurd (hIn 4 (15 + 4 * k) (by omega) (by omega) z) (by omega))).trans ((g_u_n (fun z => absurd (hIn 4 (14 + 4 * k) (by omega) (by omega) z) (by omega))).trans (hTL.2.1)))), (g_u_n (fun z => absurd (hIn 5 (13 + 4 * k) (by omega) (by omega) z) (by omega))).trans ((g_u_n (fun z => absurd (hIn 5 (16 + 4 * k) (by omega) (by omega) z) (by omega))).trans ((g_u_n (fun z => absurd (hIn 5 (15 + 4 * k) (by omega) (by omega) z) (by omega))).trans ((g_u_n (fun z => absurd (hIn 5 (14 + 4 * k) (by omega) (by omega) z) (by omega))).trans (hTL.2.2))))⟩, ⟨(g_u_n (fun z => absurd (hIn 6 (13 + 4 * k) (by omega) (by omega) z) (by omega))).trans ((g_u_n (fun z => absurd (hIn 6 (16 + 4 * k) (by omega) (by omega) z) (by omega))).trans ((g_u_n (fun z => absurd (hIn 6 (15 + 4 * k) (by omega) (by omega) z) (by omega))).trans ((g_u_n (fun z => absurd (hIn 6 (14 + 4 * k) (by omega) (by omega) z) (by omega))).trans (hTU.1)))), (g_u_n (fun z => absurd (hIn 7 (13 + 4 * k) (by omega) (by omega) z) (by omega))).trans ((g_u_n (fun z => absurd (hIn 7 (16 + 4 * k) (by omega) (by omega) z) (by omega))).trans ((g_u_n (fun z => absurd (hIn 7 (15 + 4 * k) (by omega) (by omega) z) (by omega))).trans ((g_u_n (fun z => absurd (hIn 7 (14 + 4 * k) (by omega) (by omega) z) (by omega))).trans (hTU.2.1)))), (g_u_n (fun z => absurd (hIn 8 (13 + 4 * k) (by omega) (by omega) z) (by omega))).trans ((g_u_n (fun z => absurd (hIn 8 (16 + 4 * k) (by omega) (by omega) z) (by omega))).trans ((g_u_n (fun z => absurd (hIn 8 (15 + 4 * k) (by omega) (by omega) z) (by omega))).trans ((g_u_n (fun z => absurd (hIn 8 (14 + 4 * k) (by omega) (by omega) z) (by omega))).trans (hTU.2.2.1)))), (g_u_n (fun z => absurd (hIn 9 (13 + 4 * k) (by omega) (by omega) z) (by omega))).trans ((g_u_n (fun z => absurd (hIn 9 (16 + 4 * k) (by omega) (by omega) z) (by omega))).trans ((g_u_n (fun z => absurd (hIn 9 (15 + 4 * k) (by omega) (by omega) z) (by omega))).trans ((g_u_n (fun z => absurd (hIn 9 (14 + 4 * k) (by omega) (by omega) z) (by omega))).trans (hTU.2.2.2.1)))), (g_u_n (fun z => absurd (hIn 10 (13 + 4 * k) (by omega) (by omega) z) (by omega))).trans ((g_u_n (fun z => absurd (hIn 10 (16 + 4 * k) (by omega) (by omega) z) (by omega))).trans ((g_u_n (fun z => absurd (hIn 10 (15 + 4 * k) (by omega) (by omega) z) (by omega))).trans ((g_u_n (fun z => absurd (hIn 10 (14 + 4 * k) (by omega) (by omega) z) (by omega))).trans (hTU.2.2.2.2.1)))), (g_u_n (fun z => absurd (hIn 11 (13 + 4 * k) (by omega) (by omega) z) (by omega))).trans ((g_u_n (fun z => absurd (hIn 11 (16 + 4 * k) (by omega) (by omega) z) (by omega))).trans ((g_u_n (fun z => absurd (hIn 11 (15 + 4 * k) (by omega) (by omega) z) (by omega))).trans ((g_u_n (fun z => absurd (hIn 11 (14 + 4 * k) (by omega) (by omega) z) (by omega))).trans (hTU.2.2.2.2.2))))⟩, (g_u_n (fun z => absurd (hIn 12 (13 + 4 * k) (by omega) (by omega) z) (by omega))).trans ((g_u_n (fun z => absurd (hIn 12 (16 + 4 * k) (by omega) (by omega) z) (by omega))).trans ((g_u_n (fun z => absurd (hIn 12 (15 + 4 * k) (by omega) (by omega) z) (by omega))).trans ((g_u_n (fun z => absurd (hIn 12 (14 + 4 * k) (by omega) (by omega) z) (by omega))).trans (hPL)))), fun k9 hk9 => by
        by_cases e : k9 = k
        · subst e
          rw [up_s, up_s, up_s, up_s]
          exact ⟨g_u_s, (g_u_n (fun z => absurd (hIn (14 + 4 * k9) (13 + 4 * k9) (by omega) (by omega) z) (by omega))).trans ((g_u_n (fun z => absurd (hIn (14 + 4 * k9) (16 + 4 * k9) (by omega) (by omega) z) (by omega))).trans ((g_u_n (fun z => absurd (hIn (14 + 4 * k9) (15 + 4 * k9) (by omega) (by omega) z) (by omega))).trans (g_u_s))), (g_u_n (fun z => absurd (hIn (15 + 4 * k9) (13 + 4 * k9) (by omega) (by omega) z) (by omega))).trans ((g_u_n (fun z => absurd (hIn (15 + 4 * k9) (16 + 4 * k9) (by omega) (by omega) z) (by omega))).trans (g_u_s)), (g_u_n (fun z => absurd (hIn (16 + 4 * k9) (13 + 4 * k9) (by omega) (by omega) z) (by omega))).trans (g_u_s)⟩
        · rw [up_n e, up_n e, up_n e, up_n e]
          exact ⟨(g_u_n (fun z => absurd (hIn (13 + 4 * k9) (13 + 4 * k) (by omega) (by omega) z) (by omega))).trans ((g_u_n (fun z => absurd (hIn (13 + 4 * k9) (16 + 4 * k) (by omega) (by omega) z) (by omega))).trans ((g_u_n (fun z => absurd (hIn (13 + 4 * k9) (15 + 4 * k) (by omega) (by omega) z) (by omega))).trans ((g_u_n (fun z => absurd (hIn (13 + 4 * k9) (14 + 4 * k) (by omega) (by omega) z) (by omega))).trans ((hCS k9 hk9).1)))), (g_u_n (fun z => absurd (hIn (14 + 4 * k9) (13 + 4 * k) (by omega) (by omega) z) (by omega))).trans ((g_u_n (fun z => absurd (hIn (14 + 4 * k9) (16 + 4 * k) (by omega) (by omega) z) (by omega))).trans ((g_u_n (fun z => absurd (hIn (14 + 4 * k9) (15 + 4 * k) (by omega) (by omega) z) (by omega))).trans ((g_u_n (fun z => absurd (hIn (14 + 4 * k9) (14 + 4 * k) (by omega) (by omega) z) (by omega))).trans ((hCS k9 hk9).2.1)))), (g_u_n (fun z => absurd (hIn (15 + 4 * k9) (13 + 4 * k) (by omega) (by omega) z) (by omega))).trans ((g_u_n (fun z => absurd (hIn (15 + 4 * k9) (16 + 4 * k) (by omega) (by omega) z) (by omega))).trans ((g_u_n (fun z => absurd (hIn (15 + 4 * k9) (15 + 4 * k) (by omega) (by omega) z) (by omega))).trans ((g_u_n (fun z => absurd (hIn (15 + 4 * k9) (14 + 4 * k) (by omega) (by omega) z) (by omega))).trans ((hCS k9 hk9).2.2.1)))), (g_u_n (fun z => absurd (hIn (16 + 4 * k9) (13 + 4 * k) (by omega) (by omega) z) (by omega))).trans ((g_u_n (fun z => absurd (hIn (16 + 4 * k9) (16 + 4 * k) (by omega) (by omega) z) (by omega))).trans ((g_u_n (fun z => absurd (hIn (16 + 4 * k9) (15 + 4 * k) (by omega) (by omega) z) (by omega))).trans ((g_u_n (fun z => absurd (hIn (16 + 4 * k9) (14 + 4 * k) (by omega) (by omega) z) (by omega))).trans ((hCS k9 hk9).2.2.2))))⟩⟩
    · intro k9
      by_cases e : k9 = k
      · subst e
        rw [up_s, up_s, up_s]
        exact ⟨by omega, va_up_all (Q := fun z => z < 10) hcb.2.1 c2, va_up_all (Q := fun z => z ≤ 100000) hcb.2.2 (by omega)⟩
      · rw [up_n e, up_n e, up_n e]; exact hCB k9
    · intro k9 hk9 j9 hj9
      by_cases e : k9 = k
      · subst e
        rw [up_s] at hj9
        rw [up_s, up_s, up_s]
        by_cases e2 : j9 = i
        · subst e2; rw [up_s, up_s, up_s, up_s, up_s, up_s]; exact ⟨rfl, rfl, rfl⟩
        · rw [up_n e2, up_n e2, up_n e2, up_n (by omega), up_n (by omega), up_n (by omega)]; exact hrs j9 (by omega)
      · rw [up_n e] at hj9
        have := (hCB k9).1
        rw [up_n e, up_n e, up_n e, up_n (by omega), up_n (by omega), up_n (by omega)]; exact hRS k9 hk9 j9 hj9
    · intro k9 hk9 i9 j9 hi9 hj9 a1 a2
      by_cases e : k9 = k
      · subst e
        rw [up_s] at hi9 hj9 a1 a2
        have one : ∀ j8, j8 < max (ct k9) (i + 1) → j8 ≠ i → per k9 j8 = pe → dy k9 j8 = dd → False := fun j8 h8 n8 u1 u2 => by
          by_cases hi : i < ct k9
          · exact n8 (hUR k9 c1 j8 i (by omega) hi (u1.trans (i4 hi).1.symm) (u2.trans (i4 hi).2.symm))
          · exact i3 j8 (by omega) ⟨u1, u2⟩
        by_cases e2 : i9 = i
        · subst e2
          by_cases e3 : j9 = i9
          · exact e3.symm
          · rw [up_s, up_n e3] at a1 a2
            exact absurd (one j9 hj9 e3 a1.symm a2.symm) id
        · by_cases e3 : j9 = i
          · subst e3
            rw [up_s, up_n e2] at a1 a2
            exact absurd (one i9 hi9 e2 a1 a2) id
          · rw [up_n e2, up_n e3] at a1 a2
            exact hUR k9 c1 i9 j9 (by omega) (by omega) a1 a2
      · rw [up_n e] at hi9 hj9 a1 a2
        exact hUR k9 hk9 i9 j9 hi9 hj9 a1 a2
theorem opn_result {cI cZ cO cJ : ClassId} {eA : Nat} {f3 : g_F} {f : g_F} {a0 b0 ob cnt : Nat} {ad bd : Nat → Nat} {L nc : Nat} {pt ot : Nat → Int32} {per dy : Nat → Nat → Nat} {gd : Nat → Nat → Bool} {ct td ts : Nat → Nat} {tn : Nat} {P Du S Wy Re : Nat → Nat} {n : Nat} {O : Nat → Nat} {pl ps cap : Nat} {mc th : Int32} {tw PF DF : Nat → Nat} {GF : Nat → Bool} {Le : Nat → Nat} {Sl : Nat → Bool} {g : Nat → Int64} {x : Int32} {y : Int32} {w : Int32} {b : Bool} (h : SV cI cZ cO cJ eA f a0 b0 ob cnt ad bd L nc pt ot per dy gd ct td ts tn P Du S Wy Re n O pl ps cap mc th tw PF DF GF Le Sl g) {r2 : Option Value} (hx : (fun E : String => (E = "java/lang/IllegalArgumentException" ∧ ¬ (inR x nc ∧ inR y 10 ∧ inR w 100001)) ∨ (E = "java/lang/IllegalStateException" ∧ (inR x nc ∧ inR y 10 ∧ inR w 100001) ∧ (∃ k pe dd, x = nI k ∧ y = nI pe ∧ w = nI dd ∧ k < nc ∧ pe < 10 ∧ dd < 100001 ∧ ct k = 32 ∧ ∀ j, j < 32 → ¬ (per k j = pe ∧ dy k j = dd)))) "java/lang/IllegalArgumentException") (hq : (fun (f : g_F) (r : Option Value) (f2 : g_F) => (¬ (inR x nc ∧ inR y 10 ∧ inR w 100001) ∧ r = some (.int 0) ∧ f2 = (m_th f bd 1 L nc n pl ps)) ∨ ((inR x nc ∧ inR y 10 ∧ inR w 100001) ∧ (∃ k pe dd, x = nI k ∧ y = nI pe ∧ w = nI dd ∧ k < nc ∧ pe < 10 ∧ dd < 100001 ∧ ct k = 32 ∧ ∀ j, j < 32 → rmt PF DF k pe dd j = false) ∧ r = some (.int 0) ∧ f2 = (m_th f bd 2 L nc n pl ps)) ∨ (∃ k pe dd i, k < nc ∧ pe < 10 ∧ dd < 100001 ∧ x = nI k ∧ y = nI pe ∧ w = nI dd ∧ i < 32 ∧ i ≤ ct k ∧ (i < ct k → rmt PF DF k pe dd i = true) ∧ (i = ct k → ∀ j, j < ct k → rmt PF DF k pe dd j = false) ∧ r = some (.int (nI (max (ct k) (i + 1)))) ∧ mo_R cI cZ f2 bd 0 L nc pt ot n P Du S Wy tw (va_up ct k (max (ct k) (i + 1))) (va_up PF (32 * k + i) pe) (va_up DF (32 * k + i) dd) (va_up GF (32 * k + i) b) pl ps O Le Sl ∧ m_fr bd f f2)) (f) r2 f3) : r2 = some (.int 0) ∧ SIM cI cZ cO cJ eA f3 a0 b0 ob (cnt + 1) g 1 := by
  obtain ⟨⟨e0, e1, htn⟩, hR, hM, hG, hB, hMB, hIn, hInM, hE0, ⟨hD1, hD2, hD3⟩, hT, hRS, hUR, hUC⟩ := id h
  obtain ⟨⟨hL1, hL5⟩, hnc, hCB, hTB, hUB, hRe, hpl8, hO8, hps⟩ := id hB
  obtain ⟨-, -, -, htw, hct, hPF, hDF, ⟨hpz, hpm, -⟩, hLe⟩ := id hMB
  obtain ⟨hn8, hP, hDu, hS, hWy⟩ := id hUB
  obtain ⟨ht5, htd, hts⟩ := id hTB
  rcases hx with ⟨-, hn⟩ | ⟨z, -⟩
  · rcases hq with ⟨-, q1, q2⟩ | ⟨q, -⟩ | ⟨k2, p2, d2, j, q1, q2, q3, q4, q5, q6, -⟩
    · rw [q2]; exact ⟨q1, sim_no h 1⟩
    · exact absurd q hn
    · exact absurd ⟨⟨k2, q1, q4⟩, ⟨p2, q2, q5⟩, ⟨d2, q3, q6⟩⟩ hn
  · exact absurd z (by decide)
theorem ops_result {cI cZ cO cJ : ClassId} {eA : Nat} {f3 : g_F} {f : g_F} {a0 b0 ob cnt : Nat} {ad bd : Nat → Nat} {L nc : Nat} {pt ot : Nat → Int32} {per dy : Nat → Nat → Nat} {gd : Nat → Nat → Bool} {ct td ts : Nat → Nat} {tn : Nat} {P Du S Wy Re : Nat → Nat} {n : Nat} {O : Nat → Nat} {pl ps cap : Nat} {mc th : Int32} {tw PF DF : Nat → Nat} {GF : Nat → Bool} {Le : Nat → Nat} {Sl : Nat → Bool} {g : Nat → Int64} {x : Int32} {y : Int32} {w : Int32} {b : Bool} (h : SV cI cZ cO cJ eA f a0 b0 ob cnt ad bd L nc pt ot per dy gd ct td ts tn P Du S Wy Re n O pl ps cap mc th tw PF DF GF Le Sl g) {r2 : Option Value} (hx : (fun E : String => (E = "java/lang/IllegalArgumentException" ∧ ¬ (inR x nc ∧ inR y 10 ∧ inR w 100001)) ∨ (E = "java/lang/IllegalStateException" ∧ (inR x nc ∧ inR y 10 ∧ inR w 100001) ∧ (∃ k pe dd, x = nI k ∧ y = nI pe ∧ w = nI dd ∧ k < nc ∧ pe < 10 ∧ dd < 100001 ∧ ct k = 32 ∧ ∀ j, j < 32 → ¬ (per k j = pe ∧ dy k j = dd)))) "java/lang/IllegalStateException") (hq : (fun (f : g_F) (r : Option Value) (f2 : g_F) => (¬ (inR x nc ∧ inR y 10 ∧ inR w 100001) ∧ r = some (.int 0) ∧ f2 = (m_th f bd 1 L nc n pl ps)) ∨ ((inR x nc ∧ inR y 10 ∧ inR w 100001) ∧ (∃ k pe dd, x = nI k ∧ y = nI pe ∧ w = nI dd ∧ k < nc ∧ pe < 10 ∧ dd < 100001 ∧ ct k = 32 ∧ ∀ j, j < 32 → rmt PF DF k pe dd j = false) ∧ r = some (.int 0) ∧ f2 = (m_th f bd 2 L nc n pl ps)) ∨ (∃ k pe dd i, k < nc ∧ pe < 10 ∧ dd < 100001 ∧ x = nI k ∧ y = nI pe ∧ w = nI dd ∧ i < 32 ∧ i ≤ ct k ∧ (i < ct k → rmt PF DF k pe dd i = true) ∧ (i = ct k → ∀ j, j < ct k → rmt PF DF k pe dd j = false) ∧ r = some (.int (nI (max (ct k) (i + 1)))) ∧ mo_R cI cZ f2 bd 0 L nc pt ot n P Du S Wy tw (va_up ct k (max (ct k) (i + 1))) (va_up PF (32 * k + i) pe) (va_up DF (32 * k + i) dd) (va_up GF (32 * k + i) b) pl ps O Le Sl ∧ m_fr bd f f2)) (f) r2 f3) : r2 = some (.int 0) ∧ SIM cI cZ cO cJ eA f3 a0 b0 ob (cnt + 1) g 2 := by
  obtain ⟨⟨e0, e1, htn⟩, hR, hM, hG, hB, hMB, hIn, hInM, hE0, ⟨hD1, hD2, hD3⟩, hT, hRS, hUR, hUC⟩ := id h
  obtain ⟨⟨hL1, hL5⟩, hnc, hCB, hTB, hUB, hRe, hpl8, hO8, hps⟩ := id hB
  obtain ⟨-, -, -, htw, hct, hPF, hDF, ⟨hpz, hpm, -⟩, hLe⟩ := id hMB
  obtain ⟨hn8, hP, hDu, hS, hWy⟩ := id hUB
  obtain ⟨ht5, htd, hts⟩ := id hTB
  rcases hx with ⟨z, -⟩ | ⟨-, hv, k, pe, dd, c1, c2, c3, c4, c5, c6, c7, c8⟩
  · exact absurd z (by decide)
  · rcases hq with ⟨hn2, -, -⟩ | ⟨-, -, q1, q2⟩ | ⟨k2, p2, d2, j, q1, q2, q3, q4, q5, q6, q7, q8, q9, -⟩
    · exact absurd hv hn2
    · rw [q2]; exact ⟨q1, sim_no h 2⟩
    · exfalso
      have ek : k = k2 := nI_inj (by omega) (by omega) (c1.symm.trans q4)
      have ep : pe = p2 := nI_inj (by omega) (by omega) (c2.symm.trans q5)
      have ed : dd = d2 := nI_inj (by omega) (by omega) (c3.symm.trans q6)
      subst ek; subst ep; subst ed
      have j5 := of_decide_eq_true (q9 (by omega))
      have s5 := hRS k q1 j (by omega)
      exact c8 j q7 ⟨s5.1.trans j5.1, s5.2.1.trans j5.2⟩
theorem opm_fault {cI cZ cO cJ : ClassId} {eA : Nat} {f1 : g_F} {f : g_F} {a0 b0 ob cnt : Nat} {ad bd : Nat → Nat} {L nc : Nat} {pt ot : Nat → Int32} {per dy : Nat → Nat → Nat} {gd : Nat → Nat → Bool} {ct td ts : Nat → Nat} {tn : Nat} {P Du S Wy Re : Nat → Nat} {n : Nat} {O : Nat → Nat} {pl ps cap : Nat} {mc th : Int32} {tw PF DF : Nat → Nat} {GF : Nat → Bool} {Le : Nat → Nat} {Sl : Nat → Bool} {g : Nat → Int64} {x : Int32} {y : Int32} (h : SV cI cZ cO cJ eA f a0 b0 ob cnt ad bd L nc pt ot per dy gd ct td ts tn P Du S Wy Re n O pl ps cap mc th tw PF DF GF Le Sl g) {r : Option Value} (hp : (fun (r : Option Value) (f2 : g_F) => (inR x 30 ∧ (y = -1 ∨ inR y 30) ∧ ¬ x = y) ∧ ((∃ i, i < nc ∧ (∀ j, j < i → mtc pt ot x y j = false) ∧ mtc pt ot x y i = true ∧ r = some (.int (nI i)) ∧ f2 = f) ∨ ((∀ j, j < nc → mtc pt ot x y j = false) ∧ nc < 24 ∧ r = some (.int (nI nc)) ∧ ∃ (ad2 : Nat → Nat) (cap2 : Nat) (mc2 : Int32), cl_R cI cZ cO f2 ad2 L (nc + 1) (va_up pt nc x) (va_up ot nc y) (va_up per nc (fun _ => 0)) (va_up dy nc (fun _ => 0)) (va_up gd nc (fun _ => false)) (va_up ct nc 0) td ts tn P Du S Wy Re n O pl ps cap2 mc2 ∧ (∀ i j, i < 13 + 4 * (nc + 1) → j < 13 + 4 * (nc + 1) → ad2 i = ad2 j → i = j) ∧ (∀ i, i ≠ 2 → i < 13 + 4 * nc → ad2 i = ad i) ∧ (∀ i, 13 + 4 * nc ≤ i → i < 13 + 4 * (nc + 1) → f (ad2 i) = none) ∧ (ad2 2 = ad 2 ∨ f (ad2 2) = none) ∧ (∀ p_ x_, f p_ = some x_ → p_ ≠ ad 1 → p_ ≠ ad 2 → f2 p_ = some x_)))) (r) f1) : (∃ v, r = some (.int v)) ∧ f1 ob = some (.inl (cJ, 1, .inr (.inl g))) ∧ (∃ z, f1 a0 = some (.inr z)) ∧ ∀ i, i < 15 → ∀ x, f (bd i) = some x → f1 (bd i) = some x := by
  obtain ⟨⟨e0, e1, htn⟩, hR, hM, hG, hB, hMB, hIn, hInM, hE0, ⟨hD1, hD2, hD3⟩, hT, hRS, hUR, hUC⟩ := id h
  obtain ⟨⟨hL1, hL5⟩, hnc, hCB, hTB, hUB, hRe, hpl8, hO8, hps⟩ := id hB
  obtain ⟨-, -, -, htw, hct, hPF, hDF, ⟨hpz, hpm, -⟩, hLe⟩ := id hMB
  obtain ⟨hn8, hP, hDu, hS, hWy⟩ := id hUB
  obtain ⟨ht5, htd, hts⟩ := id hTB
  obtain ⟨c0, hc⟩ := hp
  rcases hc with ⟨i, i1, i2, i3, hr, hf⟩ | ⟨i1, i2, hr, ad2, cap2, mc2, gR, gI, g1, g2, g3, g4⟩
  · subst hf; exact ⟨⟨_, hr⟩, hG, ⟨_, by rw [← e0]; exact hR.1⟩, fun i hi x hx => hx⟩
  · refine ⟨⟨_, hr⟩, g4 _ _ hG (fun z => hD2 1 (by omega) z.symm) (fun z => hD2 2 (by omega) z.symm), ⟨_, by rw [← e0, ← g1 0 (by decide) (by omega)]; exact gR.1⟩, fun i hi x hx => g4 _ _ hx (fun z => hD1 1 i (by omega) hi z.symm) (fun z => hD1 2 i (by omega) hi z.symm)⟩
set_option maxHeartbeats 4000000 in
set_option maxRecDepth 100000 in
theorem op_fault {cI cZ cO cJ : ClassId} {eA : Nat} {f1 f3 : g_F} {f : g_F} {a0 b0 ob cnt : Nat} {ad bd : Nat → Nat} {L nc : Nat} {pt ot : Nat → Int32} {per dy : Nat → Nat → Nat} {gd : Nat → Nat → Bool} {ct td ts : Nat → Nat} {tn : Nat} {P Du S Wy Re : Nat → Nat} {n : Nat} {O : Nat → Nat} {pl ps cap : Nat} {mc th : Int32} {tw PF DF : Nat → Nat} {GF : Nat → Bool} {Le : Nat → Nat} {Sl : Nat → Bool} {g : Nat → Int64} {x : Int32} {y : Int32} (h : SV cI cZ cO cJ eA f a0 b0 ob cnt ad bd L nc pt ot per dy gd ct td ts tn P Du S Wy Re n O pl ps cap mc th tw PF DF GF Le Sl g) {v : Int32} {r2 : Option Value} (hp : (fun (r : Option Value) (f2 : g_F) => (inR x 30 ∧ (y = -1 ∨ inR y 30) ∧ ¬ x = y) ∧ ((∃ i, i < nc ∧ (∀ j, j < i → mtc pt ot x y j = false) ∧ mtc pt ot x y i = true ∧ r = some (.int (nI i)) ∧ f2 = f) ∨ ((∀ j, j < nc → mtc pt ot x y j = false) ∧ nc < 24 ∧ r = some (.int (nI nc)) ∧ ∃ (ad2 : Nat → Nat) (cap2 : Nat) (mc2 : Int32), cl_R cI cZ cO f2 ad2 L (nc + 1) (va_up pt nc x) (va_up ot nc y) (va_up per nc (fun _ => 0)) (va_up dy nc (fun _ => 0)) (va_up gd nc (fun _ => false)) (va_up ct nc 0) td ts tn P Du S Wy Re n O pl ps cap2 mc2 ∧ (∀ i j, i < 13 + 4 * (nc + 1) → j < 13 + 4 * (nc + 1) → ad2 i = ad2 j → i = j) ∧ (∀ i, i ≠ 2 → i < 13 + 4 * nc → ad2 i = ad i) ∧ (∀ i, 13 + 4 * nc ≤ i → i < 13 + 4 * (nc + 1) → f (ad2 i) = none) ∧ (ad2 2 = ad 2 ∨ f (ad2 2) = none) ∧ (∀ p_ x_, f p_ = some x_ → p_ ≠ ad 1 → p_ ≠ ad 2 → f2 p_ = some x_)))) (some (.int v)) f1) (hq : (fun (f : g_F) (r : Option Value) (f2 : g_F) => (¬ (inR x 30 ∧ (y = -1 ∨ inR y 30) ∧ ¬ x = y) ∧ r = some (.int 0) ∧ f2 = (m_th f bd 1 L nc n pl ps)) ∨ ((inR x 30 ∧ (y = -1 ∨ inR y 30) ∧ ¬ x = y) ∧ lx (fun c => mtc pt ot x y c) nc = 0 ∧ ¬ nc < 24 ∧ r = some (.int 0) ∧ f2 = (m_th f bd 2 L nc n pl ps)) ∨ ((inR x 30 ∧ (y = -1 ∨ inR y 30) ∧ ¬ x = y) ∧ lx (fun c => mtc pt ot x y c) nc ≠ 0 ∧ r = some (.int (fI (lx (fun c => mtc pt ot x y c) nc))) ∧ f2 = (m_th f bd 0 L nc n pl ps)) ∨ ((inR x 30 ∧ (y = -1 ∨ inR y 30) ∧ ¬ x = y) ∧ lx (fun c => mtc pt ot x y c) nc = 0 ∧ nc < 24 ∧ r = some (.int (nI nc)) ∧ mo_R cI cZ f2 bd 0 L (nc + 1) (va_up pt nc x) (va_up ot nc y) n P Du S Wy tw (va_up ct nc 0) PF DF GF pl ps O Le Sl ∧ m_fr bd f f2)) (g_u f1 ob (.inl (cJ, 1, .inr (.inl (vp_updL g 0 v.toInt64))))) r2 f3) : r2 = some (.int v) ∧ SIM cI cZ cO cJ eA f3 a0 b0 ob (cnt + 1) (vp_updL g 0 v.toInt64) 0 := by
  obtain ⟨⟨e0, e1, htn⟩, hR, hM, hG, hB, hMB, hIn, hInM, hE0, ⟨hD1, hD2, hD3⟩, hT, hRS, hUR, hUC⟩ := id h
  obtain ⟨⟨hL1, hL5⟩, hnc, hCB, hTB, hUB, hRe, hpl8, hO8, hps⟩ := id hB
  obtain ⟨-, -, -, htw, hct, hPF, hDF, ⟨hpz, hpm, -⟩, hLe⟩ := id hMB
  obtain ⟨hn8, hP, hDu, hS, hWy⟩ := id hUB
  obtain ⟨ht5, htd, hts⟩ := id hTB
  obtain ⟨c0, hc⟩ := hp
  rcases hc with ⟨i, i1, i2, i3, hr, hf⟩ | ⟨i1, i2, hr, ad2, cap2, mc2, gR, gI, g1, g2, g3, g4⟩
  · subst hf
    have hv := Value.int.inj (Option.some.inj hr)
    have hlx := lx_ge (p := fun c => mtc pt ot x y c) i3 nc i1
    rcases hq with ⟨hn, -, -⟩ | ⟨-, q1, -⟩ | ⟨-, q1, q2, q3⟩ | ⟨-, q1, -⟩
    · exact absurd c0 hn
    · rw [q1] at hlx; omega
    · obtain ⟨u1, u2, -⟩ := lx_true nc q1
      have e9 := hUC i (lx (fun c => mtc pt ot x y c) nc - 1) i1 (by omega) x y i3 u2
      rw [q3]
      refine ⟨?_, sim_ok h 0 _⟩
      rw [q2, hv]
      rw [show lx (fun c => mtc pt ot x y c) nc = i + 1 by omega, fI_s]
    · rw [q1] at hlx; omega
  · have hv := Value.int.inj (Option.some.inj hr)
    have hlx := lx_false (p := fun c => mtc pt ot x y c) nc i1
    rcases hq with ⟨hn, -, -⟩ | ⟨-, -, q1, -⟩ | ⟨-, q1, -⟩ | ⟨-, -, -, q2, q3, q4⟩
    · exact absurd c0 hn
    · exact absurd i2 q1
    · exact absurd hlx q1
    · have nb : ∀ i j, i < 13 + 4 * (nc + 1) → j < 15 → ad2 i ≠ bd j := fun i j hi hj z => by
        have hb : ∃ w, f (bd j) = some w := by
          obtain ⟨h0, h1, h2, h3, h4, h5, h6, h7, h8, h9, h10, h11, h12, h13, h14⟩ := hM
          match j, hj with
          | 0, _ => exact ⟨_, h0⟩ | 1, _ => exact ⟨_, h1⟩ | 2, _ => exact ⟨_, h2⟩ | 3, _ => exact ⟨_, h3⟩ | 4, _ => exact ⟨_, h4⟩ | 5, _ => exact ⟨_, h5⟩ | 6, _ => exact ⟨_, h6⟩ | 7, _ => exact ⟨_, h7⟩ | 8, _ => exact ⟨_, h8⟩ | 9, _ => exact ⟨_, h9⟩ | 10, _ => exact ⟨_, h10⟩ | 11, _ => exact ⟨_, h11⟩ | 12, _ => exact ⟨_, h12⟩ | 13, _ => exact ⟨_, h13⟩ | 14, _ => exact ⟨_, h14⟩
        obtain ⟨w9, hw9⟩ := hb
        by_cases hi2 : i = 2
        · subst hi2
          rcases g3 with g3 | g3
          · exact hD1 2 j (by omega) hj (g3.symm.trans z)
          · rw [z, hw9] at g3; cases g3
        · by_cases hi3 : i < 13 + 4 * nc
          · exact hD1 i j hi3 hj ((g1 i hi2 hi3).symm.trans z)
          · have g5 := g2 i (by omega) hi
            rw [z, hw9] at g5; cases g5
      have no9 : ∀ i, i < 13 + 4 * (nc + 1) → ad2 i ≠ ob := fun i hi z => by
        by_cases hi2 : i = 2
        · subst hi2
          rcases g3 with g3 | g3
          · exact hD2 2 (by omega) (g3.symm.trans z)
          · rw [z, hG] at g3; cases g3
        · by_cases hi3 : i < 13 + 4 * nc
          · exact hD2 i hi3 ((g1 i hi2 hi3).symm.trans z)
          · have g5 := g2 i (by omega) hi
            rw [z, hG] at g5; cases g5
      refine ⟨by rw [q2, hv], ad2, bd, L, nc + 1, va_up pt nc x, va_up ot nc y, va_up per nc (fun _ => 0), va_up dy nc (fun _ => 0), va_up gd nc (fun _ => false), va_up ct nc 0, td, ts, tn, P, Du, S, Wy, Re, n, O, pl, ps, cap2, mc2, tw, PF, DF, GF, Le, Sl, ⟨(g1 0 (by decide) (by omega)).trans e0, e1, by omega⟩, cl_fin (cJ := cJ) gR nb no9 q4, q3, ob_fin hD3 q4, ⟨⟨hL1, hL5⟩, i2, ?_, hTB, hUB, hRe, hpl8, hO8, hps⟩, ⟨⟨hL1, hL5⟩, i2, hUB, htw, va_up_all (Q := fun z => z ≤ 32) hct (by omega), hPF, hDF, ⟨hpz, hpm, hO8⟩, hLe⟩, gI, hInM, fun z => absurd z (by omega), ⟨nb, no9, hD3⟩, hT, ?_, ?_, ?_⟩
      · intro k9
        by_cases e : k9 = nc
        · subst e
          rw [up_s, up_s, up_s]
          exact ⟨by omega, fun _ => show 0 < 10 by decide, fun _ => show 0 ≤ 100000 by decide⟩
        · rw [up_n e, up_n e, up_n e]; exact hCB k9
      · intro k9 hk9 j9 hj9
        by_cases e : k9 = nc
        · subst e
          rw [up_s] at hj9
          omega
        · rw [up_n e] at hj9
          rw [up_n e, up_n e, up_n e]; exact hRS k9 (by omega) j9 hj9
      · intro k9 hk9 i9 j9 hi9 hj9 a1 a2
        by_cases e : k9 = nc
        · subst e
          rw [up_s] at hi9
          omega
        · rw [up_n e] at hi9 hj9 a1 a2
          exact hUR k9 (by omega) i9 j9 hi9 hj9 a1 a2
      · intro i9 j9 hi9 hj9 x9 y9 m1 m2
        have m1 := of_decide_eq_true m1
        have m2 := of_decide_eq_true m2
        by_cases e : i9 = nc
        · by_cases e2 : j9 = nc
          · rw [e, e2]
          · exfalso
            subst e
            rw [up_s, up_s] at m1
            rw [up_n e2, up_n e2] at m2
            refine of_decide_eq_false (i1 j9 (by omega)) ?_
            rcases m1 with ⟨a1, a2⟩ | ⟨a1, a2⟩
            · subst a1; subst a2; exact m2
            · subst a1; subst a2; exact m2.symm
        · by_cases e2 : j9 = nc
          · exfalso
            subst e2
            rw [up_s, up_s] at m2
            rw [up_n e, up_n e] at m1
            refine of_decide_eq_false (i1 i9 (by omega)) ?_
            rcases m2 with ⟨a1, a2⟩ | ⟨a1, a2⟩
            · subst a1; subst a2; exact m1
            · subst a1; subst a2; exact m1.symm
          · rw [up_n e, up_n e] at m1
            rw [up_n e2, up_n e2] at m2
            exact hUC i9 j9 (by omega) (by omega) x9 y9 (decide_eq_true m1) (decide_eq_true m2)
theorem opn_fault {cI cZ cO cJ : ClassId} {eA : Nat} {f3 : g_F} {f : g_F} {a0 b0 ob cnt : Nat} {ad bd : Nat → Nat} {L nc : Nat} {pt ot : Nat → Int32} {per dy : Nat → Nat → Nat} {gd : Nat → Nat → Bool} {ct td ts : Nat → Nat} {tn : Nat} {P Du S Wy Re : Nat → Nat} {n : Nat} {O : Nat → Nat} {pl ps cap : Nat} {mc th : Int32} {tw PF DF : Nat → Nat} {GF : Nat → Bool} {Le : Nat → Nat} {Sl : Nat → Bool} {g : Nat → Int64} {x : Int32} {y : Int32} (h : SV cI cZ cO cJ eA f a0 b0 ob cnt ad bd L nc pt ot per dy gd ct td ts tn P Du S Wy Re n O pl ps cap mc th tw PF DF GF Le Sl g) {r2 : Option Value} (hx : (fun E : String => (E = "java/lang/IllegalArgumentException" ∧ ¬ (inR x 30 ∧ (y = -1 ∨ inR y 30) ∧ ¬ x = y)) ∨ (E = "java/lang/IllegalStateException" ∧ (inR x 30 ∧ (y = -1 ∨ inR y 30) ∧ ¬ x = y) ∧ (∀ j, j < nc → mtc pt ot x y j = false) ∧ ¬ nc < 24)) "java/lang/IllegalArgumentException") (hq : (fun (f : g_F) (r : Option Value) (f2 : g_F) => (¬ (inR x 30 ∧ (y = -1 ∨ inR y 30) ∧ ¬ x = y) ∧ r = some (.int 0) ∧ f2 = (m_th f bd 1 L nc n pl ps)) ∨ ((inR x 30 ∧ (y = -1 ∨ inR y 30) ∧ ¬ x = y) ∧ lx (fun c => mtc pt ot x y c) nc = 0 ∧ ¬ nc < 24 ∧ r = some (.int 0) ∧ f2 = (m_th f bd 2 L nc n pl ps)) ∨ ((inR x 30 ∧ (y = -1 ∨ inR y 30) ∧ ¬ x = y) ∧ lx (fun c => mtc pt ot x y c) nc ≠ 0 ∧ r = some (.int (fI (lx (fun c => mtc pt ot x y c) nc))) ∧ f2 = (m_th f bd 0 L nc n pl ps)) ∨ ((inR x 30 ∧ (y = -1 ∨ inR y 30) ∧ ¬ x = y) ∧ lx (fun c => mtc pt ot x y c) nc = 0 ∧ nc < 24 ∧ r = some (.int (nI nc)) ∧ mo_R cI cZ f2 bd 0 L (nc + 1) (va_up pt nc x) (va_up ot nc y) n P Du S Wy tw (va_up ct nc 0) PF DF GF pl ps O Le Sl ∧ m_fr bd f f2)) (f) r2 f3) : r2 = some (.int 0) ∧ SIM cI cZ cO cJ eA f3 a0 b0 ob (cnt + 1) g 1 := by
  obtain ⟨⟨e0, e1, htn⟩, hR, hM, hG, hB, hMB, hIn, hInM, hE0, ⟨hD1, hD2, hD3⟩, hT, hRS, hUR, hUC⟩ := id h
  obtain ⟨⟨hL1, hL5⟩, hnc, hCB, hTB, hUB, hRe, hpl8, hO8, hps⟩ := id hB
  obtain ⟨-, -, -, htw, hct, hPF, hDF, ⟨hpz, hpm, -⟩, hLe⟩ := id hMB
  obtain ⟨hn8, hP, hDu, hS, hWy⟩ := id hUB
  obtain ⟨ht5, htd, hts⟩ := id hTB
  rcases hx with ⟨-, hn⟩ | ⟨z, -⟩
  · rcases hq with ⟨-, q1, q2⟩ | ⟨q, -⟩ | ⟨q, -⟩ | ⟨q, -⟩
    · rw [q2]; exact ⟨q1, sim_no h 1⟩
    · exact absurd q hn
    · exact absurd q hn
    · exact absurd q hn
  · exact absurd z (by decide)
theorem ops_fault {cI cZ cO cJ : ClassId} {eA : Nat} {f3 : g_F} {f : g_F} {a0 b0 ob cnt : Nat} {ad bd : Nat → Nat} {L nc : Nat} {pt ot : Nat → Int32} {per dy : Nat → Nat → Nat} {gd : Nat → Nat → Bool} {ct td ts : Nat → Nat} {tn : Nat} {P Du S Wy Re : Nat → Nat} {n : Nat} {O : Nat → Nat} {pl ps cap : Nat} {mc th : Int32} {tw PF DF : Nat → Nat} {GF : Nat → Bool} {Le : Nat → Nat} {Sl : Nat → Bool} {g : Nat → Int64} {x : Int32} {y : Int32} (h : SV cI cZ cO cJ eA f a0 b0 ob cnt ad bd L nc pt ot per dy gd ct td ts tn P Du S Wy Re n O pl ps cap mc th tw PF DF GF Le Sl g) {r2 : Option Value} (hx : (fun E : String => (E = "java/lang/IllegalArgumentException" ∧ ¬ (inR x 30 ∧ (y = -1 ∨ inR y 30) ∧ ¬ x = y)) ∨ (E = "java/lang/IllegalStateException" ∧ (inR x 30 ∧ (y = -1 ∨ inR y 30) ∧ ¬ x = y) ∧ (∀ j, j < nc → mtc pt ot x y j = false) ∧ ¬ nc < 24)) "java/lang/IllegalStateException") (hq : (fun (f : g_F) (r : Option Value) (f2 : g_F) => (¬ (inR x 30 ∧ (y = -1 ∨ inR y 30) ∧ ¬ x = y) ∧ r = some (.int 0) ∧ f2 = (m_th f bd 1 L nc n pl ps)) ∨ ((inR x 30 ∧ (y = -1 ∨ inR y 30) ∧ ¬ x = y) ∧ lx (fun c => mtc pt ot x y c) nc = 0 ∧ ¬ nc < 24 ∧ r = some (.int 0) ∧ f2 = (m_th f bd 2 L nc n pl ps)) ∨ ((inR x 30 ∧ (y = -1 ∨ inR y 30) ∧ ¬ x = y) ∧ lx (fun c => mtc pt ot x y c) nc ≠ 0 ∧ r = some (.int (fI (lx (fun c => mtc pt ot x y c) nc))) ∧ f2 = (m_th f bd 0 L nc n pl ps)) ∨ ((inR x 30 ∧ (y = -1 ∨ inR y 30) ∧ ¬ x = y) ∧ lx (fun c => mtc pt ot x y c) nc = 0 ∧ nc < 24 ∧ r = some (.int (nI nc)) ∧ mo_R cI cZ f2 bd 0 L (nc + 1) (va_up pt nc x) (va_up ot nc y) n P Du S Wy tw (va_up ct nc 0) PF DF GF pl ps O Le Sl ∧ m_fr bd f f2)) (f) r2 f3) : r2 = some (.int 0) ∧ SIM cI cZ cO cJ eA f3 a0 b0 ob (cnt + 1) g 2 := by
  obtain ⟨⟨e0, e1, htn⟩, hR, hM, hG, hB, hMB, hIn, hInM, hE0, ⟨hD1, hD2, hD3⟩, hT, hRS, hUR, hUC⟩ := id h
  obtain ⟨⟨hL1, hL5⟩, hnc, hCB, hTB, hUB, hRe, hpl8, hO8, hps⟩ := id hB
  obtain ⟨-, -, -, htw, hct, hPF, hDF, ⟨hpz, hpm, -⟩, hLe⟩ := id hMB
  obtain ⟨hn8, hP, hDu, hS, hWy⟩ := id hUB
  obtain ⟨ht5, htd, hts⟩ := id hTB
  rcases hx with ⟨z, -⟩ | ⟨-, hv, i1, i2⟩
  · exact absurd z (by decide)
  · have hlx := lx_false (p := fun c => mtc pt ot x y c) nc i1
    rcases hq with ⟨hn2, -, -⟩ | ⟨-, -, -, q1, q2⟩ | ⟨-, q1, -⟩ | ⟨-, -, q1, -⟩
    · exact absurd hv hn2
    · rw [q2]; exact ⟨q1, sim_no h 2⟩
    · exact absurd hlx q1
    · exact absurd q1 i2
