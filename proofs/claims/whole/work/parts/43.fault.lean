theorem al_congr {cO : ClassId} {f : g_F} {q eD n cap : Nat} {ca cb : Nat → Nat} {mc : Int32} (h : al_R cO f q eD ca n cap mc) (hc : ∀ k, k < n → ca k = cb k) : al_R cO f q eD cb n cap mc := by
  obtain ⟨h1, h2, h3, h4⟩ := h
  refine ⟨h1, h2, h3, fun h0 => ?_⟩
  obtain ⟨g, g1, g2⟩ := h4 h0
  exact ⟨g, g1, fun k hk => by rw [← hc k hk]; exact g2 k hk⟩
theorem cl_grow {cI cZ cO : ClassId} {f : g_F} {ad : Nat → Nat} {L nc : Nat} {pt ot : Nat → Int32} {per dy : Nat → Nat → Nat} {gd : Nat → Nat → Bool} {ct : Nat → Nat} {td ts : Nat → Nat} {tn : Nat} {P Du S Wy Re : Nat → Nat} {n : Nat} {O : Nat → Nat} {pl ps cap : Nat} {mc : Int32} (hR : cl_R cI cZ cO f ad L nc pt ot per dy gd ct td ts tn P Du S Wy Re n O pl ps cap mc) (hIn : ∀ i j, i < 13 + 4 * nc → j < 13 + 4 * nc → ad i = ad j → i = j) {f2 f3 : g_F} {qk eD2 cap2 : Nat} {a : Nat → Nat} {mc2 x y : Int32}
    (m1 : ∀ p x, f p = some x → f2 p = some x) (hq : f qk = none) (ha : ∀ i, i < 3 → f (a i) = none) (hai : ∀ i j, i < 3 → j < 3 → a i = a j → i = j) (hqa : ∀ i, i < 3 → qk ≠ a i) (hcs : cs_R cI cZ f2 qk (a 0) (a 1) (a 2) x y (fun _ => 0) (fun _ => 0) (fun _ => false) 0)
    (hal : al_R cO f3 (ad 1) eD2 (va_up (fun k => ad (13 + 4 * k)) nc qk) (nc + 1) cap2 mc2) (he : eD2 = ad 2 ∨ f2 eD2 = none) (hfr : ∀ p x, f2 p = some x → p ≠ ad 1 → p ≠ ad 2 → f3 p = some x) (h2 : ∀ p, f2 p ≠ none → f p = none → p ≠ ad 2) : ∃ (ad2 : Nat → Nat) (cap2 : Nat) (mc2 : Int32), cl_R cI cZ cO f3 ad2 L (nc + 1) (va_up pt nc x) (va_up ot nc y) (va_up per nc (fun _ => 0)) (va_up dy nc (fun _ => 0)) (va_up gd nc (fun _ => false)) (va_up ct nc 0) td ts tn P Du S Wy Re n O pl ps cap2 mc2 ∧ (∀ i j, i < 13 + 4 * (nc + 1) → j < 13 + 4 * (nc + 1) → ad2 i = ad2 j → i = j) ∧ (∀ i, i ≠ 2 → i < 13 + 4 * nc → ad2 i = ad i) ∧ (∀ i, 13 + 4 * nc ≤ i → i < 13 + 4 * (nc + 1) → f (ad2 i) = none) ∧ (ad2 2 = ad 2 ∨ f (ad2 2) = none) ∧ (∀ p_ x_, f p_ = some x_ → p_ ≠ ad 1 → p_ ≠ ad 2 → f3 p_ = some x_) := by
  obtain ⟨hO0, hAL, hTL, hTU, hPL, hCS⟩ := hR
  -- the old cells
  have old : ∀ i, i < 13 + 4 * nc → i ≠ 2 → f (ad i) ≠ none := by
    intro i hi hi2
    by_cases hb : i < 13
    · have e : i = 0 ∨ i = 1 ∨ i = 3 ∨ i = 4 ∨ i = 5 ∨ i = 6 ∨ i = 7 ∨ i = 8 ∨ i = 9 ∨ i = 10 ∨ i = 11 ∨ i = 12 := by omega
      rcases e with e | e | e | e | e | e | e | e | e | e | e | e <;> subst e <;> intro z
      · rw [hO0] at z; cases z
      · rw [hAL.1] at z; cases z
      · rw [hTL.1] at z; cases z
      · rw [hTL.2.1] at z; cases z
      · rw [hTL.2.2] at z; cases z
      · rw [hTU.1] at z; cases z
      · rw [hTU.2.1] at z; cases z
      · rw [hTU.2.2.1] at z; cases z
      · rw [hTU.2.2.2.1] at z; cases z
      · rw [hTU.2.2.2.2.1] at z; cases z
      · rw [hTU.2.2.2.2.2] at z; cases z
      · rw [hPL] at z; cases z
    · obtain ⟨k, r, hk, hr, rfl⟩ : ∃ k r, k < nc ∧ r < 4 ∧ i = 13 + 4 * k + r := ⟨(i - 13) / 4, (i - 13) % 4, by omega, by omega, by omega⟩
      have hc := hCS k hk
      have e : r = 0 ∨ r = 1 ∨ r = 2 ∨ r = 3 := by omega
      rcases e with e | e | e | e <;> subst e <;> intro z
      · rw [show 13 + 4 * k + 0 = 13 + 4 * k by omega, hc.1] at z; cases z
      · rw [show 13 + 4 * k + 1 = 14 + 4 * k by omega, hc.2.1] at z; cases z
      · rw [show 13 + 4 * k + 2 = 15 + 4 * k by omega, hc.2.2.1] at z; cases z
      · rw [show 13 + 4 * k + 3 = 16 + 4 * k by omega, hc.2.2.2] at z; cases z
  have keep : ∀ i, i < 13 + 4 * nc → i ≠ 1 → i ≠ 2 → ∀ x, f (ad i) = some x → f3 (ad i) = some x := fun i hi h1' h2' x hx => hfr _ x (m1 _ x hx) (fun z => h1' (hIn i 1 hi (by omega) z)) (fun z => h2' (hIn i 2 hi (by omega) z))
  have hq1 : qk ≠ ad 1 := fun z => old 1 (by omega) (by decide) (by rw [← z]; exact hq)
  have ha1 : ∀ i, i < 3 → a i ≠ ad 1 := fun i hi z => old 1 (by omega) (by decide) (by rw [← z]; exact ha i hi)
  have hq2 : qk ≠ ad 2 := h2 qk (by rw [hcs.1]; exact fun z => by cases z) hq
  have f2a : ∀ i, i < 3 → f2 (a i) ≠ none := by
    intro i hi
    have e : i = 0 ∨ i = 1 ∨ i = 2 := by omega
    rcases e with e | e | e <;> subst e <;> intro z
    · rw [hcs.2.1] at z; cases z
    · rw [hcs.2.2.1] at z; cases z
    · rw [hcs.2.2.2] at z; cases z
  have ha2 : ∀ i, i < 3 → a i ≠ ad 2 := fun i hi => h2 _ (f2a i hi) (ha i hi)
  generalize hA : (fun i => if i = 2 then eD2 else if i < 13 + 4 * nc then ad i else ([qk, a 0, a 1, a 2] : List Nat).getD (i - (13 + 4 * nc)) 0 : Nat → Nat) = ad2
  have d2 : ad2 2 = eD2 := by rw [← hA]; exact if_pos rfl
  have dO : ∀ i, i ≠ 2 → i < 13 + 4 * nc → ad2 i = ad i := fun i h1' h2' => by rw [← hA]; show (if i = 2 then _ else _) = _; rw [if_neg h1', if_pos h2']
  have dN : ∀ r, r < 4 → ad2 (13 + 4 * nc + r) = ([qk, a 0, a 1, a 2] : List Nat).getD r 0 := fun r hr => by rw [← hA]; show (if 13 + 4 * nc + r = 2 then _ else _) = _; rw [if_neg (by omega), if_neg (by omega), show 13 + 4 * nc + r - (13 + 4 * nc) = r by omega]
  have n0 : ad2 (13 + 4 * nc) = qk := dN 0 (by decide)
  have n1 : ad2 (14 + 4 * nc) = a 0 := by rw [show 14 + 4 * nc = 13 + 4 * nc + 1 by omega]; exact dN 1 (by decide)
  have n2 : ad2 (15 + 4 * nc) = a 1 := by rw [show 15 + 4 * nc = 13 + 4 * nc + 2 by omega]; exact dN 2 (by decide)
  have n3 : ad2 (16 + 4 * nc) = a 2 := by rw [show 16 + 4 * nc = 13 + 4 * nc + 3 by omega]; exact dN 3 (by decide)
  have nfr : ∀ r, r < 4 → f (([qk, a 0, a 1, a 2] : List Nat).getD r 0) = none ∧ f2 (([qk, a 0, a 1, a 2] : List Nat).getD r 0) ≠ none ∧ ([qk, a 0, a 1, a 2] : List Nat).getD r 0 ≠ ad 2 := by
    intro r hr
    have e : r = 0 ∨ r = 1 ∨ r = 2 ∨ r = 3 := by omega
    rcases e with e | e | e | e <;> subst e
    · exact ⟨hq, by rw [show ([qk, a 0, a 1, a 2] : List Nat).getD 0 0 = qk from rfl, hcs.1]; exact fun z => (by cases z), hq2⟩
    · exact ⟨ha 0 (by decide), f2a 0 (by decide), ha2 0 (by decide)⟩
    · exact ⟨ha 1 (by decide), f2a 1 (by decide), ha2 1 (by decide)⟩
    · exact ⟨ha 2 (by decide), f2a 2 (by decide), ha2 2 (by decide)⟩
  have ndj : ∀ r r2, r < 4 → r2 < 4 → ([qk, a 0, a 1, a 2] : List Nat).getD r 0 = ([qk, a 0, a 1, a 2] : List Nat).getD r2 0 → r = r2 := by
    have hp : ([qk, a 0, a 1, a 2] : List Nat).Pairwise (· ≠ ·) := List.Pairwise.cons (List.forall_mem_cons.mpr ⟨hqa 0 (by decide), List.forall_mem_cons.mpr ⟨hqa 1 (by decide), List.forall_mem_cons.mpr ⟨hqa 2 (by decide), fun _ z => (by cases z)⟩⟩⟩) (List.Pairwise.cons (List.forall_mem_cons.mpr ⟨fun z => absurd (hai 0 1 (by decide) (by decide) z) (by decide), List.forall_mem_cons.mpr ⟨fun z => absurd (hai 0 2 (by decide) (by decide) z) (by decide), fun _ z => (by cases z)⟩⟩) (List.Pairwise.cons (List.forall_mem_cons.mpr ⟨fun z => absurd (hai 1 2 (by decide) (by decide) z) (by decide), fun _ z => (by cases z)⟩) (List.Pairwise.cons (fun _ z => (by cases z)) List.Pairwise.nil)))
    exact nd_inj hp
  refine ⟨ad2, cap2, mc2, ⟨?_, ?_, ?_, ?_, ?_, ?_⟩, ?_, dO, ?_, ?_, ?_⟩
  · rw [dO 0 (by decide) (by omega), dO 1 (by decide) (by omega), dO 3 (by decide) (by omega), dO 6 (by decide) (by omega), dO 12 (by decide) (by omega)]
    exact keep 0 (by omega) (by decide) (by decide) _ hO0
  · rw [dO 1 (by decide) (by omega), d2]
    refine al_congr hal (fun k hk => ?_)
    by_cases hkn : k = nc
    · subst hkn; rw [n0]; exact if_pos rfl
    · rw [dO (13 + 4 * k) (by omega) (by omega)]; exact if_neg hkn
  · refine ⟨?_, ?_, ?_⟩
    · show f3 (ad2 3) = some (.inr (1, [.ref (ad2 4), .ref (ad2 5), _]))
      rw [dO 3 (by decide) (by omega), dO 4 (by decide) (by omega), dO 5 (by decide) (by omega)]
      exact keep 3 (by omega) (by decide) (by decide) _ hTL.1
    · show f3 (ad2 4) = _
      rw [dO 4 (by decide) (by omega)]
      exact keep 4 (by omega) (by decide) (by decide) _ hTL.2.1
    · show f3 (ad2 5) = _
      rw [dO 5 (by decide) (by omega)]
      exact keep 5 (by omega) (by decide) (by decide) _ hTL.2.2
  · refine ⟨?_, ?_, ?_, ?_, ?_, ?_⟩
    · show f3 (ad2 6) = some (.inr (2, [.ref (ad2 7), .ref (ad2 8), .ref (ad2 9), .ref (ad2 10), .ref (ad2 11), _]))
      rw [dO 6 (by decide) (by omega), dO 7 (by decide) (by omega), dO 8 (by decide) (by omega), dO 9 (by decide) (by omega), dO 10 (by decide) (by omega), dO 11 (by decide) (by omega)]
      exact keep 6 (by omega) (by decide) (by decide) _ hTU.1
    · show f3 (ad2 7) = _
      rw [dO 7 (by decide) (by omega)]
      exact keep 7 (by omega) (by decide) (by decide) _ hTU.2.1
    · show f3 (ad2 8) = _
      rw [dO 8 (by decide) (by omega)]
      exact keep 8 (by omega) (by decide) (by decide) _ hTU.2.2.1
    · show f3 (ad2 9) = _
      rw [dO 9 (by decide) (by omega)]
      exact keep 9 (by omega) (by decide) (by decide) _ hTU.2.2.2.1
    · show f3 (ad2 10) = _
      rw [dO 10 (by decide) (by omega)]
      exact keep 10 (by omega) (by decide) (by decide) _ hTU.2.2.2.2.1
    · show f3 (ad2 11) = _
      rw [dO 11 (by decide) (by omega)]
      exact keep 11 (by omega) (by decide) (by decide) _ hTU.2.2.2.2.2
  · rw [dO 12 (by decide) (by omega)]
    exact keep 12 (by omega) (by decide) (by decide) _ hPL
  · intro k hk
    by_cases hkn : k = nc
    · subst hkn
      rw [n0, n1, n2, n3]
      rw [show va_up pt k x k = x from if_pos rfl, show va_up ot k y k = y from if_pos rfl, show va_up per k (fun _ => 0) k = (fun _ => 0) from if_pos rfl, show va_up dy k (fun _ => 0) k = (fun _ => 0) from if_pos rfl, show va_up gd k (fun _ => false) k = (fun _ => false) from if_pos rfl, show va_up ct k 0 k = 0 from if_pos rfl]
      exact ⟨hfr _ _ hcs.1 hq1 hq2, hfr _ _ hcs.2.1 (ha1 0 (by decide)) (ha2 0 (by decide)), hfr _ _ hcs.2.2.1 (ha1 1 (by decide)) (ha2 1 (by decide)), hfr _ _ hcs.2.2.2 (ha1 2 (by decide)) (ha2 2 (by decide))⟩
    · have hc := hCS k (by omega)
      rw [dO (13 + 4 * k) (by omega) (by omega), dO (14 + 4 * k) (by omega) (by omega), dO (15 + 4 * k) (by omega) (by omega), dO (16 + 4 * k) (by omega) (by omega)]
      rw [show va_up pt nc x k = pt k from if_neg hkn, show va_up ot nc y k = ot k from if_neg hkn, show va_up per nc (fun _ => 0) k = per k from if_neg hkn, show va_up dy nc (fun _ => 0) k = dy k from if_neg hkn, show va_up gd nc (fun _ => false) k = gd k from if_neg hkn, show va_up ct nc 0 k = ct k from if_neg hkn]
      exact ⟨keep _ (by omega) (by omega) (by omega) _ hc.1, keep _ (by omega) (by omega) (by omega) _ hc.2.1, keep _ (by omega) (by omega) (by omega) _ hc.2.2.1, keep _ (by omega) (by omega) (by omega) _ hc.2.2.2⟩
  · -- apart
    have e2 : ∀ i, i < 13 + 4 * nc → i ≠ 2 → eD2 ≠ ad i := by
      intro i hi hi2 z
      rcases he with he | he
      · exact hi2 (hIn i 2 hi (by omega) (z.symm.trans he))
      · cases hx : f (ad i) with
        | none => exact old i hi hi2 hx
        | some x => have := m1 _ x hx; rw [← z, he] at this; cases this
    have e3 : ∀ r, r < 4 → eD2 ≠ ([qk, a 0, a 1, a 2] : List Nat).getD r 0 := by
      intro r hr z
      rcases he with he | he
      · exact (nfr r hr).2.2 (z.symm.trans he)
      · exact (nfr r hr).2.1 (by rw [← z]; exact he)
    have e4 : ∀ i r, i < 13 + 4 * nc → i ≠ 2 → r < 4 → ad i ≠ ([qk, a 0, a 1, a 2] : List Nat).getD r 0 := fun i r hi hi2 hr z => old i hi hi2 (by rw [z]; exact (nfr r hr).1)
    intro i j hi hj h
    by_cases hi2 : i = 2
    · by_cases hj2 : j = 2
      · omega
      · rw [hi2, d2] at h
        by_cases hjo : j < 13 + 4 * nc
        · rw [dO j hj2 hjo] at h; exact absurd h (e2 j hjo hj2)
        · rw [show j = 13 + 4 * nc + (j - (13 + 4 * nc)) by omega, dN _ (by omega)] at h
          exact absurd h (e3 _ (by omega))
    · by_cases hj2 : j = 2
      · rw [hj2, d2] at h
        by_cases hio : i < 13 + 4 * nc
        · rw [dO i hi2 hio] at h; exact absurd h.symm (e2 i hio hi2)
        · rw [show i = 13 + 4 * nc + (i - (13 + 4 * nc)) by omega, dN _ (by omega)] at h
          exact absurd h.symm (e3 _ (by omega))
      · by_cases hio : i < 13 + 4 * nc
        · rw [dO i hi2 hio] at h
          by_cases hjo : j < 13 + 4 * nc
          · rw [dO j hj2 hjo] at h; exact hIn i j hio hjo h
          · rw [show j = 13 + 4 * nc + (j - (13 + 4 * nc)) by omega, dN _ (by omega)] at h
            exact absurd h (e4 i _ hio hi2 (by omega))
        · have hi3 : i = 13 + 4 * nc + (i - (13 + 4 * nc)) := by omega
          rw [hi3, dN _ (by omega)] at h
          by_cases hjo : j < 13 + 4 * nc
          · rw [dO j hj2 hjo] at h; exact absurd h.symm (e4 j _ hjo hj2 (by omega))
          · have hj3 : j = 13 + 4 * nc + (j - (13 + 4 * nc)) := by omega
            rw [hj3, dN _ (by omega)] at h
            have := ndj _ _ (by omega) (by omega) h
            omega
  · intro i h1' h2'
    rw [show i = 13 + 4 * nc + (i - (13 + 4 * nc)) by omega, dN _ (by omega)]
    exact (nfr _ (by omega)).1
  · rw [d2]
    refine he.imp id (fun z => ?_)
    cases hx : f eD2 with
    | none => rfl
    | some x => have := m1 _ x hx; rw [z] at this; cases this
  · exact fun p_ x_ h1' h2' h3' => hfr p_ x_ (m1 _ _ h1') h2' h3'
set_option maxHeartbeats 4000000 in
set_option maxRecDepth 100000 in
theorem c_CL_fault {l : Launch} {D : va_G} {cI cZ cO cJ : ClassId} {eA eM : Nat} (hl : l.stackTraces = false) {f : g_F} {ad : Nat → Nat} {L nc : Nat} {pt ot : Nat → Int32} {per dy : Nat → Nat → Nat} {gd : Nat → Nat → Bool} {ct : Nat → Nat} {td ts : Nat → Nat} {tn : Nat} {P Du S Wy Re : Nat → Nat} {n : Nat} {O : Nat → Nat} {pl ps cap : Nat} {mc : Int32} (hR : cl_R cI cZ cO f ad L nc pt ot per dy gd ct td ts tn P Du S Wy Re n O pl ps cap mc) (hB : cl_B L nc per dy ct td ts tn P Du S Wy Re n O pl ps) (hIn : ∀ i j, i < 13 + 4 * nc → j < 13 + 4 * nc → ad i = ad j → i = j) (hE0 : nc = 0 → ad 2 = eA ∧ cap = 0) {x y : Int32} : g_C l y_CL_fault b_CL_fault 4 (some .int) { frames := 8, cells := 9, slots := 166, locals := 191 } D g_cl (g_tys cI cZ cO cJ) (z_Z eA eM) [.ref (ad 0), .int x, .int y] f (fun r f2 => (inR x 30 ∧ (y = -1 ∨ inR y 30) ∧ ¬ x = y) ∧ ((∃ i, i < nc ∧ (∀ j, j < i → mtc pt ot x y j = false) ∧ mtc pt ot x y i = true ∧ r = some (.int (nI i)) ∧ f2 = f) ∨ ((∀ j, j < nc → mtc pt ot x y j = false) ∧ nc < 24 ∧ r = some (.int (nI nc)) ∧ ∃ (ad2 : Nat → Nat) (cap2 : Nat) (mc2 : Int32), cl_R cI cZ cO f2 ad2 L (nc + 1) (va_up pt nc x) (va_up ot nc y) (va_up per nc (fun _ => 0)) (va_up dy nc (fun _ => 0)) (va_up gd nc (fun _ => false)) (va_up ct nc 0) td ts tn P Du S Wy Re n O pl ps cap2 mc2 ∧ (∀ i j, i < 13 + 4 * (nc + 1) → j < 13 + 4 * (nc + 1) → ad2 i = ad2 j → i = j) ∧ (∀ i, i ≠ 2 → i < 13 + 4 * nc → ad2 i = ad i) ∧ (∀ i, 13 + 4 * nc ≤ i → i < 13 + 4 * (nc + 1) → f (ad2 i) = none) ∧ (ad2 2 = ad 2 ∨ f (ad2 2) = none) ∧ (∀ p_ x_, f p_ = some x_ → p_ ≠ ad 1 → p_ ≠ ad 2 → f2 p_ = some x_)))) (fun E => (E = "java/lang/IllegalArgumentException" ∧ ¬ (inR x 30 ∧ (y = -1 ∨ inR y 30) ∧ ¬ x = y)) ∨ (E = "java/lang/IllegalStateException" ∧ (inR x 30 ∧ (y = -1 ∨ inR y 30) ∧ ¬ x = y) ∧ (∀ j, j < nc → mtc pt ot x y j = false) ∧ ¬ nc < 24)) := by
  refine g_ofW [(0, .ref (ad 0)), (1, .int x), (2, .int y)] (by decide +kernel) (Nat.le_of_ble_eq_true rfl) rfl ?_
  intro p e s m args below meth c X ht hin
  obtain ⟨hO0, hAL, hTL, hTU, hPL, hCS⟩ := id hR
  obtain ⟨⟨hL1, hL5⟩, hnc, hCB, hTB, hUB, hRe, hpl8, hO8, hps⟩ := id hB
  obtain ⟨hQ, hn, hcap, hE⟩ := id hAL
  have hG := hTL.1
  have hT := hTU.1
  have kj : inR x 30 → (y = -1 ∨ inR y 30) → g_W p l e { frames := 8, cells := 9, slots := 166, locals := 191 } s m args below meth c 4 D g_cl (g_A f s.heap.size) f 2 12 (g_End below D g_cl f (fun r f2 => (inR x 30 ∧ (y = -1 ∨ inR y 30) ∧ ¬ x = y) ∧ ((∃ i, i < nc ∧ (∀ j, j < i → mtc pt ot x y j = false) ∧ mtc pt ot x y i = true ∧ r = some (.int (nI i)) ∧ f2 = f) ∨ ((∀ j, j < nc → mtc pt ot x y j = false) ∧ nc < 24 ∧ r = some (.int (nI nc)) ∧ ∃ (ad2 : Nat → Nat) (cap2 : Nat) (mc2 : Int32), cl_R cI cZ cO f2 ad2 L (nc + 1) (va_up pt nc x) (va_up ot nc y) (va_up per nc (fun _ => 0)) (va_up dy nc (fun _ => 0)) (va_up gd nc (fun _ => false)) (va_up ct nc 0) td ts tn P Du S Wy Re n O pl ps cap2 mc2 ∧ (∀ i j, i < 13 + 4 * (nc + 1) → j < 13 + 4 * (nc + 1) → ad2 i = ad2 j → i = j) ∧ (∀ i, i ≠ 2 → i < 13 + 4 * nc → ad2 i = ad i) ∧ (∀ i, 13 + 4 * nc ≤ i → i < 13 + 4 * (nc + 1) → f (ad2 i) = none) ∧ (ad2 2 = ad 2 ∨ f (ad2 2) = none) ∧ (∀ p_ x_, f p_ = some x_ → p_ ≠ ad 1 → p_ ≠ ad 2 → f2 p_ = some x_)))) (fun E => (E = "java/lang/IllegalArgumentException" ∧ ¬ (inR x 30 ∧ (y = -1 ∨ inR y 30) ∧ ¬ x = y)) ∨ (E = "java/lang/IllegalStateException" ∧ (inR x 30 ∧ (y = -1 ∨ inR y 30) ∧ ¬ x = y) ∧ (∀ j, j < nc → mtc pt ot x y j = false) ∧ ¬ nc < 24)) args s { frames := 8, cells := 9, slots := 166, locals := 191 }) 17 [(0, .ref (ad 0)), (1, .int x), (2, .int y)] [] := by
    intro hx3 hy3
    refine g_iload_n X d_CL_fault_17 1 rfl ?_
    refine g_iload_n X d_CL_fault_18 2 rfl ?_
    refine g_callS (As := [.int x, .int y]) (rest := []) X (z_ok eA eM) (c_CL_needOther hl (f := f) (x := x) (y := y)) v_CL_needOther q_215 q_214 rfl rfl (Nat.le_of_ble_eq_true rfl) d_CL_fault_19 ⟨(Nat.le_of_ble_eq_true rfl), (Nat.le_of_ble_eq_true rfl)⟩ ⟨(Nat.le_of_ble_eq_true rfl), (Nat.le_of_ble_eq_true rfl)⟩ (g_K.out X ht (fun E_ h_ => Or.inl ⟨h_.1, fun z => z.2.2 h_.2⟩) (Nat.le_of_ble_eq_true rfl) (Nat.le_of_ble_eq_true rfl)) (fun r_ f2_ hp => ?_)
    obtain ⟨⟨rfl, hf_⟩, hw_⟩ := hp
    refine g_st (st2 := []) rfl ?_
    have hf_ := hf_.symm
    subst hf_
    have hxy : ¬ x = y := hw_
    refine g_aload_n X d_CL_fault_22 0 rfl ?_
    refine g_iload_n X d_CL_fault_23 1 rfl ?_
    refine g_iload_n X d_CL_fault_24 2 rfl ?_
    refine g_callV (ci := 3) (As := [.int x, .int y]) (rest := []) X (z_ok eA eM) rfl rfl hO0 (c_CL_caseOf hR hB (x := x) (y := y)) v_CL_caseOf q_220 q_s1 q_218 rfl rfl (Nat.le_of_ble_eq_true rfl) d_CL_fault_25 ⟨(Nat.le_of_ble_eq_true rfl), (Nat.le_of_ble_eq_true rfl)⟩ ⟨(Nat.le_of_ble_eq_true rfl), (Nat.le_of_ble_eq_true rfl)⟩ (g_K.no (fun _ h => h)) (fun r_ f2_ hp => ?_)
    obtain ⟨hp1, hf_⟩ := hp
    subst f2_
    rcases hp1 with ⟨hno, rfl⟩ | ⟨i, hi, hj, hm, rfl⟩
    · refine g_st (st2 := [.int (-1)]) rfl ?_
      have hno2 : (∀ j, j < nc → mtc pt ot x y j = false) := fun j hj => decide_eq_false (hno j hj)
      refine g_istore_n (lv' := [(3, .int (-1)), (0, .ref (ad 0)), (1, .int x), (2, .int y)]) X d_CL_fault_28 rfl (by decide) rfl ?_
      refine g_iload_n X d_CL_fault_29 0 rfl ?_
      refine g_iconst (v := (-1)) X d_CL_fault_30 (by decide) ?_
      refine g_icmp_eq X 36 d_CL_fault_31 (by decide) (fun c31 => ?_) (fun c31 => ?_)
      · skip
        skip
        refine g_aload_n X d_CL_fault_36 1 rfl ?_
        refine g_get (ci := 3) (C := R_CL) (T := F_CL) (N := 7) (v := .ref (ad 1)) X i_CL rfl hO0 1 (by decide) q_104 (fun _ h9 => h9) rfl d_CL_fault_37 ?_
        refine g_callV (ci := 0) (As := []) (rest := []) X (z_ok eA eM) rfl rfl hQ (c_AL_size hAL) v_AL_size q_223 q_224 q_222 rfl rfl (Nat.le_of_ble_eq_true rfl) d_CL_fault_40 ⟨(Nat.le_of_ble_eq_true rfl), (Nat.le_of_ble_eq_true rfl)⟩ ⟨(Nat.le_of_ble_eq_true rfl), (Nat.le_of_ble_eq_true rfl)⟩ (g_K.no (fun _ h => h)) (fun r_ f2_ hp => ?_)
        obtain ⟨rfl, hf_⟩ := hp
        subst f2_
        refine g_st (st2 := [.int (nI nc)]) rfl ?_
        refine g_bipush (v := 24) X d_CL_fault_43 (by decide) ?_
        refine g_callS (As := [.int (nI nc), .int 24]) (rest := []) X (z_ok eA eM) (c_CL_needRoom hl (f := f) (x := nI nc) (y := 24)) v_CL_needRoom q_246 q_245 rfl rfl (Nat.le_of_ble_eq_true rfl) d_CL_fault_45 ⟨(Nat.le_of_ble_eq_true rfl), (Nat.le_of_ble_eq_true rfl)⟩ ⟨(Nat.le_of_ble_eq_true rfl), (Nat.le_of_ble_eq_true rfl)⟩ (g_K.out X ht (fun E_ h_ => Or.inr ⟨h_.1, ⟨hx3, hy3, hxy⟩, hno2, fun z => h_.2 ((nI_ltI (b := 24) (by omega) (by decide)).mpr z)⟩) (Nat.le_of_ble_eq_true rfl) (Nat.le_of_ble_eq_true rfl)) (fun r_ f2_ hp => ?_)
        obtain ⟨⟨rfl, hf_⟩, hw_⟩ := hp
        refine g_st (st2 := []) rfl ?_
        have hf_ := hf_.symm
        subst hf_
        have hn9 : nc < 24 := (nI_ltI (b := 24) (by omega) (by decide)).mp hw_
        refine g_aload_n X d_CL_fault_48 1 rfl ?_
        refine g_get (ci := 3) (C := R_CL) (T := F_CL) (N := 7) (v := .ref (ad 1)) X i_CL rfl hO0 1 (by decide) q_104 (fun _ h9 => h9) rfl d_CL_fault_49 ?_
        refine g_new (ci := 4) (C := R_CS) (T := F_CS) (N := 6) (fs := [.int 0, .int 0, .null, .null, .null, .int 0]) X i_CS t_CS t_CS_ok q_240 q_264 q_16 rfl (fun j hj => match j, hj with | 0, _ => rfl | 1, _ => rfl | 2, _ => rfl | 3, _ => rfl | 4, _ => rfl | 5, _ => rfl | j + 6, hj => absurd hj (by omega)) (Nat.le_of_ble_eq_true rfl) (Nat.le_of_ble_eq_true rfl) d_CL_fault_52 (fun qk hqk => ?_)
        generalize ef1 : g_u f qk (.inr (4, [.int 0, .int 0, .null, .null, .null, .int 0])) = f1
        have hk1 : f1 qk = some (.inr (4, [.int 0, .int 0, .null, .null, .null, .int 0])) := by rw [← ef1]; exact g_u_s
        have m0 : ∀ p x, f p = some x → f1 p = some x := fun p x h => by rw [← ef1]; exact (g_u_n (g_nf h hqk)).trans h
        refine g_dup X d_CL_fault_55 rfl ?_
        refine g_iload_n X d_CL_fault_56 2 rfl ?_
        refine g_iload_n X d_CL_fault_57 3 rfl ?_
        refine g_callI (ret2 := none) (As := [.int x, .int y]) (rest := [.ref qk, .ref (ad 1)]) X (z_ok eA eM) (c_CS_init (x := x) (y := y) hk1) v_CS_init q_266 rfl q_265 (fun _ h => h) rfl rfl (Nat.le_of_ble_eq_true rfl) d_CL_fault_58 ⟨(Nat.le_of_ble_eq_true rfl), (Nat.le_of_ble_eq_true rfl)⟩ ⟨(Nat.le_of_ble_eq_true rfl), (Nat.le_of_ble_eq_true rfl)⟩ (fun r_ f2c hp => ?_)
        obtain ⟨rfl, a_, hcs, hai, haf, hcf⟩ := hp
        refine g_st (st2 := [.ref qk, .ref (ad 1)]) rfl ?_
        have m1 : ∀ p x, f p = some x → f2c p = some x := fun p x h => hcf p x (m0 p x h) (g_nf h hqk)
        have haf2 : ∀ i, i < 3 → f (a_ i) = none := fun i hi => by
          cases hx : f (a_ i) with
          | none => rfl
          | some x => have := m0 _ x hx; rw [haf i hi] at this; cases this
        have hqa : ∀ i, i < 3 → qk ≠ a_ i := fun i hi => g_nf hk1 (haf i hi)
        have hAL2 : al_R cO f2c (ad 1) (ad 2) (fun k => ad (13 + 4 * k)) nc cap mc := ⟨m1 _ _ hQ, hn, hcap, fun h => by
          obtain ⟨g, g1, g2⟩ := hE h
          exact ⟨g, m1 _ _ g1, g2⟩⟩
        refine g_knowE X (fun hE9 => ?_)
        refine g_callV (ci := 0) (As := [.ref qk]) (rest := []) X (z_ok eA eM) rfl rfl (m1 _ _ hQ) (c_AL_add hAL2 hn9 (fun i hi => ⟨_, m1 _ _ (hCS i hi).1⟩) hE0 hcs.1) v_AL_add q_290 q_291 q_289 rfl rfl (Nat.le_of_ble_eq_true rfl) d_CL_fault_61 ⟨(Nat.le_of_ble_eq_true rfl), (Nat.le_of_ble_eq_true rfl)⟩ ⟨(Nat.le_of_ble_eq_true rfl), (Nat.le_of_ble_eq_true rfl)⟩ (g_K.no (fun _ h => h)) (fun r_ f3 hp => ?_)
        obtain ⟨rfl, eD2, cap2, b1, b2, b3, b4, b5⟩ := hp
        refine g_st (st2 := [.int 1]) rfl ?_
        have h29 : ∀ p, f2c p ≠ none → f p = none → p ≠ ad 2 := fun p h1 h2 z => by
          by_cases hz : nc = 0
          · rw [z, (hE0 hz).1] at h1; exact h1 hE9
          · obtain ⟨g, g1, g2⟩ := hE (by omega)
            rw [z, g1] at h2; cases h2
        obtain hG9 := cl_grow hR hIn (f2 := f2c) (f3 := f3) (x := x) (y := y) m1 hqk haf2 hai hqa hcs b1 b2 b5 h29
        have hO3 : f3 (ad 0) = some (.inr (3, [.int (nI L), .ref (ad 1), .ref (ad 3), .ref (ad 6), .ref (ad 12), .int (nI pl), .int (nI ps)])) := b5 _ _ (m1 _ _ hO0) (fun z => absurd (hIn 0 1 (by omega) (by omega) z) (by decide)) (fun z => absurd (hIn 0 2 (by omega) (by omega) z) (by decide))
        have hQ3 := b1.1
        refine g_pop X d_CL_fault_64 rfl ?_
        refine g_aload_n X d_CL_fault_65 1 rfl ?_
        refine g_get (ci := 3) (C := R_CL) (T := F_CL) (N := 7) (v := .ref (ad 1)) X i_CL rfl hO3 1 (by decide) q_104 (fun _ h9 => h9) rfl d_CL_fault_66 ?_
        refine g_callV (ci := 0) (As := []) (rest := []) X (z_ok eA eM) rfl rfl hQ3 (c_AL_size b1) v_AL_size q_223 q_224 q_222 rfl rfl (Nat.le_of_ble_eq_true rfl) d_CL_fault_69 ⟨(Nat.le_of_ble_eq_true rfl), (Nat.le_of_ble_eq_true rfl)⟩ ⟨(Nat.le_of_ble_eq_true rfl), (Nat.le_of_ble_eq_true rfl)⟩ (g_K.no (fun _ h => h)) (fun r_ f2_ hp => ?_)
        obtain ⟨rfl, hf_⟩ := hp
        subst f2_
        refine g_st (st2 := [.int (nI (nc + 1))]) rfl ?_
        refine g_iconst (v := 1) X d_CL_fault_72 (by decide) ?_
        refine g_isub X d_CL_fault_73 ?_
        refine g_eqi (y := nI nc) ((nI_m1 (a := nc + 1) (by omega)).trans (by rw [Nat.add_sub_cancel])) ?_
        exact g_iret X rfl (⟨⟨hx3, hy3, hxy⟩, Or.inr ⟨hno2, hn9, rfl, hG9⟩⟩) (Nat.le_of_ble_eq_true rfl) (Nat.le_of_ble_eq_true rfl) d_CL_fault_74
      · skip
        exact absurd rfl c31
    · refine g_st (st2 := [.int (nI i)]) rfl ?_
      refine g_istore_n (lv' := [(3, .int (nI i)), (0, .ref (ad 0)), (1, .int x), (2, .int y)]) X d_CL_fault_28 rfl (by decide) rfl ?_
      refine g_iload_n X d_CL_fault_29 0 rfl ?_
      refine g_iconst (v := (-1)) X d_CL_fault_30 (by decide) ?_
      refine g_icmp_eq X 36 d_CL_fault_31 (by decide) (fun c31 => ?_) (fun c31 => ?_)
      · skip
        exact absurd c31 (nI_ne_m1 (by omega))
      · skip
        skip
        refine g_iload_n X d_CL_fault_34 0 rfl ?_
        exact g_iret X rfl (⟨⟨hx3, hy3, hxy⟩, Or.inl ⟨i, hi, fun j hj9 => decide_eq_false (hj j hj9), decide_eq_true hm, rfl, rfl⟩⟩) (Nat.le_of_ble_eq_true rfl) (Nat.le_of_ble_eq_true rfl) d_CL_fault_35
  refine g_iload_n X d_CL_fault_0 1 rfl ?_
  refine g_bipush (v := 30) X d_CL_fault_1 (by decide) ?_
  refine g_callS (As := [.int x, .int 30]) (rest := []) X (z_ok eA eM) (c_CL_needBelow hl (f := f) (x := x) (b := 30)) v_CL_needBelow q_142 q_141 rfl rfl (Nat.le_of_ble_eq_true rfl) d_CL_fault_3 ⟨(Nat.le_of_ble_eq_true rfl), (Nat.le_of_ble_eq_true rfl)⟩ ⟨(Nat.le_of_ble_eq_true rfl), (Nat.le_of_ble_eq_true rfl)⟩ (g_K.out X ht (fun E_ h_ => Or.inl ⟨h_.1, fun z => h_.2.elim ((inR_iff (n := 30) (by decide)).mpr z.1).1 (fun v_ => v_ ((inR_iff (n := 30) (by decide)).mpr z.1).2)⟩) (Nat.le_of_ble_eq_true rfl) (Nat.le_of_ble_eq_true rfl)) (fun r_ f2_ hp => ?_)
  obtain ⟨⟨rfl, hf_⟩, hw_⟩ := hp
  refine g_st (st2 := []) rfl ?_
  have hf_ := hf_.symm
  subst hf_
  have hx3 : inR x 30 := (inR_iff (n := 30) (by decide)).mp hw_
  refine g_iload_n X d_CL_fault_6 2 rfl ?_
  refine g_iconst (v := (-1)) X d_CL_fault_7 (by decide) ?_
  refine g_icmp_eq X 17 d_CL_fault_8 (by decide) (fun c8 => ?_) (fun c8 => ?_)
  · skip
    exact g_wid (k := 2) (n := 12) (Nat.le_of_ble_eq_true rfl) (Nat.le_of_ble_eq_true rfl) (kj hx3 (Or.inl c8))
  · skip
    refine g_iload_n X d_CL_fault_11 2 rfl ?_
    refine g_bipush (v := 30) X d_CL_fault_12 (by decide) ?_
    refine g_callS (As := [.int y, .int 30]) (rest := []) X (z_ok eA eM) (c_CL_needBelow hl (f := f) (x := y) (b := 30)) v_CL_needBelow q_142 q_141 rfl rfl (Nat.le_of_ble_eq_true rfl) d_CL_fault_14 ⟨(Nat.le_of_ble_eq_true rfl), (Nat.le_of_ble_eq_true rfl)⟩ ⟨(Nat.le_of_ble_eq_true rfl), (Nat.le_of_ble_eq_true rfl)⟩ (g_K.out X ht (fun E_ h_ => Or.inl ⟨h_.1, fun z => z.2.1.elim c8 (fun z2 => h_.2.elim ((inR_iff (n := 30) (by decide)).mpr z2).1 (fun v_ => v_ ((inR_iff (n := 30) (by decide)).mpr z2).2))⟩) (Nat.le_of_ble_eq_true rfl) (Nat.le_of_ble_eq_true rfl)) (fun r_ f2_ hp => ?_)
    obtain ⟨⟨rfl, hf_⟩, hw_⟩ := hp
    refine g_st (st2 := []) rfl ?_
    have hf_ := hf_.symm
    subst hf_
    have hy3 : inR y 30 := (inR_iff (n := 30) (by decide)).mp hw_
    exact g_wid (k := 2) (n := 12) (Nat.le_of_ble_eq_true rfl) (Nat.le_of_ble_eq_true rfl) (kj hx3 (Or.inr hy3))
