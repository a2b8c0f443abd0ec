/- the greedy order of both sides -/
abbrev ck (P Wy Le O : Nat → Nat) (n k R : Nat) : Nat := if k = 0 then lof Le R n else rbst P Wy Le (O (k - 1)) R n
abbrev sk (P Wy O : Nat → Nat) (k a : Nat) : Nat := if k = 0 then 0 else tu_wy P Wy (O (k - 1)) a
abbrev wk (P Du Wy Re O : Nat → Nat) (k done a : Nat) : Nat := (sk P Wy O k a + Du a) * 16 + 1 + Re ((done ||| 2 ^ a) * 8 + a)
theorem ck_z {P Wy Le O : Nat → Nat} {n k : Nat} : ck P Wy Le O n k 0 = 0 := by
  unfold ck; split
  · exact lof_z n
  · exact rbst_z n
theorem ck_lo {P Wy Le O : Nat → Nat} {n k R b : Nat} (hb : R.testBit b = true) (hn : b < n) : ck P Wy Le O n k R ≤ sk P Wy O k b + Le (R * 8 + b) := by
  unfold ck sk; split
  · have := lof_lo (Le := Le) hb n hn; omega
  · exact rbst_lo hb n hn
theorem ck_ex {P Du Wy Le O : Nat → Nat} {n k R : Nat} (hn : n ≤ 8) (hDu : ∀ i, Du i ≤ 10000) (hWy : ∀ i, Wy i ≤ 10000) (hL : bellR P Du Wy n Le (2 ^ n)) (h0 : R ≠ 0) (hR : R < 2 ^ n) : ∃ b, b < n ∧ R.testBit b = true ∧ ck P Wy Le O n k R = sk P Wy O k b + Le (R * 8 + b) := by
  unfold ck sk; split
  · obtain ⟨b, h1, h2, h3⟩ := lof_ex hn hDu hWy hL h0 hR
    exact ⟨b, h1, h2, by omega⟩
  · exact rbst_ex hn hDu hWy hL h0 hR
/-- the reference's state while it orders: what is done, what is left, which sets still may be -/
def pinv (P S Wy Le O : Nat → Nat) (n W pz k done left : Nat) (Sl : Nat → Bool) : Prop :=
  (done < 2 ^ n ∧ szo done 8 = k ∧ k ≤ pz ∧ pz ≤ 8) ∧
  (∀ T, T < 2 ^ n → (Sl T = true ↔ (szo T 8 = pz ∧ cov S n W T = true ∧ done &&& T = done ∧ ck P Wy Le O n k (T - done) = left))) ∧
  (∀ T, T < 2 ^ n → cov S n W T = true → done &&& T = done → 16 * left + pz ≤ 16 * ck P Wy Le O n k (T - done) + szo T 8) ∧
  ∃ T, T < 2 ^ n ∧ Sl T = true
/-- a may be the next -/
abbrev may (P Wy Le O : Nat → Nat) (n k done left : Nat) (Sl : Nat → Bool) (a : Nat) : Prop := ∃ T, T < 2 ^ n ∧ Sl T = true ∧ (T - done).testBit a = true ∧ sk P Wy O k a + Le ((T - done) * 8 + a) = left
theorem may_ex {P Du S Wy Le O : Nat → Nat} {n W pz k done left : Nat} {Sl : Nat → Bool} (hn : n ≤ 8) (hDu : ∀ i, Du i ≤ 10000) (hWy : ∀ i, Wy i ≤ 10000) (hL : bellR P Du Wy n Le (2 ^ n)) (hv : pinv P S Wy Le O n W pz k done left Sl) (hk : k < pz) : ∃ a, a < n ∧ may P Wy Le O n k done left Sl a := by
  obtain ⟨⟨h1, h2, h3, h4⟩, h5, h6, T, h7, h8⟩ := hv
  obtain ⟨t1, t2, t3, t4⟩ := (h5 T h7).mp h8
  obtain ⟨R, r1, r2, r3, r4, r5, r6⟩ := set_df hn h7 t3
  have hR0 : R ≠ 0 := fun z => by rw [z, szo_zero] at r5; omega
  obtain ⟨b, b1, b2, b3⟩ := ck_ex (O := O) (k := k) hn hDu hWy hL hR0 r2
  exact ⟨b, b1, T, h7, h8, by rw [r1]; exact b2, by rw [r1, ← b3, ← r1]; exact t4⟩
theorem may_out {P S Wy Le O : Nat → Nat} {n W pz k done left a : Nat} {Sl : Nat → Bool} (hn : n ≤ 8) (hv : pinv P S Wy Le O n W pz k done left Sl) (hm : may P Wy Le O n k done left Sl a) : a < n ∧ done.testBit a = false := by
  obtain ⟨⟨h1, h2, h3, h4⟩, h5, h6, h7⟩ := hv
  obtain ⟨T, t1, t2, t3, t4⟩ := hm
  obtain ⟨R, r1, r2, r3, r4, r5, r6⟩ := set_df hn t1 ((h5 T t1).mp t2).2.2.1
  rw [r1] at t3
  exact ⟨bit_lt r2 t3, not_in r4 t3⟩
theorem or_bit_dis {d Q a : Nat} (ha : d.testBit a = false) (hd : (d ||| 2 ^ a) &&& Q = 0) : d &&& (Q ||| 2 ^ a) = 0 ∧ Q.testBit a = false := by
  refine ⟨?_, not_in (d := Q) (R := d ||| 2 ^ a) (by rw [Nat.and_comm]; exact hd) bit_or_s⟩
  apply Nat.eq_of_testBit_eq
  intro i
  have h13 : ((d ||| 2 ^ a) &&& Q).testBit i = false := by rw [hd]; exact Nat.zero_testBit _
  rw [Nat.testBit_and, Nat.testBit_or, Nat.testBit_two_pow] at h13
  rw [Nat.testBit_and, Nat.testBit_or, Nat.testBit_two_pow, Nat.zero_testBit]
  by_cases hi : a = i
  · subst hi; rw [ha, Bool.false_and]
  · rw [decide_eq_false hi, Bool.or_false] at h13 ⊢
    exact h13
theorem wk_both {P Du S Wy Le Re O : Nat → Nat} {n W pz k done left a : Nat} {Sl : Nat → Bool} (hn : n ≤ 8) (hDu : ∀ i, Du i ≤ 10000) (hWy : ∀ i, Wy i ≤ 10000) (hL : bellR P Du Wy n Le (2 ^ n)) (hA : bellA P Du S Wy n W Re 0) (hF : cov S n W (2 ^ n - 1) = true) (hv : pinv P S Wy Le O n W pz k done left Sl) (hk : k < pz) (ha : a < n) (hb : done.testBit a = false) : 16 * left + (pz - k) ≤ wk P Du Wy Re O k done a ∧ (wk P Du Wy Re O k done a = 16 * left + (pz - k) ↔ may P Wy Le O n k done left Sl a) := by
  obtain ⟨⟨h1, h2, h3, h4⟩, h5, h6, h7⟩ := hv
  have hg := or_gt8 hn h1 ha hb
  have h256 := p8 hn
  obtain ⟨Q, q1, q2, q3, q4⟩ := Re_at hn hDu hWy hL hA hF (2 ^ n) (done ||| 2 ^ a) a (by omega) hg.2 bit_or_s
  obtain ⟨d1, d2⟩ := or_bit_dis hb q2
  have hR : Q ||| 2 ^ a < 2 ^ n := or_ltn q1 (pw_lt ha)
  have hT : done ||| (Q ||| 2 ^ a) < 2 ^ n := or_ltn h1 hR
  obtain ⟨e1, e2⟩ := df_or hn h1 hR d1
  have hcv : cov S n W (done ||| (Q ||| 2 ^ a)) = true := by rw [← or_perm]; exact q3
  have hp0 := Nat.two_pow_pos a
  have hpl := pw_lt ha
  have hadd := or_add Q (by omega) (2 ^ a) (by omega) (and_bit d2)
  have hbit : (Q ||| 2 ^ a).testBit a = true := bit_or_s
  have hc := ck_lo (P := P) (Wy := Wy) (Le := Le) (O := O) (k := k) hbit ha
  have hle := hL (Q ||| 2 ^ a) (by omega) hR a ha hbit
  rw [show (Q ||| 2 ^ a) - 2 ^ a = Q by omega] at hle
  have hs1 := szo_or (and_bit d2) 8
  rw [szo_bit (by omega)] at hs1
  have hs2 := szo_or d1 8
  have hop := h6 _ hT hcv e2
  rw [e1] at hop
  have hsz := szo_le (done ||| (Q ||| 2 ^ a)) 8
  have hw : wk P Du Wy Re O k done a = (sk P Wy O k a + Du a) * 16 + 1 + Re ((done ||| 2 ^ a) * 8 + a) := rfl
  have hge : 16 * left + (pz - k) ≤ wk P Du Wy Re O k done a := by omega
  refine ⟨hge, ?_⟩
  constructor
  · intro he
    have hX : sk P Wy O k a + Le ((Q ||| 2 ^ a) * 8 + a) = left ∧ szo (done ||| (Q ||| 2 ^ a)) 8 = pz := by omega
    have hck : ck P Wy Le O n k (Q ||| 2 ^ a) = left := by omega
    exact ⟨done ||| (Q ||| 2 ^ a), hT, (h5 _ hT).mpr ⟨hX.2, hcv, e2, by rw [e1]; exact hck⟩, by rw [e1]; exact hbit, by rw [e1]; exact hX.1⟩
  · rintro ⟨T, t1, t2, t3, t4⟩
    obtain ⟨s1, s2, s3, s4⟩ := (h5 T t1).mp t2
    obtain ⟨R, r1, r2, r3, r4, r5, r6⟩ := set_df hn t1 s3
    rw [r1] at t3 t4
    obtain ⟨U, u1, u2, u3, u4, u5, u6, u7⟩ := set_rm hn r2 t3
    have hle2 := hL R (by omega) r2 a ha t3
    rw [u1] at hle2
    have hlo := Re_lo hn hDu hWy hL hA (2 ^ n) (done ||| 2 ^ a) a U (by omega) hg.2 bit_or_s u2 (and_or_z (by rw [← u3]; exact r4) u4) (by rw [or_perm, ← u3, ← r3]; exact s2)
    omega
theorem am_first {g : Nat → Nat} {m j : Nat} (hm : m < 2 ^ 28) (hj : g j = m) (hlt : ∀ i, i < j → m < g i) : ∀ t, (t ≤ j → m < (am g t).2) ∧ ((∀ i, i < t → m ≤ g i) → j < t → am g t = (nI j, m))
  | 0 => ⟨fun _ => hm, fun _ h => absurd h (by omega)⟩
  | t + 1 => by
    have ih := am_first hm hj hlt t
    refine ⟨fun h => ?_, fun hge h => ?_⟩
    · unfold am
      split
      · exact hlt t (by omega)
      · exact ih.1 (by omega)
    · unfold am
      by_cases he : t = j
      · subst he
        rw [if_pos (by rw [hj]; exact ih.1 (Nat.le_refl _)), hj]
      · have h2 := ih.2 (fun i hi => hge i (by omega)) (by omega)
        rw [h2]
        exact if_neg (Nat.not_lt.mpr (hge t (by omega)))
theorem szo_nz {x n : Nat} (hn : n ≤ 8) (hx : x < 2 ^ n) (h : szo x 8 = 0) : x = 0 := by
  apply Classical.byContradiction
  intro h0
  obtain ⟨b, b1, b2⟩ := ex_bit h0 hx
  obtain ⟨Q, q1, q2, q3, q4, q5, q6, q7⟩ := set_rm hn hx b2
  omega
theorem left_lt {P Du S Wy Le O : Nat → Nat} {n W pz k done left : Nat} {Sl : Nat → Bool} (hn : n ≤ 8) (hDu : ∀ i, Du i ≤ 10000) (hWy : ∀ i, Wy i ≤ 10000) (hL : bellR P Du Wy n Le (2 ^ n)) (hv : pinv P S Wy Le O n W pz k done left Sl) (hk : k < pz) : left ≤ 10000 + 20000 * 256 := by
  obtain ⟨a, a1, a2⟩ := may_ex hn hDu hWy hL hv hk
  obtain ⟨⟨h1, h2, h3, h4⟩, h5, h6, h7⟩ := hv
  obtain ⟨T, t1, t2, t3, t4⟩ := a2
  obtain ⟨R, r1, r2, r3, r4, r5, r6⟩ := set_df hn t1 ((h5 T t1).mp t2).2.2.1
  rw [r1] at t3 t4
  have h8 := Le_bd hn hDu hWy hL R r2 a a1 t3
  have h9 : sk P Wy O k a ≤ 10000 := by unfold sk; split; decide; exact hWy _
  have h10 := p8 hn
  omega
theorem not_cov {P S Wy Le O : Nat → Nat} {n W pz k done left : Nat} {Sl : Nat → Bool} (hv : pinv P S Wy Le O n W pz k done left Sl) (hk : k < pz) : ¬ cov S n W done = true := by
  intro hc
  obtain ⟨⟨h1, h2, h3, h4⟩, h5, h6, h7⟩ := hv
  have := h6 done h1 hc (Nat.and_self _)
  rw [Nat.sub_self, ck_z] at this
  omega
theorem nI_ne_m1 {j : Nat} (h : j < 2 ^ 31) : ¬ nI j = -1 := fun z => by
  have h2 := congrArg Int32.toInt z
  rw [nI_toInt h] at h2
  have h3 : (-1 : Int32).toInt = -1 := by decide
  omega
/-- the class chooses the same act -/
theorem st_fo {P Du S Wy Le Re O : Nat → Nat} {n W pz k done left j d : Nat} {Sl : Nat → Bool} (hn : n ≤ 8) (hDu : ∀ i, Du i ≤ 10000) (hWy : ∀ i, Wy i ≤ 10000) (hL : bellR P Du Wy n Le (2 ^ n)) (hA : bellA P Du S Wy n W Re 0) (hF : cov S n W (2 ^ n - 1) = true) (hv : pinv P S Wy Le O n W pz k done left Sl) (hk : k < pz) (hj : may P Wy Le O n k done left Sl j) (hjm : ∀ i, i < j → ¬ may P Wy Le O n k done left Sl i) : fo P Du S Wy Re n W (d + 1) done O k = fo P Du S Wy Re n W d (done ||| 2 ^ j) (va_up O k j) (k + 1) := by
  have hjo := may_out hn hv hj
  have hll := left_lt hn hDu hWy hL hv hk
  have hv' := hv
  obtain ⟨⟨h1, h2, h3, h4⟩, h5, h6, h7⟩ := hv'
  have hmlt : 16 * left + (pz - k) < 2 ^ 28 := by omega
  have hfN : foN P Du Wy Re n done O k = nI j := by
    unfold foN
    split
    · rename_i hk0
      have hd0 : done = 0 := szo_nz hn h1 (by omega)
      have hw : ∀ a, wF Du Re a = wk P Du Wy Re O k done a := fun a => by
        show Du a * 16 + 1 + Re (2 ^ a * 8 + a) = (sk P Wy O k a + Du a) * 16 + 1 + Re ((done ||| 2 ^ a) * 8 + a)
        rw [hd0, Nat.zero_or, show sk P Wy O k a = 0 from if_pos hk0, Nat.zero_add]
      have hnb : ∀ a, done.testBit a = false := fun a => by rw [hd0]; exact Nat.zero_testBit _
      have hge : ∀ i, i < n → 16 * left + (pz - k) ≤ wF Du Re i := fun i hi => by
        rw [hw]; exact (wk_both hn hDu hWy hL hA hF hv hk hi (hnb i)).1
      have := (am_first (g := wF Du Re) hmlt (by rw [hw]; exact (wk_both hn hDu hWy hL hA hF hv hk hjo.1 hjo.2).2.mpr hj) (fun i hi => by
        have hi2 := hge i (by omega)
        have hne : wF Du Re i ≠ 16 * left + (pz - k) := fun z => hjm i hi ((wk_both hn hDu hWy hL hA hF hv hk (by omega) (hnb i)).2.mp (by rw [← hw]; exact z))
        omega) n).2 hge hjo.1
      rw [this]
    · rename_i hk0
      have hw : ∀ a, done.testBit a = false → bN P Du Wy Re done (O (k - 1)) a = wk P Du Wy Re O k done a := fun a ha => by
        show (if done.testBit a then 2 ^ 28 else wN P Du Wy Re done (O (k - 1)) a) = (sk P Wy O k a + Du a) * 16 + 1 + Re ((done ||| 2 ^ a) * 8 + a)
        rw [if_neg (by rw [ha]; decide), show sk P Wy O k a = tu_wy P Wy (O (k - 1)) a from if_neg hk0]
      have hw2 : ∀ a, done.testBit a = true → bN P Du Wy Re done (O (k - 1)) a = 2 ^ 28 := fun a ha => if_pos ha
      have hge : ∀ i, i < n → 16 * left + (pz - k) ≤ bN P Du Wy Re done (O (k - 1)) i := fun i hi => by
        cases hb : done.testBit i
        · rw [hw i hb]; exact (wk_both hn hDu hWy hL hA hF hv hk hi hb).1
        · rw [hw2 i hb]; omega
      have := (am_first (g := bN P Du Wy Re done (O (k - 1))) hmlt (by rw [hw j hjo.2]; exact (wk_both hn hDu hWy hL hA hF hv hk hjo.1 hjo.2).2.mpr hj) (fun i hi => by
        have hi2 := hge i (by omega)
        have hne : bN P Du Wy Re done (O (k - 1)) i ≠ 16 * left + (pz - k) := fun z => by
          cases hb : done.testBit i
          · exact hjm i hi ((wk_both hn hDu hWy hL hA hF hv hk (by omega) hb).2.mp (by rw [← hw i hb]; exact z))
          · rw [hw2 i hb] at z; omega
        omega) n).2 hge hjo.1
      rw [this]
  rw [fo_s, if_neg (not_cov hv hk), if_neg (by rw [hfN]; exact nI_ne_m1 (by omega)), hfN, nI_clamp (by omega)]
/-- the step -/
theorem st_next {P Du S Wy Le O : Nat → Nat} {n W pz k done left j : Nat} {Sl Sl2 : Nat → Bool} (hn : n ≤ 8) (hL : bellR P Du Wy n Le (2 ^ n)) (hv : pinv P S Wy Le O n W pz k done left Sl) (hk : k < pz) (hj : may P Wy Le O n k done left Sl j) (hS2 : ∀ T, T < 2 ^ n → (Sl2 T = true ↔ (Sl T = true ∧ T.testBit j = true ∧ sk P Wy O k j + Le ((T - done) * 8 + j) = left))) : sk P Wy O k j + Du j ≤ left ∧ pinv P S Wy Le (va_up O k j) n W pz (k + 1) (done ||| 2 ^ j) (left - sk P Wy O k j - Du j) Sl2 := by
  have hjo := may_out hn hv hj
  obtain ⟨⟨h1, h2, h3, h4⟩, h5, h6, h7⟩ := hv
  have hg := or_gt8 hn h1 hjo.1 hjo.2
  have h256 := p8 hn
  have hck : ∀ R, ck P Wy Le (va_up O k j) n (k + 1) R = rbst P Wy Le j R n := fun R => by
    unfold ck
    rw [if_neg (by omega), Nat.add_sub_cancel, show va_up O k j k = j from if_pos rfl]
  have hsz : szo (done ||| 2 ^ j) 8 = k + 1 := by
    have := szo_or (and_bit hjo.2) 8
    rw [szo_bit (by omega)] at this
    omega
  -- sets that hold what is done and j
  have key : ∀ T, T < 2 ^ n → done &&& T = done → T.testBit j = true → (done ||| 2 ^ j) &&& T = done ||| 2 ^ j ∧ Le ((T - done) * 8 + j) = Du j + rbst P Wy Le j (T - (done ||| 2 ^ j)) n ∧ (T - done).testBit j = true := by
    intro T t1 t2 t3
    obtain ⟨R, r1, r2, r3, r4, r5, r6⟩ := set_df hn t1 t2
    have hRj : R.testBit j = true := by
      have : T.testBit j = (done.testBit j || R.testBit j) := by rw [r3]; exact Nat.testBit_or _ _ _
      rw [t3, hjo.2, Bool.false_or] at this
      exact this.symm
    obtain ⟨U, u1, u2, u3, u4, u5, u6, u7⟩ := set_rm hn r2 hRj
    have hdU : (done ||| 2 ^ j) &&& U = 0 := and_or_z (by rw [← u3]; exact r4) u4
    have hTe : T = (done ||| 2 ^ j) ||| U := by rw [or_perm, ← u3, ← r3]
    obtain ⟨e1, e2⟩ := df_or hn hg.2 u2 hdU
    refine ⟨by rw [hTe]; exact e2, ?_, by rw [r1]; exact hRj⟩
    have := hL R (by omega) r2 j hjo.1 hRj
    rw [r1, this, u1]
    rw [show T - (done ||| 2 ^ j) = U from by rw [hTe]; exact e1]
  have back : ∀ T, (done ||| 2 ^ j) &&& T = done ||| 2 ^ j → done &&& T = done ∧ T.testBit j = true := by
    intro T t
    have hb : ∀ i, (done ||| 2 ^ j).testBit i = true → T.testBit i = true := by
      intro i hi
      have := congrArg (fun z => z.testBit i) t
      have this : ((done ||| 2 ^ j) &&& T).testBit i = (done ||| 2 ^ j).testBit i := this
      rw [Nat.testBit_and, hi, Bool.true_and] at this
      exact this
    refine ⟨?_, hb j bit_or_s⟩
    apply Nat.eq_of_testBit_eq
    intro i
    rw [Nat.testBit_and]
    cases hi : done.testBit i
    · rfl
    · rw [hb i (by rw [Nat.testBit_or, hi]; rfl)]; rfl
  have hmay := hj
  obtain ⟨T0, a1, a2, a3, a4⟩ := hj
  obtain ⟨b1, b2, b3, b4⟩ := (h5 T0 a1).mp a2
  have hT0j : T0.testBit j = true := by
    obtain ⟨R, r1, r2, r3, r4, r5, r6⟩ := set_df hn a1 b3
    rw [r1] at a3
    rw [r3, Nat.testBit_or, a3, Bool.or_true]
  have hk0 := key T0 a1 b3 hT0j
  have hle : sk P Wy O k j + Du j ≤ left := by omega
  refine ⟨hle, ⟨hg.2, hsz, by omega, h4⟩, ?_, ?_, ⟨T0, a1, (hS2 T0 a1).mpr ⟨a2, hT0j, a4⟩⟩⟩
  · intro T t1
    rw [hS2 T t1, h5 T t1, hck]
    constructor
    · rintro ⟨⟨c1, c2, c3, c4⟩, c5, c6⟩
      have hk1 := key T t1 c3 c5
      exact ⟨c1, c2, hk1.1, by omega⟩
    · rintro ⟨c1, c2, c3, c4⟩
      obtain ⟨d1, d2⟩ := back T c3
      have hk1 := key T t1 d1 d2
      have h9 := h6 T t1 c2 d1
      have h10 := ck_lo (P := P) (Wy := Wy) (Le := Le) (O := O) (k := k) hk1.2.2 hjo.1
      exact ⟨⟨c1, c2, d1, by omega⟩, d2, by omega⟩
  · intro T t1 t2 t3
    rw [hck]
    obtain ⟨d1, d2⟩ := back T t3
    have hk1 := key T t1 d1 d2
    have h9 := h6 T t1 t2 d1
    have h10 := ck_lo (P := P) (Wy := Wy) (Le := Le) (O := O) (k := k) hk1.2.2 hjo.1
    omega
theorem st_end {P S Wy Le O : Nat → Nat} {n W pz done left : Nat} {Sl : Nat → Bool} (hn : n ≤ 8) (hv : pinv P S Wy Le O n W pz pz done left Sl) : cov S n W done = true ∧ left = 0 := by
  obtain ⟨⟨h1, h2, h3, h4⟩, h5, h6, T, t1, t2⟩ := hv
  obtain ⟨s1, s2, s3, s4⟩ := (h5 T t1).mp t2
  obtain ⟨R, r1, r2, r3, r4, r5, r6⟩ := set_df hn t1 s3
  have hR : R = 0 := szo_nz hn r2 (by omega)
  rw [r1, hR, ck_z] at s4
  rw [r3, hR, Nat.or_zero] at s2
  exact ⟨s2, s4.symm⟩
theorem fo_end {P Du S Wy Re O : Nat → Nat} {n W done k : Nat} (hc : cov S n W done = true) : ∀ d, fo P Du S Wy Re n W d done O k = (O, k)
  | 0 => rfl
  | d + 1 => by rw [fo_s, if_pos hc]
theorem secs_s {P Du Wy O : Nat → Nat} {k j : Nat} : secs P Du Wy (va_up O k j) (k + 1) = secs P Du Wy O k + sk P Wy O k j + Du j := by
  have hs : ∀ i, i ≤ k → secs P Du Wy (va_up O k j) i = secs P Du Wy O i := by
    intro i
    induction i using Nat.strongRecOn with
    | _ i ih =>
      intro hi
      match i, ih, hi with
      | 0, _, _ => rfl
      | 1, _, hi => show Du (va_up O k j 0) = Du (O 0); rw [show va_up O k j 0 = O 0 from if_neg (by omega)]
      | i + 2, ih, hi =>
        unfold secs
        rw [ih (i + 1) (by omega) (by omega), show va_up O k j (i + 1) = O (i + 1) from if_neg (by omega), show va_up O k j i = O i from if_neg (by omega)]
  match k, hs with
  | 0, _ => show Du (va_up O 0 j 0) = 0 + 0 + Du j; rw [show va_up O 0 j 0 = j from if_pos rfl]; omega
  | k + 1, hs =>
    have e : secs P Du Wy (va_up O (k + 1) j) (k + 1 + 1) = secs P Du Wy (va_up O (k + 1) j) (k + 1) + Du (va_up O (k + 1) j (k + 1)) + tu_wy P Wy (va_up O (k + 1) j k) (va_up O (k + 1) j (k + 1)) := rfl
    rw [e, hs (k + 1) (Nat.le_refl _), show va_up O (k + 1) j (k + 1) = j from if_pos rfl, show va_up O (k + 1) j k = O k from if_neg (by omega), show sk P Wy O (k + 1) j = tu_wy P Wy (O k) j from rfl]
    omega
/-- the least time, and the fewest acts, of the sets below a number -/
abbrev tmv (S Le : Nat → Nat) (n W i : Nat) : Nat := if orS S i n &&& W = W then lof Le i n else 1000000000
def tsz (S Le : Nat → Nat) (n W : Nat) : Nat → Nat × Nat
  | 0 => (1000000000, 1000000000)
  | i + 1 => if tmv S Le n W i < (tsz S Le n W i).1 ∨ (tmv S Le n W i = (tsz S Le n W i).1 ∧ tmv S Le n W i < 1000000000 ∧ szo i 8 < (tsz S Le n W i).2) then (tmv S Le n W i, szo i 8) else tsz S Le n W i
theorem covm_iff {S : Nat → Nat} {n W T : Nat} : cov S n W T = true ↔ orS S T n &&& W = W := by
  unfold cov
  rw [decide_eq_true_iff, Nat.and_comm]
theorem tsz_le (S Le : Nat → Nat) (n W : Nat) : ∀ i, (tsz S Le n W i).1 ≤ 1000000000 ∧ (tsz S Le n W i).2 ≤ 1000000000
  | 0 => ⟨Nat.le_refl _, Nat.le_refl _⟩
  | i + 1 => by
    have ih := tsz_le S Le n W i
    have h2 := szo_le i 8
    have h3 : tmv S Le n W i ≤ 1000000000 := by unfold tmv; split; exact lof_le _ _ _; exact Nat.le_refl _
    unfold tsz
    split
    · exact ⟨h3, by show szo i 8 ≤ _; omega⟩
    · exact ih
theorem tsz_spec {S Le : Nat → Nat} {n W : Nat} : ∀ i, (∀ T, T < i → cov S n W T = true → lof Le T n < 1000000000) → (∀ T, T < i → cov S n W T = true → (tsz S Le n W i).1 < lof Le T n ∨ ((tsz S Le n W i).1 = lof Le T n ∧ (tsz S Le n W i).2 ≤ szo T 8)) ∧ (tsz S Le n W i = (1000000000, 1000000000) ∨ ∃ T, T < i ∧ cov S n W T = true ∧ tsz S Le n W i = (lof Le T n, szo T 8))
  | 0, _ => ⟨fun _ h => absurd h (by omega), Or.inl rfl⟩
  | i + 1, hb => by
    obtain ⟨ih1, ih2⟩ := tsz_spec i (fun T hT => hb T (by omega))
    have hle := tsz_le S Le n W i
    by_cases hc : cov S n W i = true
    · have e : tmv S Le n W i = lof Le i n := if_pos (covm_iff.mp hc)
      have hlt := hb i (by omega) hc
      unfold tsz
      split
      · rename_i h
        rw [e] at h ⊢
        refine ⟨fun T hT hcT => ?_, Or.inr ⟨i, by omega, hc, rfl⟩⟩
        by_cases hTi : T = i
        · subst hTi; exact Or.inr ⟨rfl, Nat.le_refl _⟩
        · have := ih1 T (by omega) hcT
          show lof Le i n < _ ∨ (lof Le i n = _ ∧ szo i 8 ≤ _)
          omega
      · rename_i h
        rw [e] at h
        refine ⟨fun T hT hcT => ?_, ?_⟩
        · by_cases hTi : T = i
          · subst hTi; omega
          · exact ih1 T (by omega) hcT
        · rcases ih2 with h2 | ⟨T, h2, h3⟩
          · exact Or.inl h2
          · exact Or.inr ⟨T, by omega, h3⟩
    · have e : tmv S Le n W i = 1000000000 := if_neg (fun z => hc (covm_iff.mpr z))
      have e2 : tsz S Le n W (i + 1) = tsz S Le n W i := if_neg (by rw [e]; omega)
      rw [e2]
      refine ⟨fun T hT hcT => ih1 T (by
        have : T ≠ i := fun z => hc (by rw [← z]; exact hcT)
        omega) hcT, ?_⟩
      rcases ih2 with h2 | ⟨T, h2, h3⟩
      · exact Or.inl h2
      · exact Or.inr ⟨T, by omega, h3⟩
theorem lof_bd {P Du Wy Le : Nat → Nat} {n T : Nat} (hn : n ≤ 8) (hDu : ∀ i, Du i ≤ 10000) (hWy : ∀ i, Wy i ≤ 10000) (hL : bellR P Du Wy n Le (2 ^ n)) (hT : T < 2 ^ n) : lof Le T n < 1000000000 := by
  have h8 := p8 hn
  by_cases h0 : T = 0
  · rw [h0, lof_z]; decide
  · obtain ⟨b, b1, b2, b3⟩ := lof_ex hn hDu hWy hL h0 hT
    have := Le_bd hn hDu hWy hL T hT b b1 b2
    omega
/-- the start of the order -/
theorem st_begin {P Du S Wy Le O : Nat → Nat} {n W : Nat} {Sl : Nat → Bool} (hn : n ≤ 8) (hDu : ∀ i, Du i ≤ 10000) (hWy : ∀ i, Wy i ≤ 10000) (hL : bellR P Du Wy n Le (2 ^ n)) (hF : cov S n W (2 ^ n - 1) = true) (hS : ∀ T, T < 2 ^ n → (Sl T = true ↔ (szo T 8 = (tsz S Le n W (2 ^ n)).2 ∧ orS S T n &&& W = W ∧ lof Le T n = (tsz S Le n W (2 ^ n)).1))) : (tsz S Le n W (2 ^ n)).2 ≤ 8 ∧ (tsz S Le n W (2 ^ n)).1 ≤ 1000000000 ∧ pinv P S Wy Le O n W (tsz S Le n W (2 ^ n)).2 0 0 (tsz S Le n W (2 ^ n)).1 Sl := by
  obtain ⟨s1, s2⟩ := tsz_spec (S := S) (Le := Le) (n := n) (W := W) (2 ^ n) (fun T hT _ => lof_bd hn hDu hWy hL hT)
  have hp := Nat.two_pow_pos n
  have hf1 := s1 (2 ^ n - 1) (by omega) hF
  have hf2 := lof_bd hn hDu hWy hL (T := 2 ^ n - 1) (by omega)
  have hck : ∀ T, ck P Wy Le O n 0 (T - 0) = lof Le T n := fun T => by rw [Nat.sub_zero]; exact if_pos rfl
  rcases s2 with h | ⟨T, t1, t2, t3⟩
  · rw [h] at hf1
    have : (1000000000 : Nat) < lof Le (2 ^ n - 1) n ∨ (1000000000 = lof Le (2 ^ n - 1) n ∧ _) := hf1
    omega
  · have hz := szo_le T 8
    have h2 : (tsz S Le n W (2 ^ n)).2 = szo T 8 := by rw [t3]
    have h1 : (tsz S Le n W (2 ^ n)).1 = lof Le T n := by rw [t3]
    refine ⟨by omega, (tsz_le S Le n W _).1, ⟨hp, szo_zero, Nat.zero_le _, by omega⟩, ?_, ?_, ⟨T, t1, (hS T t1).mpr ⟨h2.symm, covm_iff.mp t2, h1.symm⟩⟩⟩
    · intro U hU
      rw [hS U hU, hck, covm_iff, Nat.zero_and]
      exact ⟨fun z => ⟨z.1, z.2.1, rfl, z.2.2⟩, fun z => ⟨z.1, z.2.1, z.2.2.2⟩⟩
    · intro U hU hcU _
      rw [hck]
      have := s1 U hU hcU
      have := szo_le U 8
      omega
