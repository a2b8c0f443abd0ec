/- the first day that isn't proved: both sides find it -/
theorem fup_one {st : Nat → Nat} {d r r2 : Nat} (h : fup st d r) (h2 : fup st d r2) : r = r2 := by
  rcases Nat.lt_trichotomy r r2 with z | z | z
  · exact absurd (h2.2.2 r h.1 z) h.2.1
  · exact z
  · exact absurd (h.2.2 r2 h2.1 z) h2.2.1
def cp (p : Nat → Bool) : Nat → Nat
  | 0 => 0
  | i + 1 => if p i then cp p i + 1 else cp p i
theorem cp_le (p : Nat → Bool) : ∀ n, cp p n ≤ n
  | 0 => Nat.le_refl _
  | n + 1 => by
    have := cp_le p n
    unfold cp
    split <;> omega
theorem cp_mono {p q : Nat → Bool} (h : ∀ i, q i = true → p i = true) : ∀ n, cp q n ≤ cp p n
  | 0 => Nat.le_refl _
  | n + 1 => by
    have ih := cp_mono h n
    unfold cp
    split
    · rename_i hq
      rw [if_pos (h n hq)]; omega
    · split <;> omega
theorem cp_lt {p q : Nat → Bool} {j : Nat} (h : ∀ i, q i = true → p i = true) (h1 : p j = true) (h2 : q j = false) : ∀ n, j < n → cp q n < cp p n
  | 0, z => absurd z (by omega)
  | n + 1, z => by
    unfold cp
    by_cases hj : j = n
    · subst hj
      have := cp_mono h j
      rw [if_neg (by rw [h2]; decide), if_pos h1]; omega
    · have ih := cp_lt h h1 h2 n (by omega)
      split
      · rename_i hq
        rw [if_pos (h n hq)]; omega
      · split <;> omega
theorem nbh_lo {td ts : Nat → Nat} {k dd j : Nat} (h1 : dd < td j) (h2 : (ts j).testBit k = true) : ∀ n, j < n → nbh td ts k dd n ≠ 0 ∧ nbh td ts k dd n ≤ td j + 1
  | 0, h => absurd h (by omega)
  | n + 1, h => by
    unfold nbh
    by_cases hj : j = n
    · subst hj
      split
      · omega
      · rename_i hc
        by_cases h3 : nbh td ts k dd j = 0
        · exact absurd ⟨h1, Or.inl h3, h2⟩ hc
        · refine ⟨h3, Nat.le_of_not_lt (fun z => hc ⟨h1, Or.inr z, h2⟩)⟩
    · have ih := nbh_lo (td := td) (ts := ts) h1 h2 n (by omega)
      split
      · rename_i hc
        refine ⟨by omega, ?_⟩
        rcases hc.2.1 with z | z
        · exact absurd z ih.1
        · omega
      · exact ih
theorem nbh_at {td ts : Nat → Nat} {k dd : Nat} : ∀ n, nbh td ts k dd n = 0 ∨ ∃ j, j < n ∧ dd < td j ∧ (ts j).testBit k = true ∧ nbh td ts k dd n = td j + 1
  | 0 => Or.inl rfl
  | n + 1 => by
    unfold nbh
    split
    · rename_i hc; exact Or.inr ⟨n, by omega, hc.1, hc.2.2, rfl⟩
    · rcases nbh_at (td := td) (ts := ts) (k := k) (dd := dd) n with h | ⟨j, h1, h2⟩
      · exact Or.inl h
      · exact Or.inr ⟨j, by omega, h2⟩
theorem ntn_hi {dy : Nat → Nat} {dd L M j : Nat} : ∀ n, j < n → (dd < dy j → ntn dy dd L M n ≤ dy j) ∧ (dd < dy j + L + 1 → ntn dy dd L M n ≤ dy j + L + 1)
  | 0, h => absurd h (by omega)
  | n + 1, h => by
    unfold ntn
    by_cases hj : j = n
    · subst hj
      split
      · omega
      · split <;> omega
    · have ih := ntn_hi (dy := dy) (dd := dd) (L := L) (M := M) n (by omega : j < n)
      split
      · omega
      · split <;> omega
theorem ntn_at {dy : Nat → Nat} {dd L M : Nat} : ∀ n, ntn dy dd L M n = M ∨ ∃ j, j < n ∧ ((dd < dy j ∧ ntn dy dd L M n = dy j) ∨ (dd < dy j + L + 1 ∧ ntn dy dd L M n = dy j + L + 1))
  | 0 => Or.inl rfl
  | n + 1 => by
    have ih := ntn_at (dy := dy) (dd := dd) (L := L) (M := M) n
    unfold ntn
    split
    · rename_i hc
      by_cases hm : ntn dy dd L M n ≤ dy n
      · rw [Nat.min_eq_left hm]
        rcases ih with h | ⟨j, h1, h2⟩
        · exact Or.inl h
        · exact Or.inr ⟨j, by omega, h2⟩
      · rw [Nat.min_eq_right (by omega)]
        exact Or.inr ⟨n, by omega, Or.inl ⟨hc, rfl⟩⟩
    · split
      · rename_i hc
        by_cases hm : ntn dy dd L M n ≤ dy n + L + 1
        · rw [Nat.min_eq_left hm]
          rcases ih with h | ⟨j, h1, h2⟩
          · exact Or.inl h
          · exact Or.inr ⟨j, by omega, h2⟩
        · rw [Nat.min_eq_right (by omega)]
          exact Or.inr ⟨n, by omega, Or.inr ⟨hc, rfl⟩⟩
      · rcases ih with h | ⟨j, h1, h2⟩
        · exact Or.inl h
        · exact Or.inr ⟨j, by omega, h2⟩
theorem nd1_at (x dd d : Nat) : nd1 x dd d = x ∨ (dd < d ∧ nd1 x dd d = d) := by
  unfold nd1
  split
  · rename_i h; exact Or.inr ⟨h.1, rfl⟩
  · exact Or.inl rfl
theorem ndn_at {L : Nat} {DF : Nat → Nat} {k dd : Nat} : ∀ n, ndn L DF k dd n = 1000000000 ∨ ∃ j, j < n ∧ ((dd < DF (32 * k + j) ∧ ndn L DF k dd n = DF (32 * k + j)) ∨ (dd < DF (32 * k + j) + L + 1 ∧ ndn L DF k dd n = DF (32 * k + j) + L + 1))
  | 0 => Or.inl rfl
  | n + 1 => by
    have ih := ndn_at (L := L) (DF := DF) (k := k) (dd := dd) n
    show nd1 (nd1 (ndn L DF k dd n) dd (DF (32 * k + n))) dd (DF (32 * k + n) + L + 1) = _ ∨ ∃ j, j < n + 1 ∧ ((dd < DF (32 * k + j) ∧ nd1 (nd1 (ndn L DF k dd n) dd (DF (32 * k + n))) dd (DF (32 * k + n) + L + 1) = _) ∨ (_ ∧ nd1 (nd1 (ndn L DF k dd n) dd (DF (32 * k + n))) dd (DF (32 * k + n) + L + 1) = _))
    rcases nd1_at (nd1 (ndn L DF k dd n) dd (DF (32 * k + n))) dd (DF (32 * k + n) + L + 1) with h | ⟨h, h2⟩
    · rw [h]
      rcases nd1_at (ndn L DF k dd n) dd (DF (32 * k + n)) with h3 | ⟨h3, h4⟩
      · rw [h3]
        rcases ih with z | ⟨j, z1, z2⟩
        · exact Or.inl z
        · exact Or.inr ⟨j, by omega, z2⟩
      · exact Or.inr ⟨n, by omega, Or.inl ⟨h3, h4⟩⟩
    · exact Or.inr ⟨n, by omega, Or.inr ⟨h, h2⟩⟩
section PV
variable {per dy : Nat → Nat → Nat} {gd : Nat → Nat → Bool} {ct PF DF td ts tw : Nat → Nat} {GF : Nat → Bool} {L tn k : Nat}
/-- how many turns lie behind a day -/
def turns (L : Nat) (dy : Nat → Nat → Nat) (ct td : Nat → Nat) (tn k d : Nat) : Nat := cp (fun i => decide (d < td i)) tn + cp (fun i => decide (d < dy k i)) (ct k) + cp (fun i => decide (d < dy k i + L + 1)) (ct k)
theorem turns_le (hc : ct k ≤ 32) (ht : tn ≤ 512) (d : Nat) : turns L dy ct td tn k d ≤ 576 := by
  have h1 := cp_le (fun i => decide (d < td i)) tn
  have h2 := cp_le (fun i => decide (d < dy k i)) (ct k)
  have h3 := cp_le (fun i => decide (d < dy k i + L + 1)) (ct k)
  unfold turns
  omega
theorem turns_lt {d e : Nat} (hde : d < e) (h : (∃ i, i < tn ∧ td i = e) ∨ (∃ i, i < ct k ∧ dy k i = e) ∨ ∃ i, i < ct k ∧ dy k i + L + 1 = e) : turns L dy ct td tn k e < turns L dy ct td tn k d := by
  have m1 := cp_mono (p := fun i => decide (d < td i)) (q := fun i => decide (e < td i)) (fun i hi => decide_eq_true (by have := of_decide_eq_true hi; omega)) tn
  have m2 := cp_mono (p := fun i => decide (d < dy k i)) (q := fun i => decide (e < dy k i)) (fun i hi => decide_eq_true (by have := of_decide_eq_true hi; omega)) (ct k)
  have m3 := cp_mono (p := fun i => decide (d < dy k i + L + 1)) (q := fun i => decide (e < dy k i + L + 1)) (fun i hi => decide_eq_true (by have := of_decide_eq_true hi; omega)) (ct k)
  unfold turns
  rcases h with ⟨i, i1, i2⟩ | ⟨i, i1, i2⟩ | ⟨i, i1, i2⟩
  · have := cp_lt (p := fun i => decide (d < td i)) (q := fun i => decide (e < td i)) (j := i) (fun i hi => decide_eq_true (by have := of_decide_eq_true hi; omega)) (decide_eq_true (by omega)) (decide_eq_false (by omega)) tn i1
    omega
  · have := cp_lt (p := fun i => decide (d < dy k i)) (q := fun i => decide (e < dy k i)) (j := i) (fun i hi => decide_eq_true (by have := of_decide_eq_true hi; omega)) (decide_eq_true (by omega)) (decide_eq_false (by omega)) (ct k) i1
    omega
  · have := cp_lt (p := fun i => decide (d < dy k i + L + 1)) (q := fun i => decide (e < dy k i + L + 1)) (j := i) (fun i hi => decide_eq_true (by have := of_decide_eq_true hi; omega)) (decide_eq_true (by omega)) (decide_eq_false (by omega)) (ct k) i1
    omega
/-- the class's next turn is the reference's next day -/
theorem nxt_ndf (hL : L ≤ 5000) (hDF : ∀ i, DF i ≤ 100000) (htd : ∀ i, td i ≤ 100000) (h1 : tsim tw td ts tn k) (h2 : rsim per dy gd ct PF DF GF k) {a : Nat} (ha : a < 2 ^ 30) (hnx : ndn L DF k a (ct k) ≤ 105001) : ndf (tb tw k) a (ndn L DF k a (ct k)) (nxt L dy ct td ts tn k a) ∧ ((∃ i, i < tn ∧ td i = nxt L dy ct td ts tn k a) ∨ (∃ i, i < ct k ∧ dy k i = nxt L dy ct td ts tn k a) ∨ ∃ i, i < ct k ∧ dy k i + L + 1 = nxt L dy ct td ts tn k a) := by
  have hM := ntn_le (dy k) a L (mxt (nbh td ts k a tn)) (ct k)
  have hb : nxt L dy ct td ts tn k a = ntn (dy k) a L (mxt (nbh td ts k a tn)) (ct k) := rfl
  -- the next result's turn of the class
  have hle : nxt L dy ct td ts tn k a ≤ ndn L DF k a (ct k) := by
    rcases ndn_at (L := L) (DF := DF) (k := k) (dd := a) (ct k) with z | ⟨j, j1, j2⟩
    · omega
    · have e := (h2 j j1).2.1
      have hh := ntn_hi (dy := dy k) (dd := a) (L := L) (M := mxt (nbh td ts k a tn)) (ct k) j1
      rw [e] at hh
      rcases j2 with ⟨z1, z2⟩ | ⟨z1, z2⟩
      · have := hh.1 z1; omega
      · have := hh.2 z1; omega
  have htch : ∀ e, a < e → e ≤ 100000 → tb tw k e = true → nbh td ts k a tn ≠ 0 ∧ nbh td ts k a tn ≤ e + 1 := by
    intro e e1 e2 e3
    obtain ⟨i, i1, i2, i3⟩ := (h1 e e2).mp e3
    have := nbh_lo (td := td) (ts := ts) (k := k) (dd := a) (j := i) (by omega) i3 tn i1
    omega
  have hmx : ∀ t, nbh td ts k a tn = t + 1 → mxt (nbh td ts k a tn) ≤ t := fun t ht => by
    unfold mxt
    rw [ht, if_neg (by omega), Nat.add_sub_cancel]
    exact Nat.min_le_right _ _
  have right : nxt L dy ct td ts tn k a = ndn L DF k a (ct k) → ndf (tb tw k) a (ndn L DF k a (ct k)) (nxt L dy ct td ts tn k a) := by
    intro e
    refine Or.inr ⟨e, fun q q1 q2 q3 => ?_⟩
    apply bt_nt
    intro z
    obtain ⟨t1, t2⟩ := htch q q1 q2 z
    obtain ⟨t, ht⟩ : ∃ t, nbh td ts k a tn = t + 1 := ⟨nbh td ts k a tn - 1, by omega⟩
    have := hmx t ht
    omega
  rcases ntn_at (dy := dy k) (dd := a) (L := L) (M := mxt (nbh td ts k a tn)) (ct k) with z | ⟨j, j1, j2⟩
  · -- the bound itself
    rcases nbh_at (td := td) (ts := ts) (k := k) (dd := a) tn with n0 | ⟨i, i1, i2, i3, i4⟩
    · have : mxt (nbh td ts k a tn) = 105001 := by rw [n0]; rfl
      have e : nxt L dy ct td ts tn k a = ndn L DF k a (ct k) := by omega
      refine ⟨right e, Or.inr ?_⟩
      rcases ndn_at (L := L) (DF := DF) (k := k) (dd := a) (ct k) with w | ⟨j, j1, j2⟩
      · omega
      · have e9 := (h2 j j1).2.1
        rcases j2 with ⟨z1, z2⟩ | ⟨z1, z2⟩
        · exact Or.inl ⟨j, j1, by omega⟩
        · exact Or.inr ⟨j, j1, by omega⟩
    · have htdi := htd i
      have hm : mxt (nbh td ts k a tn) = td i := by
        unfold mxt
        rw [i4, if_neg (by omega), Nat.add_sub_cancel]
        exact Nat.min_eq_right (by omega)
      have e : nxt L dy ct td ts tn k a = td i := by omega
      refine ⟨?_, Or.inl ⟨i, i1, e.symm⟩⟩
      by_cases hc : td i < ndn L DF k a (ct k)
      · refine Or.inl ⟨by omega, by omega, by omega, ?_, ?_⟩
        · rw [e]; exact (h1 (td i) htdi).mpr ⟨i, i1, rfl, i3⟩
        · intro q q1 q2
          apply bt_nt
          intro z9
          have := htch q q1 (by omega) z9
          omega
      · exact right (by omega)
  · have e9 := (h2 j j1).2.1
    have hh := ndn_hi (L := L) (DF := DF) (k := k) (dd := a) (ct k) j1
    have e : nxt L dy ct td ts tn k a = ndn L DF k a (ct k) := by
      rcases j2 with ⟨z1, z2⟩ | ⟨z1, z2⟩
      · have := hh.1 (by omega); omega
      · have := hh.2 (by omega); omega
    refine ⟨right e, Or.inr ?_⟩
    rcases j2 with ⟨z1, z2⟩ | ⟨z1, z2⟩
    · exact Or.inl ⟨j, j1, by omega⟩
    · exact Or.inr ⟨j, j1, by omega⟩
theorem ndn_105 {a : Nat} (hL : L ≤ 5000) (hDF : ∀ i, DF i ≤ 100000) (ha : a < 2 ^ 30) (hs : mst L tw ct PF DF GF k a = 3) : ndn L DF k a (ct k) ≤ 105001 := by
  have hg := (stv_three hs).1
  obtain ⟨pe, _, hp⟩ := cnw_pos 10 (by omega : 0 < cnw (mwr L tw ct PF DF GF k a) 1 10)
  have hb : bw L PF DF k pe a (lx (tb tw k) (min a 100000 + 1)) (ct k) ≠ 0 := fun z => by
    have hp2 : bwv GF (bw L PF DF k pe a (lx (tb tw k) (min a 100000 + 1)) (ct k)) = 1 := hp
    rw [z] at hp2
    exact absurd (show (-1 : Int32) = 1 from hp2) (by decide)
  obtain ⟨i, h1, h2, h3⟩ := bw_cond (ct k) hb
  have h4 := hDF (32 * k + i)
  rw [lifeI (by omega) ha (by omega)] at h3
  have h5 := (ndn_hi (L := L) (DF := DF) (k := k) (dd := a) (ct k) h1).2 (by omega)
  omega
theorem prv_fup (hL : L ≤ 5000) (hDF : ∀ i, DF i ≤ 100000) (htd : ∀ i, td i ≤ 100000) (h1 : tsim tw td ts tn k) (h2 : rsim per dy gd ct PF DF GF k) : ∀ fuel a, a ≤ 105001 → turns L dy ct td tn k a < fuel → fup (fun e_ => mst L tw ct PF DF GF k e_) a (prv (fun a_ => sta L per dy gd ct td ts tn k a_) (fun a_ => nxt L dy ct td ts tn k a_) fuel a)
  | 0, a, _, h => absurd h (by omega)
  | fuel + 1, a, ha, h => by
    rw [prv_s]
    have e : sta L per dy gd ct td ts tn k a = mst L tw ct PF DF GF k a := sta_eq (by omega) hL hDF htd h1 h2
    split
    · rename_i hs
      have hs : mst L tw ct PF DF GF k a = 3 := by rw [← e]; exact hs
      obtain ⟨n1, n2⟩ := nxt_ndf hL hDF htd h1 h2 (by omega) (ndn_105 hL hDF (by omega) hs)
      have hn := mst_next hL hDF (by omega) hs n1
      have ht := turns_lt (td := td) (dy := dy) (ct := ct) (L := L) (tn := tn) (k := k) hn.1 n2
      have ih := prv_fup hL hDF htd h1 h2 fuel (nxt L dy ct td ts tn k a) hn.2 (by omega)
      refine ⟨by have := ih.1; omega, ih.2.1, fun q q1 q2 => ?_⟩
      by_cases hq : q < nxt L dy ct td ts tn k a
      · show mst L tw ct PF DF GF k q = 3
        rw [mst_step hL hDF (by omega) n1 q q1 hq]; exact hs
      · exact ih.2.2 q (by omega) q2
    · rename_i hs
      exact ⟨Nat.le_refl _, fun z => hs (by rw [e]; exact z), fun q q1 q2 => absurd q2 (by omega)⟩
end PV
/- the least seconds from an act -/
theorem orA_or {S : Nat → Nat} {T : Nat} : ∀ n, orS S T n &&& orA S n = orS S T n
  | 0 => Nat.zero_and _
  | n + 1 => by
    have ih := orA_or (S := S) (T := T) n
    have key : ∀ a b c : Nat, a &&& b = a → (a ||| c) &&& (b ||| c) = a ||| c ∧ a &&& (b ||| c) = a := by
      intro a b c h
      constructor
      · apply Nat.eq_of_testBit_eq
        intro i
        have := congrArg (fun z => z.testBit i) h
        have this : (a &&& b).testBit i = a.testBit i := this
        rw [Nat.testBit_and] at this
        rw [Nat.testBit_and, Nat.testBit_or, Nat.testBit_or]
        cases ha : a.testBit i <;> cases hb : b.testBit i <;> cases hc : c.testBit i <;> rw [ha, hb] at this <;> first | rfl | exact Bool.noConfusion this
      · apply Nat.eq_of_testBit_eq
        intro i
        have := congrArg (fun z => z.testBit i) h
        have this : (a &&& b).testBit i = a.testBit i := this
        rw [Nat.testBit_and] at this
        rw [Nat.testBit_and, Nat.testBit_or]
        cases ha : a.testBit i <;> cases hb : b.testBit i <;> cases hc : c.testBit i <;> rw [ha, hb] at this <;> first | rfl | exact Bool.noConfusion this
    unfold orS orA
    split
    · exact (key _ _ _ ih).1
    · exact (key _ _ _ ih).2
theorem cov_all {S : Nat → Nat} {n T : Nat} : cov S n (orA S n) T = true ↔ orS S T n = orA S n := by
  unfold cov
  rw [decide_eq_true_iff, Nat.and_comm, orA_or]
theorem frb_lo {S Le : Nat → Nat} {n k T : Nat} (h1 : T.testBit k = true) (h2 : orS S T n = orA S n) : ∀ i, 0 < T → T ≤ i → frb S Le n k i ≤ Le (T * 8 + k)
  | 0, h, h3 => absurd h3 (by omega)
  | i + 1, h, h3 => by
    unfold frb
    by_cases hT : T = i + 1
    · subst hT
      split
      · exact Nat.le_refl _
      · rename_i hc
        exact Nat.le_of_not_lt (fun z => hc ⟨⟨h1, h2⟩, z⟩)
    · have ih := frb_lo (Le := Le) h1 h2 i h (by omega)
      split
      · rename_i hc; omega
      · exact ih
theorem frb_at {S Le : Nat → Nat} {n k : Nat} : ∀ i, frb S Le n k i = 1000000000 ∨ ∃ T, 0 < T ∧ T ≤ i ∧ T.testBit k = true ∧ orS S T n = orA S n ∧ frb S Le n k i = Le (T * 8 + k)
  | 0 => Or.inl rfl
  | i + 1 => by
    unfold frb
    split
    · rename_i hc
      exact Or.inr ⟨i + 1, by omega, Nat.le_refl _, hc.1.1, hc.1.2, rfl⟩
    · rcases frb_at (S := S) (Le := Le) (n := n) (k := k) i with h | ⟨T, t1, t2, t3⟩
      · exact Or.inl h
      · exact Or.inr ⟨T, t1, by omega, t3⟩
theorem from_eq {P Du S Wy Le Re : Nat → Nat} {n k : Nat} (hn : n ≤ 8) (hDu : ∀ i, Du i ≤ 10000) (hWy : ∀ i, Wy i ≤ 10000) (hk : k < n) (hL : bellR P Du Wy n Le (2 ^ n)) (hA : bellA P Du S Wy n (orS S (2 ^ n - 1) n) Re 0) : wF Du Re k / 16 = frb S Le n k (2 ^ n - 1) := by
  rw [orS_full n (Nat.le_refl _)] at hA
  have hF : cov S n (orA S n) (2 ^ n - 1) = true := cov_all.mpr (orS_full n (Nat.le_refl _))
  have h8 := p8 hn
  have hpk := pw_lt hk
  have hb0 : (2 ^ k : Nat).testBit k = true := by rw [Nat.testBit_two_pow]; exact decide_eq_true rfl
  have hpos := Nat.two_pow_pos k
  -- every set that shows all costs no less
  have lo : ∀ T, T < 2 ^ n → T.testBit k = true → orS S T n = orA S n → wF Du Re k ≤ 16 * Le (T * 8 + k) + 8 := by
    intro T t1 t2 t3
    obtain ⟨Q, q1, q2, q3, q4, q5, q6, q7⟩ := set_rm hn t1 t2
    have hdis : 2 ^ k &&& Q = 0 := by rw [Nat.and_comm]; exact and_bit q4
    have hr := Re_lo hn hDu hWy hL hA (2 ^ n) (2 ^ k) k Q (by omega) hpk hb0 q2 hdis (by rw [Nat.or_comm, ← q3]; exact cov_all.mpr t3)
    have hle := hL T (by omega) t1 k hk t2
    rw [q1] at hle
    have hz := szo_le T 8
    show Du k * 16 + 1 + Re (2 ^ k * 8 + k) ≤ _
    omega
  obtain ⟨R, r1, r2, r3, r4⟩ := Re_at hn hDu hWy hL hA hF (2 ^ n) (2 ^ k) k (by omega) hpk hb0
  have hRk : R.testBit k = false := not_in (d := R) (R := 2 ^ k) (by rw [Nat.and_comm]; exact r2) hb0
  have hT : R ||| 2 ^ k < 2 ^ n := or_ltn r1 hpk
  have hadd := or_add R (by omega) (2 ^ k) (by omega) (and_bit hRk)
  have hle := hL (R ||| 2 ^ k) (by omega) hT k hk bit_or_s
  rw [show (R ||| 2 ^ k) - 2 ^ k = R by omega] at hle
  have hsz := szo_le R 8
  have hwF : wF Du Re k = 16 * Le ((R ||| 2 ^ k) * 8 + k) + (1 + szo R 8) := by
    show Du k * 16 + 1 + Re (2 ^ k * 8 + k) = _
    omega
  have hcov : orS S (R ||| 2 ^ k) n = orA S n := by rw [Nat.or_comm]; exact cov_all.mp r3
  have h1 := frb_lo (Le := Le) (k := k) (n := n) bit_or_s hcov (2 ^ n - 1) (by omega) (by omega)
  have hsz2 : 1 + szo R 8 ≤ 8 := by
    have e := szo_or (and_bit hRk) 8
    rw [szo_bit (by omega)] at e
    have := szo_le (R ||| 2 ^ k) 8
    omega
  rcases frb_at (S := S) (Le := Le) (n := n) (k := k) (2 ^ n - 1) with z | ⟨T, t1, t2, t3, t4, t5⟩
  · have := Le_bd hn hDu hWy hL (R ||| 2 ^ k) hT k hk bit_or_s
    omega
  · have := lo T (by omega) t3 t4
    omega
