/- what both sides answer, from what both sides hold -/
theorem lx_ge {p : Nat → Bool} {e : Nat} (h : p e = true) : ∀ x, e < x → e + 1 ≤ lx p x
  | 0, h2 => absurd h2 (by omega)
  | x + 1, h2 => by
    unfold lx
    split
    · omega
    · rename_i hp
      have : e ≠ x := fun z => hp (by rw [← z]; exact h)
      exact lx_ge h x (by omega)
theorem ltst_hi {td ts : Nat → Nat} {k dd j : Nat} (h1 : td j ≤ dd) (h2 : (ts j).testBit k = true) : ∀ n, j < n → td j + 1 ≤ ltst td ts k dd n
  | 0, h => absurd h (by omega)
  | n + 1, h => by
    unfold ltst
    by_cases hj : j = n
    · subst hj
      split
      · exact Nat.le_refl _
      · rename_i hc
        exact Nat.le_of_not_lt (fun z => hc ⟨h1, z, h2⟩)
    · have ih := ltst_hi (ts := ts) h1 h2 n (by omega)
      split
      · rename_i hc; omega
      · exact ih
theorem ltst_at {td ts : Nat → Nat} {k dd : Nat} : ∀ n, ltst td ts k dd n = 0 ∨ ∃ j, j < n ∧ td j ≤ dd ∧ (ts j).testBit k = true ∧ ltst td ts k dd n = td j + 1
  | 0 => Or.inl rfl
  | n + 1 => by
    unfold ltst
    split
    · rename_i hc; exact Or.inr ⟨n, by omega, hc.1, hc.2.2, rfl⟩
    · rcases ltst_at (td := td) (ts := ts) (k := k) (dd := dd) n with h | ⟨j, h1, h2⟩
      · exact Or.inl h
      · exact Or.inr ⟨j, by omega, h2⟩
/-- the touches of both sides -/
def tsim (tw td ts : Nat → Nat) (tn k : Nat) : Prop := ∀ d, d ≤ 100000 → (tb tw k d = true ↔ ∃ i, i < tn ∧ td i = d ∧ (ts i).testBit k = true)
theorem lt_eq {tw td ts : Nat → Nat} {tn k dd : Nat} (h : tsim tw td ts tn k) (htd : ∀ i, td i ≤ 100000) : ltst td ts k dd tn = lx (tb tw k) (min dd 100000 + 1) := by
  apply Nat.le_antisymm
  · rcases ltst_at (td := td) (ts := ts) (k := k) (dd := dd) tn with h0 | ⟨j, h1, h2, h3, h4⟩
    · omega
    · rw [h4]
      exact lx_ge ((h (td j) (htd j)).mpr ⟨j, h1, rfl, h3⟩) _ (by have := htd j; omega)
  · by_cases hz : lx (tb tw k) (min dd 100000 + 1) = 0
    · omega
    · obtain ⟨h1, h2, -⟩ := lx_true (min dd 100000 + 1) hz
      obtain ⟨i, i1, i2, i3⟩ := (h (lx (tb tw k) (min dd 100000 + 1) - 1) (by omega)).mp h2
      have := ltst_hi (td := td) (ts := ts) (dd := dd) (j := i) (by omega) i3 tn i1
      omega
theorem fcd_iff {a dd L lt : Nat} (ha : a < 2 ^ 30) (hd : dd < 2 ^ 30) (hL : L < 2 ^ 30) (hlt : lt < 2 ^ 30) : (¬ nI a < fcd dd L lt) ↔ ((¬ nI a < nI dd - nI L) ∧ lt ≤ a) := by
  unfold fcd
  split
  · rename_i h
    rw [Int32.lt_iff_toInt_lt, pk_sub_toInt hd hL, nI_toInt (by omega)] at h
    rw [Int32.lt_iff_toInt_lt, Int32.lt_iff_toInt_lt, pk_sub_toInt hd hL, nI_toInt (by omega), nI_toInt (by omega)]
    omega
  · rename_i h
    rw [Int32.lt_iff_toInt_lt, pk_sub_toInt hd hL, nI_toInt (by omega)] at h
    rw [Int32.lt_iff_toInt_lt, pk_sub_toInt hd hL, nI_toInt (by omega)]
    omega
theorem word_eq {per dy PF DF : Nat → Nat} {gd GF : Nat → Bool} {k pe dd L lt : Nat} (hd : dd < 2 ^ 30) (hL : L ≤ 5000) (hlt : lt < 2 ^ 30) (hDF : ∀ i, DF i ≤ 100000) : ∀ m, (∀ j, j < m → per j = PF (32 * k + j) ∧ dy j = DF (32 * k + j) ∧ gd j = GF (32 * k + j)) → (wd per dy gd pe (fcd dd L lt) dd m).2 = bwv GF (bw L PF DF k pe dd lt m) ∧ (wd per dy gd pe (fcd dd L lt) dd m).1 = if bw L PF DF k pe dd lt m = 0 then 0 else DF (bw L PF DF k pe dd lt m - 1) + 1
  | 0, _ => ⟨rfl, rfl⟩
  | m + 1, h => by
    obtain ⟨i1, i2⟩ := word_eq (per := per) (dy := dy) (gd := gd) (pe := pe) hd hL hlt hDF m (fun j hj => h j (by omega))
    obtain ⟨e1, e2, e3⟩ := h m (by omega)
    have hdf := hDF (32 * k + m)
    have hiff : (per m = pe ∧ ¬ nI (dy m) < fcd dd L lt ∧ dy m ≤ dd ∧ (wd per dy gd pe (fcd dd L lt) dd m).1 < dy m + 1) ↔ ((PF (32 * k + m) = pe ∧ DF (32 * k + m) ≤ dd ∧ ¬ nI (DF (32 * k + m)) < nI dd - nI L ∧ lt ≤ DF (32 * k + m)) ∧ (bw L PF DF k pe dd lt m = 0 ∨ DF (bw L PF DF k pe dd lt m - 1) < DF (32 * k + m))) := by
      rw [e1, e2, i2, fcd_iff (by omega) hd (by omega) hlt]
      by_cases hb : bw L PF DF k pe dd lt m = 0
      · rw [if_pos hb]
        constructor
        · rintro ⟨a, ⟨b, c⟩, d, -⟩; exact ⟨⟨a, d, b, c⟩, Or.inl hb⟩
        · rintro ⟨⟨a, b, c, d⟩, -⟩; exact ⟨a, ⟨c, d⟩, b, by omega⟩
      · rw [if_neg hb]
        constructor
        · rintro ⟨a, ⟨b, c⟩, d, e⟩; exact ⟨⟨a, d, b, c⟩, Or.inr (by omega)⟩
        · rintro ⟨⟨a, b, c, d⟩, e⟩
          rcases e with e | e
          · exact absurd e hb
          · exact ⟨a, ⟨c, d⟩, b, by omega⟩
    unfold wd bw
    by_cases hc : (PF (32 * k + m) = pe ∧ DF (32 * k + m) ≤ dd ∧ ¬ nI (DF (32 * k + m)) < nI dd - nI L ∧ lt ≤ DF (32 * k + m)) ∧ (bw L PF DF k pe dd lt m = 0 ∨ DF (bw L PF DF k pe dd lt m - 1) < DF (32 * k + m))
    · rw [if_pos (hiff.mpr hc), if_pos hc]
      refine ⟨?_, ?_⟩
      · show bI (gd m) = (if 32 * k + m + 1 = 0 then -1 else bI (GF (32 * k + m + 1 - 1)))
        rw [if_neg (by omega), Nat.add_sub_cancel, e3]
      · show dy m + 1 = (if 32 * k + m + 1 = 0 then 0 else DF (32 * k + m + 1 - 1) + 1)
        rw [if_neg (by omega), Nat.add_sub_cancel, e2]
    · rw [if_neg (fun z => hc (hiff.mp z)), if_neg hc]
      exact ⟨i1, i2⟩
/-- the results of both sides -/
def rsim (per dy : Nat → Nat → Nat) (gd : Nat → Nat → Bool) (ct PF DF : Nat → Nat) (GF : Nat → Bool) (k : Nat) : Prop := ∀ j, j < ct k → per k j = PF (32 * k + j) ∧ dy k j = DF (32 * k + j) ∧ gd k j = GF (32 * k + j)
theorem wrd_eq {per dy : Nat → Nat → Nat} {gd : Nat → Nat → Bool} {ct PF DF td ts tw : Nat → Nat} {GF : Nat → Bool} {L tn k dd pe : Nat} (hd : dd < 2 ^ 30) (hL : L ≤ 5000) (hDF : ∀ i, DF i ≤ 100000) (htd : ∀ i, td i ≤ 100000) (h1 : tsim tw td ts tn k) (h2 : rsim per dy gd ct PF DF GF k) : wrd L per dy gd ct td ts tn k dd pe = mwr L tw ct PF DF GF k dd pe := by
  show (wd (per k) (dy k) (gd k) pe (fcd dd L (ltst td ts k dd tn)) dd (ct k)).2 = bwv GF (bw L PF DF k pe dd (lx (tb tw k) (min dd 100000 + 1)) (ct k))
  rw [lt_eq h1 htd]
  exact (word_eq hd hL (Nat.lt_of_le_of_lt (lx_le _ _) (by omega)) hDF (ct k) h2).1
theorem sta_eq {per dy : Nat → Nat → Nat} {gd : Nat → Nat → Bool} {ct PF DF td ts tw : Nat → Nat} {GF : Nat → Bool} {L tn k dd : Nat} (hd : dd < 2 ^ 30) (hL : L ≤ 5000) (hDF : ∀ i, DF i ≤ 100000) (htd : ∀ i, td i ≤ 100000) (h1 : tsim tw td ts tn k) (h2 : rsim per dy gd ct PF DF GF k) : sta L per dy gd ct td ts tn k dd = mst L tw ct PF DF GF k dd := by
  have hw : wrd L per dy gd ct td ts tn k dd = mwr L tw ct PF DF GF k dd := by
    funext pe
    exact wrd_eq hd hL hDF htd h1 h2
  unfold sta mst
  rw [hw]
theorem nthc_congr {p q : Nat → Bool} : ∀ d i l, (∀ k, i ≤ k → k < i + d → p k = q k) → nthc p d i l = nthc q d i l
  | 0, _, _, _ => rfl
  | d + 1, i, l, h => by
    rw [nthc_s, nthc_s, h i (Nat.le_refl _) (by omega), nthc_congr d (i + 1) (l - 1) (fun k h1 h2 => h k (by omega) (by omega)), nthc_congr d (i + 1) l (fun k h1 h2 => h k (by omega) (by omega))]
theorem bset_congr {p q : Nat → Bool} : ∀ n, (∀ k, k < n → p k = q k) → bset p n = bset q n
  | 0, _ => rfl
  | n + 1, h => by
    unfold bset
    rw [h n (by omega), bset_congr n (fun k hk => h k (by omega))]
theorem bset_bit {p : Nat → Bool} {j : Nat} : ∀ n, (bset p n).testBit j = (decide (j < n) && p j)
  | 0 => by rw [show bset p 0 = 0 from rfl, Nat.zero_testBit]; rfl
  | n + 1 => by
    unfold bset
    have ih := bset_bit (p := p) (j := j) n
    by_cases hj : j = n
    · subst hj
      rw [decide_eq_true (by omega : j < j + 1), Bool.true_and]
      split
      · rename_i hp; rw [bit_or_s, hp]
      · rename_i hp; rw [ih, decide_eq_false (by omega), Bool.false_and, bt_nt hp]
    · have e : decide (j < n + 1) = decide (j < n) := by
        by_cases h2 : j < n
        · rw [decide_eq_true h2, decide_eq_true (by omega)]
        · rw [decide_eq_false h2, decide_eq_false (by omega)]
      rw [e]
      split
      · rw [bit_or_n (Ne.symm hj), ih]
      · exact ih
/-- how many cases a change touches -/
theorem chN_szo {pt ot : Nat → Int32} {x : Int32} {nc : Nat} : ∀ i, szo (bset (fun k => decide (pt k = x ∨ ot k = x)) nc) i = chN pt ot x (min i nc)
  | 0 => by rw [Nat.zero_min]; rfl
  | i + 1 => by
    have ih := chN_szo (pt := pt) (ot := ot) (x := x) (nc := nc) i
    unfold szo
    rw [bset_bit, ih]
    by_cases hi : i < nc
    · rw [decide_eq_true hi, Bool.true_and, Nat.min_eq_left (by omega : i ≤ nc), Nat.min_eq_left (by omega : i + 1 ≤ nc)]
      show _ = (if pt i = x ∨ ot i = x then chN pt ot x i + 1 else chN pt ot x i)
      by_cases hp : pt i = x ∨ ot i = x
      · rw [if_pos (decide_eq_true hp), if_pos hp]
      · rw [if_neg (by rw [decide_eq_false hp]; decide), if_neg hp]
    · rw [decide_eq_false hi, Bool.false_and, Nat.min_eq_right (by omega : nc ≤ i), Nat.min_eq_right (by omega : nc ≤ i + 1)]
      rfl
/-- the touch bits after a change -/
theorem chT_bit {tw : Nat → Nat} {pt ot : Nat → Int32} {x : Int32} {dd : Nat} (hdd : dd ≤ 100000) : ∀ n k d, d ≤ 100000 → n ≤ 24 → (tb (chT tw pt ot x dd n) k d = true ↔ (tb tw k d = true ∨ (d = dd ∧ k < n ∧ (pt k = x ∨ ot k = x))))
  | 0, k, d, _, _ => ⟨fun h => Or.inl h, fun h => h.elim id (fun z => absurd z.2.1 (by omega))⟩
  | n + 1, k, d, hd, hn => by
    have ih := chT_bit (tw := tw) (pt := pt) (ot := ot) (x := x) hdd n k d hd (by omega)
    by_cases hp : pt n = x ∨ ot n = x
    · have e : chT tw pt ot x dd (n + 1) = va_up (chT tw pt ot x dd n) (3126 * n + dd / 32) (chT tw pt ot x dd n (3126 * n + dd / 32) ||| 2 ^ (dd % 32)) := if_pos hp
      by_cases hk : k = n ∧ d / 32 = dd / 32
      · obtain ⟨rfl, hw⟩ := hk
        have e2 : tb (chT tw pt ot x dd (k + 1)) k d = (tb (chT tw pt ot x dd k) k d || decide (dd % 32 = d % 32)) := by
          show (chT tw pt ot x dd (k + 1) (3126 * k + d / 32)).testBit (d % 32) = _
          rw [e, hw, show va_up (chT tw pt ot x dd k) (3126 * k + dd / 32) (chT tw pt ot x dd k (3126 * k + dd / 32) ||| 2 ^ (dd % 32)) (3126 * k + dd / 32) = _ from if_pos rfl, Nat.testBit_or, Nat.testBit_two_pow]
          show _ = ((chT tw pt ot x dd k (3126 * k + d / 32)).testBit (d % 32) || _)
          rw [hw]
        rw [e2, Bool.or_eq_true, ih, decide_eq_true_iff]
        constructor
        · rintro (h | h)
          · rcases h with h | h
            · exact Or.inl h
            · exact absurd h.2.1 (by omega)
          · exact Or.inr ⟨by omega, by omega, hp⟩
        · rintro (h | h)
          · exact Or.inl (Or.inl h)
          · exact Or.inr (by rw [h.1])
      · have e2 : tb (chT tw pt ot x dd (n + 1)) k d = tb (chT tw pt ot x dd n) k d := by
          show (chT tw pt ot x dd (n + 1) (3126 * k + d / 32)).testBit (d % 32) = _
          rw [e, show va_up (chT tw pt ot x dd n) (3126 * n + dd / 32) (chT tw pt ot x dd n (3126 * n + dd / 32) ||| 2 ^ (dd % 32)) (3126 * k + d / 32) = chT tw pt ot x dd n (3126 * k + d / 32) from if_neg (by omega)]
        rw [e2, ih]
        constructor
        · rintro (h | h)
          · exact Or.inl h
          · exact Or.inr ⟨h.1, by omega, h.2.2⟩
        · rintro (h | h)
          · exact Or.inl h
          · refine Or.inr ⟨h.1, ?_, h.2.2⟩
            have : k ≠ n := fun z => hk ⟨z, by rw [h.1]⟩
            omega
    · have e : chT tw pt ot x dd (n + 1) = chT tw pt ot x dd n := if_neg hp
      rw [e, ih]
      constructor
      · rintro (h | h)
        · exact Or.inl h
        · exact Or.inr ⟨h.1, by omega, h.2.2⟩
      · rintro (h | h)
        · exact Or.inl h
        · refine Or.inr ⟨h.1, ?_, h.2.2⟩
          have : k ≠ n := fun z => hp (by rw [← z]; exact h.2.2)
          omega
theorem chT_lt {tw : Nat → Nat} {pt ot : Nat → Int32} {x : Int32} {dd : Nat} (h : ∀ i, tw i < 2 ^ 32) : ∀ n i, chT tw pt ot x dd n i < 2 ^ 32
  | 0, i => h i
  | n + 1, i => by
    have ih := chT_lt (pt := pt) (ot := ot) (x := x) (dd := dd) h n
    unfold chT
    split
    · unfold va_up
      split
      · exact or_lt (ih _) (Nat.pow_lt_pow_right (by decide) (Nat.mod_lt _ (by decide)))
      · exact ih i
    · exact ih i
