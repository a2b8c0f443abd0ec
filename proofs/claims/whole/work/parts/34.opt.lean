/- the two reckonings of orders: the reference's by sets, the class's by what is done -/
theorem bit_out {x n b : Nat} (hx : x < 2 ^ n) (hb : n ≤ b) : x.testBit b = false := Nat.testBit_lt_two_pow (Nat.lt_of_lt_of_le hx (Nat.pow_le_pow_right (by decide) hb))
theorem bit_lt {x n b : Nat} (hx : x < 2 ^ n) (h : x.testBit b = true) : b < n := by
  apply Nat.lt_of_not_le
  intro z
  rw [bit_out hx z] at h
  exact Bool.noConfusion h
theorem ex_bit {x n : Nat} (h0 : x ≠ 0) (hx : x < 2 ^ n) : ∃ b, b < n ∧ x.testBit b = true := by
  apply Classical.byContradiction
  intro h
  apply h0
  apply Nat.eq_of_testBit_eq
  intro i
  rw [Nat.zero_testBit]
  by_cases hi : i < n
  · exact bt_nt (fun z => h ⟨i, hi, z⟩)
  · exact bit_out hx (by omega)
theorem or_add : ∀ x, x < 256 → ∀ y, y < 256 → x &&& y = 0 → x ||| y = x + y := by decide +kernel
theorem p8 {n : Nat} (hn : n ≤ 8) : 2 ^ n ≤ 256 := Nat.le_trans (Nat.pow_le_pow_right (by decide) hn) (by decide)
theorem szo_or {x y : Nat} (h : x &&& y = 0) : ∀ i, szo (x ||| y) i = szo x i + szo y i
  | 0 => rfl
  | i + 1 => by
    have ih := szo_or h i
    have hb : (x &&& y).testBit i = false := by rw [h]; exact Nat.zero_testBit _
    rw [Nat.testBit_and] at hb
    unfold szo
    rw [Nat.testBit_or, ih]
    cases hx : x.testBit i <;> cases hy : y.testBit i <;> rw [hx, hy] at hb <;> first | rfl | exact Bool.noConfusion hb | (simp; try omega)
theorem szo_bit {a : Nat} (ha : a < 8) : szo (2 ^ a) 8 = 1 := (by decide +kernel : ∀ a, a < 8 → szo (2 ^ a) 8 = 1) a ha
theorem szo_zero : szo 0 8 = 0 := by decide
theorem and_bit {x a : Nat} (h : x.testBit a = false) : x &&& 2 ^ a = 0 := by
  apply Nat.eq_of_testBit_eq
  intro i
  rw [Nat.testBit_and, Nat.testBit_two_pow, Nat.zero_testBit]
  by_cases hi : a = i
  · subst hi; rw [h]; rfl
  · rw [decide_eq_false hi, Bool.and_false]
theorem bit_or_s {x a : Nat} : (x ||| 2 ^ a).testBit a = true := by rw [Nat.testBit_or, Nat.testBit_two_pow, decide_eq_true rfl, Bool.or_true]
theorem bit_or_n {x a j : Nat} (h : a ≠ j) : (x ||| 2 ^ a).testBit j = x.testBit j := by rw [Nat.testBit_or, Nat.testBit_two_pow, decide_eq_false h, Bool.or_false]
theorem or_ltn {x y n : Nat} (hx : x < 2 ^ n) (hy : y < 2 ^ n) : x ||| y < 2 ^ n := or_lt hx hy
theorem pw_lt {a n : Nat} (h : a < n) : 2 ^ a < 2 ^ n := Nat.pow_lt_pow_right (by decide) h
/-- an act out of a set -/
theorem set_rm {R n b : Nat} (hn : n ≤ 8) (hR : R < 2 ^ n) (hb : R.testBit b = true) : ∃ Q, R - 2 ^ b = Q ∧ Q < 2 ^ n ∧ R = Q ||| 2 ^ b ∧ Q.testBit b = false ∧ (∀ j, Q.testBit j = true → R.testBit j = true) ∧ szo R 8 = szo Q 8 + 1 ∧ Q < R := by
  have h8 := p8 hn
  have hbn := bit_lt hR hb
  have hp := pw_lt hbn
  refine ⟨R ^^^ 2 ^ b, ?_⟩
  have hq : (R ^^^ 2 ^ b).testBit b = false := by
    rw [Nat.testBit_xor, Nat.testBit_two_pow, decide_eq_true rfl, hb]; rfl
  have hlt : R ^^^ 2 ^ b < 2 ^ n := Nat.xor_lt_two_pow hR hp
  have he : R = (R ^^^ 2 ^ b) ||| 2 ^ b := by
    apply Nat.eq_of_testBit_eq
    intro i
    rw [Nat.testBit_or, Nat.testBit_xor, Nat.testBit_two_pow]
    by_cases hi : b = i
    · subst hi; rw [hb, decide_eq_true rfl]; rfl
    · rw [decide_eq_false hi, Bool.xor_false, Bool.or_false]
  have ha := and_bit hq
  have hs := or_add _ (by omega : R ^^^ 2 ^ b < 256) (2 ^ b) (by omega) ha
  have hp0 := Nat.two_pow_pos b
  refine ⟨by omega, hlt, he, hq, ?_, ?_, by omega⟩
  · intro j hj
    rw [he, Nat.testBit_or, hj]; rfl
  · have h1 := szo_or ha 8
    rw [← he, szo_bit (by omega)] at h1
    exact h1
/-- a set and a set in it -/
theorem set_df {T d n : Nat} (hn : n ≤ 8) (hT : T < 2 ^ n) (h : d &&& T = d) : ∃ R, T - d = R ∧ R < 2 ^ n ∧ T = d ||| R ∧ d &&& R = 0 ∧ szo T 8 = szo d 8 + szo R 8 ∧ d ≤ T := by
  have h8 := p8 hn
  have hdT : d ≤ T := by rw [← h]; exact Nat.and_le_right
  have hb : ∀ i, d.testBit i = true → T.testBit i = true := by
    intro i hi
    have := congrArg (fun z => z.testBit i) h
    have this : (d &&& T).testBit i = d.testBit i := this
    rw [Nat.testBit_and, hi, Bool.true_and] at this
    exact this
  refine ⟨T ^^^ d, ?_⟩
  have hlt : T ^^^ d < 2 ^ n := Nat.xor_lt_two_pow hT (by omega)
  have he : T = d ||| (T ^^^ d) := by
    apply Nat.eq_of_testBit_eq
    intro i
    rw [Nat.testBit_or, Nat.testBit_xor]
    cases hi : d.testBit i
    · rw [Bool.xor_false, Bool.false_or]
    · rw [hb i hi]; rfl
  have ha : d &&& (T ^^^ d) = 0 := by
    apply Nat.eq_of_testBit_eq
    intro i
    rw [Nat.testBit_and, Nat.testBit_xor, Nat.zero_testBit]
    cases hi : d.testBit i
    · rfl
    · rw [hb i hi]; rfl
  have hs := or_add d (by omega) (T ^^^ d) (by omega) ha
  have h1 := szo_or ha 8
  rw [← he] at h1
  exact ⟨by omega, hlt, he, ha, h1, hdT⟩
theorem df_or {d R n : Nat} (hn : n ≤ 8) (hd : d < 2 ^ n) (hR : R < 2 ^ n) (h : d &&& R = 0) : (d ||| R) - d = R ∧ d &&& (d ||| R) = d := by
  have h8 := p8 hn
  refine ⟨by rw [or_add d (by omega) R (by omega) h]; omega, ?_⟩
  apply Nat.eq_of_testBit_eq
  intro i
  rw [Nat.testBit_and, Nat.testBit_or]
  cases d.testBit i <;> rfl
/-- the least time of the rest: no more than any, and one of them -/
theorem rbst_z {P Wy Le : Nat → Nat} {a : Nat} : ∀ n, rbst P Wy Le a 0 n = 0
  | 0 => rfl
  | n + 1 => by
    unfold rbst
    rw [rbst_z n]
    exact if_neg (by omega)
theorem rbst_lo {P Wy Le : Nat → Nat} {a R b : Nat} (hb : R.testBit b = true) : ∀ n, b < n → rbst P Wy Le a R n ≤ tu_wy P Wy a b + Le (R * 8 + b)
  | 0, h => absurd h (by omega)
  | n + 1, h => by
    unfold rbst
    by_cases he : b = n
    · subst he
      have e : rv P Wy Le a R b = tu_wy P Wy a b + Le (R * 8 + b) := if_pos hb
      rw [e]
      split
      · exact Nat.le_refl _
      · rename_i h2; omega
    · have ih := rbst_lo (P := P) (Wy := Wy) (Le := Le) (a := a) hb n (by omega)
      split
      · rename_i h2; omega
      · exact ih
theorem rbst_at {P Wy Le : Nat → Nat} {a R : Nat} (h0 : R ≠ 0) : ∀ n, rbst P Wy Le a R n = 1000000000 ∨ ∃ b, b < n ∧ R.testBit b = true ∧ rbst P Wy Le a R n = tu_wy P Wy a b + Le (R * 8 + b)
  | 0 => Or.inl (if_neg h0)
  | n + 1 => by
    unfold rbst
    split
    · rename_i h
      cases hb : R.testBit n
      · have e : rv P Wy Le a R n = 1000000000 := if_neg (by rw [hb]; decide)
        exact Or.inl e
      · have e : rv P Wy Le a R n = tu_wy P Wy a n + Le (R * 8 + n) := if_pos hb
        exact Or.inr ⟨n, by omega, hb, e⟩
    · rcases rbst_at (P := P) (Wy := Wy) (Le := Le) (a := a) h0 n with h | ⟨b, h1, h2⟩
      · exact Or.inl h
      · exact Or.inr ⟨b, by omega, h2⟩
theorem Le_bd {P Du Wy Le : Nat → Nat} {n : Nat} (hn : n ≤ 8) (hDu : ∀ i, Du i ≤ 10000) (hWy : ∀ i, Wy i ≤ 10000) (hL : bellR P Du Wy n Le (2 ^ n)) : ∀ s, s < 2 ^ n → ∀ a, a < n → s.testBit a = true → Le (s * 8 + a) ≤ 20000 * s := by
  intro s
  induction s using Nat.strongRecOn with
  | _ s ih =>
    intro hs a ha hb
    obtain ⟨Q, h1, h2, h3, h4, h5, h6, h7⟩ := set_rm hn hs hb
    rw [hL s (by omega) hs a ha hb, h1]
    have hd := hDu a
    by_cases hq : Q = 0
    · rw [hq, rbst_z]; omega
    · obtain ⟨b, hb1, hb2⟩ := ex_bit hq h2
      have h8 := rbst_lo (P := P) (Wy := Wy) (Le := Le) (a := a) hb2 n hb1
      have h9 := ih Q h7 h2 b hb1 hb2
      have h10 : tu_wy P Wy a b ≤ 10000 := hWy _
      omega
theorem rbst_ex {P Du Wy Le : Nat → Nat} {n a R : Nat} (hn : n ≤ 8) (hDu : ∀ i, Du i ≤ 10000) (hWy : ∀ i, Wy i ≤ 10000) (hL : bellR P Du Wy n Le (2 ^ n)) (h0 : R ≠ 0) (hR : R < 2 ^ n) : ∃ b, b < n ∧ R.testBit b = true ∧ rbst P Wy Le a R n = tu_wy P Wy a b + Le (R * 8 + b) := by
  rcases rbst_at (P := P) (Wy := Wy) (Le := Le) (a := a) h0 n with h | h
  · obtain ⟨b, h1, h2⟩ := ex_bit h0 hR
    have h3 := rbst_lo (P := P) (Wy := Wy) (Le := Le) (a := a) h2 n h1
    have h4 := Le_bd hn hDu hWy hL R hR b h1 h2
    have h5 : tu_wy P Wy a b ≤ 10000 := hWy _
    have h8 := p8 hn
    omega
  · exact h
theorem rbst_bd {P Du Wy Le : Nat → Nat} {n a R : Nat} (hn : n ≤ 8) (hDu : ∀ i, Du i ≤ 10000) (hWy : ∀ i, Wy i ≤ 10000) (hL : bellR P Du Wy n Le (2 ^ n)) (hR : R < 2 ^ n) : rbst P Wy Le a R n ≤ 10000 + 20000 * R := by
  by_cases h0 : R = 0
  · rw [h0, rbst_z]; omega
  · obtain ⟨b, h1, h2, h3⟩ := rbst_ex (a := a) hn hDu hWy hL h0 hR
    have h4 := Le_bd hn hDu hWy hL R hR b h1 h2
    have h5 : tu_wy P Wy a b ≤ 10000 := hWy _
    omega
theorem lof_z {Le : Nat → Nat} : ∀ n, lof Le 0 n = 0
  | 0 => rfl
  | n + 1 => by
    unfold lof
    rw [if_neg (fun z => absurd z.1 (by rw [Nat.zero_testBit]; decide))]
    exact lof_z n
theorem lof_lo {Le : Nat → Nat} {R b : Nat} (hb : R.testBit b = true) : ∀ n, b < n → lof Le R n ≤ Le (R * 8 + b)
  | 0, h => absurd h (by omega)
  | n + 1, h => by
    unfold lof
    by_cases he : b = n
    · subst he
      split
      · exact Nat.le_refl _
      · rename_i h2
        exact Nat.le_of_not_lt (fun z => h2 ⟨hb, z⟩)
    · have ih := lof_lo (Le := Le) hb n (by omega)
      split
      · rename_i h2; omega
      · exact ih
theorem lof_at {Le : Nat → Nat} {R : Nat} (h0 : R ≠ 0) : ∀ n, lof Le R n = 1000000000 ∨ ∃ b, b < n ∧ R.testBit b = true ∧ lof Le R n = Le (R * 8 + b)
  | 0 => Or.inl (if_neg h0)
  | n + 1 => by
    unfold lof
    split
    · rename_i h
      exact Or.inr ⟨n, by omega, h.1, rfl⟩
    · rcases lof_at (Le := Le) h0 n with h | ⟨b, h1, h2⟩
      · exact Or.inl h
      · exact Or.inr ⟨b, by omega, h2⟩
theorem lof_ex {P Du Wy Le : Nat → Nat} {n R : Nat} (hn : n ≤ 8) (hDu : ∀ i, Du i ≤ 10000) (hWy : ∀ i, Wy i ≤ 10000) (hL : bellR P Du Wy n Le (2 ^ n)) (h0 : R ≠ 0) (hR : R < 2 ^ n) : ∃ b, b < n ∧ R.testBit b = true ∧ lof Le R n = Le (R * 8 + b) := by
  rcases lof_at (Le := Le) h0 n with h | h
  · obtain ⟨b, h1, h2⟩ := ex_bit h0 hR
    have h3 := lof_lo (Le := Le) h2 n h1
    have h4 := Le_bd hn hDu hWy hL R hR b h1 h2
    have h8 := p8 hn
    omega
  · exact h
/-- the class's rests -/
theorem lrest_lo {P Du Wy Re : Nat → Nat} {done last b : Nat} (hb : done.testBit b = false) : ∀ n, b < n → lrest P Du Wy Re done last n ≤ wN P Du Wy Re done last b
  | 0, h => absurd h (by omega)
  | n + 1, h => by
    unfold lrest
    by_cases he : b = n
    · subst he
      rw [if_neg (by rw [hb]; decide)]
      exact Nat.min_le_right _ _
    · have ih := lrest_lo (P := P) (Du := Du) (Wy := Wy) (Re := Re) (last := last) hb n (by omega)
      split
      · exact ih
      · exact Nat.le_trans (Nat.min_le_left _ _) ih
theorem lrest_at {P Du Wy Re : Nat → Nat} {done last : Nat} : ∀ n, lrest P Du Wy Re done last n = 2 ^ 28 ∨ ∃ b, b < n ∧ done.testBit b = false ∧ lrest P Du Wy Re done last n = wN P Du Wy Re done last b
  | 0 => Or.inl rfl
  | n + 1 => by
    unfold lrest
    split
    · rcases lrest_at (P := P) (Du := Du) (Wy := Wy) (Re := Re) (done := done) (last := last) n with h | ⟨b, h1, h2⟩
      · exact Or.inl h
      · exact Or.inr ⟨b, by omega, h2⟩
    · rename_i hb
      by_cases hm : lrest P Du Wy Re done last n ≤ wN P Du Wy Re done last n
      · rw [Nat.min_eq_left hm]
        rcases lrest_at (P := P) (Du := Du) (Wy := Wy) (Re := Re) (done := done) (last := last) n with h | ⟨b, h1, h2⟩
        · exact Or.inl h
        · exact Or.inr ⟨b, by omega, h2⟩
      · rw [Nat.min_eq_right (by omega)]
        exact Or.inr ⟨n, by omega, bt_nt hb, rfl⟩
theorem not_in {d R b : Nat} (h : d &&& R = 0) (hb : R.testBit b = true) : d.testBit b = false := by
  have h2 : (d &&& R).testBit b = false := by rw [h]; exact Nat.zero_testBit _
  rw [Nat.testBit_and, hb, Bool.and_true] at h2
  exact h2
theorem and_or_z {d Q b : Nat} (h1 : d &&& (Q ||| 2 ^ b) = 0) (h2 : Q.testBit b = false) : (d ||| 2 ^ b) &&& Q = 0 := by
  apply Nat.eq_of_testBit_eq
  intro i
  have h3 : (d &&& (Q ||| 2 ^ b)).testBit i = false := by rw [h1]; exact Nat.zero_testBit _
  rw [Nat.testBit_and, Nat.testBit_or, Nat.testBit_two_pow] at h3
  rw [Nat.testBit_and, Nat.testBit_or, Nat.testBit_two_pow, Nat.zero_testBit]
  by_cases hi : b = i
  · subst hi; rw [h2, Bool.and_false]
  · rw [decide_eq_false hi, Bool.or_false] at h3 ⊢
    exact h3
theorem or_perm {d Q b : Nat} : (d ||| 2 ^ b) ||| Q = d ||| (Q ||| 2 ^ b) := by
  rw [Nat.or_assoc, Nat.or_comm (2 ^ b) Q]
theorem or_gt8 {d b n : Nat} (hn : n ≤ 8) (hd : d < 2 ^ n) (hb : b < n) (h : d.testBit b = false) : d < d ||| 2 ^ b ∧ d ||| 2 ^ b < 2 ^ n := by
  have h8 := p8 hn
  have hp := pw_lt hb
  have h0 := Nat.two_pow_pos b
  refine ⟨?_, or_ltn hd hp⟩
  rw [or_add d (by omega) (2 ^ b) (by omega) (and_bit h)]
  omega
/-- no rest that covers is cheaper than the class's weight -/
theorem Re_lo {P Du S Wy Le Re : Nat → Nat} {n W : Nat} (hn : n ≤ 8) (hDu : ∀ i, Du i ≤ 10000) (hWy : ∀ i, Wy i ≤ 10000) (hL : bellR P Du Wy n Le (2 ^ n)) (hA : bellA P Du S Wy n W Re 0) : ∀ m done last R, 2 ^ n - done ≤ m → done < 2 ^ n → done.testBit last = true → R < 2 ^ n → done &&& R = 0 → cov S n W (done ||| R) = true → Re (done * 8 + last) ≤ 16 * rbst P Wy Le last R n + szo R 8 := by
  intro m
  induction m with
  | zero => intro done last R h1 h2; omega
  | succ m ih =>
    intro done last R h1 h2 h3 h4 h5 h6
    have hla := bit_lt h2 h3
    have h0 : 0 < done := Nat.pos_of_ne_zero (fun z => by rw [z, Nat.zero_testBit] at h3; exact Bool.noConfusion h3)
    have hbe : Re (done * 8 + last) = _ := hA.2 done h0 h2 last hla h3
    rw [hbe]
    split
    · exact Nat.zero_le _
    · rename_i hc
      have hR0 : R ≠ 0 := fun z => hc (by rw [z, Nat.or_zero] at h6; exact h6)
      obtain ⟨b, hb1, hb2, hb3⟩ := rbst_ex (a := last) hn hDu hWy hL hR0 h4
      obtain ⟨Q, q1, q2, q3, q4, q5, q6, q7⟩ := set_rm hn h4 hb2
      have hnb := not_in h5 hb2
      have hg := or_gt8 hn h2 hb1 hnb
      have h7 := lrest_lo (P := P) (Du := Du) (Wy := Wy) (Re := Re) (last := last) hnb n hb1
      have h8 := ih (done ||| 2 ^ b) b Q (by omega) hg.2 bit_or_s q2 (and_or_z (by rw [← q3]; exact h5) q4) (by rw [or_perm, ← q3]; exact h6)
      have h9 := hL R (by omega) h4 b hb1 hb2
      rw [q1] at h9
      rw [hb3, h9, q6]
      have h10 : wN P Du Wy Re done last b = (tu_wy P Wy last b + Du b) * 16 + 1 + Re ((done ||| 2 ^ b) * 8 + b) := rfl
      omega
/-- and one has that weight -/
theorem Re_at {P Du S Wy Le Re : Nat → Nat} {n W : Nat} (hn : n ≤ 8) (hDu : ∀ i, Du i ≤ 10000) (hWy : ∀ i, Wy i ≤ 10000) (hL : bellR P Du Wy n Le (2 ^ n)) (hA : bellA P Du S Wy n W Re 0) (hF : cov S n W (2 ^ n - 1) = true) : ∀ m done last, 2 ^ n - done ≤ m → done < 2 ^ n → done.testBit last = true → ∃ R, R < 2 ^ n ∧ done &&& R = 0 ∧ cov S n W (done ||| R) = true ∧ Re (done * 8 + last) = 16 * rbst P Wy Le last R n + szo R 8 := by
  intro m
  induction m with
  | zero => intro done last h1 h2; omega
  | succ m ih =>
    intro done last h1 h2 h3
    have hla := bit_lt h2 h3
    have h256 := p8 hn
    have h0 : 0 < done := Nat.pos_of_ne_zero (fun z => by rw [z, Nat.zero_testBit] at h3; exact Bool.noConfusion h3)
    have hbe : Re (done * 8 + last) = _ := hA.2 done h0 h2 last hla h3
    rw [hbe]
    split
    · rename_i hc
      exact ⟨0, Nat.two_pow_pos n, Nat.and_zero _, by rw [Nat.or_zero]; exact hc, by rw [rbst_z, szo_zero]⟩
    · rename_i hc
      have hex : ∃ b, b < n ∧ done.testBit b = false := by
        apply Classical.byContradiction
        intro hno
        apply hc
        rw [show done = 2 ^ n - 1 from by
          apply Nat.eq_of_testBit_eq
          intro i
          rw [Nat.testBit_two_pow_sub_one]
          by_cases hi : i < n
          · rw [decide_eq_true hi]; exact bt_nf (fun z => hno ⟨i, hi, z⟩)
          · rw [decide_eq_false hi]; exact bit_out h2 (by omega)]
        exact hF
      have hsz : ∀ x, szo x 8 ≤ 8 := fun x => szo_le x 8
      have hlt : lrest P Du Wy Re done last n < 2 ^ 28 := by
        obtain ⟨b, hb1, hb2⟩ := hex
        have hg := or_gt8 hn h2 hb1 hb2
        obtain ⟨R, r1, r2, r3, r4⟩ := ih (done ||| 2 ^ b) b (by omega) hg.2 bit_or_s
        have h7 := lrest_lo (P := P) (Du := Du) (Wy := Wy) (Re := Re) (last := last) hb2 n hb1
        have h8 := rbst_bd (a := b) hn hDu hWy hL r1
        have h9 := hDu b
        have h10 : tu_wy P Wy last b ≤ 10000 := hWy _
        have h11 := hsz R
        have h12 : wN P Du Wy Re done last b = (tu_wy P Wy last b + Du b) * 16 + 1 + Re ((done ||| 2 ^ b) * 8 + b) := rfl
        omega
      rcases lrest_at (P := P) (Du := Du) (Wy := Wy) (Re := Re) (done := done) (last := last) n with h | ⟨b, hb1, hb2, hb3⟩
      · omega
      · have hg := or_gt8 hn h2 hb1 hb2
        obtain ⟨Q, r1, r2, r3, r4⟩ := ih (done ||| 2 ^ b) b (by omega) hg.2 bit_or_s
        have hQb : Q.testBit b = false := by
          have z := not_in (d := Q) (R := done ||| 2 ^ b) (by rw [Nat.and_comm]; exact r2) bit_or_s
          exact z
        have hQR : Q ||| 2 ^ b < 2 ^ n := or_ltn r1 (pw_lt hb1)
        have hdis : done &&& (Q ||| 2 ^ b) = 0 := by
          apply Nat.eq_of_testBit_eq
          intro i
          have h13 : ((done ||| 2 ^ b) &&& Q).testBit i = false := by rw [r2]; exact Nat.zero_testBit _
          rw [Nat.testBit_and, Nat.testBit_or, Nat.testBit_two_pow] at h13
          rw [Nat.testBit_and, Nat.testBit_or, Nat.testBit_two_pow, Nat.zero_testBit]
          by_cases hi : b = i
          · subst hi; rw [hb2, Bool.false_and]
          · rw [decide_eq_false hi, Bool.or_false] at h13 ⊢
            exact h13
        have hcv : cov S n W (done ||| (Q ||| 2 ^ b)) = true := by rw [← or_perm]; exact r3
        have hbit : (Q ||| 2 ^ b).testBit b = true := bit_or_s
        have hsub : Q ||| 2 ^ b - 0 = Q ||| 2 ^ b := rfl
        have hp0 := Nat.two_pow_pos b
        have hpl := pw_lt hb1
        have hadd := or_add Q (by omega) (2 ^ b) (by omega) (and_bit hQb)
        have h14 := rbst_lo (P := P) (Wy := Wy) (Le := Le) (a := last) hbit n hb1
        have h15 := hL (Q ||| 2 ^ b) (by omega) hQR b hb1 hbit
        rw [show (Q ||| 2 ^ b) - 2 ^ b = Q by omega] at h15
        have h16 := szo_or (and_bit hQb) 8
        rw [szo_bit (by omega)] at h16
        have h17 : wN P Du Wy Re done last b = (tu_wy P Wy last b + Du b) * 16 + 1 + Re ((done ||| 2 ^ b) * 8 + b) := rfl
        have h18 := Re_lo hn hDu hWy hL hA (m + 1) done last (Q ||| 2 ^ b) h1 h2 h3 hQR hdis hcv
        rw [hbe, if_neg hc] at h18
        exact ⟨Q ||| 2 ^ b, hQR, hdis, hcv, by omega⟩
