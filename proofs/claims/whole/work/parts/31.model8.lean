theorem lifeI {a dd L : Nat} (ha : a < 2 ^ 30) (hd : dd < 2 ^ 30) (hL : L < 2 ^ 30) : (¬ nI a < nI dd - nI L) ↔ dd ≤ a + L := by
  rw [Int32.lt_iff_toInt_lt, pk_sub_toInt hd hL, nI_toInt (by omega)]
  omega
theorem nd1_lo {x dd d : Nat} (h : dd < x) : dd < nd1 x dd d := by
  unfold nd1; split
  · rename_i h2; exact h2.1
  · exact h
theorem nd1_hi {x dd d : Nat} (h : dd < d) : nd1 x dd d ≤ d := by
  unfold nd1; split
  · exact Nat.le_refl _
  · rename_i h2; omega
theorem ndn_lo {L : Nat} {DF : Nat → Nat} {k dd : Nat} (hd : dd < 1000000000) : ∀ i, dd < ndn L DF k dd i
  | 0 => hd
  | i + 1 => nd1_lo (nd1_lo (ndn_lo hd i))
theorem ndn_hi {L : Nat} {DF : Nat → Nat} {k dd j : Nat} : ∀ i, j < i → (dd < DF (32 * k + j) → ndn L DF k dd i ≤ DF (32 * k + j)) ∧ (dd < DF (32 * k + j) + L + 1 → ndn L DF k dd i ≤ DF (32 * k + j) + L + 1)
  | 0, h => absurd h (by omega)
  | i + 1, h => by
    by_cases hj : j = i
    · subst hj
      exact ⟨fun z => Nat.le_trans (nd1_le _ _ _) (nd1_hi z), fun z => nd1_hi z⟩
    · have ih := ndn_hi (L := L) (DF := DF) (k := k) (dd := dd) (j := j) i (by omega)
      exact ⟨fun z => Nat.le_trans (nd1_le _ _ _) (Nat.le_trans (nd1_le _ _ _) (ih.1 z)), fun z => Nat.le_trans (nd1_le _ _ _) (Nat.le_trans (nd1_le _ _ _) (ih.2 z))⟩
theorem bw_congr {L : Nat} {PF DF : Nat → Nat} {k pe d e lt lt' : Nat} : ∀ n, (∀ i, i < n → ((DF (32 * k + i) ≤ e ∧ (¬ nI (DF (32 * k + i)) < nI e - nI L) ∧ lt' ≤ DF (32 * k + i)) ↔ (DF (32 * k + i) ≤ d ∧ (¬ nI (DF (32 * k + i)) < nI d - nI L) ∧ lt ≤ DF (32 * k + i)))) → bw L PF DF k pe e lt' n = bw L PF DF k pe d lt n
  | 0, _ => rfl
  | n + 1, h => by
    have ih := bw_congr (PF := PF) (pe := pe) n (fun i hi => h i (by omega))
    unfold bw
    rw [ih]
    have hn := h n (by omega)
    by_cases hp : PF (32 * k + n) = pe
    · by_cases hq : (DF (32 * k + n) ≤ d ∧ (¬ nI (DF (32 * k + n)) < nI d - nI L) ∧ lt ≤ DF (32 * k + n))
      · have hq2 := hn.mpr hq
        by_cases hr : (bw L PF DF k pe d lt n = 0 ∨ DF (bw L PF DF k pe d lt n - 1) < DF (32 * k + n))
        · rw [if_pos ⟨⟨hp, hq2⟩, hr⟩, if_pos ⟨⟨hp, hq⟩, hr⟩]
        · rw [if_neg (fun z => hr z.2), if_neg (fun z => hr z.2)]
      · rw [if_neg (fun z => hq (hn.mp z.1.2)), if_neg (fun z => hq z.1.2)]
    · rw [if_neg (fun z => hp z.1.1), if_neg (fun z => hp z.1.1)]
theorem mst_const {L : Nat} {tw ct PF DF : Nat → Nat} {GF : Nat → Bool} {k d e : Nat} (hL : L ≤ 5000) (hDF : ∀ i, DF i ≤ 100000) (hd : d < 2 ^ 30) (he : e < 2 ^ 30) (hlx : lx (tb tw k) (min e 100000 + 1) = lx (tb tw k) (min d 100000 + 1)) (hr : ∀ i, i < ct k → (DF (32 * k + i) ≤ e ↔ DF (32 * k + i) ≤ d) ∧ (e ≤ DF (32 * k + i) + L ↔ d ≤ DF (32 * k + i) + L)) : mst L tw ct PF DF GF k e = mst L tw ct PF DF GF k d := by
  have hw : mwr L tw ct PF DF GF k e = mwr L tw ct PF DF GF k d := by
    funext pe
    show bwv GF _ = bwv GF _
    rw [hlx, bw_congr (d := d) (lt := lx (tb tw k) (min d 100000 + 1)) (ct k) (fun i hi => by
      have h1 := hr i hi
      have h2 := hDF (32 * k + i)
      rw [lifeI (by omega) he (by omega), lifeI (by omega) hd (by omega), h1.1, h1.2])]
  unfold mst
  rw [hw]
theorem mst_step {L : Nat} {tw ct PF DF : Nat → Nat} {GF : Nat → Bool} {k d r : Nat} (hL : L ≤ 5000) (hDF : ∀ i, DF i ≤ 100000) (hd : d < 2 ^ 30) (hr : ndf (tb tw k) d (ndn L DF k d (ct k)) r) : ∀ e, d ≤ e → e < r → mst L tw ct PF DF GF k e = mst L tw ct PF DF GF k d := by
  intro e h1 h2
  have hnx : r ≤ ndn L DF k d (ct k) := by
    rcases hr with h | h
    · omega
    · omega
  have hle := ndn_le L DF k d (ct k)
  refine mst_const hL hDF hd (by omega) ?_ ?_
  · have := lx_skip (tb tw k) (x := min e 100000 + 1) (min e 100000 - min d 100000) (by omega) (fun q q1 q2 => by
      rcases hr with h | h
      · exact h.2.2.2.2 q (by omega) (by omega)
      · exact h.2 q (by omega) (by omega) (by omega))
    rw [this, show min e 100000 + 1 - (min e 100000 - min d 100000) = min d 100000 + 1 by omega]
  · intro i hi
    have h3 := ndn_hi (L := L) (DF := DF) (k := k) (dd := d) (ct k) hi
    constructor
    · constructor
      · intro z
        apply Nat.le_of_not_lt
        intro z2
        have := h3.1 z2
        omega
      · omega
    · constructor
      · omega
      · intro z
        have := h3.2 (by omega)
        omega
theorem cnw_pos {w : Nat → Int32} {v : Int32} : ∀ n, 0 < cnw w v n → ∃ i, i < n ∧ w i = v
  | 0, h => absurd (show 0 < 0 from h) (by decide)
  | n + 1, h => by
    unfold cnw at h
    split at h
    · rename_i hw; exact ⟨n, by omega, hw⟩
    · obtain ⟨i, h1, h2⟩ := cnw_pos n h
      exact ⟨i, by omega, h2⟩
theorem bw_cond {L : Nat} {PF DF : Nat → Nat} {k pe d lt : Nat} : ∀ n, bw L PF DF k pe d lt n ≠ 0 → ∃ i, i < n ∧ DF (32 * k + i) ≤ d ∧ ¬ nI (DF (32 * k + i)) < nI d - nI L
  | 0, h => absurd rfl h
  | n + 1, h => by
    unfold bw at h
    split at h
    · rename_i hw; exact ⟨n, by omega, hw.1.2.1, hw.1.2.2.1⟩
    · obtain ⟨i, h1, h2⟩ := bw_cond n h
      exact ⟨i, by omega, h2⟩
theorem stv_three {g b : Nat} (h : stv g b = 3) : 2 ≤ g ∧ b = 0 := by
  unfold stv at h
  split at h
  · split at h <;> exact absurd h (by decide)
  · split at h
    · omega
    · exact absurd h (by decide)
theorem mst_next {L : Nat} {tw ct PF DF : Nat → Nat} {GF : Nat → Bool} {k d r : Nat} (hL : L ≤ 5000) (hDF : ∀ i, DF i ≤ 100000) (hd : d < 2 ^ 30) (hs : mst L tw ct PF DF GF k d = 3) (hr : ndf (tb tw k) d (ndn L DF k d (ct k)) r) : d < r ∧ r ≤ 105001 := by
  have hg := (stv_three hs).1
  obtain ⟨pe, _, hp⟩ := cnw_pos 10 (by omega : 0 < cnw (mwr L tw ct PF DF GF k d) 1 10)
  have hb : bw L PF DF k pe d (lx (tb tw k) (min d 100000 + 1)) (ct k) ≠ 0 := fun z => by
    have hp2 : bwv GF (bw L PF DF k pe d (lx (tb tw k) (min d 100000 + 1)) (ct k)) = 1 := hp
    rw [z] at hp2
    exact absurd (show (-1 : Int32) = 1 from hp2) (by decide)
  obtain ⟨i, h1, h2, h3⟩ := bw_cond (ct k) hb
  have h4 := hDF (32 * k + i)
  rw [lifeI (by omega) hd (by omega)] at h3
  have h5 := (ndn_hi (L := L) (DF := DF) (k := k) (dd := d) (ct k) h1).2 (by omega)
  have h6 := ndn_lo (L := L) (DF := DF) (k := k) (dd := d) (by omega) (ct k)
  rcases hr with h | h
  · omega
  · omega
/-- r is the first day from d on that isn't proved -/
abbrev fup (st : Nat → Nat) (d r : Nat) : Prop := d ≤ r ∧ st r ≠ 3 ∧ ∀ e, d ≤ e → e < r → st e = 3
set_option maxHeartbeats 4000000 in
set_option maxRecDepth 100000 in
theorem L_MO_proves {p : Program} {l : Launch} {e : Env} {s : State} {m : MethodId} {args : Array Value} {below : List Frame} {meth : Method} {c : Code} {Q : State → Prop} {A : Nat → Prop} {D : va_G} {cI cZ cO cJ : ClassId} {eA eM : Nat} {f : g_F} {bd : Nat → Nat} {th : Int32} {L nc : Nat} {pt ot : Nat → Int32} {n : Nat} {P Du S Wy tw ct PF DF : Nat → Nat} {GF : Nat → Bool} {pz pm : Nat} {O Le : Nat → Nat} {Sl : Nat → Bool} (hR : mo_R cI cZ f bd th L nc pt ot n P Du S Wy tw ct PF DF GF pz pm O Le Sl) (hB : mo_B L nc n P Du S Wy tw ct PF DF pz pm O Le) {k dd : Nat} (hk : k < 24) (X : g_X p s m args meth c b_MO_proves 4 (some .int) g_T y_MO_proves.cls D g_cl (g_tys cI cZ cO cJ) A (z_Z eA eM)) (kk : ∀ r_ : Nat, r_ < 2 ^ 30 → fup (fun e_ => mst L tw ct PF DF GF k e_) dd r_ → g_W p l e { frames := 3, cells := 0, slots := 0, locals := 72 } s m args below meth c 4 D g_cl A f 0 0 Q 52 [(3, .int (nI r_))] []) : ∀ (d : Nat) (a_ : Nat), (d = 105002 - a_) → (a_ ≤ 105001) → (dd ≤ a_) → (∀ e_, dd ≤ e_ → e_ < a_ → mst L tw ct PF DF GF k e_ = 3) → g_W p l e { frames := 3, cells := 0, slots := 0, locals := 72 } s m args below meth c 4 D g_cl A f 0 0 Q 32 [(3, .int (nI a_)), (0, .ref (bd 0)), (1, .int (nI k))] [] := by
  obtain ⟨hM, h1, h2, h3, h4, h5, h6, h7, h8, h9, h10, h11, h12, h13, h14⟩ := id hR
  obtain ⟨⟨hL1, hL5⟩, hnc, hUB, htw, hct, hPF, hDF, ⟨hpz, hpm, hO8⟩, hLe⟩ := id hB
  obtain ⟨hn8, hP, hDu, hS, hWy⟩ := id hUB
  intro d
  induction d using Nat.strongRecOn with
  | _ d ih =>
    intro a_ hd ha hda hj
    refine g_aload_n X d_MO_proves_32 1 rfl ?_
    refine g_iload_n X d_MO_proves_33 2 rfl ?_
    refine g_iload_n X d_MO_proves_34 0 rfl ?_
    refine g_callV (ci := 5) (As := [.int (nI k), .int (nI a_)]) (rest := []) X (z_ok eA eM) rfl rfl hM (c_MO_stateOf hR hB (k := k) (dd := a_) hk (by omega)) v_MO_stateOf q_707 q_s21 q_705 rfl rfl (Nat.le_of_ble_eq_true rfl) d_MO_proves_35 ⟨(Nat.le_of_ble_eq_true rfl), (Nat.le_of_ble_eq_true rfl)⟩ ⟨(Nat.le_of_ble_eq_true rfl), (Nat.le_of_ble_eq_true rfl)⟩ (g_K.no (fun _ h => h)) (fun r_ f2_ hp => ?_)
    obtain ⟨rfl, hf_⟩ := hp
    subst f2_
    refine g_st (st2 := [.int (nI (mst L tw ct PF DF GF k a_))]) rfl ?_
    refine g_iconst (v := 3) X d_MO_proves_38 (by decide) ?_
    refine g_icmp_ne X 52 d_MO_proves_39 (by decide) (fun c39 => ?_) (fun c39 => ?_)
    · skip
      have hs9 : mst L tw ct PF DF GF k a_ ≠ 3 := fun z => c39 (by rw [z]; rfl)
      exact g_lv [0] rfl (kk a_ (by omega) ⟨hda, hs9, hj⟩)
    · skip
      have hs9 : mst L tw ct PF DF GF k a_ = 3 := (nI_eq (b := 3) (Nat.lt_trans (mst_lt _ _ _ _ _ _ _ _) (by decide)) (by decide)).mp c39
      refine g_aload_n X d_MO_proves_42 1 rfl ?_
      refine g_iload_n X d_MO_proves_43 2 rfl ?_
      refine g_iload_n X d_MO_proves_44 0 rfl ?_
      refine g_callV (ci := 5) (As := [.int (nI k), .int (nI a_)]) (rest := []) X (z_ok eA eM) rfl rfl hM (c_MO_nextDay hR hB (k := k) (dd := a_) hk (by omega)) v_MO_nextDay q_743 q_s26 q_741 rfl rfl (Nat.le_of_ble_eq_true rfl) d_MO_proves_45 ⟨(Nat.le_of_ble_eq_true rfl), (Nat.le_of_ble_eq_true rfl)⟩ ⟨(Nat.le_of_ble_eq_true rfl), (Nat.le_of_ble_eq_true rfl)⟩ (g_K.no (fun _ h => h)) (fun r_ f2_ hp => ?_)
      obtain ⟨⟨x_, hx_, rfl⟩, hf_⟩ := hp
      subst f2_
      refine g_st (st2 := [.int (nI x_)]) rfl ?_
      refine g_istore_n (lv' := [(3, .int (nI x_)), (0, .ref (bd 0)), (1, .int (nI k))]) X d_MO_proves_48 rfl (by decide) rfl ?_
      refine g_goto X 32 d_MO_proves_49 (by decide) ?_
      have hn9 := mst_next hL5 hDF (by omega) hs9 hx_
      exact g_lv [0, 1, 2] rfl (ih (105002 - x_) (by omega) x_ rfl hn9.2 (by omega) (fun e_ h1 h2 => by
        by_cases he : e_ < a_
        · exact hj e_ h1 he
        · rw [mst_step hL5 hDF (by omega) hx_ e_ (by omega) h2]; exact hs9))
set_option maxHeartbeats 4000000 in
set_option maxRecDepth 100000 in
theorem c_MO_proves {l : Launch} {D : va_G} {cI cZ cO cJ : ClassId} {eA eM : Nat} {f : g_F} {bd : Nat → Nat} {th : Int32} {L nc : Nat} {pt ot : Nat → Int32} {n : Nat} {P Du S Wy tw ct PF DF : Nat → Nat} {GF : Nat → Bool} {pz pm : Nat} {O Le : Nat → Nat} {Sl : Nat → Bool} (hR : mo_R cI cZ f bd th L nc pt ot n P Du S Wy tw ct PF DF GF pz pm O Le Sl) (hB : mo_B L nc n P Du S Wy tw ct PF DF pz pm O Le) {x y : Int32} : g_C l y_MO_proves b_MO_proves 4 (some .int) { frames := 3, cells := 0, slots := 0, locals := 72 } D g_cl (g_tys cI cZ cO cJ) (z_Z eA eM) [.ref (bd 0), .int x, .int y] f (fun r f2 => (¬ (inR x nc ∧ inR y 100001) ∧ r = some (.int 0) ∧ f2 = (m_th f bd 1 L nc n pz pm)) ∨ (∃ k dd r_, k < nc ∧ dd < 100001 ∧ x = nI k ∧ y = nI dd ∧ fup (fun e_ => mst L tw ct PF DF GF k e_) dd r_ ∧ r_ < 2 ^ 30 ∧ r = some (.int (nI r_)) ∧ f2 = (m_th f bd 0 L nc n pz pm))) (fun _ => False) := by
  refine g_ofW [(0, .ref (bd 0)), (1, .int x), (2, .int y)] (by decide +kernel) (Nat.le_of_ble_eq_true rfl) rfl ?_
  intro p e s m args below meth c X ht hin
  obtain ⟨hM, h1, h2, h3, h4, h5, h6, h7, h8, h9, h10, h11, h12, h13, h14⟩ := id hR
  obtain ⟨⟨hL1, hL5⟩, hnc, hUB, htw, hct, hPF, hDF, ⟨hpz, hpm, hO8⟩, hLe⟩ := id hB
  obtain ⟨hn8, hP, hDu, hS, hWy⟩ := id hUB
  have kj : ∀ b_ : Bool, (b_ = true ↔ (inR x nc ∧ inR y 100001)) → g_W p l e { frames := 3, cells := 0, slots := 0, locals := 72 } s m args below meth c 4 D g_cl (g_A f s.heap.size) f 0 0 (g_End below D g_cl f (fun r f2 => (¬ (inR x nc ∧ inR y 100001) ∧ r = some (.int 0) ∧ f2 = (m_th f bd 1 L nc n pz pm)) ∨ (∃ k dd r_, k < nc ∧ dd < 100001 ∧ x = nI k ∧ y = nI dd ∧ fup (fun e_ => mst L tw ct PF DF GF k e_) dd r_ ∧ r_ < 2 ^ 30 ∧ r = some (.int (nI r_)) ∧ f2 = (m_th f bd 0 L nc n pz pm))) (fun _ => False) args s { frames := 3, cells := 0, slots := 0, locals := 72 }) 21 [(0, .ref (bd 0)), (1, .int x), (2, .int y)] [.int (bI b_), .ref (bd 0)] := by
    intro b_ hb_
    cases b_ with
    | false =>
      have hV : ¬ (inR x nc ∧ inR y 100001) := fun z => Bool.noConfusion (hb_.mpr z)
      refine g_iconst (v := 1) X d_MO_proves_21 (by decide) ?_
      refine g_callV (ci := 5) (As := [.int (bI false), .int 1]) (rest := []) X (z_ok eA eM) rfl rfl hM (c_MO_goes hR hB (b1 := false) (b2 := true)) v_MO_goes q_671 q_s19 q_669 rfl rfl (Nat.le_of_ble_eq_true rfl) d_MO_proves_22 ⟨(Nat.le_of_ble_eq_true rfl), (Nat.le_of_ble_eq_true rfl)⟩ ⟨(Nat.le_of_ble_eq_true rfl), (Nat.le_of_ble_eq_true rfl)⟩ (g_K.no (fun _ h => h)) (fun r_ f2_ hp => ?_)
      obtain ⟨rfl, hf9_⟩ := hp
      have hf_ : f2_ = (m_th f bd 1 L nc n pz pm) := hf9_
      clear hf9_
      subst f2_
      refine g_st (st2 := [.int 0]) rfl ?_
      have hR2 := mo_th hR 1
      obtain ⟨hM2, k1, k2, k3, k4, k5, k6, k7, k8, k9, k10, k11, k12, k13, k14⟩ := id hR2
      refine g_if_ne X 30 d_MO_proves_25 (by decide) (fun c25 => ?_) (fun c25 => ?_)
      · skip
        exact absurd rfl c25
      · skip
        skip
        refine g_iconst (v := 0) X d_MO_proves_28 (by decide) ?_
        exact g_iret X rfl (Or.inl ⟨hV, rfl, rfl⟩) (Nat.le_of_ble_eq_true rfl) (Nat.le_of_ble_eq_true rfl) d_MO_proves_29
    | true =>
      have hV := hb_.mp rfl
      obtain ⟨⟨k, hk, rfl⟩, ⟨dd, hd, rfl⟩⟩ := hV
      refine g_iconst (v := 1) X d_MO_proves_21 (by decide) ?_
      refine g_callV (ci := 5) (As := [.int (bI true), .int 1]) (rest := []) X (z_ok eA eM) rfl rfl hM (c_MO_goes hR hB (b1 := true) (b2 := true)) v_MO_goes q_671 q_s19 q_669 rfl rfl (Nat.le_of_ble_eq_true rfl) d_MO_proves_22 ⟨(Nat.le_of_ble_eq_true rfl), (Nat.le_of_ble_eq_true rfl)⟩ ⟨(Nat.le_of_ble_eq_true rfl), (Nat.le_of_ble_eq_true rfl)⟩ (g_K.no (fun _ h => h)) (fun r_ f2_ hp => ?_)
      obtain ⟨rfl, hf9_⟩ := hp
      have hf_ : f2_ = (m_th f bd 0 L nc n pz pm) := hf9_
      clear hf9_
      subst f2_
      refine g_st (st2 := [.int 1]) rfl ?_
      have hR2 := mo_th hR 0
      obtain ⟨hM2, k1, k2, k3, k4, k5, k6, k7, k8, k9, k10, k11, k12, k13, k14⟩ := id hR2
      refine g_if_ne X 30 d_MO_proves_25 (by decide) (fun c25 => ?_) (fun c25 => ?_)
      · skip
        skip
        refine g_iload_n X d_MO_proves_30 2 rfl ?_
        refine g_istore_n (lv' := [(3, .int (nI dd)), (0, .ref (bd 0)), (1, .int (nI k)), (2, .int (nI dd))]) X d_MO_proves_31 rfl (by decide) rfl ?_
        refine g_lv [0, 1, 2] rfl (L_MO_proves hR2 hB (k := k) (dd := dd) (by omega) X ?_ _ dd rfl (by omega) (Nat.le_refl _) (fun e_ h1 h2 => absurd h2 (by omega)))
        intro r_ hr1 hr2
        exact g_iload_n X d_MO_proves_52 0 rfl (g_iret X rfl (Or.inr ⟨k, dd, r_, hk, hd, rfl, rfl, hr2, hr1, rfl, rfl⟩) (Nat.le_of_ble_eq_true rfl) (Nat.le_of_ble_eq_true rfl) d_MO_proves_53)
      · skip
        exact absurd c25 (by decide)
  refine g_aload_n X d_MO_proves_0 0 rfl ?_
  refine g_aload_n X d_MO_proves_1 0 rfl ?_
  refine g_iload_n X d_MO_proves_2 1 rfl ?_
  refine g_callV (ci := 5) (As := [.int x]) (rest := [.ref (bd 0)]) X (z_ok eA eM) rfl rfl hM (c_MO_isCase hR hB (x := x)) v_MO_isCase q_683 q_s20 q_681 rfl rfl (Nat.le_of_ble_eq_true rfl) d_MO_proves_3 ⟨(Nat.le_of_ble_eq_true rfl), (Nat.le_of_ble_eq_true rfl)⟩ ⟨(Nat.le_of_ble_eq_true rfl), (Nat.le_of_ble_eq_true rfl)⟩ (g_K.no (fun _ h => h)) (fun r_ f2_ hp => ?_)
  obtain ⟨⟨b6, hb6, rfl⟩, hf_⟩ := hp
  subst f2_
  refine g_st (st2 := [.int (bI b6), .ref (bd 0)]) rfl ?_
  refine g_if_eq X 20 d_MO_proves_6 (by decide) (fun c6 => ?_) (fun c6 => ?_)
  · skip
    have hv6 : ¬ (inR x nc) := fun z => by rw [bI_z.mp c6] at hb6; exact Bool.noConfusion (hb6.mpr z)
    refine g_iconst (v := 0) X d_MO_proves_20 (by decide) ?_
    exact kj false ⟨fun z => Bool.noConfusion z, fun z => absurd z.1 hv6⟩
  · skip
    have hv6 : inR x nc := hb6.mp (bt_nf (fun z => c6 (bI_z.mpr z)))
    refine g_iload_n X d_MO_proves_9 2 rfl ?_
    refine g_callS (As := [.int y]) (rest := [.ref (bd 0)]) X (z_ok eA eM) (c_MO_isDay (f := f) (x := y)) v_MO_isDay q_694 q_693 rfl rfl (Nat.le_of_ble_eq_true rfl) d_MO_proves_10 ⟨(Nat.le_of_ble_eq_true rfl), (Nat.le_of_ble_eq_true rfl)⟩ ⟨(Nat.le_of_ble_eq_true rfl), (Nat.le_of_ble_eq_true rfl)⟩ (g_K.no (fun _ h => h)) (fun r_ f2_ hp => ?_)
    obtain ⟨⟨b13, hb13, rfl⟩, hf_⟩ := hp
    subst f2_
    refine g_st (st2 := [.int (bI b13), .ref (bd 0)]) rfl ?_
    refine g_if_eq X 20 d_MO_proves_13 (by decide) (fun c13 => ?_) (fun c13 => ?_)
    · skip
      have hv13 : ¬ (inR y 100001) := fun z => by rw [bI_z.mp c13] at hb13; exact Bool.noConfusion (hb13.mpr z)
      refine g_iconst (v := 0) X d_MO_proves_20 (by decide) ?_
      exact kj false ⟨fun z => Bool.noConfusion z, fun z => absurd z.2 hv13⟩
    · skip
      have hv13 : inR y 100001 := hb13.mp (bt_nf (fun z => c13 (bI_z.mpr z)))
      refine g_iconst (v := 1) X d_MO_proves_16 (by decide) ?_
      refine g_goto X 21 d_MO_proves_17 (by decide) ?_
      exact kj true ⟨fun _ => ⟨hv6, hv13⟩, fun _ => rfl⟩
